/-! The reference reads words and numbers, exactly. -/
/-- the word's number up to K -/
def WV (T : Nat → Int) (L s K : Int) : Int := if rnn T L 97 122 s - s ≤ 9 then wvN T s.toNat (K - s).toNat else (if K = s then 0 else -1)
theorem wv_0 {T : Nat → Int} {L s : Int} : WV T L s s = 0 := by
  unfold WV
  rw [show (s - s).toNat = 0 by omega, if_pos rfl]
  split <;> rfl
theorem wv_long {T : Nat → Int} {L s K : Int} (h : 9 < rnn T L 97 122 s - s) (hK : s < K) : WV T L s K = -1 := by
  unfold WV
  rw [if_neg (by omega), if_neg (by omega)]
theorem wv_step {T : Nat → Int} {L s K : Int} (hs : 0 ≤ s) (h : rnn T L 97 122 s - s ≤ 9) (hK : s ≤ K) : WV T L s (K + 1) = 27 * WV T L s K + (T K.toNat - 96) := by
  unfold WV
  rw [if_pos h, if_pos h, show (K + 1 - s).toNat = (K - s).toNat + 1 by omega]
  show 27 * wvN T s.toNat (K - s).toNat + (T (s.toNat + (K - s).toNat) - 96) = _
  rw [show s.toNat + (K - s).toNat = K.toNat by omega]
theorem wvN_bd {T : Nat → Int} {s : Nat} : ∀ {k : Nat}, (∀ i, i < k → 97 ≤ T (s + i) ∧ T (s + i) ≤ 122) → 0 ≤ wvN T s k ∧ wvN T s k < (27 : Int) ^ k
  | 0, _ => ⟨Int.le_refl _, (show (0 : Int) < 27 ^ 0 by decide)⟩
  | k + 1, h => by
    have q := wvN_bd (k := k) fun i hi => h i (by omega)
    have p := h k (by omega)
    show 0 ≤ 27 * wvN T s k + (T (s + k) - 96) ∧ 27 * wvN T s k + (T (s + k) - 96) < (27 : Int) ^ (k + 1)
    rw [Int.pow_succ]
    omega
theorem pow27 : ∀ k : Nat, k ≤ 9 → (27 : Int) ^ k ≤ 7625597484987 := by decide
theorem wv_bd {T : Nat → Int} {L s K : Int} (hs : 0 ≤ s) (h : rnn T L 97 122 s - s ≤ 9) (hK : s ≤ K) (hE : K ≤ rnn T L 97 122 s) : 0 ≤ WV T L s K ∧ WV T L s K ≤ 7625597484987 := by
  unfold WV
  rw [if_pos h]
  have q := wvN_bd (T := T) (s := s.toNat) (k := (K - s).toNat) fun i hi => by
    have := (rnn_in (T := T) (L := L) (lo := 97) (hi := 122) (A := s) (j := s + i) (by omega) (by omega)).2
    rw [show (s + (i : Int)).toNat = s.toNat + i by omega] at this
    exact this
  have p := pow27 (K - s).toNat (by omega)
  omega
theorem wv_end {T : Nat → Int} {L s : Int} : WV T L s (rnn T L 97 122 s) = wrd T L s := by
  have hg := rnn_ge (T := T) (L := L) (lo := 97) (hi := 122) (A := s)
  unfold WV wrd
  by_cases h : rnn T L 97 122 s - s ≤ 9
  · rw [if_pos h, if_pos h]
  · rw [if_neg h, if_neg h, if_neg (by omega)]
theorem rnn_bd {T : Nat → Int} {L lo hi A : Int} : rnn T L lo hi A ≤ L ∨ rnn T L lo hi A = A := by
  by_cases h : A ≤ L
  · exact Or.inl (rnn_le h)
  · exact Or.inr (rnn_no (by omega))
theorem wrd_word {T : Nat → Int} {L s : Int} (h : wrd T L s ≠ 0) : s < L ∧ 97 ≤ T s.toNat ∧ T s.toNat ≤ 122 := by
  apply Classical.byContradiction
  intro q
  apply h
  unfold wrd
  rw [rnn_no q, show (s - s).toNat = 0 by omega, if_pos (by omega)]
  rfl
theorem nxs_word {T : Nat → Int} {L s : Int} (h : wrd T L s ≠ 0) : nxs T L s = skp T L (rnn T L 97 122 s) := by
  obtain ⟨h1, h2, h3⟩ := wrd_word h
  unfold nxs tkE
  rw [if_neg (by omega), if_pos ⟨h2, h3⟩]
/-- takes: whether the word stands there, and where it leaves the place -/
def TKo (tx : Nat → Int) (L b c A A2 x : Int) : Prop := (b = 1 → x = 0) ∧ (b = 0 → (x = 1 ∧ wrd tx L (skp tx L A) = c ∧ skp tx L A2 = nxs tx L (skp tx L A)) ∨ (x = 0 ∧ wrd tx L (skp tx L A) ≠ c ∧ A2 = skp tx L A))
theorem sWrd_ok {T : Nat → Int} {L c s : Int} (h : wrd T L s = c) : sWrd T L c s = (0, nxs T L s) := if_pos h
theorem sWrd_no {T : Nat → Int} {L c s : Int} (h : wrd T L s ≠ c) : sWrd T L c s = (1, s) := if_neg h
/-- the number up to K, four digits at most -/
def NV (T : Nat → Int) (s K : Int) : Int := vlN T s (if K - s ≤ 4 then (K - s).toNat else 4)
theorem nv_0 {T : Nat → Int} {s : Int} : NV T s s = 0 := by
  unfold NV
  rw [if_pos (by omega), show (s - s).toNat = 0 by omega]
  rfl
theorem nv_step {T : Nat → Int} {s K : Int} (hs : 0 ≤ s) (hK : s ≤ K) (h : K - s < 4) : NV T s (K + 1) = 10 * NV T s K + (T K.toNat - 48) := by
  unfold NV
  rw [if_pos (by omega), if_pos (by omega), show (K + 1 - s).toNat = (K - s).toNat + 1 by omega]
  show 10 * vlN T s (K - s).toNat + (T (s.toNat + (K - s).toNat) - 48) = _
  rw [show s.toNat + (K - s).toNat = K.toNat by omega]
theorem nv_stop {T : Nat → Int} {s K : Int} (h : 4 ≤ K - s) : NV T s (K + 1) = NV T s K := by
  unfold NV
  rw [if_neg (by omega)]
  by_cases q : K - s ≤ 4
  · rw [if_pos q, show (K - s).toNat = 4 by omega]
  · rw [if_neg q]
theorem vlN_bd {T : Nat → Int} {s : Int} : ∀ {k : Nat}, (∀ i, i < k → 48 ≤ T (s.toNat + i) ∧ T (s.toNat + i) ≤ 57) → 0 ≤ vlN T s k ∧ vlN T s k < (10 : Int) ^ k
  | 0, _ => ⟨Int.le_refl _, (show (0 : Int) < 10 ^ 0 by decide)⟩
  | k + 1, h => by
    have q := vlN_bd (k := k) fun i hi => h i (by omega)
    have p := h k (by omega)
    show 0 ≤ 10 * vlN T s k + (T (s.toNat + k) - 48) ∧ 10 * vlN T s k + (T (s.toNat + k) - 48) < (10 : Int) ^ (k + 1)
    rw [Int.pow_succ]
    omega
theorem pow10 : ∀ k : Nat, k ≤ 4 → (10 : Int) ^ k ≤ 10000 := by decide
theorem nv_bd {T : Nat → Int} {L s K : Int} (hs : 0 ≤ s) (hK : s ≤ K) (hE : K ≤ rnn T L 48 57 s) : 0 ≤ NV T s K ∧ NV T s K ≤ 9999 := by
  unfold NV
  have q : ∀ k : Nat, k ≤ 4 → (k : Int) ≤ K - s → 0 ≤ vlN T s k ∧ vlN T s k ≤ 9999 := fun k h4 hk => by
    have q := vlN_bd (T := T) (s := s) (k := k) fun i hi => by
      have := (rnn_in (T := T) (L := L) (lo := 48) (hi := 57) (A := s) (j := s + i) (by omega) (by omega)).2
      rw [show (s + (i : Int)).toNat = s.toNat + i by omega] at this
      exact this
    have p := pow10 k h4
    omega
  by_cases h : K - s ≤ 4
  · rw [if_pos h]; exact q _ (by omega) (by omega)
  · rw [if_neg h]; exact q _ (by omega) (by omega)
theorem nv_end {T : Nat → Int} {L s : Int} (h : rnn T L 48 57 s - s ≤ 4) : NV T s (rnn T L 48 57 s) = vlT T L s := by
  unfold NV vlT
  rw [if_pos h]
theorem tkK_num {T : Nat → Int} {L s : Int} (h1 : s < L) (h2 : 48 ≤ T s.toNat) (h3 : T s.toNat ≤ 57) (h4 : rnn T L 48 57 s - s ≤ 4) : tkK T L s = 1 := by
  unfold tkK
  rw [if_neg (by omega), if_neg (by omega), if_pos ⟨h2, h3⟩, if_pos h4]
theorem tkK_nn {T : Nat → Int} {L s : Int} (h : ¬ (s < L ∧ 48 ≤ T s.toNat ∧ T s.toNat ≤ 57 ∧ rnn T L 48 57 s - s ≤ 4)) : tkK T L s ≠ 1 := by
  unfold tkK
  split
  · decide
  · split
    · decide
    · split
      · rw [if_neg (by omega)]; decide
      · split <;> decide
theorem nxs_num {T : Nat → Int} {L s : Int} (h1 : s < L) (h2 : 48 ≤ T s.toNat) (h3 : T s.toNat ≤ 57) : nxs T L s = skp T L (rnn T L 48 57 s) := by
  unfold nxs tkE
  rw [if_neg (by omega), if_neg (by omega), if_pos ⟨h2, h3⟩]
theorem sNum_no {T : Nat → Int} {L lo hi s : Int} (h : tkK T L s ≠ 1) : sNum T L lo hi s = (1, s, 0) := if_neg h
theorem sNum_rg {T : Nat → Int} {L lo hi s : Int} (h : tkK T L s = 1) (q : ¬ (lo ≤ vlT T L s ∧ vlT T L s ≤ hi)) : sNum T L lo hi s = (2, s, 0) := (if_pos h).trans (if_neg q)
theorem sNum_ok {T : Nat → Int} {L lo hi s : Int} (h : tkK T L s = 1) (q : lo ≤ vlT T L s ∧ vlT T L s ≤ hi) : sNum T L lo hi s = (0, nxs T L s, vlT T L s) := (if_pos h).trans (if_pos q)
/-- number: what it leaves -/
def NUo (tx : Nat → Int) (L b ec ep : Int) (r : Int × Int × Int) (A A2 b2 ec2 ep2 na2 x : Int) : Prop := RB tx L b ec ep (r.1, r.2.1) A2 b2 ec2 ep2 ∧ (b2 = 0 → x = r.2.2 ∧ na2 = skp tx L A)
theorem sSem_ok {T : Nat → Int} {L s : Int} (h1 : s < L) (h : T s.toNat = 59) : sSem T L s = (0, skp T L (s + 1)) := by
  have hk : tkK T L s = 2 := by
    unfold tkK
    rw [if_neg (by omega), if_neg (by omega), if_neg (by omega), if_pos h]
  have hn : nxs T L s = skp T L (s + 1) := by
    unfold nxs tkE
    rw [if_neg (by omega), if_neg (by omega), if_neg (by omega)]
  unfold sSem
  rw [if_pos hk, hn]
theorem sSem_no {T : Nat → Int} {L s : Int} (h : ¬ (s < L ∧ T s.toNat = 59)) : sSem T L s = (1, s) := by
  have hk : tkK T L s ≠ 2 := by
    unfold tkK
    split
    · decide
    · split
      · decide
      · split
        · split <;> decide
        · rw [if_neg (by omega)]; decide
  exact if_neg hk
theorem oth_ne {tx : Nat → Int} {L b ec ep k a s A A2 b2 ec2 ep2 na2 x : Int} (h0 : 0 ≤ b) (h1 : b ≤ b2) (h : NUo tx L b ec ep (sOth tx L k a s) A A2 b2 ec2 ep2 na2 x) : NE9 b2 x a := fun q => by
  have hx := (h.2 q).1
  rcases h.1.2 (by omega) with ⟨g1, -⟩ | ⟨-, g2, -⟩
  · have g1 : (sOth tx L k a s).1 = 0 := g1
    unfold sOth at g1 hx
    by_cases w : (sNum tx L 0 k s).1 = 0 ∧ (sNum tx L 0 k s).2.2 = a
    · rw [if_pos w] at g1
      exact absurd g1 (by show ¬ (2 : Int) = 0; decide)
    · rw [if_neg w] at g1 hx
      rw [hx]
      exact fun z => w ⟨g1, z⟩
  · omega
/-- adds: no more; too many; one more -/
def ADo (tx : Nat → Int) (L b ec ep c fc m A A2 b2 ec2 ep2 x : Int) : Prop := (b = 1 → x = 0 ∧ b2 = 1 ∧ ec2 = ec ∧ ep2 = ep) ∧ (b = 0 → (x = 0 ∧ wrd tx L (skp tx L A) ≠ c ∧ b2 = 0 ∧ ec2 = ec ∧ ep2 = ep ∧ skp tx L A2 = skp tx L A) ∨ (x = 0 ∧ wrd tx L (skp tx L A) = c ∧ fc = m ∧ b2 = 1 ∧ ec2 = 3 ∧ ep2 = skp tx L A) ∨ (x = 1 ∧ wrd tx L (skp tx L A) = c ∧ fc ≠ m ∧ b2 = 0 ∧ ec2 = ec ∧ ep2 = ep ∧ skp tx L A2 = nxs tx L (skp tx L A)))
section PARX2
variable {g0 : GG} {bl : Nat} {xs : Nat → Int32} {l : Launch} {hs : List CE} {tx : Nat → Int} {L A b ec ep na : Int}

theorem bx_word (hP : PSX hs tx L A b ec ep na) : BodyN SSX TBL g0 CLS bl xs l D_287 2 43 0 0 [.ref 124] hs (fun kd r h2 => kd = 0 ∧ ∃ (A2 : Int) (x : Int64), r = some (.long x) ∧ PSX h2 tx L A2 b ec ep na ∧ FrS WP hs h2 ∧ A2 = skp tx L A ∧ A ≤ A2 ∧ (A ≤ L → A2 ≤ L) ∧ x.toInt = wrd tx L A2) := by
  intro wp p e R s m args below meth c Q kc0 ks0 kc ks act hf hl hc hsl hEnd
  have hf : 2 ≤ R.frames := hf
  have hl : 43 ≤ R.locals := hl
  have hk1 : kc ≤ kc + 0 := by omega
  have hk2 : ks ≤ ks + 0 := by omega
  have loop : ∀ (hj : List CE) (Aj : Int) (vj : Int64) (en : Int32) (kj : Int32) (En : Int) (Kj : Int) (Vj : Int), PSX hj tx L Aj b ec ep na → FrS WP hs hj → en.toInt = En → kj.toInt = Kj → vj.toInt = Vj → Aj = skp tx L A → A ≤ Aj → (A ≤ L → Aj ≤ L) → En = rnn tx L 97 122 Aj → Aj ≤ Kj → Kj ≤ En → Vj = WV tx L Aj Kj → WpN (gp g0 wp) CLS p l e R s m args below meth c Q D_287.2.2.1 kc0 ks0 28 [some (.ref 124), some (.long vj), none, some (.int en), some (.int kj)] (hj, kc, ks) [] := by
    intro hj Aj vj en kj En Kj Vj hPj hfr hEn hKj hVj hsA w1 w2 hEr w3 w4 hV
    generalize hm : (En - Kj).toNat = m9
    induction m9 using Nat.strongRecOn generalizing hj Aj vj en kj En Kj Vj with
    | _ m9 ih =>
    subst hm
    obtain ⟨rw_1, hT_1, ⟨L9_1, e10_1, hL_1⟩, ⟨A9_1, e11_1, hA_1⟩, ⟨b9_1, e14_1, hb_1⟩, ⟨c9_1, e12_1, hc_1⟩, ⟨d9_1, e13_1, hd_1⟩, ⟨f9_1, e15_1, hn_1⟩, q1_1, q2_1, q3_1, q4_1, q5_1, q6_1⟩ := hPj
    have hEL := rnn_bd (T := tx) (L := L) (lo := 97) (hi := 122) (A := Aj)
    have hin : Kj < En → Kj < L ∧ 97 ≤ tx Kj.toNat ∧ tx Kj.toNat ≤ 122 := fun q => rnn_in w3 (by omega)
    have hb9 : rnn tx L 97 122 Aj - Aj ≤ 9 → 0 ≤ Vj ∧ Vj ≤ 7625597484987 := fun q => by rw [hV]; exact wv_bd (by omega) q w3 (by omega)
    refine g_loadI act (gx gp_287 (w := 0x4001e02) rfl (by decide) rfl) (a := 4) (n := 30) rfl rfl rfl ?_
    refine g_loadI act (gx gp_287 (w := 0x3001f02) rfl (by decide) rfl) (a := 3) (n := 31) rfl rfl rfl ?_
    refine g_icmpGe act (gx gp_287 (w := 0x4c002208) rfl (by decide) rfl) (tgt := 76) (n := 34) rfl rfl (fun h3 => ?_) (fun h3 => ?_)
    · simp only [i_le] at h3
      refine g_loadL act (gx gp_287 (w := 0x1004d06) rfl (by decide) rfl) (a := 1) (n := 77) rfl rfl rfl ?_
      exact g_retL hEnd (gx gp_287 (w := 0x19) rfl (by decide) rfl) ⟨rfl, Aj, _, rfl, (show PSX hj tx L Aj b ec ep na from ⟨rw_1, hT_1, ⟨_, e10_1, hL_1⟩, ⟨_, e11_1, hA_1⟩, ⟨_, e14_1, hb_1⟩, ⟨_, e12_1, hc_1⟩, ⟨_, e13_1, hd_1⟩, ⟨_, e15_1, hn_1⟩, by omega, by omega, by omega, by omega, by omega, by omega⟩), hfr, hsA, by omega, by omega, by rw [hVj, hV, show Kj = rnn tx L 97 122 Aj from by omega]; exact wv_end⟩ hk1 hk2
    · simp only [i_le] at h3
      refine g_loadI act (gx gp_287 (w := 0x3002302) rfl (by decide) rfl) (a := 3) (n := 35) rfl rfl rfl ?_
      refine g_loadA act (gx gp_287 (w := 0x2403) rfl (by decide) rfl) (a := 0) (n := 36) rfl rfl rfl ?_
      refine r_getf act (gx gp_287 (w := 0x2c9002704) rfl (by decide) rfl) (n := 39) (ci := 9) (j := 11) (N := 39) rfl rfl rfl rw_1.1 (by decide) (v := .int A9_1) e11_1 ?_
      refine g_isub act (gx gp_287 (w := 0x2826) rfl (by decide) rfl) (n := 40) rfl ?_
      have v_2 := iv_sub hEn hA_1 (show -2147483648 ≤ (En - Aj) by omega) (show (En - Aj) < 2147483648 by omega)
      refine g_constI act (gx gp_287 (w := 0x40000004c00000049000000002a01) rfl (by decide) rfl) (n := 42) (x := (9 : Int32)) (by decide) rfl ?_
      refine g_icmpLe act (gx gp_287 (w := 0x33002d3c) rfl (by decide) rfl) (tgt := 51) (n := 45) rfl rfl (fun h8 => ?_) (fun h8 => ?_)
      · simp only [i_le, show (9 : Int32).toInt = 9 from by decide] at h8
        refine g_constL act (gx gp_287 (w := 0x400000000000000da000000003601) rfl (by decide) rfl) (n := 54) (x := (27 : Int64)) (by decide) rfl ?_
        refine g_loadL act (gx gp_287 (w := 0x1003706) rfl (by decide) rfl) (a := 1) (n := 55) rfl rfl rfl ?_
        refine g_lmul act (gx gp_287 (w := 0x3815) rfl (by decide) rfl) (n := 56) rfl ?_
        have v_3 := lw_mul (show (27 : Int64).toInt = (27 : Int) from by decide) hVj (show -9223372036854775808 ≤ (27 * Vj) by omega) (show (27 * Vj) < 9223372036854775808 by omega)
        refine g_loadA act (gx gp_287 (w := 0x3903) rfl (by decide) rfl) (a := 0) (n := 57) rfl rfl rfl ?_
        refine r_getf act (gx gp_287 (w := 0x3000249003c04) rfl (by decide) rfl) (n := 60) (ci := 9) (j := 9) (N := 39) rfl rfl rfl rw_1.1 (by decide) (rw_1.2 (9, 130, 32, 700) (by decide)).1 ?_
        refine g_loadI act (gx gp_287 (w := 0x4003e02) rfl (by decide) rfl) (a := 4) (n := 62) rfl rfl rfl ?_
        obtain ⟨j_4, hj_5⟩ := Int.eq_ofNat_of_zero_le (show (0 : Int) ≤ Kj by omega)
        have ht_j_4 := txn tx hj_5
        obtain ⟨x_6, e_7, hx_8⟩ := hT_1 j_4 (by omega)
        refine r_iald act (gx gp_287 (w := 0x3f1a) rfl (by decide) rfl) (n := 63) (j := j_4) rfl (rw_1.2 (9, 130, 32, 700) (by decide)).2 (hKj.trans hj_5) (show j_4 < 700 by omega) (v := .int x_6) e_7 ?_
        refine g_i2l act (gx gp_287 (w := 0x402c) rfl (by decide) rfl) (n := 64) rfl ?_
        have v_9 := lw_i2l hx_8
        refine g_ladd act (gx gp_287 (w := 0x411f) rfl (by decide) rfl) (n := 65) rfl ?_
        have v_10 := lw_add v_3 v_9 (show -9223372036854775808 ≤ ((27 * Vj) + (tx j_4)) by omega) (show ((27 * Vj) + (tx j_4)) < 9223372036854775808 by omega)
        refine g_constL act (gx gp_287 (w := 0x40000000000000302000000004401) rfl (by decide) rfl) (n := 68) (x := (96 : Int64)) (by decide) rfl ?_
        refine g_lsub act (gx gp_287 (w := 0x451e) rfl (by decide) rfl) (n := 69) rfl ?_
        have v_11 := lw_sub v_10 (show (96 : Int64).toInt = (96 : Int) from by decide) (show -9223372036854775808 ≤ (((27 * Vj) + (tx j_4)) - 96) by omega) (show (((27 * Vj) + (tx j_4)) - 96) < 9223372036854775808 by omega)
        refine g_storeL act (gx gp_287 (w := 0x100460b) rfl (by decide) rfl) (a := 1) (n := 70) rfl rfl (L2 := [some (.ref 124), some (.long ((((27 : Int64) * vj) + (x_6).toInt64) - (96 : Int64))), none, some (.int en), some (.int kj)]) rfl ?_
        refine g_iinc act (gx gp_287 (w := 0x80000001000004004909) rfl (by decide) rfl) (a := 4) (i := (1 : Int32)) (n := 73) rfl (by decide) rfl rfl (L2 := [some (.ref 124), some (.long ((((27 : Int64) * vj) + (x_6).toInt64) - (96 : Int64))), none, some (.int en), some (.int (kj + (1 : Int32)))]) rfl ?_
        have v_12 := iv_addN (hKj.trans hj_5) (show (1 : Int32).toInt = ((1 : Nat) : Int) from by decide) (show (j_4 + 1) < 2147483648 by omega)
        refine g_goto act (gx gp_287 (w := 0x1c07) rfl (by decide) rfl) (n := 28) rfl ?_
        exact ih _ (by omega) _ _ _ _ _ _ _ _ (show PSX hj tx L Aj b ec ep na from ⟨rw_1, hT_1, ⟨_, e10_1, hL_1⟩, ⟨_, e11_1, hA_1⟩, ⟨_, e14_1, hb_1⟩, ⟨_, e12_1, hc_1⟩, ⟨_, e13_1, hd_1⟩, ⟨_, e15_1, hn_1⟩, by omega, by omega, by omega, by omega, by omega, by omega⟩) hfr hEn v_12 v_11 hsA w1 w2 hEr (by omega) (by omega) (by rw [show (((j_4 + 1) : Nat) : Int) = Kj + 1 from by omega, wv_step (by omega) (by omega) w3, ← hV]; omega) rfl
      · simp only [i_le, show (9 : Int32).toInt = 9 from by decide] at h8
        refine g_constL act (gx gp_287 (w := 0x3fffffffffffffffa000000003001) rfl (by decide) rfl) (n := 48) (x := (-1 : Int64)) (by decide) rfl ?_
        refine g_goto act (gx gp_287 (w := 0x4507) rfl (by decide) rfl) (n := 69) rfl ?_
        refine g_storeL act (gx gp_287 (w := 0x100460b) rfl (by decide) rfl) (a := 1) (n := 70) rfl rfl (L2 := [some (.ref 124), some (.long (-1 : Int64)), none, some (.int en), some (.int kj)]) rfl ?_
        refine g_iinc act (gx gp_287 (w := 0x80000001000004004909) rfl (by decide) rfl) (a := 4) (i := (1 : Int32)) (n := 73) rfl (by decide) rfl rfl (L2 := [some (.ref 124), some (.long (-1 : Int64)), none, some (.int en), some (.int (kj + (1 : Int32)))]) rfl ?_
        have v_13 := iv_add hKj (show (1 : Int32).toInt = (1 : Int) from by decide) (show -2147483648 ≤ (Kj + (1)) by omega) (show (Kj + (1)) < 2147483648 by omega)
        refine g_goto act (gx gp_287 (w := 0x1c07) rfl (by decide) rfl) (n := 28) rfl ?_
        exact ih _ (by omega) _ _ _ _ _ _ _ _ (show PSX hj tx L Aj b ec ep na from ⟨rw_1, hT_1, ⟨_, e10_1, hL_1⟩, ⟨_, e11_1, hA_1⟩, ⟨_, e14_1, hb_1⟩, ⟨_, e12_1, hc_1⟩, ⟨_, e13_1, hd_1⟩, ⟨_, e15_1, hn_1⟩, by omega, by omega, by omega, by omega, by omega, by omega⟩) hfr hEn v_13 (show (-1 : Int64).toInt = (-1 : Int) from by decide) hsA w1 w2 hEr (by omega) (by omega) (by rw [show (Kj + (1)) = Kj + 1 from by omega]; exact (wv_long (by omega) (by omega)).symm) rfl
  obtain ⟨rw_14, hT_14, ⟨L9_14, e10_14, hL_14⟩, ⟨A9_14, e11_14, hA_14⟩, ⟨b9_14, e14_14, hb_14⟩, ⟨c9_14, e12_14, hc_14⟩, ⟨d9_14, e13_14, hd_14⟩, ⟨f9_14, e15_14, hn_14⟩, q1_14, q2_14, q3_14, q4_14, q5_14, q6_14⟩ := hP
  have hfr0 := FrS.rf WP hs
  show WpN (gp g0 wp) CLS p l e R s m args below meth c Q D_287.2.2.1 kc0 ks0 0 [some (.ref 124), none, none, none, none] (hs, kc, ks) []
  refine g_constL act (gx gp_287 (w := 0x40000000000000002000000000101) rfl (by decide) rfl) (n := 1) (x := 0) (by decide) rfl ?_
  refine g_storeL act (gx gp_287 (w := 0x100020b) rfl (by decide) rfl) (a := 1) (n := 2) rfl rfl (L2 := [some (.ref 124), some (.long (0 : Int64)), none, none, none]) rfl ?_
  refine g_loadA act (gx gp_287 (w := 0x303) rfl (by decide) rfl) (a := 0) (n := 3) rfl rfl rfl ?_
  refine n_call tb_pres act hEnd (gx (P := G_call) gp_287 (w := 0xa000000000000c04110000d800060f) rfl (by decide) rfl) (d' := D_216) rfl (as := [.ref 124]) (rest := []) (bx_here (show PSX hs tx L A b ec ep na from ⟨rw_14, hT_14, ⟨_, e10_14, hL_14⟩, ⟨_, e11_14, hA_14⟩, ⟨_, e14_14, hb_14⟩, ⟨_, e12_14, hc_14⟩, ⟨_, e13_14, hd_14⟩, ⟨_, e15_14, hn_14⟩, by omega, by omega, by omega, by omega, by omega, by omega⟩)) (show (1 : Nat) = fb 0xa000000000000c04110000d800060f % 16 by decide) (by show (1 : Nat) ≤ 1; decide) (fun _ => ⟨_, _, rfl, _, shp_at rw_14.1, Or.inr (show fb 0xa000000000000c04110000d800060f >>> 68 = 10 by decide)⟩) (by omega) (by show 8 + (1 + 11) + 0 ≤ R.locals; omega) (by show (0 : Nat) ≤ 8; decide) (by show kc + 0 ≤ _; omega) (by show ks + 0 ≤ _; omega) (fun r9 hs_c15 hpo hr9 => ?_) (fun x9 hs9 hx9 hpo => ?_)
  · obtain ⟨-, A_c15, rv_c15, rfl, hP_c15, fr_c15, qs_c15, q7_c15, q8_c15, q9_c15⟩ := hpo
    try replace q8_c15 := q8_c15 (by omega)
    have rw_16 := rw_14.fr fr_c15 WP_rw
    have f_17 := hT_14.fr (fun j9 _ => fr_c15.2.2 130 j9 (by unfold WP; omega))
    have f_18 := rd_fr fr_c15 e10_14 (by unfold WP; omega)
    have fr_19 := hfr0.tr fr_c15
    obtain ⟨-, -, -, ⟨A9_c15, e11_c15, hA_c15⟩, ⟨b9_c15, e14_c15, hb_c15⟩, ⟨c9_c15, e12_c15, hc_c15⟩, ⟨d9_c15, e13_c15, hd_c15⟩, ⟨f9_c15, e15_c15, hn_c15⟩, -, -, q3_c15, q4_c15, q5_c15, q6_c15⟩ := hP_c15
    clear rw_14 hT_14 e10_14 e11_14 e14_14 e12_14 e13_14 e15_14 hfr0
    show WpN (gp g0 wp) CLS p l e R s m args below meth c Q D_287.2.2.1 kc0 ks0 6 [some (.ref 124), some (.long (0 : Int64)), none, none, none] (hs_c15, kc, ks) [.int rv_c15]
    refine g_constI act (gx gp_287 (w := 0x3fffffffbfffffff9000000000701) rfl (by decide) rfl) (n := 7) (x := (-1 : Int32)) (by decide) rfl ?_
    refine g_icmpNe act (gx gp_287 (w := 0x11000a21) rfl (by decide) rfl) (tgt := 17) (n := 10) rfl rfl (fun h5 => ?_) (fun h5 => ?_)
    · simp only [i_eq, show (-1 : Int32).toInt = -1 from by decide] at h5
      refine g_loadA act (gx gp_287 (w := 0x1203) rfl (by decide) rfl) (a := 0) (n := 18) rfl rfl rfl ?_
      refine n_call tb_pres act hEnd (gx (P := G_call) gp_287 (w := 0xa000000000000c081100012000150f) rfl (by decide) rfl) (d' := D_288) rfl (as := [.ref 124]) (rest := []) (bx_wordEnd (show PSX hs_c15 tx L A_c15 b ec ep na from ⟨rw_16, f_17, ⟨_, f_18, hL_14⟩, ⟨_, e11_c15, hA_c15⟩, ⟨_, e14_c15, hb_c15⟩, ⟨_, e12_c15, hc_c15⟩, ⟨_, e13_c15, hd_c15⟩, ⟨_, e15_c15, hn_c15⟩, by omega, by omega, by omega, by omega, by omega, by omega⟩)) (show (1 : Nat) = fb 0xa000000000000c081100012000150f % 16 by decide) (by show (1 : Nat) ≤ 2; decide) (fun _ => ⟨_, _, rfl, _, shp_at rw_16.1, Or.inr (show fb 0xa000000000000c081100012000150f >>> 68 = 10 by decide)⟩) (by omega) (by show 8 + (2 + 11) + 22 ≤ R.locals; omega) (by show (0 : Nat) ≤ 8; decide) (by show kc + 0 ≤ _; omega) (by show ks + 0 ≤ _; omega) (fun r9 h3 hpo hr9 => ?_) (fun x9 hs9 hx9 hpo => ?_)
      · obtain ⟨-, rfl, rv_20, rfl, w1_20⟩ := hpo
        have w2_20 := rnn_ge (T := tx) (L := L) (lo := 97) (hi := 122) (A := A_c15)
        have w3_20 : A_c15 ≤ L → rnn tx L 97 122 A_c15 ≤ L := fun q => rnn_le q
        show WpN (gp g0 wp) CLS p l e R s m args below meth c Q D_287.2.2.1 kc0 ks0 21 [some (.ref 124), some (.long (0 : Int64)), none, none, none] (hs_c15, kc, ks) [.int rv_20]
        refine g_storeI act (gx gp_287 (w := 0x3001610) rfl (by decide) rfl) (a := 3) (n := 22) rfl rfl (L2 := [some (.ref 124), some (.long (0 : Int64)), none, some (.int rv_20), none]) rfl ?_
        refine g_loadA act (gx gp_287 (w := 0x1703) rfl (by decide) rfl) (a := 0) (n := 23) rfl rfl rfl ?_
        refine r_getf act (gx gp_287 (w := 0x2c9001a04) rfl (by decide) rfl) (n := 26) (ci := 9) (j := 11) (N := 39) rfl rfl rfl rw_16.1 (by decide) (v := .int A9_c15) e11_c15 ?_
        refine g_storeI act (gx gp_287 (w := 0x4001c10) rfl (by decide) rfl) (a := 4) (n := 28) rfl rfl (L2 := [some (.ref 124), some (.long (0 : Int64)), none, some (.int rv_20), some (.int A9_c15)]) rfl ?_
        exact loop _ A_c15 _ _ _ _ _ 0 (show PSX hs_c15 tx L A_c15 b ec ep na from ⟨rw_16, f_17, ⟨_, f_18, hL_14⟩, ⟨_, e11_c15, hA_c15⟩, ⟨_, e14_c15, hb_c15⟩, ⟨_, e12_c15, hc_c15⟩, ⟨_, e13_c15, hd_c15⟩, ⟨_, e15_c15, hn_c15⟩, by omega, by omega, by omega, by omega, by omega, by omega⟩) fr_19 (rfl : Int32.toInt rv_20 = _) hA_c15 (by decide) qs_c15 (by omega) (by omega) (by omega) (by omega) (by omega) wv_0.symm
      · exact absurd hpo.1 (by omega)
    · simp only [i_eq, show (-1 : Int32).toInt = -1 from by decide] at h5
      refine g_loadA act (gx gp_287 (w := 0xb03) rfl (by decide) rfl) (a := 0) (n := 11) rfl rfl rfl ?_
      refine r_getf act (gx gp_287 (w := 0x2c9000e04) rfl (by decide) rfl) (n := 14) (ci := 9) (j := 11) (N := 39) rfl rfl rfl rw_16.1 (by decide) (v := .int A9_c15) e11_c15 ?_
      refine g_goto act (gx gp_287 (w := 0x1507) rfl (by decide) rfl) (n := 21) rfl ?_
      refine g_storeI act (gx gp_287 (w := 0x3001610) rfl (by decide) rfl) (a := 3) (n := 22) rfl rfl (L2 := [some (.ref 124), some (.long (0 : Int64)), none, some (.int A9_c15), none]) rfl ?_
      refine g_loadA act (gx gp_287 (w := 0x1703) rfl (by decide) rfl) (a := 0) (n := 23) rfl rfl rfl ?_
      refine r_getf act (gx gp_287 (w := 0x2c9001a04) rfl (by decide) rfl) (n := 26) (ci := 9) (j := 11) (N := 39) rfl rfl rfl rw_16.1 (by decide) (v := .int A9_c15) e11_c15 ?_
      refine g_storeI act (gx gp_287 (w := 0x4001c10) rfl (by decide) rfl) (a := 4) (n := 28) rfl rfl (L2 := [some (.ref 124), some (.long (0 : Int64)), none, some (.int A9_c15), some (.int A9_c15)]) rfl ?_
      exact loop _ A_c15 _ _ _ _ _ 0 (show PSX hs_c15 tx L A_c15 b ec ep na from ⟨rw_16, f_17, ⟨_, f_18, hL_14⟩, ⟨_, e11_c15, hA_c15⟩, ⟨_, e14_c15, hb_c15⟩, ⟨_, e12_c15, hc_c15⟩, ⟨_, e13_c15, hd_c15⟩, ⟨_, e15_c15, hn_c15⟩, by omega, by omega, by omega, by omega, by omega, by omega⟩) fr_19 hA_c15 hA_c15 (by decide) qs_c15 (by omega) (by omega) (rnn_no (by omega)).symm (by omega) (by omega) wv_0.symm
  · exact absurd hpo.1 (by omega)

theorem bx_takes {n9 : Int64} {cw : Int} (hP : PSX hs tx L A b ec ep na) (hn9 : n9.toInt = cw) (hn : cw ≠ 0) : BodyN SSX TBL g0 CLS bl xs l D_277 3 67 0 0 [.ref 124, .long n9] hs (fun kd r h2 => kd = 0 ∧ ∃ (A2 : Int) (x : Int32), r = some (.int x) ∧ PSX h2 tx L A2 b ec ep na ∧ FrS WP hs h2 ∧ A ≤ A2 ∧ (A ≤ L → A2 ≤ L) ∧ (x.toInt = 0 ∨ (x.toInt = 1 ∧ b = 0 ∧ A < A2)) ∧ TKo tx L b cw A A2 x.toInt) := by
  intro wp p e R s m args below meth c Q kc0 ks0 kc ks act hf hl hc hsl hEnd
  have hf : 3 ≤ R.frames := hf
  have hl : 67 ≤ R.locals := hl
  have hk1 : kc ≤ kc + 0 := by omega
  have hk2 : ks ≤ ks + 0 := by omega
  obtain ⟨rw_1, hT_1, ⟨L9_1, e10_1, hL_1⟩, ⟨A9_1, e11_1, hA_1⟩, ⟨b9_1, e14_1, hb_1⟩, ⟨c9_1, e12_1, hc_1⟩, ⟨d9_1, e13_1, hd_1⟩, ⟨f9_1, e15_1, hn_1⟩, q1_1, q2_1, q3_1, q4_1, q5_1, q6_1⟩ := hP
  have hfr0 := FrS.rf WP hs
  show WpN (gp g0 wp) CLS p l e R s m args below meth c Q D_277.2.2.1 kc0 ks0 0 [some (.ref 124), some (.long n9), none] (hs, kc, ks) []
  refine g_loadA act (gx gp_277 (w := 0x103) rfl (by decide) rfl) (a := 0) (n := 1) rfl rfl rfl ?_
  refine r_getf act (gx gp_277 (w := 0x1000389000404) rfl (by decide) rfl) (n := 4) (ci := 9) (j := 14) (N := 39) rfl rfl rfl rw_1.1 (by decide) (v := .int b9_1) e14_1 ?_
  refine g_ifNe act (gx gp_277 (w := 0x1000071d) rfl (by decide) rfl) (tgt := 16) (n := 7) rfl rfl (fun h2 => ?_) (fun h2 => ?_)
  · simp only [i_eq, i0] at h2
    refine g_constI act (gx gp_277 (w := 0x40000000400000001000000001101) rfl (by decide) rfl) (n := 17) (x := (0 : Int32)) (by decide) rfl ?_
    exact g_retZ hEnd (gx gp_277 (w := 0x23) rfl (by decide) rfl) (Or.inl rfl) ⟨rfl, A, _, rfl, (show PSX hs tx L A b ec ep na from ⟨rw_1, hT_1, ⟨_, e10_1, hL_1⟩, ⟨_, e11_1, hA_1⟩, ⟨_, e14_1, hb_1⟩, ⟨_, e12_1, hc_1⟩, ⟨_, e13_1, hd_1⟩, ⟨_, e15_1, hn_1⟩, by omega, by omega, by omega, by omega, by omega, by omega⟩), hfr0, by omega, by omega, Or.inl (by decide), ⟨fun _ => by decide, fun q => by omega⟩⟩ hk1 hk2
  · simp only [i_eq, i0] at h2
    refine g_loadA act (gx gp_277 (w := 0x803) rfl (by decide) rfl) (a := 0) (n := 8) rfl rfl rfl ?_
    refine n_call tb_pres act hEnd (gx (P := G_call) gp_277 (w := 0xa000000000000c141100011f000b0f) rfl (by decide) rfl) (d' := D_287) rfl (as := [.ref 124]) (rest := []) (bx_word (show PSX hs tx L A b ec ep na from ⟨rw_1, hT_1, ⟨_, e10_1, hL_1⟩, ⟨_, e11_1, hA_1⟩, ⟨_, e14_1, hb_1⟩, ⟨_, e12_1, hc_1⟩, ⟨_, e13_1, hd_1⟩, ⟨_, e15_1, hn_1⟩, by omega, by omega, by omega, by omega, by omega, by omega⟩)) (show (1 : Nat) = fb 0xa000000000000c141100011f000b0f % 16 by decide) (by show (1 : Nat) ≤ 5; decide) (fun _ => ⟨_, _, rfl, _, shp_at rw_1.1, Or.inr (show fb 0xa000000000000c141100011f000b0f >>> 68 = 10 by decide)⟩) (by omega) (by show 8 + (5 + 11) + 43 ≤ R.locals; omega) (by show (0 : Nat) ≤ 8; decide) (by show kc + 0 ≤ _; omega) (by show ks + 0 ≤ _; omega) (fun r9 hs_c2 hpo hr9 => ?_) (fun x9 hs9 hx9 hpo => ?_)
    · obtain ⟨-, A_c2, rv_c2, rfl, hP_c2, fr_c2, qs_c2, q7_c2, q8_c2, q9_c2⟩ := hpo
      try replace q8_c2 := q8_c2 (by omega)
      have qi_c2 : skp tx L A_c2 = A_c2 := by rw [qs_c2]; exact skp_id
      have rw_3 := rw_1.fr fr_c2 WP_rw
      have f_4 := hT_1.fr (fun j9 _ => fr_c2.2.2 130 j9 (by unfold WP; omega))
      have f_5 := rd_fr fr_c2 e10_1 (by unfold WP; omega)
      have fr_6 := hfr0.tr fr_c2
      obtain ⟨-, -, -, ⟨A9_c2, e11_c2, hA_c2⟩, ⟨b9_c2, e14_c2, hb_c2⟩, ⟨c9_c2, e12_c2, hc_c2⟩, ⟨d9_c2, e13_c2, hd_c2⟩, ⟨f9_c2, e15_c2, hn_c2⟩, -, -, q3_c2, q4_c2, q5_c2, q6_c2⟩ := hP_c2
      clear rw_1 hT_1 e10_1 e11_1 e14_1 e12_1 e13_1 e15_1 hfr0
      show WpN (gp g0 wp) CLS p l e R s m args below meth c Q D_277.2.2.1 kc0 ks0 11 [some (.ref 124), some (.long n9), none] (hs_c2, kc, ks) [.long rv_c2]
      refine g_loadL act (gx gp_277 (w := 0x1000c06) rfl (by decide) rfl) (a := 1) (n := 12) rfl rfl rfl ?_
      refine g_lcmp act (gx gp_277 (w := 0xd0c) rfl (by decide) rfl) (n := 13) rfl ?_
      refine g_ifEq act (gx gp_277 (w := 0x1200100e) rfl (by decide) rfl) (tgt := 18) (n := 16) rfl rfl (fun h7 => ?_) (fun h7 => ?_)
      · simp only [cmpEq] at h7
        refine g_loadA act (gx gp_277 (w := 0x1303) rfl (by decide) rfl) (a := 0) (n := 19) rfl rfl rfl ?_
        refine g_loadA act (gx gp_277 (w := 0x1403) rfl (by decide) rfl) (a := 0) (n := 20) rfl rfl rfl ?_
        refine n_call tb_pres act hEnd (gx (P := G_call) gp_277 (w := 0xa000000000000c081100012000170f) rfl (by decide) rfl) (d' := D_288) rfl (as := [.ref 124]) (rest := [.ref 124]) (bx_wordEnd (show PSX hs_c2 tx L A_c2 b ec ep na from ⟨rw_3, f_4, ⟨_, f_5, hL_1⟩, ⟨_, e11_c2, hA_c2⟩, ⟨_, e14_c2, hb_c2⟩, ⟨_, e12_c2, hc_c2⟩, ⟨_, e13_c2, hd_c2⟩, ⟨_, e15_c2, hn_c2⟩, by omega, by omega, by omega, by omega, by omega, by omega⟩)) (show (1 : Nat) = fb 0xa000000000000c081100012000170f % 16 by decide) (by show (1 : Nat) ≤ 2; decide) (fun _ => ⟨_, _, rfl, _, shp_at rw_3.1, Or.inr (show fb 0xa000000000000c081100012000170f >>> 68 = 10 by decide)⟩) (by omega) (by show 8 + (2 + 11) + 22 ≤ R.locals; omega) (by show (1 : Nat) ≤ 8; decide) (by show kc + 0 ≤ _; omega) (by show ks + 0 ≤ _; omega) (fun r9 h3 hpo hr9 => ?_) (fun x9 hs9 hx9 hpo => ?_)
        · obtain ⟨-, rfl, rv_7, rfl, w1_7⟩ := hpo
          have w2_7 := rnn_ge (T := tx) (L := L) (lo := 97) (hi := 122) (A := A_c2)
          have w3_7 : A_c2 ≤ L → rnn tx L 97 122 A_c2 ≤ L := fun q => rnn_le q
          show WpN (gp g0 wp) CLS p l e R s m args below meth c Q D_277.2.2.1 kc0 ks0 23 [some (.ref 124), some (.long n9), none] (hs_c2, kc, ks) [.int rv_7, .ref 124]
          refine r_putf act (gx gp_277 (w := 0x2c9001a13) rfl (by decide) rfl) (n := 26) (ci := 9) (j := 11) (N := 39) rfl rfl rfl rw_3.1 (by decide) (Or.inl ⟨rfl, _, rfl⟩) ?_
          have rw_8 := RW.wr (k := 124) (j := 11) (v := .int rv_7) rw_3 (Or.inr (by decide))
          have f_9 := f_4.ne (k := 124) (j := 11) (v := .int rv_7) (by decide)
          have f_10 := (rd_ne hs_c2 (k := 124) (j := 11) (.int rv_7) (Or.inr (by decide))).trans f_5
          have f_12 := (rd_ne hs_c2 (k := 124) (j := 11) (.int rv_7) (Or.inr (by decide))).trans e14_c2
          have f_13 := (rd_ne hs_c2 (k := 124) (j := 11) (.int rv_7) (Or.inr (by decide))).trans e12_c2
          have f_14 := (rd_ne hs_c2 (k := 124) (j := 11) (.int rv_7) (Or.inr (by decide))).trans e13_c2
          have f_15 := (rd_ne hs_c2 (k := 124) (j := 11) (.int rv_7) (Or.inr (by decide))).trans e15_c2
          have f_16 := rd_same (j := 11) (v := .int rv_7) rw_3.1
          have fr_17 := fr_6.wr (k := 124) (j := 11) (.int rv_7) (by unfold WP; omega)
          clear rw_3 fr_6 f_4 f_5 e11_c2 e14_c2 e12_c2 e13_c2 e15_c2
          generalize (wr hs_c2 124 11 (.int rv_7)) = hs_18 at *
          refine g_constI act (gx gp_277 (w := 0x40000000c00000009000000001b01) rfl (by decide) rfl) (n := 27) (x := (1 : Int32)) (by decide) rfl ?_
          have z1 := wrd_word (T := tx) (L := L) (s := A_c2) (by omega)
          have z2 := rnn_gt z1.1 z1.2.1 z1.2.2
          have z3 := rnn_le (T := tx) (L := L) (lo := 97) (hi := 122) (A := A_c2) (by omega)
          exact g_retZ hEnd (gx gp_277 (w := 0x23) rfl (by decide) rfl) (Or.inr rfl) ⟨rfl, (Int32.toInt rv_7), _, rfl, (show PSX hs_18 tx L (Int32.toInt rv_7) b ec ep na from ⟨rw_8, f_9, ⟨_, f_10, hL_1⟩, ⟨_, f_16, (rfl : Int32.toInt rv_7 = _)⟩, ⟨_, f_12, hb_c2⟩, ⟨_, f_13, hc_c2⟩, ⟨_, f_14, hd_c2⟩, ⟨_, f_15, hn_c2⟩, by omega, by omega, by omega, by omega, by omega, by omega⟩), fr_17, by omega, by omega, Or.inr ⟨by decide, by omega, by omega⟩, ⟨fun q => by omega, fun q => by rw [← qs_c2]; exact Or.inl ⟨by decide, by omega, by rw [nxs_word (by omega)]; exact congrArg (skp tx L) (by omega)⟩⟩⟩ hk1 hk2
        · exact absurd hpo.1 (by omega)
      · simp only [cmpEq] at h7
        refine g_constI act (gx gp_277 (w := 0x40000000400000001000000001101) rfl (by decide) rfl) (n := 17) (x := (0 : Int32)) (by decide) rfl ?_
        exact g_retZ hEnd (gx gp_277 (w := 0x23) rfl (by decide) rfl) (Or.inl rfl) ⟨rfl, A_c2, _, rfl, (show PSX hs_c2 tx L A_c2 b ec ep na from ⟨rw_3, f_4, ⟨_, f_5, hL_1⟩, ⟨_, e11_c2, hA_c2⟩, ⟨_, e14_c2, hb_c2⟩, ⟨_, e12_c2, hc_c2⟩, ⟨_, e13_c2, hd_c2⟩, ⟨_, e15_c2, hn_c2⟩, by omega, by omega, by omega, by omega, by omega, by omega⟩), fr_6, by omega, by omega, Or.inl (by decide), ⟨fun q => by omega, fun q => by rw [← qs_c2]; exact Or.inr ⟨by decide, by omega, rfl⟩⟩⟩ hk1 hk2
    · exact absurd hpo.1 (by omega)

theorem bx_mustTake {n9 : Int64} {cw : Int} (hP : PSX hs tx L A b ec ep na) (hn9 : n9.toInt = cw) (hn : cw ≠ 0) : BodyN SSX TBL g0 CLS bl xs l D_242 4 89 0 0 [.ref 124, .long n9] hs (fun kd r h2 => kd = 0 ∧ r = none ∧ ∃ A2 b2 ec2 ep2 : Int, PSX h2 tx L A2 b2 ec2 ep2 na ∧ FrS WP hs h2 ∧ b ≤ b2 ∧ (A ≤ L → A2 ≤ L) ∧ RB tx L b ec ep (sWrd tx L cw (skp tx L A)) A2 b2 ec2 ep2) := by
  intro wp p e R s m args below meth c Q kc0 ks0 kc ks act hf hl hc hsl hEnd
  have hf : 4 ≤ R.frames := hf
  have hl : 89 ≤ R.locals := hl
  have hk1 : kc ≤ kc + 0 := by omega
  have hk2 : ks ≤ ks + 0 := by omega
  obtain ⟨rw_1, hT_1, ⟨L9_1, e10_1, hL_1⟩, ⟨A9_1, e11_1, hA_1⟩, ⟨b9_1, e14_1, hb_1⟩, ⟨c9_1, e12_1, hc_1⟩, ⟨d9_1, e13_1, hd_1⟩, ⟨f9_1, e15_1, hn_1⟩, q1_1, q2_1, q3_1, q4_1, q5_1, q6_1⟩ := hP
  have hfr0 := FrS.rf WP hs
  show WpN (gp g0 wp) CLS p l e R s m args below meth c Q D_242.2.2.1 kc0 ks0 0 [some (.ref 124), some (.long n9), none] (hs, kc, ks) []
  refine g_loadA act (gx gp_242 (w := 0x103) rfl (by decide) rfl) (a := 0) (n := 1) rfl rfl rfl ?_
  refine r_getf act (gx gp_242 (w := 0x1000389000404) rfl (by decide) rfl) (n := 4) (ci := 9) (j := 14) (N := 39) rfl rfl rfl rw_1.1 (by decide) (v := .int b9_1) e14_1 ?_
  refine g_ifNe act (gx gp_242 (w := 0x1800071d) rfl (by decide) rfl) (tgt := 24) (n := 7) rfl rfl (fun h2 => ?_) (fun h2 => ?_)
  · simp only [i_eq, i0] at h2
    exact g_retV hEnd (gx gp_242 (w := 0x18) rfl (by decide) rfl) ⟨rfl, rfl, A, b, ec, ep, (show PSX hs tx L A b ec ep na from ⟨rw_1, hT_1, ⟨_, e10_1, hL_1⟩, ⟨_, e11_1, hA_1⟩, ⟨_, e14_1, hb_1⟩, ⟨_, e12_1, hc_1⟩, ⟨_, e13_1, hd_1⟩, ⟨_, e15_1, hn_1⟩, by omega, by omega, by omega, by omega, by omega, by omega⟩), hfr0, by omega, by omega, ⟨fun _ => ⟨by omega, by omega, by omega⟩, fun q => by omega⟩⟩ hk1 hk2
  · simp only [i_eq, i0] at h2
    refine g_loadA act (gx gp_242 (w := 0x803) rfl (by decide) rfl) (a := 0) (n := 8) rfl rfl rfl ?_
    refine g_loadL act (gx gp_242 (w := 0x1000906) rfl (by decide) rfl) (a := 1) (n := 9) rfl rfl rfl ?_
    refine n_call tb_pres act hEnd (gx (P := G_call) gp_242 (w := 0xa000000000000c0c32000115000c0f) rfl (by decide) rfl) (d' := D_277) rfl (as := [.ref 124, .long n9]) (rest := []) (bx_takes (n9 := n9) (show PSX hs tx L A b ec ep na from ⟨rw_1, hT_1, ⟨_, e10_1, hL_1⟩, ⟨_, e11_1, hA_1⟩, ⟨_, e14_1, hb_1⟩, ⟨_, e12_1, hc_1⟩, ⟨_, e13_1, hd_1⟩, ⟨_, e15_1, hn_1⟩, by omega, by omega, by omega, by omega, by omega, by omega⟩) hn9 hn) (show (2 : Nat) = fb 0xa000000000000c0c32000115000c0f % 16 by decide) (by show (3 : Nat) ≤ 3; decide) (fun _ => ⟨_, _, rfl, _, shp_at rw_1.1, Or.inr (show fb 0xa000000000000c0c32000115000c0f >>> 68 = 10 by decide)⟩) (by omega) (by show 8 + (3 + 11) + 67 ≤ R.locals; omega) (by show (0 : Nat) ≤ 8; decide) (by show kc + 0 ≤ _; omega) (by show ks + 0 ≤ _; omega) (fun r9 hs_c2 hpo hr9 => ?_) (fun x9 hs9 hx9 hpo => ?_)
    · obtain ⟨-, A_c2, rv_c2, rfl, hP_c2, fr_c2, q7_c2, q8_c2, q9_c2, qt_c2⟩ := hpo
      first | (replace q8_c2 := q8_c2 (by omega)) | clear q8_c2
      have rw_3 := rw_1.fr fr_c2 WP_rw
      have f_4 := hT_1.fr (fun j9 _ => fr_c2.2.2 130 j9 (by unfold WP; omega))
      have f_5 := rd_fr fr_c2 e10_1 (by unfold WP; omega)
      have fr_6 := hfr0.tr fr_c2
      obtain ⟨-, -, -, ⟨A9_c2, e11_c2, hA_c2⟩, ⟨b9_c2, e14_c2, hb_c2⟩, ⟨c9_c2, e12_c2, hc_c2⟩, ⟨d9_c2, e13_c2, hd_c2⟩, ⟨f9_c2, e15_c2, hn_c2⟩, -, -, q3_c2, q4_c2, q5_c2, q6_c2⟩ := hP_c2
      clear rw_1 hT_1 e10_1 e11_1 e14_1 e12_1 e13_1 e15_1 hfr0
      show WpN (gp g0 wp) CLS p l e R s m args below meth c Q D_242.2.2.1 kc0 ks0 12 [some (.ref 124), some (.long n9), none] (hs_c2, kc, ks) [.int rv_c2]
      refine g_ifNe act (gx gp_242 (w := 0x18000f1d) rfl (by decide) rfl) (tgt := 24) (n := 15) rfl rfl (fun h5 => ?_) (fun h5 => ?_)
      · simp only [i_eq, i0] at h5
        obtain ⟨t1, t2, t3⟩ := (qt_c2.2 (by omega)).resolve_right (fun z => by have := z.1; omega)
        exact g_retV hEnd (gx gp_242 (w := 0x18) rfl (by decide) rfl) ⟨rfl, rfl, A_c2, b, ec, ep, (show PSX hs_c2 tx L A_c2 b ec ep na from ⟨rw_3, f_4, ⟨_, f_5, hL_1⟩, ⟨_, e11_c2, hA_c2⟩, ⟨_, e14_c2, hb_c2⟩, ⟨_, e12_c2, hc_c2⟩, ⟨_, e13_c2, hd_c2⟩, ⟨_, e15_c2, hn_c2⟩, by omega, by omega, by omega, by omega, by omega, by omega⟩), fr_6, by omega, by omega, ⟨fun q => by omega, fun q => by rw [sWrd_ok t2]; exact Or.inl ⟨rfl, by omega, by omega, by omega, t3⟩⟩⟩ hk1 hk2
      · simp only [i_eq, i0] at h5
        refine g_loadA act (gx gp_242 (w := 0x1003) rfl (by decide) rfl) (a := 0) (n := 16) rfl rfl rfl ?_
        refine g_constI act (gx gp_242 (w := 0x40000000c00000009000000001101) rfl (by decide) rfl) (n := 17) (x := (1 : Int32)) (by decide) rfl ?_
        refine g_loadA act (gx gp_242 (w := 0x1203) rfl (by decide) rfl) (a := 0) (n := 18) rfl rfl rfl ?_
        refine r_getf act (gx gp_242 (w := 0x2c9001504) rfl (by decide) rfl) (n := 21) (ci := 9) (j := 11) (N := 39) rfl rfl rfl rw_3.1 (by decide) (v := .int A9_c2) e11_c2 ?_
        refine n_call tb_pres act hEnd (gx (P := G_call) gp_242 (w := 0xa00000000000080c3300012100180f) rfl (by decide) rfl) (d' := D_289) rfl (as := [.ref 124, .int (1 : Int32), .int A9_c2]) (rest := []) (bx_wrong (c1 := (1 : Int32)) (c2 := A9_c2) (show PSX hs_c2 tx L A_c2 b ec ep na from ⟨rw_3, f_4, ⟨_, f_5, hL_1⟩, ⟨_, e11_c2, hA_c2⟩, ⟨_, e14_c2, hb_c2⟩, ⟨_, e12_c2, hc_c2⟩, ⟨_, e13_c2, hd_c2⟩, ⟨_, e15_c2, hn_c2⟩, by omega, by omega, by omega, by omega, by omega, by omega⟩)) (show (3 : Nat) = fb 0xa00000000000080c3300012100180f % 16 by decide) (by show (3 : Nat) ≤ 3; decide) (fun _ => ⟨_, _, rfl, _, shp_at rw_3.1, Or.inr (show fb 0xa00000000000080c3300012100180f >>> 68 = 10 by decide)⟩) (by omega) (by show 8 + (3 + 11) + 0 ≤ R.locals; omega) (by show (0 : Nat) ≤ 8; decide) (by show kc + 0 ≤ _; omega) (by show ks + 0 ≤ _; omega) (fun r9 hs_c7 hpo hr9 => ?_) (fun x9 hs9 hx9 hpo => ?_)
        · obtain rfl : r9 = none := hr9.elim (fun q => q.2) (fun q => absurd rfl q.1)
          obtain ⟨-, b_c7, ec_c7, ep_c7, hP_c7, fr_c7, qb_c7, qw_c7, qx_c7⟩ := hpo
          rw [(show (1 : Int32).toInt = ((1 : Nat) : Int) from by decide), hA_c2] at qx_c7
          have rw_8 := rw_3.fr fr_c7 WP_rw
          have f_9 := f_4.fr (fun j9 _ => fr_c7.2.2 130 j9 (by unfold WP; omega))
          have f_10 := rd_fr fr_c7 f_5 (by unfold WP; omega)
          have fr_11 := fr_6.tr fr_c7
          obtain ⟨-, -, -, ⟨A9_c7, e11_c7, hA_c7⟩, ⟨b9_c7, e14_c7, hb_c7⟩, ⟨c9_c7, e12_c7, hc_c7⟩, ⟨d9_c7, e13_c7, hd_c7⟩, ⟨f9_c7, e15_c7, hn_c7⟩, -, -, q3_c7, q4_c7, q5_c7, q6_c7⟩ := hP_c7
          clear rw_3 f_4 f_5 e11_c2 e14_c2 e12_c2 e13_c2 e15_c2 fr_6
          show WpN (gp g0 wp) CLS p l e R s m args below meth c Q D_242.2.2.1 kc0 ks0 24 [some (.ref 124), some (.long n9), none] (hs_c7, kc, ks) []
          obtain ⟨t1, t2, t3⟩ := (qt_c2.2 (by omega)).resolve_left (fun z => by have := z.1; omega)
          have t4 := qx_c7 (by omega)
          exact g_retV hEnd (gx gp_242 (w := 0x18) rfl (by decide) rfl) ⟨rfl, rfl, A_c2, b_c7, ec_c7, ep_c7, (show PSX hs_c7 tx L A_c2 b_c7 ec_c7 ep_c7 na from ⟨rw_8, f_9, ⟨_, f_10, hL_1⟩, ⟨_, e11_c7, hA_c7⟩, ⟨_, e14_c7, hb_c7⟩, ⟨_, e12_c7, hc_c7⟩, ⟨_, e13_c7, hd_c7⟩, ⟨_, e15_c7, hn_c7⟩, by omega, by omega, by omega, by omega, by omega, by omega⟩), fr_11, by omega, by omega, ⟨fun q => by omega, fun q => by rw [sWrd_no t2]; exact Or.inr ⟨by show (1 : Int) ≠ 0; decide, by omega, by show _ = (1 : Int); omega, by show _ = skp tx L A; omega⟩⟩⟩ hk1 hk2
        · exact absurd hpo.1 (by omega)
    · exact absurd hpo.1 (by omega)

theorem bx_number {lo9 hi9 : Int32} {lo hi : Int} (hP : PSX hs tx L A b ec ep na) (hlo : lo9.toInt = lo) (hhi : hi9.toInt = hi) (hlh : lo ≤ hi) : BodyN SSX TBL g0 CLS bl xs l D_244 1 22 0 0 [.ref 124, .int lo9, .int hi9] hs (fun kd r h2 => kd = 0 ∧ ∃ (A2 b2 ec2 ep2 na2 : Int) (x : Int32), r = some (.int x) ∧ PSX h2 tx L A2 b2 ec2 ep2 na2 ∧ FrS WP hs h2 ∧ A ≤ A2 ∧ (A ≤ L → A2 ≤ L) ∧ b ≤ b2 ∧ lo ≤ x.toInt ∧ x.toInt ≤ hi ∧ NUo tx L b ec ep (sNum tx L lo hi (skp tx L A)) A A2 b2 ec2 ep2 na2 x.toInt) := by
  intro wp p e R s m args below meth c Q kc0 ks0 kc ks act hf hl hc hsl hEnd
  have hf : 1 ≤ R.frames := hf
  have hl : 22 ≤ R.locals := hl
  have hk1 : kc ≤ kc + 0 := by omega
  have hk2 : ks ≤ ks + 0 := by omega
  have fin155 : ∀ (hj : List CE) (Aj : Int) (bj : Int) (ecj : Int) (epj : Int) (naj : Int) (is9 : Int32) (fm : Int32) (vj : Int32) (Fm : Int) (Vj : Int), PSX hj tx L Aj bj ecj epj naj → FrS WP hs hj → fm.toInt = Fm → vj.toInt = Vj → A ≤ Aj → (A ≤ L → Aj ≤ L) → Fm = skp tx L A → b ≤ bj → (bj = 0 → lo ≤ Vj ∧ Vj ≤ hi) → b = 0 → RB tx L b ec ep ((sNum tx L lo hi (skp tx L A)).1, (sNum tx L lo hi (skp tx L A)).2.1) Aj bj ecj epj → (bj = 0 → Vj = (sNum tx L lo hi (skp tx L A)).2.2) → WpN (gp g0 wp) CLS p l e R s m args below meth c Q D_244.2.2.1 kc0 ks0 155 [some (.ref 124), some (.int lo9), some (.int hi9), some (.int is9), some (.int fm), some (.int vj)] (hj, kc, ks) [] := by
    intro hj Aj bj ecj epj naj is9 fm vj Fm Vj hPj hfr hFm hVj w1 w2 hFs w3 w4 w5 hRB hok
    obtain ⟨rw_1, hT_1, ⟨L9_1, e10_1, hL_1⟩, ⟨A9_1, e11_1, hA_1⟩, ⟨b9_1, e14_1, hb_1⟩, ⟨c9_1, e12_1, hc_1⟩, ⟨d9_1, e13_1, hd_1⟩, ⟨f9_1, e15_1, hn_1⟩, q1_1, q2_1, q3_1, q4_1, q5_1, q6_1⟩ := hPj
    refine g_loadA act (gx gp_244 (w := 0x9c03) rfl (by decide) rfl) (a := 0) (n := 156) rfl rfl rfl ?_
    refine g_loadI act (gx gp_244 (w := 0x4009e02) rfl (by decide) rfl) (a := 4) (n := 158) rfl rfl rfl ?_
    refine r_putf act (gx gp_244 (w := 0x3c900a113) rfl (by decide) rfl) (n := 161) (ci := 9) (j := 15) (N := 39) rfl rfl rfl rw_1.1 (by decide) (Or.inl ⟨rfl, _, rfl⟩) ?_
    have rw_2 := RW.wr (k := 124) (j := 15) (v := .int fm) rw_1 (Or.inr (by decide))
    have f_3 := hT_1.ne (k := 124) (j := 15) (v := .int fm) (by decide)
    have f_4 := (rd_ne hj (k := 124) (j := 15) (.int fm) (Or.inr (by decide))).trans e10_1
    have f_5 := (rd_ne hj (k := 124) (j := 15) (.int fm) (Or.inr (by decide))).trans e11_1
    have f_6 := (rd_ne hj (k := 124) (j := 15) (.int fm) (Or.inr (by decide))).trans e14_1
    have f_7 := (rd_ne hj (k := 124) (j := 15) (.int fm) (Or.inr (by decide))).trans e12_1
    have f_8 := (rd_ne hj (k := 124) (j := 15) (.int fm) (Or.inr (by decide))).trans e13_1
    have f_10 := rd_same (j := 15) (v := .int fm) rw_1.1
    have fr_11 := hfr.wr (k := 124) (j := 15) (.int fm) (by unfold WP; omega)
    clear rw_1 hfr hT_1 e10_1 e11_1 e14_1 e12_1 e13_1 e15_1
    generalize (wr hj 124 15 (.int fm)) = hs_12 at *
    refine g_loadA act (gx gp_244 (w := 0xa203) rfl (by decide) rfl) (a := 0) (n := 162) rfl rfl rfl ?_
    refine r_getf act (gx gp_244 (w := 0x100038900a504) rfl (by decide) rfl) (n := 165) (ci := 9) (j := 14) (N := 39) rfl rfl rfl rw_2.1 (by decide) (v := .int b9_1) f_6 ?_
    refine g_ifEq act (gx gp_244 (w := 0xac00a80e) rfl (by decide) rfl) (tgt := 172) (n := 168) rfl rfl (fun h4 => ?_) (fun h4 => ?_)
    · simp only [i_eq, i0] at h4
      refine g_loadI act (gx gp_244 (w := 0x500ae02) rfl (by decide) rfl) (a := 5) (n := 174) rfl rfl rfl ?_
      exact g_retI hEnd (gx gp_244 (w := 0x2f) rfl (by decide) rfl) ⟨rfl, Aj, bj, ecj, epj, Fm, _, rfl, (show PSX hs_12 tx L Aj bj ecj epj Fm from ⟨rw_2, f_3, ⟨_, f_4, hL_1⟩, ⟨_, f_5, hA_1⟩, ⟨_, f_6, hb_1⟩, ⟨_, f_7, hc_1⟩, ⟨_, f_8, hd_1⟩, ⟨_, f_10, hFm⟩, by omega, by omega, by omega, by omega, by omega, by omega⟩), fr_11, by omega, by omega, by omega, by omega, by omega, ⟨hRB, fun q => ⟨by have := hok (by omega); omega, by omega⟩⟩⟩ hk1 hk2
    · simp only [i_eq, i0] at h4
      refine g_loadI act (gx gp_244 (w := 0x100a902) rfl (by decide) rfl) (a := 1) (n := 169) rfl rfl rfl ?_
      refine g_goto act (gx gp_244 (w := 0xae07) rfl (by decide) rfl) (n := 174) rfl ?_
      exact g_retI hEnd (gx gp_244 (w := 0x2f) rfl (by decide) rfl) ⟨rfl, Aj, bj, ecj, epj, Fm, _, rfl, (show PSX hs_12 tx L Aj bj ecj epj Fm from ⟨rw_2, f_3, ⟨_, f_4, hL_1⟩, ⟨_, f_5, hA_1⟩, ⟨_, f_6, hb_1⟩, ⟨_, f_7, hc_1⟩, ⟨_, f_8, hd_1⟩, ⟨_, f_10, hFm⟩, by omega, by omega, by omega, by omega, by omega, by omega⟩), fr_11, by omega, by omega, by omega, by omega, by omega, ⟨hRB, fun q => ⟨by have := hok (by omega); omega, by omega⟩⟩⟩ hk1 hk2
  have fin113 : ∀ (hj : List CE) (Aj : Int) (bj : Int) (ecj : Int) (epj : Int) (naj : Int) (is9 : Int32) (fm : Int32) (vj : Int32) (Fm : Int) (Vj : Int), PSX hj tx L Aj bj ecj epj naj → FrS WP hs hj → fm.toInt = Fm → vj.toInt = Vj → A ≤ Aj → (A ≤ L → Aj ≤ L) → Fm = skp tx L A → b = 0 → bj = 0 → ecj = ec → epj = ep → 0 ≤ Fm → Fm ≤ 701 → ((is9.toInt = 1 ∧ Fm < L ∧ 48 ≤ tx Fm.toNat ∧ tx Fm.toNat ≤ 57) ∨ (is9.toInt = 0 ∧ Aj = Fm ∧ ¬ (Fm < L ∧ 48 ≤ tx Fm.toNat ∧ tx Fm.toNat ≤ 57))) → Vj = NV tx Fm Aj → rnn tx L 48 57 Fm = Aj → WpN (gp g0 wp) CLS p l e R s m args below meth c Q D_244.2.2.1 kc0 ks0 113 [some (.ref 124), some (.int lo9), some (.int hi9), some (.int is9), some (.int fm), some (.int vj)] (hj, kc, ks) [] := by
    intro hj Aj bj ecj epj naj is9 fm vj Fm Vj hPj hfr hFm hVj w1 w2 hFs w3 w4 e1 e2 w5 w6 his hV hR
    obtain ⟨rw_13, hT_13, ⟨L9_13, e10_13, hL_13⟩, ⟨A9_13, e11_13, hA_13⟩, ⟨b9_13, e14_13, hb_13⟩, ⟨c9_13, e12_13, hc_13⟩, ⟨d9_13, e13_13, hd_13⟩, ⟨f9_13, e15_13, hn_13⟩, q1_13, q2_13, q3_13, q4_13, q5_13, q6_13⟩ := hPj
    refine g_loadI act (gx gp_244 (w := 0x3007202) rfl (by decide) rfl) (a := 3) (n := 114) rfl rfl rfl ?_
    refine g_ifEq act (gx gp_244 (w := 0x8000750e) rfl (by decide) rfl) (tgt := 128) (n := 117) rfl rfl (fun h2 => ?_) (fun h2 => ?_)
    · simp only [i_eq, i0] at h2
      refine g_loadA act (gx gp_244 (w := 0x8103) rfl (by decide) rfl) (a := 0) (n := 129) rfl rfl rfl ?_
      refine g_constI act (gx gp_244 (w := 0x40000000c00000009000000008201) rfl (by decide) rfl) (n := 130) (x := (1 : Int32)) (by decide) rfl ?_
      refine g_loadI act (gx gp_244 (w := 0x4008402) rfl (by decide) rfl) (a := 4) (n := 132) rfl rfl rfl ?_
      refine n_call tb_pres act hEnd (gx (P := G_call) gp_244 (w := 0xa00000000000080c3300012100870f) rfl (by decide) rfl) (d' := D_289) rfl (as := [.ref 124, .int (1 : Int32), .int fm]) (rest := []) (bx_wrong (c1 := (1 : Int32)) (c2 := fm) (show PSX hj tx L Aj bj ecj epj naj from ⟨rw_13, hT_13, ⟨_, e10_13, hL_13⟩, ⟨_, e11_13, hA_13⟩, ⟨_, e14_13, hb_13⟩, ⟨_, e12_13, hc_13⟩, ⟨_, e13_13, hd_13⟩, ⟨_, e15_13, hn_13⟩, by omega, by omega, by omega, by omega, by omega, by omega⟩)) (show (3 : Nat) = fb 0xa00000000000080c3300012100870f % 16 by decide) (by show (3 : Nat) ≤ 3; decide) (fun _ => ⟨_, _, rfl, _, shp_at rw_13.1, Or.inr (show fb 0xa00000000000080c3300012100870f >>> 68 = 10 by decide)⟩) (by omega) (by show 8 + (3 + 11) + 0 ≤ R.locals; omega) (by show (0 : Nat) ≤ 8; decide) (by show kc + 0 ≤ _; omega) (by show ks + 0 ≤ _; omega) (fun r9 hs_c14 hpo hr9 => ?_) (fun x9 hs9 hx9 hpo => ?_)
      · obtain rfl : r9 = none := hr9.elim (fun q => q.2) (fun q => absurd rfl q.1)
        obtain ⟨-, b_c14, ec_c14, ep_c14, hP_c14, fr_c14, qb_c14, qw_c14, qx_c14⟩ := hpo
        rw [(show (1 : Int32).toInt = ((1 : Nat) : Int) from by decide), hFm] at qx_c14
        have rw_15 := rw_13.fr fr_c14 WP_rw
        have f_16 := hT_13.fr (fun j9 _ => fr_c14.2.2 130 j9 (by unfold WP; omega))
        have f_17 := rd_fr fr_c14 e10_13 (by unfold WP; omega)
        have fr_18 := hfr.tr fr_c14
        obtain ⟨-, -, -, ⟨A9_c14, e11_c14, hA_c14⟩, ⟨b9_c14, e14_c14, hb_c14⟩, ⟨c9_c14, e12_c14, hc_c14⟩, ⟨d9_c14, e13_c14, hd_c14⟩, ⟨f9_c14, e15_c14, hn_c14⟩, -, -, q3_c14, q4_c14, q5_c14, q6_c14⟩ := hP_c14
        clear rw_13 hT_13 e10_13 e11_13 e14_13 e12_13 e13_13 e15_13 hfr
        show WpN (gp g0 wp) CLS p l e R s m args below meth c Q D_244.2.2.1 kc0 ks0 135 [some (.ref 124), some (.int lo9), some (.int hi9), some (.int is9), some (.int fm), some (.int vj)] (hs_c14, kc, ks) []
        refine g_goto act (gx gp_244 (w := 0x9b07) rfl (by decide) rfl) (n := 155) rfl ?_
        have t4 := qx_c14 (by omega)
        have k3 := sNum_no (lo := lo) (hi := hi) (tkK_nn (T := tx) (L := L) (s := Fm) (by omega))
        rw [hFs] at k3
        exact fin155 _ _ _ _ _ _ _ _ _ _ _ (show PSX hs_c14 tx L Aj b_c14 ec_c14 ep_c14 naj from ⟨rw_15, f_16, ⟨_, f_17, hL_13⟩, ⟨_, e11_c14, hA_c14⟩, ⟨_, e14_c14, hb_c14⟩, ⟨_, e12_c14, hc_c14⟩, ⟨_, e13_c14, hd_c14⟩, ⟨_, e15_c14, hn_c14⟩, by omega, by omega, by omega, by omega, by omega, by omega⟩) fr_18 hFm hVj (by omega) (by omega) hFs (by omega) (by omega) (by omega) ⟨fun q => by omega, fun q => by rw [k3]; exact Or.inr ⟨by show (1 : Int) ≠ 0; decide, by omega, by show _ = (1 : Int); omega, by show _ = skp tx L A; omega⟩⟩ (fun q => by omega)
      · exact absurd hpo.1 (by omega)
    · simp only [i_eq, i0] at h2
      refine g_loadA act (gx gp_244 (w := 0x7603) rfl (by decide) rfl) (a := 0) (n := 118) rfl rfl rfl ?_
      refine r_getf act (gx gp_244 (w := 0x2c9007904) rfl (by decide) rfl) (n := 121) (ci := 9) (j := 11) (N := 39) rfl rfl rfl rw_13.1 (by decide) (v := .int A9_13) e11_13 ?_
      refine g_loadI act (gx gp_244 (w := 0x4007b02) rfl (by decide) rfl) (a := 4) (n := 123) rfl rfl rfl ?_
      refine g_isub act (gx gp_244 (w := 0x7c26) rfl (by decide) rfl) (n := 124) rfl ?_
      have v_19 := iv_sub hA_13 hFm (show -2147483648 ≤ (Aj - Fm) by omega) (show (Aj - Fm) < 2147483648 by omega)
      refine g_constI act (gx gp_244 (w := 0x40000002400000021000000007d01) rfl (by decide) rfl) (n := 125) (x := (4 : Int32)) (by decide) rfl ?_
      refine g_icmpLe act (gx gp_244 (w := 0x8a00803c) rfl (by decide) rfl) (tgt := 138) (n := 128) rfl rfl (fun h10 => ?_) (fun h10 => ?_)
      · simp only [i_le, show (4 : Int32).toInt = 4 from by decide] at h10
        refine g_loadI act (gx gp_244 (w := 0x5008c02) rfl (by decide) rfl) (a := 5) (n := 140) rfl rfl rfl ?_
        refine g_loadI act (gx gp_244 (w := 0x1008d02) rfl (by decide) rfl) (a := 1) (n := 141) rfl rfl rfl ?_
        refine g_loadI act (gx gp_244 (w := 0x2008e02) rfl (by decide) rfl) (a := 2) (n := 142) rfl rfl rfl ?_
        refine n_call tb_pres act hEnd (gx (P := G_call) gp_244 (w := 0x40c330000d900910f) rfl (by decide) rfl) (d' := D_217) rfl (as := [.int vj, .int lo9, .int hi9]) (rest := []) (b_in hVj hlo hhi) (show (3 : Nat) = fb 0x40c330000d900910f % 16 by decide) (by show (3 : Nat) ≤ 3; decide) (fun q => absurd q (by decide)) (by omega) (by show 8 + (3 + 11) + 0 ≤ R.locals; omega) (by show (0 : Nat) ≤ 8; decide) (by show kc + 0 ≤ _; omega) (by show ks + 0 ≤ _; omega) (fun r9 h3 hpo hr9 => ?_) (fun x9 hs9 hx9 hpo => ?_)
        · obtain ⟨-, rfl, hin9⟩ := hpo
          obtain ⟨rv_20, rfl, hr_21⟩ := in1_x hin9
          show WpN (gp g0 wp) CLS p l e R s m args below meth c Q D_244.2.2.1 kc0 ks0 145 [some (.ref 124), some (.int lo9), some (.int hi9), some (.int is9), some (.int fm), some (.int vj)] (hj, kc, ks) [.int rv_20]
          refine g_ifNe act (gx gp_244 (w := 0x9b00941d) rfl (by decide) rfl) (tgt := 155) (n := 148) rfl rfl (fun h14 => ?_) (fun h14 => ?_)
          · simp only [i_eq, i0] at h14
            have k1 : tkK tx L Fm = 1 := tkK_num (by omega) (by omega) (by omega) (by omega)
            have k2 : vlT tx L Fm = Vj := by rw [hV, ← hR]; exact (nv_end (by omega)).symm
            have k3 := sNum_ok (lo := lo) (hi := hi) k1 (by omega)
            have k4 := nxs_num (T := tx) (L := L) (s := Fm) (by omega) (by omega) (by omega)
            rw [hFs] at k3
            exact fin155 _ _ _ _ _ _ _ _ _ _ _ (show PSX hj tx L Aj bj ecj epj naj from ⟨rw_13, hT_13, ⟨_, e10_13, hL_13⟩, ⟨_, e11_13, hA_13⟩, ⟨_, e14_13, hb_13⟩, ⟨_, e12_13, hc_13⟩, ⟨_, e13_13, hd_13⟩, ⟨_, e15_13, hn_13⟩, by omega, by omega, by omega, by omega, by omega, by omega⟩) hfr hFm hVj (by omega) (by omega) hFs (by omega) (by omega) (by omega) ⟨fun q => by omega, fun q => by rw [k3]; exact Or.inl ⟨rfl, by omega, by omega, by omega, by show _ = nxs tx L (skp tx L A); rw [← hFs, k4]; exact congrArg (skp tx L) (by omega)⟩⟩ (fun q => by rw [k3]; show _ = vlT tx L (skp tx L A); rw [← hFs, k2])
          · simp only [i_eq, i0] at h14
            refine g_loadA act (gx gp_244 (w := 0x9503) rfl (by decide) rfl) (a := 0) (n := 149) rfl rfl rfl ?_
            refine g_constI act (gx gp_244 (w := 0x40000001400000011000000009601) rfl (by decide) rfl) (n := 150) (x := (2 : Int32)) (by decide) rfl ?_
            refine g_loadI act (gx gp_244 (w := 0x4009802) rfl (by decide) rfl) (a := 4) (n := 152) rfl rfl rfl ?_
            refine n_call tb_pres act hEnd (gx (P := G_call) gp_244 (w := 0xa00000000000080c33000121009b0f) rfl (by decide) rfl) (d' := D_289) rfl (as := [.ref 124, .int (2 : Int32), .int fm]) (rest := []) (bx_wrong (c1 := (2 : Int32)) (c2 := fm) (show PSX hj tx L Aj bj ecj epj naj from ⟨rw_13, hT_13, ⟨_, e10_13, hL_13⟩, ⟨_, e11_13, hA_13⟩, ⟨_, e14_13, hb_13⟩, ⟨_, e12_13, hc_13⟩, ⟨_, e13_13, hd_13⟩, ⟨_, e15_13, hn_13⟩, by omega, by omega, by omega, by omega, by omega, by omega⟩)) (show (3 : Nat) = fb 0xa00000000000080c33000121009b0f % 16 by decide) (by show (3 : Nat) ≤ 3; decide) (fun _ => ⟨_, _, rfl, _, shp_at rw_13.1, Or.inr (show fb 0xa00000000000080c33000121009b0f >>> 68 = 10 by decide)⟩) (by omega) (by show 8 + (3 + 11) + 0 ≤ R.locals; omega) (by show (0 : Nat) ≤ 8; decide) (by show kc + 0 ≤ _; omega) (by show ks + 0 ≤ _; omega) (fun r9 hs_c22 hpo hr9 => ?_) (fun x9 hs9 hx9 hpo => ?_)
            · obtain rfl : r9 = none := hr9.elim (fun q => q.2) (fun q => absurd rfl q.1)
              obtain ⟨-, b_c22, ec_c22, ep_c22, hP_c22, fr_c22, qb_c22, qw_c22, qx_c22⟩ := hpo
              rw [(show (2 : Int32).toInt = ((2 : Nat) : Int) from by decide), hFm] at qx_c22
              have rw_23 := rw_13.fr fr_c22 WP_rw
              have f_24 := hT_13.fr (fun j9 _ => fr_c22.2.2 130 j9 (by unfold WP; omega))
              have f_25 := rd_fr fr_c22 e10_13 (by unfold WP; omega)
              have fr_26 := hfr.tr fr_c22
              obtain ⟨-, -, -, ⟨A9_c22, e11_c22, hA_c22⟩, ⟨b9_c22, e14_c22, hb_c22⟩, ⟨c9_c22, e12_c22, hc_c22⟩, ⟨d9_c22, e13_c22, hd_c22⟩, ⟨f9_c22, e15_c22, hn_c22⟩, -, -, q3_c22, q4_c22, q5_c22, q6_c22⟩ := hP_c22
              clear rw_13 hT_13 e10_13 e11_13 e14_13 e12_13 e13_13 e15_13 hfr
              show WpN (gp g0 wp) CLS p l e R s m args below meth c Q D_244.2.2.1 kc0 ks0 155 [some (.ref 124), some (.int lo9), some (.int hi9), some (.int is9), some (.int fm), some (.int vj)] (hs_c22, kc, ks) []
              have t4 := qx_c22 (by omega)
              have k1 : tkK tx L Fm = 1 := tkK_num (by omega) (by omega) (by omega) (by omega)
              have k2 : vlT tx L Fm = Vj := by rw [hV, ← hR]; exact (nv_end (by omega)).symm
              have k3 := sNum_rg (lo := lo) (hi := hi) k1 (by omega)
              rw [hFs] at k3
              exact fin155 _ _ _ _ _ _ _ _ _ _ _ (show PSX hs_c22 tx L Aj b_c22 ec_c22 ep_c22 naj from ⟨rw_23, f_24, ⟨_, f_25, hL_13⟩, ⟨_, e11_c22, hA_c22⟩, ⟨_, e14_c22, hb_c22⟩, ⟨_, e12_c22, hc_c22⟩, ⟨_, e13_c22, hd_c22⟩, ⟨_, e15_c22, hn_c22⟩, by omega, by omega, by omega, by omega, by omega, by omega⟩) fr_26 hFm hVj (by omega) (by omega) hFs (by omega) (by omega) (by omega) ⟨fun q => by omega, fun q => by rw [k3]; exact Or.inr ⟨by show (2 : Int) ≠ 0; decide, by omega, by show _ = (2 : Int); omega, by show _ = skp tx L A; omega⟩⟩ (fun q => by omega)
            · exact absurd hpo.1 (by omega)
        · exact absurd hpo.1 (by omega)
      · simp only [i_le, show (4 : Int32).toInt = 4 from by decide] at h10
        refine g_loadA act (gx gp_244 (w := 0x8103) rfl (by decide) rfl) (a := 0) (n := 129) rfl rfl rfl ?_
        refine g_constI act (gx gp_244 (w := 0x40000000c00000009000000008201) rfl (by decide) rfl) (n := 130) (x := (1 : Int32)) (by decide) rfl ?_
        refine g_loadI act (gx gp_244 (w := 0x4008402) rfl (by decide) rfl) (a := 4) (n := 132) rfl rfl rfl ?_
        refine n_call tb_pres act hEnd (gx (P := G_call) gp_244 (w := 0xa00000000000080c3300012100870f) rfl (by decide) rfl) (d' := D_289) rfl (as := [.ref 124, .int (1 : Int32), .int fm]) (rest := []) (bx_wrong (c1 := (1 : Int32)) (c2 := fm) (show PSX hj tx L Aj bj ecj epj naj from ⟨rw_13, hT_13, ⟨_, e10_13, hL_13⟩, ⟨_, e11_13, hA_13⟩, ⟨_, e14_13, hb_13⟩, ⟨_, e12_13, hc_13⟩, ⟨_, e13_13, hd_13⟩, ⟨_, e15_13, hn_13⟩, by omega, by omega, by omega, by omega, by omega, by omega⟩)) (show (3 : Nat) = fb 0xa00000000000080c3300012100870f % 16 by decide) (by show (3 : Nat) ≤ 3; decide) (fun _ => ⟨_, _, rfl, _, shp_at rw_13.1, Or.inr (show fb 0xa00000000000080c3300012100870f >>> 68 = 10 by decide)⟩) (by omega) (by show 8 + (3 + 11) + 0 ≤ R.locals; omega) (by show (0 : Nat) ≤ 8; decide) (by show kc + 0 ≤ _; omega) (by show ks + 0 ≤ _; omega) (fun r9 hs_c27 hpo hr9 => ?_) (fun x9 hs9 hx9 hpo => ?_)
        · obtain rfl : r9 = none := hr9.elim (fun q => q.2) (fun q => absurd rfl q.1)
          obtain ⟨-, b_c27, ec_c27, ep_c27, hP_c27, fr_c27, qb_c27, qw_c27, qx_c27⟩ := hpo
          rw [(show (1 : Int32).toInt = ((1 : Nat) : Int) from by decide), hFm] at qx_c27
          have rw_28 := rw_13.fr fr_c27 WP_rw
          have f_29 := hT_13.fr (fun j9 _ => fr_c27.2.2 130 j9 (by unfold WP; omega))
          have f_30 := rd_fr fr_c27 e10_13 (by unfold WP; omega)
          have fr_31 := hfr.tr fr_c27
          obtain ⟨-, -, -, ⟨A9_c27, e11_c27, hA_c27⟩, ⟨b9_c27, e14_c27, hb_c27⟩, ⟨c9_c27, e12_c27, hc_c27⟩, ⟨d9_c27, e13_c27, hd_c27⟩, ⟨f9_c27, e15_c27, hn_c27⟩, -, -, q3_c27, q4_c27, q5_c27, q6_c27⟩ := hP_c27
          clear rw_13 hT_13 e10_13 e11_13 e14_13 e12_13 e13_13 e15_13 hfr
          show WpN (gp g0 wp) CLS p l e R s m args below meth c Q D_244.2.2.1 kc0 ks0 135 [some (.ref 124), some (.int lo9), some (.int hi9), some (.int is9), some (.int fm), some (.int vj)] (hs_c27, kc, ks) []
          refine g_goto act (gx gp_244 (w := 0x9b07) rfl (by decide) rfl) (n := 155) rfl ?_
          have t4 := qx_c27 (by omega)
          have k3 := sNum_no (lo := lo) (hi := hi) (tkK_nn (T := tx) (L := L) (s := Fm) (by omega))
          rw [hFs] at k3
          exact fin155 _ _ _ _ _ _ _ _ _ _ _ (show PSX hs_c27 tx L Aj b_c27 ec_c27 ep_c27 naj from ⟨rw_28, f_29, ⟨_, f_30, hL_13⟩, ⟨_, e11_c27, hA_c27⟩, ⟨_, e14_c27, hb_c27⟩, ⟨_, e12_c27, hc_c27⟩, ⟨_, e13_c27, hd_c27⟩, ⟨_, e15_c27, hn_c27⟩, by omega, by omega, by omega, by omega, by omega, by omega⟩) fr_31 hFm hVj (by omega) (by omega) hFs (by omega) (by omega) (by omega) ⟨fun q => by omega, fun q => by rw [k3]; exact Or.inr ⟨by show (1 : Int) ≠ 0; decide, by omega, by show _ = (1 : Int); omega, by show _ = skp tx L A; omega⟩⟩ (fun q => by omega)
        · exact absurd hpo.1 (by omega)
  have loop : ∀ (hj : List CE) (Aj : Int) (bj : Int) (ecj : Int) (epj : Int) (naj : Int) (is9 : Int32) (fm : Int32) (vj : Int32) (Fm : Int) (Vj : Int), PSX hj tx L Aj bj ecj epj naj → FrS WP hs hj → fm.toInt = Fm → vj.toInt = Vj → A ≤ Aj → (A ≤ L → Aj ≤ L) → Fm = skp tx L A → b = 0 → bj = 0 → ecj = ec → epj = ep → 0 ≤ Fm → Fm ≤ 701 → ((is9.toInt = 1 ∧ Fm < L ∧ 48 ≤ tx Fm.toNat ∧ tx Fm.toNat ≤ 57) ∨ (is9.toInt = 0 ∧ Aj = Fm ∧ ¬ (Fm < L ∧ 48 ≤ tx Fm.toNat ∧ tx Fm.toNat ≤ 57))) → Vj = NV tx Fm Aj → rnn tx L 48 57 Fm = rnn tx L 48 57 Aj → Fm ≤ Aj → WpN (gp g0 wp) CLS p l e R s m args below meth c Q D_244.2.2.1 kc0 ks0 30 [some (.ref 124), some (.int lo9), some (.int hi9), some (.int is9), some (.int fm), some (.int vj)] (hj, kc, ks) [] := by
    intro hj Aj bj ecj epj naj is9 fm vj Fm Vj hPj hfr hFm hVj w1 w2 hFs w3 w4 e1 e2 w5 w6 his hV hRr w7
    generalize hm : (L - Aj).toNat = m9
    induction m9 using Nat.strongRecOn generalizing hj Aj bj ecj epj naj is9 fm vj Fm Vj with
    | _ m9 ih =>
    subst hm
    obtain ⟨rw_32, hT_32, ⟨L9_32, e10_32, hL_32⟩, ⟨A9_32, e11_32, hA_32⟩, ⟨b9_32, e14_32, hb_32⟩, ⟨c9_32, e12_32, hc_32⟩, ⟨d9_32, e13_32, hd_32⟩, ⟨f9_32, e15_32, hn_32⟩, q1_32, q2_32, q3_32, q4_32, q5_32, q6_32⟩ := hPj
    have hge := rnn_ge (T := tx) (L := L) (lo := 48) (hi := 57) (A := Aj)
    have hnb := nv_bd (T := tx) (L := L) (s := Fm) (K := Aj) (by omega) (by omega) (by omega)
    refine g_loadI act (gx gp_244 (w := 0x3001f02) rfl (by decide) rfl) (a := 3) (n := 31) rfl rfl rfl ?_
    refine g_ifEq act (gx gp_244 (w := 0x7100220e) rfl (by decide) rfl) (tgt := 113) (n := 34) rfl rfl (fun h2 => ?_) (fun h2 => ?_)
    · simp only [i_eq, i0] at h2
      have z1 : rnn tx L 48 57 Aj = Aj := by
        first
        | exact rnn_no (by omega)
        | (rcases his with q | q
           · omega
           · rw [q.2.1]; exact rnn_no q.2.2)
      exact fin113 _ Aj bj ecj epj naj _ _ _ _ _ (show PSX hj tx L Aj bj ecj epj naj from ⟨rw_32, hT_32, ⟨_, e10_32, hL_32⟩, ⟨_, e11_32, hA_32⟩, ⟨_, e14_32, hb_32⟩, ⟨_, e12_32, hc_32⟩, ⟨_, e13_32, hd_32⟩, ⟨_, e15_32, hn_32⟩, by omega, by omega, by omega, by omega, by omega, by omega⟩) hfr hFm hVj (by omega) (by omega) hFs (by omega) (by omega) (by omega) (by omega) (by omega) (by omega) (by omega) (by first | exact hV | (rw [hV]; exact congrArg (NV tx Fm) (by omega))) (by omega)
    · simp only [i_eq, i0] at h2
      refine g_loadA act (gx gp_244 (w := 0x2303) rfl (by decide) rfl) (a := 0) (n := 35) rfl rfl rfl ?_
      refine r_getf act (gx gp_244 (w := 0x2c9002604) rfl (by decide) rfl) (n := 38) (ci := 9) (j := 11) (N := 39) rfl rfl rfl rw_32.1 (by decide) (v := .int A9_32) e11_32 ?_
      refine g_loadA act (gx gp_244 (w := 0x2703) rfl (by decide) rfl) (a := 0) (n := 39) rfl rfl rfl ?_
      refine r_getf act (gx gp_244 (w := 0x289002a04) rfl (by decide) rfl) (n := 42) (ci := 9) (j := 10) (N := 39) rfl rfl rfl rw_32.1 (by decide) (v := .int L9_32) e10_32 ?_
      refine g_icmpGe act (gx gp_244 (w := 0x71002d08) rfl (by decide) rfl) (tgt := 113) (n := 45) rfl rfl (fun h5 => ?_) (fun h5 => ?_)
      · simp only [i_le] at h5
        have z1 : rnn tx L 48 57 Aj = Aj := by
          first
          | exact rnn_no (by omega)
          | (rcases his with q | q
             · omega
             · rw [q.2.1]; exact rnn_no q.2.2)
        exact fin113 _ Aj bj ecj epj naj _ _ _ _ _ (show PSX hj tx L Aj bj ecj epj naj from ⟨rw_32, hT_32, ⟨_, e10_32, hL_32⟩, ⟨_, e11_32, hA_32⟩, ⟨_, e14_32, hb_32⟩, ⟨_, e12_32, hc_32⟩, ⟨_, e13_32, hd_32⟩, ⟨_, e15_32, hn_32⟩, by omega, by omega, by omega, by omega, by omega, by omega⟩) hfr hFm hVj (by omega) (by omega) hFs (by omega) (by omega) (by omega) (by omega) (by omega) (by omega) (by omega) (by first | exact hV | (rw [hV]; exact congrArg (NV tx Fm) (by omega))) (by omega)
      · simp only [i_le] at h5
        refine g_loadA act (gx gp_244 (w := 0x2e03) rfl (by decide) rfl) (a := 0) (n := 46) rfl rfl rfl ?_
        refine r_getf act (gx gp_244 (w := 0x3000249003104) rfl (by decide) rfl) (n := 49) (ci := 9) (j := 9) (N := 39) rfl rfl rfl rw_32.1 (by decide) (rw_32.2 (9, 130, 32, 700) (by decide)).1 ?_
        refine g_loadA act (gx gp_244 (w := 0x3203) rfl (by decide) rfl) (a := 0) (n := 50) rfl rfl rfl ?_
        refine r_getf act (gx gp_244 (w := 0x2c9003504) rfl (by decide) rfl) (n := 53) (ci := 9) (j := 11) (N := 39) rfl rfl rfl rw_32.1 (by decide) (v := .int A9_32) e11_32 ?_
        obtain ⟨j_33, hj_34⟩ := Int.eq_ofNat_of_zero_le (show (0 : Int) ≤ Aj by omega)
        have ht_j_33 := txn tx hj_34
        obtain ⟨x_35, e_36, hx_37⟩ := hT_32 j_33 (by omega)
        refine r_iald act (gx gp_244 (w := 0x361a) rfl (by decide) rfl) (n := 54) (j := j_33) rfl (rw_32.2 (9, 130, 32, 700) (by decide)).2 (hA_32.trans hj_34) (show j_33 < 700 by omega) (v := .int x_35) e_36 ?_
        refine g_constI act (gx gp_244 (w := 0x40000018400000181000000003801) rfl (by decide) rfl) (n := 56) (x := (48 : Int32)) (by decide) rfl ?_
        refine g_constI act (gx gp_244 (w := 0x4000001cc000001c9000000003a01) rfl (by decide) rfl) (n := 58) (x := (57 : Int32)) (by decide) rfl ?_
        refine n_call tb_pres act hEnd (gx (P := G_call) gp_244 (w := 0x40c330000d9003d0f) rfl (by decide) rfl) (d' := D_217) rfl (as := [.int x_35, .int (48 : Int32), .int (57 : Int32)]) (rest := []) (b_in hx_37 (show (48 : Int32).toInt = ((48 : Nat) : Int) from by decide) (show (57 : Int32).toInt = ((57 : Nat) : Int) from by decide)) (show (3 : Nat) = fb 0x40c330000d9003d0f % 16 by decide) (by show (3 : Nat) ≤ 3; decide) (fun q => absurd q (by decide)) (by omega) (by show 8 + (3 + 11) + 0 ≤ R.locals; omega) (by show (0 : Nat) ≤ 8; decide) (by show kc + 0 ≤ _; omega) (by show ks + 0 ≤ _; omega) (fun r9 h3 hpo hr9 => ?_) (fun x9 hs9 hx9 hpo => ?_)
        · obtain ⟨-, rfl, hin9⟩ := hpo
          obtain ⟨rv_38, rfl, hr_39⟩ := in1_x hin9
          show WpN (gp g0 wp) CLS p l e R s m args below meth c Q D_244.2.2.1 kc0 ks0 61 [some (.ref 124), some (.int lo9), some (.int hi9), some (.int is9), some (.int fm), some (.int vj)] (hj, kc, ks) [.int rv_38]
          refine g_ifEq act (gx gp_244 (w := 0x7100400e) rfl (by decide) rfl) (tgt := 113) (n := 64) rfl rfl (fun h10 => ?_) (fun h10 => ?_)
          · simp only [i_eq, i0] at h10
            have z1 : rnn tx L 48 57 Aj = Aj := by
              first
              | exact rnn_no (by omega)
              | (rcases his with q | q
                 · omega
                 · rw [q.2.1]; exact rnn_no q.2.2)
            exact fin113 _ ((j_33 : Nat) : Int) bj ecj epj naj _ _ _ _ _ (show PSX hj tx L ((j_33 : Nat) : Int) bj ecj epj naj from ⟨rw_32, hT_32, ⟨_, e10_32, hL_32⟩, ⟨_, e11_32, (hA_32.trans hj_34)⟩, ⟨_, e14_32, hb_32⟩, ⟨_, e12_32, hc_32⟩, ⟨_, e13_32, hd_32⟩, ⟨_, e15_32, hn_32⟩, by omega, by omega, by omega, by omega, by omega, by omega⟩) hfr hFm hVj (by omega) (by omega) hFs (by omega) (by omega) (by omega) (by omega) (by omega) (by omega) (by omega) (by first | exact hV | (rw [hV]; exact congrArg (NV tx Fm) (by omega))) (by omega)
          · simp only [i_eq, i0] at h10
            refine g_loadA act (gx gp_244 (w := 0x4103) rfl (by decide) rfl) (a := 0) (n := 65) rfl rfl rfl ?_
            refine r_getf act (gx gp_244 (w := 0x2c9004404) rfl (by decide) rfl) (n := 68) (ci := 9) (j := 11) (N := 39) rfl rfl rfl rw_32.1 (by decide) (v := .int A9_32) e11_32 ?_
            refine g_loadI act (gx gp_244 (w := 0x4004602) rfl (by decide) rfl) (a := 4) (n := 70) rfl rfl rfl ?_
            refine g_isub act (gx gp_244 (w := 0x4726) rfl (by decide) rfl) (n := 71) rfl ?_
            have v_40 := iv_sub (hA_32.trans hj_34) hFm (show -2147483648 ≤ (((j_33 : Nat) : Int) - Fm) by omega) (show (((j_33 : Nat) : Int) - Fm) < 2147483648 by omega)
            refine g_constI act (gx gp_244 (w := 0x40000002400000021000000004801) rfl (by decide) rfl) (n := 72) (x := (4 : Int32)) (by decide) rfl ?_
            refine g_icmpGe act (gx gp_244 (w := 0x60004b08) rfl (by decide) rfl) (tgt := 96) (n := 75) rfl rfl (fun h14 => ?_) (fun h14 => ?_)
            · simp only [i_le, show (4 : Int32).toInt = 4 from by decide] at h14
              refine g_loadI act (gx gp_244 (w := 0x5006202) rfl (by decide) rfl) (a := 5) (n := 98) rfl rfl rfl ?_
              refine g_storeI act (gx gp_244 (w := 0x5006410) rfl (by decide) rfl) (a := 5) (n := 100) rfl rfl (L2 := [some (.ref 124), some (.int lo9), some (.int hi9), some (.int is9), some (.int fm), some (.int vj)]) rfl ?_
              refine g_loadA act (gx gp_244 (w := 0x6503) rfl (by decide) rfl) (a := 0) (n := 101) rfl rfl rfl ?_
              refine g_dup act (gx gp_244 (w := 0x6622) rfl (by decide) rfl) (n := 102) rfl rfl ?_
              refine r_getf act (gx gp_244 (w := 0x2c9006904) rfl (by decide) rfl) (n := 105) (ci := 9) (j := 11) (N := 39) rfl rfl rfl rw_32.1 (by decide) (v := .int A9_32) e11_32 ?_
              refine g_constI act (gx gp_244 (w := 0x40000000c00000009000000006a01) rfl (by decide) rfl) (n := 106) (x := (1 : Int32)) (by decide) rfl ?_
              refine g_iadd act (gx gp_244 (w := 0x6b0a) rfl (by decide) rfl) (n := 107) rfl ?_
              have v_41 := iv_addN (hA_32.trans hj_34) (show (1 : Int32).toInt = ((1 : Nat) : Int) from by decide) (show (j_33 + 1) < 2147483648 by omega)
              refine r_putf act (gx gp_244 (w := 0x2c9006e13) rfl (by decide) rfl) (n := 110) (ci := 9) (j := 11) (N := 39) rfl rfl rfl rw_32.1 (by decide) (Or.inl ⟨rfl, _, rfl⟩) ?_
              have rw_42 := RW.wr (k := 124) (j := 11) (v := .int (A9_32 + (1 : Int32))) rw_32 (Or.inr (by decide))
              have f_43 := hT_32.ne (k := 124) (j := 11) (v := .int (A9_32 + (1 : Int32))) (by decide)
              have f_44 := (rd_ne hj (k := 124) (j := 11) (.int (A9_32 + (1 : Int32))) (Or.inr (by decide))).trans e10_32
              have f_46 := (rd_ne hj (k := 124) (j := 11) (.int (A9_32 + (1 : Int32))) (Or.inr (by decide))).trans e14_32
              have f_47 := (rd_ne hj (k := 124) (j := 11) (.int (A9_32 + (1 : Int32))) (Or.inr (by decide))).trans e12_32
              have f_48 := (rd_ne hj (k := 124) (j := 11) (.int (A9_32 + (1 : Int32))) (Or.inr (by decide))).trans e13_32
              have f_49 := (rd_ne hj (k := 124) (j := 11) (.int (A9_32 + (1 : Int32))) (Or.inr (by decide))).trans e15_32
              have f_50 := rd_same (j := 11) (v := .int (A9_32 + (1 : Int32))) rw_32.1
              have fr_51 := hfr.wr (k := 124) (j := 11) (.int (A9_32 + (1 : Int32))) (by unfold WP; omega)
              clear rw_32 hfr hT_32 e10_32 e11_32 e14_32 e12_32 e13_32 e15_32
              generalize (wr hj 124 11 (.int (A9_32 + (1 : Int32)))) = hs_52 at *
              refine g_goto act (gx gp_244 (w := 0x1e07) rfl (by decide) rfl) (n := 30) rfl ?_
              exact ih _ (by omega) _ (((j_33 + 1) : Nat) : Int) bj ecj epj naj _ _ _ _ _ (show PSX hs_52 tx L (((j_33 + 1) : Nat) : Int) bj ecj epj naj from ⟨rw_42, f_43, ⟨_, f_44, hL_32⟩, ⟨_, f_50, v_41⟩, ⟨_, f_46, hb_32⟩, ⟨_, f_47, hc_32⟩, ⟨_, f_48, hd_32⟩, ⟨_, f_49, hn_32⟩, by omega, by omega, by omega, by omega, by omega, by omega⟩) fr_51 hFm hVj (by omega) (by omega) hFs (by omega) (by omega) (by omega) (by omega) (by omega) (by omega) (by rw [show (((j_33 + 1) : Nat) : Int) = Aj + 1 from by omega, nv_stop (by omega)]; exact hV) (hRr.trans ((rnn_go (by omega) (by omega) (by omega)).trans (congrArg (rnn tx L 48 57) (by omega)))) (by omega) rfl
            · simp only [i_le, show (4 : Int32).toInt = 4 from by decide] at h14
              refine g_constI act (gx gp_244 (w := 0x40000005400000051000000004d01) rfl (by decide) rfl) (n := 77) (x := (10 : Int32)) (by decide) rfl ?_
              refine g_loadI act (gx gp_244 (w := 0x5004f02) rfl (by decide) rfl) (a := 5) (n := 79) rfl rfl rfl ?_
              refine g_imul act (gx gp_244 (w := 0x5011) rfl (by decide) rfl) (n := 80) rfl ?_
              have v_53 := iv_mul (show (10 : Int32).toInt = ((10 : Nat) : Int) from by decide) hVj (show -2147483648 ≤ (((10 : Nat) : Int) * Vj) by omega) (show (((10 : Nat) : Int) * Vj) < 2147483648 by omega)
              refine g_loadA act (gx gp_244 (w := 0x5103) rfl (by decide) rfl) (a := 0) (n := 81) rfl rfl rfl ?_
              refine r_getf act (gx gp_244 (w := 0x3000249005404) rfl (by decide) rfl) (n := 84) (ci := 9) (j := 9) (N := 39) rfl rfl rfl rw_32.1 (by decide) (rw_32.2 (9, 130, 32, 700) (by decide)).1 ?_
              refine g_loadA act (gx gp_244 (w := 0x5503) rfl (by decide) rfl) (a := 0) (n := 85) rfl rfl rfl ?_
              refine r_getf act (gx gp_244 (w := 0x2c9005804) rfl (by decide) rfl) (n := 88) (ci := 9) (j := 11) (N := 39) rfl rfl rfl rw_32.1 (by decide) (v := .int A9_32) e11_32 ?_
              obtain ⟨x_54, e_55, hx_56⟩ := hT_32 j_33 (by omega)
              refine r_iald act (gx gp_244 (w := 0x591a) rfl (by decide) rfl) (n := 89) (j := j_33) rfl (rw_32.2 (9, 130, 32, 700) (by decide)).2 (hA_32.trans hj_34) (show j_33 < 700 by omega) (v := .int x_54) e_55 ?_
              refine g_iadd act (gx gp_244 (w := 0x5a0a) rfl (by decide) rfl) (n := 90) rfl ?_
              have v_57 := iv_add v_53 hx_56 (show -2147483648 ≤ ((((10 : Nat) : Int) * Vj) + (tx j_33)) by omega) (show ((((10 : Nat) : Int) * Vj) + (tx j_33)) < 2147483648 by omega)
              refine g_constI act (gx gp_244 (w := 0x40000018400000181000000005c01) rfl (by decide) rfl) (n := 92) (x := (48 : Int32)) (by decide) rfl ?_
              refine g_isub act (gx gp_244 (w := 0x5d26) rfl (by decide) rfl) (n := 93) rfl ?_
              have v_58 := iv_sub v_57 (show (48 : Int32).toInt = ((48 : Nat) : Int) from by decide) (show -2147483648 ≤ (((((10 : Nat) : Int) * Vj) + (tx j_33)) - ((48 : Nat) : Int)) by omega) (show (((((10 : Nat) : Int) * Vj) + (tx j_33)) - ((48 : Nat) : Int)) < 2147483648 by omega)
              refine g_goto act (gx gp_244 (w := 0x6207) rfl (by decide) rfl) (n := 98) rfl ?_
              refine g_storeI act (gx gp_244 (w := 0x5006410) rfl (by decide) rfl) (a := 5) (n := 100) rfl rfl (L2 := [some (.ref 124), some (.int lo9), some (.int hi9), some (.int is9), some (.int fm), some (.int ((((10 : Int32) * vj) + x_54) - (48 : Int32)))]) rfl ?_
              refine g_loadA act (gx gp_244 (w := 0x6503) rfl (by decide) rfl) (a := 0) (n := 101) rfl rfl rfl ?_
              refine g_dup act (gx gp_244 (w := 0x6622) rfl (by decide) rfl) (n := 102) rfl rfl ?_
              refine r_getf act (gx gp_244 (w := 0x2c9006904) rfl (by decide) rfl) (n := 105) (ci := 9) (j := 11) (N := 39) rfl rfl rfl rw_32.1 (by decide) (v := .int A9_32) e11_32 ?_
              refine g_constI act (gx gp_244 (w := 0x40000000c00000009000000006a01) rfl (by decide) rfl) (n := 106) (x := (1 : Int32)) (by decide) rfl ?_
              refine g_iadd act (gx gp_244 (w := 0x6b0a) rfl (by decide) rfl) (n := 107) rfl ?_
              have v_59 := iv_addN (hA_32.trans hj_34) (show (1 : Int32).toInt = ((1 : Nat) : Int) from by decide) (show (j_33 + 1) < 2147483648 by omega)
              refine r_putf act (gx gp_244 (w := 0x2c9006e13) rfl (by decide) rfl) (n := 110) (ci := 9) (j := 11) (N := 39) rfl rfl rfl rw_32.1 (by decide) (Or.inl ⟨rfl, _, rfl⟩) ?_
              have rw_60 := RW.wr (k := 124) (j := 11) (v := .int (A9_32 + (1 : Int32))) rw_32 (Or.inr (by decide))
              have f_61 := hT_32.ne (k := 124) (j := 11) (v := .int (A9_32 + (1 : Int32))) (by decide)
              have f_62 := (rd_ne hj (k := 124) (j := 11) (.int (A9_32 + (1 : Int32))) (Or.inr (by decide))).trans e10_32
              have f_64 := (rd_ne hj (k := 124) (j := 11) (.int (A9_32 + (1 : Int32))) (Or.inr (by decide))).trans e14_32
              have f_65 := (rd_ne hj (k := 124) (j := 11) (.int (A9_32 + (1 : Int32))) (Or.inr (by decide))).trans e12_32
              have f_66 := (rd_ne hj (k := 124) (j := 11) (.int (A9_32 + (1 : Int32))) (Or.inr (by decide))).trans e13_32
              have f_67 := (rd_ne hj (k := 124) (j := 11) (.int (A9_32 + (1 : Int32))) (Or.inr (by decide))).trans e15_32
              have f_68 := rd_same (j := 11) (v := .int (A9_32 + (1 : Int32))) rw_32.1
              have fr_69 := hfr.wr (k := 124) (j := 11) (.int (A9_32 + (1 : Int32))) (by unfold WP; omega)
              clear rw_32 hfr hT_32 e10_32 e11_32 e14_32 e12_32 e13_32 e15_32
              generalize (wr hj 124 11 (.int (A9_32 + (1 : Int32)))) = hs_70 at *
              refine g_goto act (gx gp_244 (w := 0x1e07) rfl (by decide) rfl) (n := 30) rfl ?_
              exact ih _ (by omega) _ (((j_33 + 1) : Nat) : Int) bj ecj epj naj _ _ _ _ _ (show PSX hs_70 tx L (((j_33 + 1) : Nat) : Int) bj ecj epj naj from ⟨rw_60, f_61, ⟨_, f_62, hL_32⟩, ⟨_, f_68, v_59⟩, ⟨_, f_64, hb_32⟩, ⟨_, f_65, hc_32⟩, ⟨_, f_66, hd_32⟩, ⟨_, f_67, hn_32⟩, by omega, by omega, by omega, by omega, by omega, by omega⟩) fr_69 hFm v_58 (by omega) (by omega) hFs (by omega) (by omega) (by omega) (by omega) (by omega) (by omega) (by rw [show (((j_33 + 1) : Nat) : Int) = Aj + 1 from by omega, nv_step (by omega) (by omega) (by omega), ← hV]; omega) (hRr.trans ((rnn_go (by omega) (by omega) (by omega)).trans (congrArg (rnn tx L 48 57) (by omega)))) (by omega) rfl
        · exact absurd hpo.1 (by omega)
  obtain ⟨rw_71, hT_71, ⟨L9_71, e10_71, hL_71⟩, ⟨A9_71, e11_71, hA_71⟩, ⟨b9_71, e14_71, hb_71⟩, ⟨c9_71, e12_71, hc_71⟩, ⟨d9_71, e13_71, hd_71⟩, ⟨f9_71, e15_71, hn_71⟩, q1_71, q2_71, q3_71, q4_71, q5_71, q6_71⟩ := hP
  have hfr0 := FrS.rf WP hs
  show WpN (gp g0 wp) CLS p l e R s m args below meth c Q D_244.2.2.1 kc0 ks0 0 [some (.ref 124), some (.int lo9), some (.int hi9), none, none, none] (hs, kc, ks) []
  refine g_loadA act (gx gp_244 (w := 0x103) rfl (by decide) rfl) (a := 0) (n := 1) rfl rfl rfl ?_
  refine r_getf act (gx gp_244 (w := 0x1000389000404) rfl (by decide) rfl) (n := 4) (ci := 9) (j := 14) (N := 39) rfl rfl rfl rw_71.1 (by decide) (v := .int b9_71) e14_71 ?_
  refine g_ifEq act (gx gp_244 (w := 0x900070e) rfl (by decide) rfl) (tgt := 9) (n := 7) rfl rfl (fun h2 => ?_) (fun h2 => ?_)
  · simp only [i_eq, i0] at h2
    refine g_loadA act (gx gp_244 (w := 0xa03) rfl (by decide) rfl) (a := 0) (n := 10) rfl rfl rfl ?_
    refine n_call tb_pres act hEnd (gx (P := G_call) gp_244 (w := 0xa000000000000c04110000d8000d0f) rfl (by decide) rfl) (d' := D_216) rfl (as := [.ref 124]) (rest := []) (bx_here (show PSX hs tx L A b ec ep na from ⟨rw_71, hT_71, ⟨_, e10_71, hL_71⟩, ⟨_, e11_71, hA_71⟩, ⟨_, e14_71, hb_71⟩, ⟨_, e12_71, hc_71⟩, ⟨_, e13_71, hd_71⟩, ⟨_, e15_71, hn_71⟩, by omega, by omega, by omega, by omega, by omega, by omega⟩)) (show (1 : Nat) = fb 0xa000000000000c04110000d8000d0f % 16 by decide) (by show (1 : Nat) ≤ 1; decide) (fun _ => ⟨_, _, rfl, _, shp_at rw_71.1, Or.inr (show fb 0xa000000000000c04110000d8000d0f >>> 68 = 10 by decide)⟩) (by omega) (by show 8 + (1 + 11) + 0 ≤ R.locals; omega) (by show (0 : Nat) ≤ 8; decide) (by show kc + 0 ≤ _; omega) (by show ks + 0 ≤ _; omega) (fun r9 hs_c72 hpo hr9 => ?_) (fun x9 hs9 hx9 hpo => ?_)
    · obtain ⟨-, A_c72, rv_c72, rfl, hP_c72, fr_c72, qs_c72, q7_c72, q8_c72, q9_c72⟩ := hpo
      try replace q8_c72 := q8_c72 (by omega)
      have rw_73 := rw_71.fr fr_c72 WP_rw
      have f_74 := hT_71.fr (fun j9 _ => fr_c72.2.2 130 j9 (by unfold WP; omega))
      have f_75 := rd_fr fr_c72 e10_71 (by unfold WP; omega)
      have fr_76 := hfr0.tr fr_c72
      obtain ⟨-, -, -, ⟨A9_c72, e11_c72, hA_c72⟩, ⟨b9_c72, e14_c72, hb_c72⟩, ⟨c9_c72, e12_c72, hc_c72⟩, ⟨d9_c72, e13_c72, hd_c72⟩, ⟨f9_c72, e15_c72, hn_c72⟩, -, -, q3_c72, q4_c72, q5_c72, q6_c72⟩ := hP_c72
      clear rw_71 hT_71 e10_71 e11_71 e14_71 e12_71 e13_71 e15_71 hfr0
      show WpN (gp g0 wp) CLS p l e R s m args below meth c Q D_244.2.2.1 kc0 ks0 13 [some (.ref 124), some (.int lo9), some (.int hi9), none, none, none] (hs_c72, kc, ks) [.int rv_c72]
      refine g_constI act (gx gp_244 (w := 0x40000018400000181000000000f01) rfl (by decide) rfl) (n := 15) (x := (48 : Int32)) (by decide) rfl ?_
      refine g_constI act (gx gp_244 (w := 0x4000001cc000001c9000000001101) rfl (by decide) rfl) (n := 17) (x := (57 : Int32)) (by decide) rfl ?_
      refine n_call tb_pres act hEnd (gx (P := G_call) gp_244 (w := 0x40c330000d900140f) rfl (by decide) rfl) (d' := D_217) rfl (as := [.int rv_c72, .int (48 : Int32), .int (57 : Int32)]) (rest := []) (b_in (rfl : Int32.toInt rv_c72 = _) (show (48 : Int32).toInt = ((48 : Nat) : Int) from by decide) (show (57 : Int32).toInt = ((57 : Nat) : Int) from by decide)) (show (3 : Nat) = fb 0x40c330000d900140f % 16 by decide) (by show (3 : Nat) ≤ 3; decide) (fun q => absurd q (by decide)) (by omega) (by show 8 + (3 + 11) + 0 ≤ R.locals; omega) (by show (0 : Nat) ≤ 8; decide) (by show kc + 0 ≤ _; omega) (by show ks + 0 ≤ _; omega) (fun r9 h3 hpo hr9 => ?_) (fun x9 hs9 hx9 hpo => ?_)
      · obtain ⟨-, rfl, hin9⟩ := hpo
        obtain ⟨rv_77, rfl, hr_78⟩ := in1_x hin9
        show WpN (gp g0 wp) CLS p l e R s m args below meth c Q D_244.2.2.1 kc0 ks0 20 [some (.ref 124), some (.int lo9), some (.int hi9), none, none, none] (hs_c72, kc, ks) [.int rv_77]
        refine g_storeI act (gx gp_244 (w := 0x3001510) rfl (by decide) rfl) (a := 3) (n := 21) rfl rfl (L2 := [some (.ref 124), some (.int lo9), some (.int hi9), some (.int rv_77), none, none]) rfl ?_
        refine g_loadA act (gx gp_244 (w := 0x1603) rfl (by decide) rfl) (a := 0) (n := 22) rfl rfl rfl ?_
        refine r_getf act (gx gp_244 (w := 0x2c9001904) rfl (by decide) rfl) (n := 25) (ci := 9) (j := 11) (N := 39) rfl rfl rfl rw_73.1 (by decide) (v := .int A9_c72) e11_c72 ?_
        refine g_storeI act (gx gp_244 (w := 0x4001b10) rfl (by decide) rfl) (a := 4) (n := 27) rfl rfl (L2 := [some (.ref 124), some (.int lo9), some (.int hi9), some (.int rv_77), some (.int A9_c72), none]) rfl ?_
        refine g_constI act (gx gp_244 (w := 0x40000000400000001000000001c01) rfl (by decide) rfl) (n := 28) (x := (0 : Int32)) (by decide) rfl ?_
        refine g_storeI act (gx gp_244 (w := 0x5001e10) rfl (by decide) rfl) (a := 5) (n := 30) rfl rfl (L2 := [some (.ref 124), some (.int lo9), some (.int hi9), some (.int rv_77), some (.int A9_c72), some (.int (0 : Int32))]) rfl ?_
        exact loop _ A_c72 b ec ep na _ _ _ _ 0 (show PSX hs_c72 tx L A_c72 b ec ep na from ⟨rw_73, f_74, ⟨_, f_75, hL_71⟩, ⟨_, e11_c72, hA_c72⟩, ⟨_, e14_c72, hb_c72⟩, ⟨_, e12_c72, hc_c72⟩, ⟨_, e13_c72, hd_c72⟩, ⟨_, e15_c72, hn_c72⟩, by omega, by omega, by omega, by omega, by omega, by omega⟩) fr_76 hA_c72 (by decide) (by omega) (by omega) qs_c72 (by omega) (by omega) (by omega) (by omega) (by omega) (by omega) (by omega) nv_0.symm rfl (by omega)
      · exact absurd hpo.1 (by omega)
    · exact absurd hpo.1 (by omega)
  · simp only [i_eq, i0] at h2
    refine g_loadI act (gx gp_244 (w := 0x1000802) rfl (by decide) rfl) (a := 1) (n := 8) rfl rfl rfl ?_
    exact g_retI hEnd (gx gp_244 (w := 0x2f) rfl (by decide) rfl) ⟨rfl, A, b, ec, ep, na, _, rfl, (show PSX hs tx L A b ec ep na from ⟨rw_71, hT_71, ⟨_, e10_71, hL_71⟩, ⟨_, e11_71, hA_71⟩, ⟨_, e14_71, hb_71⟩, ⟨_, e12_71, hc_71⟩, ⟨_, e13_71, hd_71⟩, ⟨_, e15_71, hn_71⟩, by omega, by omega, by omega, by omega, by omega, by omega⟩), hfr0, by omega, by omega, by omega, by omega, by omega, ⟨⟨fun _ => ⟨by omega, by omega, by omega⟩, fun q => by omega⟩, fun q => by omega⟩⟩ hk1 hk2

theorem bx_node {fv : Nat → Int} (hP : PSX hs tx L A b ec ep na) (hF : IArr hs 126 46 fv) (h2 : 1 ≤ fv 0) (h4 : fv 0 ≤ 6) : BodyN SSX TBL g0 CLS bl xs l D_243 2 47 0 0 [.ref 124] hs (fun kd r h2 => kd = 0 ∧ ∃ (A2 b2 ec2 ep2 na2 : Int) (x : Int32), r = some (.int x) ∧ PSX h2 tx L A2 b2 ec2 ep2 na2 ∧ FrS WP hs h2 ∧ A ≤ A2 ∧ (A ≤ L → A2 ≤ L) ∧ b ≤ b2 ∧ 0 ≤ x.toInt ∧ x.toInt ≤ fv 0 - 1 ∧ NUo tx L b ec ep (sNum tx L 0 (fv 0 - 1) (skp tx L A)) A A2 b2 ec2 ep2 na2 x.toInt) := by
  intro wp p e R s m args below meth c Q kc0 ks0 kc ks act hf hl hc hsl hEnd
  have hf : 2 ≤ R.frames := hf
  have hl : 47 ≤ R.locals := hl
  have hk1 : kc ≤ kc + 0 := by omega
  have hk2 : ks ≤ ks + 0 := by omega
  obtain ⟨rw_1, hT_1, ⟨L9_1, e10_1, hL_1⟩, ⟨A9_1, e11_1, hA_1⟩, ⟨b9_1, e14_1, hb_1⟩, ⟨c9_1, e12_1, hc_1⟩, ⟨d9_1, e13_1, hd_1⟩, ⟨f9_1, e15_1, hn_1⟩, q1_1, q2_1, q3_1, q4_1, q5_1, q6_1⟩ := hP
  have hfr0 := FrS.rf WP hs
  show WpN (gp g0 wp) CLS p l e R s m args below meth c Q D_243.2.2.1 kc0 ks0 0 [some (.ref 124)] (hs, kc, ks) []
  refine g_loadA act (gx gp_243 (w := 0x103) rfl (by decide) rfl) (a := 0) (n := 1) rfl rfl rfl ?_
  refine g_constI act (gx gp_243 (w := 0x40000000400000001000000000201) rfl (by decide) rfl) (n := 2) (x := (0 : Int32)) (by decide) rfl ?_
  refine g_loadA act (gx gp_243 (w := 0x303) rfl (by decide) rfl) (a := 0) (n := 3) rfl rfl rfl ?_
  refine r_getf act (gx gp_243 (w := 0x3000089000604) rfl (by decide) rfl) (n := 6) (ci := 9) (j := 2) (N := 39) rfl rfl rfl rw_1.1 (by decide) (rw_1.2 (2, 126, 32, 46) (by decide)).1 ?_
  refine g_constI act (gx gp_243 (w := 0x40000000400000001000000000701) rfl (by decide) rfl) (n := 7) (x := (0 : Int32)) (by decide) rfl ?_
  obtain ⟨x_2, e_3, hx_4⟩ := hF 0 (by omega)
  refine r_iald act (gx gp_243 (w := 0x81a) rfl (by decide) rfl) (n := 8) (j := 0) rfl (rw_1.2 (2, 126, 32, 46) (by decide)).2 (show (0 : Int32).toInt = ((0 : Nat) : Int) from by decide) (show 0 < 46 by omega) (v := .int x_2) e_3 ?_
  refine g_constI act (gx gp_243 (w := 0x40000000c00000009000000000901) rfl (by decide) rfl) (n := 9) (x := (1 : Int32)) (by decide) rfl ?_
  refine g_isub act (gx gp_243 (w := 0xa26) rfl (by decide) rfl) (n := 10) rfl ?_
  have v_5 := iv_sub hx_4 (show (1 : Int32).toInt = ((1 : Nat) : Int) from by decide) (show -2147483648 ≤ ((fv 0) - ((1 : Nat) : Int)) by omega) (show ((fv 0) - ((1 : Nat) : Int)) < 2147483648 by omega)
  refine n_call tb_pres act hEnd (gx (P := G_call) gp_243 (w := 0xa000000000000c18330000f4000d0f) rfl (by decide) rfl) (d' := D_244) rfl (as := [.ref 124, .int (0 : Int32), .int (x_2 - (1 : Int32))]) (rest := []) (bx_number (show PSX hs tx L A b ec ep na from ⟨rw_1, hT_1, ⟨_, e10_1, hL_1⟩, ⟨_, e11_1, hA_1⟩, ⟨_, e14_1, hb_1⟩, ⟨_, e12_1, hc_1⟩, ⟨_, e13_1, hd_1⟩, ⟨_, e15_1, hn_1⟩, by omega, by omega, by omega, by omega, by omega, by omega⟩) (show (0 : Int32).toInt = ((0 : Nat) : Int) from by decide) v_5 (by omega)) (show (3 : Nat) = fb 0xa000000000000c18330000f4000d0f % 16 by decide) (by show (3 : Nat) ≤ 6; decide) (fun _ => ⟨_, _, rfl, _, shp_at rw_1.1, Or.inr (show fb 0xa000000000000c18330000f4000d0f >>> 68 = 10 by decide)⟩) (by omega) (by show 8 + (6 + 11) + 22 ≤ R.locals; omega) (by show (0 : Nat) ≤ 8; decide) (by show kc + 0 ≤ _; omega) (by show ks + 0 ≤ _; omega) (fun r9 hs_c6 hpo hr9 => ?_) (fun x9 hs9 hx9 hpo => ?_)
  · obtain ⟨-, A_c6, b_c6, ec_c6, ep_c6, na_c6, rv_c6, rfl, hP_c6, fr_c6, q7_c6, q8_c6, q9_c6, q10_c6, q11_c6, qr_c6⟩ := hpo
    try replace q8_c6 := q8_c6 (by omega)
    have rw_7 := rw_1.fr fr_c6 WP_rw
    have f_8 := hT_1.fr (fun j9 _ => fr_c6.2.2 130 j9 (by unfold WP; omega))
    have f_9 := rd_fr fr_c6 e10_1 (by unfold WP; omega)
    have f_10 := hF.fr (fun j9 _ => fr_c6.2.2 126 j9 (by unfold WP; omega))
    have fr_11 := hfr0.tr fr_c6
    obtain ⟨-, -, -, ⟨A9_c6, e11_c6, hA_c6⟩, ⟨b9_c6, e14_c6, hb_c6⟩, ⟨c9_c6, e12_c6, hc_c6⟩, ⟨d9_c6, e13_c6, hd_c6⟩, ⟨f9_c6, e15_c6, hn_c6⟩, -, -, q3_c6, q4_c6, q5_c6, q6_c6⟩ := hP_c6
    clear rw_1 hT_1 e10_1 e11_1 e14_1 e12_1 e13_1 e15_1 hF hfr0
    show WpN (gp g0 wp) CLS p l e R s m args below meth c Q D_243.2.2.1 kc0 ks0 13 [some (.ref 124)] (hs_c6, kc, ks) [.int rv_c6]
    exact g_retI hEnd (gx gp_243 (w := 0x2f) rfl (by decide) rfl) ⟨rfl, A_c6, b_c6, ec_c6, ep_c6, na_c6, _, rfl, (show PSX hs_c6 tx L A_c6 b_c6 ec_c6 ep_c6 na_c6 from ⟨rw_7, f_8, ⟨_, f_9, hL_1⟩, ⟨_, e11_c6, hA_c6⟩, ⟨_, e14_c6, hb_c6⟩, ⟨_, e12_c6, hc_c6⟩, ⟨_, e13_c6, hd_c6⟩, ⟨_, e15_c6, hn_c6⟩, by omega, by omega, by omega, by omega, by omega, by omega⟩), fr_11, by omega, by omega, by omega, by omega, by omega, qr_c6⟩ hk1 hk2
  · exact absurd hpo.1 (by omega)

theorem bx_other {zi : Int32} {z9 : Int} {fv : Nat → Int} (hP : PSX hs tx L A b ec ep na) (hF : IArr hs 126 46 fv) (hzi : zi.toInt = z9) (h2 : 1 ≤ fv 0) (h4 : fv 0 ≤ 6) : BodyN SSX TBL g0 CLS bl xs l D_245 3 67 0 0 [.ref 124, .int zi] hs (fun kd r h2 => kd = 0 ∧ ∃ (A2 b2 ec2 ep2 na2 : Int) (x : Int32), r = some (.int x) ∧ PSX h2 tx L A2 b2 ec2 ep2 na2 ∧ FrS WP hs h2 ∧ A ≤ A2 ∧ (A ≤ L → A2 ≤ L) ∧ b ≤ b2 ∧ 0 ≤ x.toInt ∧ x.toInt ≤ fv 0 - 1 ∧ NUo tx L b ec ep (sOth tx L (fv 0 - 1) z9 (skp tx L A)) A A2 b2 ec2 ep2 na2 x.toInt) := by
  intro wp p e R s m args below meth c Q kc0 ks0 kc ks act hf hl hc hsl hEnd
  have hf : 3 ≤ R.frames := hf
  have hl : 67 ≤ R.locals := hl
  have hk1 : kc ≤ kc + 0 := by omega
  have hk2 : ks ≤ ks + 0 := by omega
  obtain ⟨rw_1, hT_1, ⟨L9_1, e10_1, hL_1⟩, ⟨A9_1, e11_1, hA_1⟩, ⟨b9_1, e14_1, hb_1⟩, ⟨c9_1, e12_1, hc_1⟩, ⟨d9_1, e13_1, hd_1⟩, ⟨f9_1, e15_1, hn_1⟩, q1_1, q2_1, q3_1, q4_1, q5_1, q6_1⟩ := hP
  have hfr0 := FrS.rf WP hs
  show WpN (gp g0 wp) CLS p l e R s m args below meth c Q D_245.2.2.1 kc0 ks0 0 [some (.ref 124), some (.int zi), none] (hs, kc, ks) []
  refine g_loadA act (gx gp_245 (w := 0x103) rfl (by decide) rfl) (a := 0) (n := 1) rfl rfl rfl ?_
  refine n_call tb_pres act hEnd (gx (P := G_call) gp_245 (w := 0xa000000000000c04110000f300040f) rfl (by decide) rfl) (d' := D_243) rfl (as := [.ref 124]) (rest := []) (bx_node (show PSX hs tx L A b ec ep na from ⟨rw_1, hT_1, ⟨_, e10_1, hL_1⟩, ⟨_, e11_1, hA_1⟩, ⟨_, e14_1, hb_1⟩, ⟨_, e12_1, hc_1⟩, ⟨_, e13_1, hd_1⟩, ⟨_, e15_1, hn_1⟩, by omega, by omega, by omega, by omega, by omega, by omega⟩) hF (by omega) (by omega)) (show (1 : Nat) = fb 0xa000000000000c04110000f300040f % 16 by decide) (by show (1 : Nat) ≤ 1; decide) (fun _ => ⟨_, _, rfl, _, shp_at rw_1.1, Or.inr (show fb 0xa000000000000c04110000f300040f >>> 68 = 10 by decide)⟩) (by omega) (by show 8 + (1 + 11) + 47 ≤ R.locals; omega) (by show (0 : Nat) ≤ 8; decide) (by show kc + 0 ≤ _; omega) (by show ks + 0 ≤ _; omega) (fun r9 hs_c2 hpo hr9 => ?_) (fun x9 hs9 hx9 hpo => ?_)
  · obtain ⟨-, A_c2, b_c2, ec_c2, ep_c2, na_c2, rv_c2, rfl, hP_c2, fr_c2, q7_c2, q8_c2, q9_c2, q10_c2, q11_c2, qr_c2⟩ := hpo
    try replace q8_c2 := q8_c2 (by omega)
    have rw_3 := rw_1.fr fr_c2 WP_rw
    have f_4 := hT_1.fr (fun j9 _ => fr_c2.2.2 130 j9 (by unfold WP; omega))
    have f_5 := rd_fr fr_c2 e10_1 (by unfold WP; omega)
    have f_6 := hF.fr (fun j9 _ => fr_c2.2.2 126 j9 (by unfold WP; omega))
    have fr_7 := hfr0.tr fr_c2
    obtain ⟨-, -, -, ⟨A9_c2, e11_c2, hA_c2⟩, ⟨b9_c2, e14_c2, hb_c2⟩, ⟨c9_c2, e12_c2, hc_c2⟩, ⟨d9_c2, e13_c2, hd_c2⟩, ⟨f9_c2, e15_c2, hn_c2⟩, -, -, q3_c2, q4_c2, q5_c2, q6_c2⟩ := hP_c2
    clear rw_1 hT_1 e10_1 e11_1 e14_1 e12_1 e13_1 e15_1 hF hfr0
    show WpN (gp g0 wp) CLS p l e R s m args below meth c Q D_245.2.2.1 kc0 ks0 4 [some (.ref 124), some (.int zi), none] (hs_c2, kc, ks) [.int rv_c2]
    refine g_storeI act (gx gp_245 (w := 0x2000510) rfl (by decide) rfl) (a := 2) (n := 5) rfl rfl (L2 := [some (.ref 124), some (.int zi), some (.int rv_c2)]) rfl ?_
    refine g_loadA act (gx gp_245 (w := 0x603) rfl (by decide) rfl) (a := 0) (n := 6) rfl rfl rfl ?_
    refine r_getf act (gx gp_245 (w := 0x1000389000904) rfl (by decide) rfl) (n := 9) (ci := 9) (j := 14) (N := 39) rfl rfl rfl rw_3.1 (by decide) (v := .int b9_c2) e14_c2 ?_
    refine g_ifNe act (gx gp_245 (w := 0x1a000c1d) rfl (by decide) rfl) (tgt := 26) (n := 12) rfl rfl (fun h4 => ?_) (fun h4 => ?_)
    · simp only [i_eq, i0] at h4
      refine g_loadI act (gx gp_245 (w := 0x2001b02) rfl (by decide) rfl) (a := 2) (n := 27) rfl rfl rfl ?_
      have t7 : b = 0 → b_c2 = 0 → sOth tx L (fv 0 - 1) z9 (skp tx L A) = sNum tx L 0 (fv 0 - 1) (skp tx L A) := fun q w => if_neg (fun z => by
        have t5 := qr_c2.2 w
        have z2 : (sNum tx L 0 (fv 0 - 1) (skp tx L A)).2.2 = z9 := z.2
        omega)
      have t8 : b = 0 → b_c2 = 1 → sOth tx L (fv 0 - 1) z9 (skp tx L A) = sNum tx L 0 (fv 0 - 1) (skp tx L A) := fun q w => if_neg (fun z => by
        rcases qr_c2.1.2 q with v | v
        · have := v.2.1; omega
        · exact v.1 z.1)
      have t9 : b = 0 → sOth tx L (fv 0 - 1) z9 (skp tx L A) = sNum tx L 0 (fv 0 - 1) (skp tx L A) := fun q => by
        by_cases w : b_c2 = 0
        · exact t7 q w
        · exact t8 q (by omega)
      exact g_retI hEnd (gx gp_245 (w := 0x2f) rfl (by decide) rfl) ⟨rfl, A_c2, b_c2, ec_c2, ep_c2, na_c2, _, rfl, (show PSX hs_c2 tx L A_c2 b_c2 ec_c2 ep_c2 na_c2 from ⟨rw_3, f_4, ⟨_, f_5, hL_1⟩, ⟨_, e11_c2, hA_c2⟩, ⟨_, e14_c2, hb_c2⟩, ⟨_, e12_c2, hc_c2⟩, ⟨_, e13_c2, hd_c2⟩, ⟨_, e15_c2, hn_c2⟩, by omega, by omega, by omega, by omega, by omega, by omega⟩), fr_7, by omega, by omega, by omega, by omega, by omega, ⟨⟨qr_c2.1.1, fun q => by rw [t9 q]; exact qr_c2.1.2 q⟩, fun q => by
        have q0 : b = 0 := by omega
        rw [t9 q0]
        exact qr_c2.2 q⟩⟩ hk1 hk2
    · simp only [i_eq, i0] at h4
      refine g_loadI act (gx gp_245 (w := 0x2000d02) rfl (by decide) rfl) (a := 2) (n := 13) rfl rfl rfl ?_
      refine g_loadI act (gx gp_245 (w := 0x1000e02) rfl (by decide) rfl) (a := 1) (n := 14) rfl rfl rfl ?_
      refine g_icmpNe act (gx gp_245 (w := 0x1a001121) rfl (by decide) rfl) (tgt := 26) (n := 17) rfl rfl (fun h8 => ?_) (fun h8 => ?_)
      · simp only [i_eq] at h8
        refine g_loadI act (gx gp_245 (w := 0x2001b02) rfl (by decide) rfl) (a := 2) (n := 27) rfl rfl rfl ?_
        have t7 : b = 0 → b_c2 = 0 → sOth tx L (fv 0 - 1) z9 (skp tx L A) = sNum tx L 0 (fv 0 - 1) (skp tx L A) := fun q w => if_neg (fun z => by
          have t5 := qr_c2.2 w
          have z2 : (sNum tx L 0 (fv 0 - 1) (skp tx L A)).2.2 = z9 := z.2
          omega)
        have t8 : b = 0 → b_c2 = 1 → sOth tx L (fv 0 - 1) z9 (skp tx L A) = sNum tx L 0 (fv 0 - 1) (skp tx L A) := fun q w => if_neg (fun z => by
          rcases qr_c2.1.2 q with v | v
          · have := v.2.1; omega
          · exact v.1 z.1)
        have t9 : b = 0 → sOth tx L (fv 0 - 1) z9 (skp tx L A) = sNum tx L 0 (fv 0 - 1) (skp tx L A) := fun q => by
          by_cases w : b_c2 = 0
          · exact t7 q w
          · exact t8 q (by omega)
        exact g_retI hEnd (gx gp_245 (w := 0x2f) rfl (by decide) rfl) ⟨rfl, A_c2, b_c2, ec_c2, ep_c2, na_c2, _, rfl, (show PSX hs_c2 tx L A_c2 b_c2 ec_c2 ep_c2 na_c2 from ⟨rw_3, f_4, ⟨_, f_5, hL_1⟩, ⟨_, e11_c2, hA_c2⟩, ⟨_, e14_c2, hb_c2⟩, ⟨_, e12_c2, hc_c2⟩, ⟨_, e13_c2, hd_c2⟩, ⟨_, e15_c2, hn_c2⟩, by omega, by omega, by omega, by omega, by omega, by omega⟩), fr_7, by omega, by omega, by omega, by omega, by omega, ⟨⟨qr_c2.1.1, fun q => by rw [t9 q]; exact qr_c2.1.2 q⟩, fun q => by
          have q0 : b = 0 := by omega
          rw [t9 q0]
          exact qr_c2.2 q⟩⟩ hk1 hk2
      · simp only [i_eq] at h8
        refine g_loadA act (gx gp_245 (w := 0x1203) rfl (by decide) rfl) (a := 0) (n := 18) rfl rfl rfl ?_
        refine g_constI act (gx gp_245 (w := 0x40000001400000011000000001301) rfl (by decide) rfl) (n := 19) (x := (2 : Int32)) (by decide) rfl ?_
        refine g_loadA act (gx gp_245 (w := 0x1403) rfl (by decide) rfl) (a := 0) (n := 20) rfl rfl rfl ?_
        refine r_getf act (gx gp_245 (w := 0x3c9001704) rfl (by decide) rfl) (n := 23) (ci := 9) (j := 15) (N := 39) rfl rfl rfl rw_3.1 (by decide) (v := .int f9_c2) e15_c2 ?_
        refine n_call tb_pres act hEnd (gx (P := G_call) gp_245 (w := 0xa00000000000080c33000121001a0f) rfl (by decide) rfl) (d' := D_289) rfl (as := [.ref 124, .int (2 : Int32), .int f9_c2]) (rest := []) (bx_wrong (c1 := (2 : Int32)) (c2 := f9_c2) (show PSX hs_c2 tx L A_c2 b_c2 ec_c2 ep_c2 na_c2 from ⟨rw_3, f_4, ⟨_, f_5, hL_1⟩, ⟨_, e11_c2, hA_c2⟩, ⟨_, e14_c2, hb_c2⟩, ⟨_, e12_c2, hc_c2⟩, ⟨_, e13_c2, hd_c2⟩, ⟨_, e15_c2, hn_c2⟩, by omega, by omega, by omega, by omega, by omega, by omega⟩)) (show (3 : Nat) = fb 0xa00000000000080c33000121001a0f % 16 by decide) (by show (3 : Nat) ≤ 3; decide) (fun _ => ⟨_, _, rfl, _, shp_at rw_3.1, Or.inr (show fb 0xa00000000000080c33000121001a0f >>> 68 = 10 by decide)⟩) (by omega) (by show 8 + (3 + 11) + 0 ≤ R.locals; omega) (by show (0 : Nat) ≤ 8; decide) (by show kc + 0 ≤ _; omega) (by show ks + 0 ≤ _; omega) (fun r9 hs_c8 hpo hr9 => ?_) (fun x9 hs9 hx9 hpo => ?_)
        · obtain rfl : r9 = none := hr9.elim (fun q => q.2) (fun q => absurd rfl q.1)
          obtain ⟨-, b_c8, ec_c8, ep_c8, hP_c8, fr_c8, qb_c8, qw_c8, qx_c8⟩ := hpo
          rw [(show (2 : Int32).toInt = ((2 : Nat) : Int) from by decide), hn_c2] at qx_c8
          have rw_9 := rw_3.fr fr_c8 WP_rw
          have f_10 := f_4.fr (fun j9 _ => fr_c8.2.2 130 j9 (by unfold WP; omega))
          have f_11 := rd_fr fr_c8 f_5 (by unfold WP; omega)
          have f_12 := f_6.fr (fun j9 _ => fr_c8.2.2 126 j9 (by unfold WP; omega))
          have fr_13 := fr_7.tr fr_c8
          obtain ⟨-, -, -, ⟨A9_c8, e11_c8, hA_c8⟩, ⟨b9_c8, e14_c8, hb_c8⟩, ⟨c9_c8, e12_c8, hc_c8⟩, ⟨d9_c8, e13_c8, hd_c8⟩, ⟨f9_c8, e15_c8, hn_c8⟩, -, -, q3_c8, q4_c8, q5_c8, q6_c8⟩ := hP_c8
          clear rw_3 f_4 f_5 f_6 e11_c2 e14_c2 e12_c2 e13_c2 e15_c2 fr_7
          show WpN (gp g0 wp) CLS p l e R s m args below meth c Q D_245.2.2.1 kc0 ks0 26 [some (.ref 124), some (.int zi), some (.int rv_c2)] (hs_c8, kc, ks) []
          refine g_loadI act (gx gp_245 (w := 0x2001b02) rfl (by decide) rfl) (a := 2) (n := 27) rfl rfl rfl ?_
          have t4 := qx_c8 (by omega)
          have t5 := qr_c2.2 (by omega)
          have t6 := (qr_c2.1.2 (by omega)).resolve_right (fun z => by have := z.2.1; omega)
          have t7 : sOth tx L (fv 0 - 1) z9 (skp tx L A) = (2, skp tx L A, 0) := if_pos ⟨t6.1, by omega⟩
          exact g_retI hEnd (gx gp_245 (w := 0x2f) rfl (by decide) rfl) ⟨rfl, A_c2, b_c8, ec_c8, ep_c8, na_c2, _, rfl, (show PSX hs_c8 tx L A_c2 b_c8 ec_c8 ep_c8 na_c2 from ⟨rw_9, f_10, ⟨_, f_11, hL_1⟩, ⟨_, e11_c8, hA_c8⟩, ⟨_, e14_c8, hb_c8⟩, ⟨_, e12_c8, hc_c8⟩, ⟨_, e13_c8, hd_c8⟩, ⟨_, e15_c8, hn_c8⟩, by omega, by omega, by omega, by omega, by omega, by omega⟩), fr_13, by omega, by omega, by omega, by omega, by omega, ⟨⟨fun q => by omega, fun q => by rw [t7]; exact Or.inr ⟨by show (2 : Int) ≠ 0; decide, by omega, by show _ = (2 : Int); omega, by show _ = skp tx L A; omega⟩⟩, fun q => by omega⟩⟩ hk1 hk2
        · exact absurd hpo.1 (by omega)
  · exact absurd hpo.1 (by omega)

theorem bx_end (hP : PSX hs tx L A b ec ep na) (hAL : A ≤ L) : BodyN SSX TBL g0 CLS bl xs l D_201 1 22 0 0 [.ref 124] hs (fun kd r h2 => kd = 0 ∧ r = none ∧ ∃ A2 b2 ec2 ep2 : Int, PSX h2 tx L A2 b2 ec2 ep2 na ∧ FrS WP hs h2 ∧ A ≤ A2 ∧ b ≤ b2 ∧ RB tx L b ec ep (sSem tx L (skp tx L A)) A2 b2 ec2 ep2) := by
  intro wp p e R s m args below meth c Q kc0 ks0 kc ks act hf hl hc hsl hEnd
  have hf : 1 ≤ R.frames := hf
  have hl : 22 ≤ R.locals := hl
  have hk1 : kc ≤ kc + 0 := by omega
  have hk2 : ks ≤ ks + 0 := by omega
  obtain ⟨rw_1, hT_1, ⟨L9_1, e10_1, hL_1⟩, ⟨A9_1, e11_1, hA_1⟩, ⟨b9_1, e14_1, hb_1⟩, ⟨c9_1, e12_1, hc_1⟩, ⟨d9_1, e13_1, hd_1⟩, ⟨f9_1, e15_1, hn_1⟩, q1_1, q2_1, q3_1, q4_1, q5_1, q6_1⟩ := hP
  have hfr0 := FrS.rf WP hs
  show WpN (gp g0 wp) CLS p l e R s m args below meth c Q D_201.2.2.1 kc0 ks0 0 [some (.ref 124)] (hs, kc, ks) []
  refine g_loadA act (gx gp_201 (w := 0x103) rfl (by decide) rfl) (a := 0) (n := 1) rfl rfl rfl ?_
  refine r_getf act (gx gp_201 (w := 0x1000389000404) rfl (by decide) rfl) (n := 4) (ci := 9) (j := 14) (N := 39) rfl rfl rfl rw_1.1 (by decide) (v := .int b9_1) e14_1 ?_
  refine g_ifNe act (gx gp_201 (w := 0x1900071d) rfl (by decide) rfl) (tgt := 25) (n := 7) rfl rfl (fun h2 => ?_) (fun h2 => ?_)
  · simp only [i_eq, i0] at h2
    refine g_loadA act (gx gp_201 (w := 0x1a03) rfl (by decide) rfl) (a := 0) (n := 26) rfl rfl rfl ?_
    refine g_dup act (gx gp_201 (w := 0x1b22) rfl (by decide) rfl) (n := 27) rfl rfl ?_
    refine r_getf act (gx gp_201 (w := 0x2c9001e04) rfl (by decide) rfl) (n := 30) (ci := 9) (j := 11) (N := 39) rfl rfl rfl rw_1.1 (by decide) (v := .int A9_1) e11_1 ?_
    refine g_constI act (gx gp_201 (w := 0x40000000c00000009000000001f01) rfl (by decide) rfl) (n := 31) (x := (1 : Int32)) (by decide) rfl ?_
    refine g_iadd act (gx gp_201 (w := 0x200a) rfl (by decide) rfl) (n := 32) rfl ?_
    have v_2 := iv_add hA_1 (show (1 : Int32).toInt = ((1 : Nat) : Int) from by decide) (show -2147483648 ≤ (A + ((1 : Nat) : Int)) by omega) (show (A + ((1 : Nat) : Int)) < 2147483648 by omega)
    refine r_putf act (gx gp_201 (w := 0x2c9002313) rfl (by decide) rfl) (n := 35) (ci := 9) (j := 11) (N := 39) rfl rfl rfl rw_1.1 (by decide) (Or.inl ⟨rfl, _, rfl⟩) ?_
    have rw_3 := RW.wr (k := 124) (j := 11) (v := .int (A9_1 + (1 : Int32))) rw_1 (Or.inr (by decide))
    have f_4 := hT_1.ne (k := 124) (j := 11) (v := .int (A9_1 + (1 : Int32))) (by decide)
    have f_5 := (rd_ne hs (k := 124) (j := 11) (.int (A9_1 + (1 : Int32))) (Or.inr (by decide))).trans e10_1
    have f_7 := (rd_ne hs (k := 124) (j := 11) (.int (A9_1 + (1 : Int32))) (Or.inr (by decide))).trans e14_1
    have f_8 := (rd_ne hs (k := 124) (j := 11) (.int (A9_1 + (1 : Int32))) (Or.inr (by decide))).trans e12_1
    have f_9 := (rd_ne hs (k := 124) (j := 11) (.int (A9_1 + (1 : Int32))) (Or.inr (by decide))).trans e13_1
    have f_10 := (rd_ne hs (k := 124) (j := 11) (.int (A9_1 + (1 : Int32))) (Or.inr (by decide))).trans e15_1
    have f_11 := rd_same (j := 11) (v := .int (A9_1 + (1 : Int32))) rw_1.1
    have fr_12 := hfr0.wr (k := 124) (j := 11) (.int (A9_1 + (1 : Int32))) (by unfold WP; omega)
    clear rw_1 hfr0 hT_1 e10_1 e11_1 e14_1 e12_1 e13_1 e15_1
    generalize (wr hs 124 11 (.int (A9_1 + (1 : Int32)))) = hs_13 at *
    exact g_retV hEnd (gx gp_201 (w := 0x18) rfl (by decide) rfl) ⟨rfl, rfl, (A + ((1 : Nat) : Int)), b, ec, ep, (show PSX hs_13 tx L (A + ((1 : Nat) : Int)) b ec ep na from ⟨rw_3, f_4, ⟨_, f_5, hL_1⟩, ⟨_, f_11, v_2⟩, ⟨_, f_7, hb_1⟩, ⟨_, f_8, hc_1⟩, ⟨_, f_9, hd_1⟩, ⟨_, f_10, hn_1⟩, by omega, by omega, by omega, by omega, by omega, by omega⟩), fr_12, by omega, by omega, ⟨fun _ => ⟨by omega, by omega, by omega⟩, fun q => by omega⟩⟩ hk1 hk2
  · simp only [i_eq, i0] at h2
    refine g_loadA act (gx gp_201 (w := 0x803) rfl (by decide) rfl) (a := 0) (n := 8) rfl rfl rfl ?_
    refine n_call tb_pres act hEnd (gx (P := G_call) gp_201 (w := 0xa000000000000c04110000d8000b0f) rfl (by decide) rfl) (d' := D_216) rfl (as := [.ref 124]) (rest := []) (bx_here (show PSX hs tx L A b ec ep na from ⟨rw_1, hT_1, ⟨_, e10_1, hL_1⟩, ⟨_, e11_1, hA_1⟩, ⟨_, e14_1, hb_1⟩, ⟨_, e12_1, hc_1⟩, ⟨_, e13_1, hd_1⟩, ⟨_, e15_1, hn_1⟩, by omega, by omega, by omega, by omega, by omega, by omega⟩)) (show (1 : Nat) = fb 0xa000000000000c04110000d8000b0f % 16 by decide) (by show (1 : Nat) ≤ 1; decide) (fun _ => ⟨_, _, rfl, _, shp_at rw_1.1, Or.inr (show fb 0xa000000000000c04110000d8000b0f >>> 68 = 10 by decide)⟩) (by omega) (by show 8 + (1 + 11) + 0 ≤ R.locals; omega) (by show (0 : Nat) ≤ 8; decide) (by show kc + 0 ≤ _; omega) (by show ks + 0 ≤ _; omega) (fun r9 hs_c14 hpo hr9 => ?_) (fun x9 hs9 hx9 hpo => ?_)
    · obtain ⟨-, A_c14, rv_c14, rfl, hP_c14, fr_c14, qs_c14, q7_c14, q8_c14, q9_c14⟩ := hpo
      try replace q8_c14 := q8_c14 (by omega)
      have rw_15 := rw_1.fr fr_c14 WP_rw
      have f_16 := hT_1.fr (fun j9 _ => fr_c14.2.2 130 j9 (by unfold WP; omega))
      have f_17 := rd_fr fr_c14 e10_1 (by unfold WP; omega)
      have fr_18 := hfr0.tr fr_c14
      obtain ⟨-, -, -, ⟨A9_c14, e11_c14, hA_c14⟩, ⟨b9_c14, e14_c14, hb_c14⟩, ⟨c9_c14, e12_c14, hc_c14⟩, ⟨d9_c14, e13_c14, hd_c14⟩, ⟨f9_c14, e15_c14, hn_c14⟩, -, -, q3_c14, q4_c14, q5_c14, q6_c14⟩ := hP_c14
      clear rw_1 hT_1 e10_1 e11_1 e14_1 e12_1 e13_1 e15_1 hfr0
      show WpN (gp g0 wp) CLS p l e R s m args below meth c Q D_201.2.2.1 kc0 ks0 11 [some (.ref 124)] (hs_c14, kc, ks) [.int rv_c14]
      refine g_constI act (gx gp_201 (w := 0x4000001dc000001d9000000000d01) rfl (by decide) rfl) (n := 13) (x := (59 : Int32)) (by decide) rfl ?_
      refine g_icmpEq act (gx gp_201 (w := 0x1900102e) rfl (by decide) rfl) (tgt := 25) (n := 16) rfl rfl (fun h8 => ?_) (fun h8 => ?_)
      · simp only [i_eq, show (59 : Int32).toInt = 59 from by decide] at h8
        refine g_loadA act (gx gp_201 (w := 0x1a03) rfl (by decide) rfl) (a := 0) (n := 26) rfl rfl rfl ?_
        refine g_dup act (gx gp_201 (w := 0x1b22) rfl (by decide) rfl) (n := 27) rfl rfl ?_
        refine r_getf act (gx gp_201 (w := 0x2c9001e04) rfl (by decide) rfl) (n := 30) (ci := 9) (j := 11) (N := 39) rfl rfl rfl rw_15.1 (by decide) (v := .int A9_c14) e11_c14 ?_
        refine g_constI act (gx gp_201 (w := 0x40000000c00000009000000001f01) rfl (by decide) rfl) (n := 31) (x := (1 : Int32)) (by decide) rfl ?_
        refine g_iadd act (gx gp_201 (w := 0x200a) rfl (by decide) rfl) (n := 32) rfl ?_
        have v_19 := iv_add hA_c14 (show (1 : Int32).toInt = ((1 : Nat) : Int) from by decide) (show -2147483648 ≤ (A_c14 + ((1 : Nat) : Int)) by omega) (show (A_c14 + ((1 : Nat) : Int)) < 2147483648 by omega)
        refine r_putf act (gx gp_201 (w := 0x2c9002313) rfl (by decide) rfl) (n := 35) (ci := 9) (j := 11) (N := 39) rfl rfl rfl rw_15.1 (by decide) (Or.inl ⟨rfl, _, rfl⟩) ?_
        have rw_20 := RW.wr (k := 124) (j := 11) (v := .int (A9_c14 + (1 : Int32))) rw_15 (Or.inr (by decide))
        have f_21 := f_16.ne (k := 124) (j := 11) (v := .int (A9_c14 + (1 : Int32))) (by decide)
        have f_22 := (rd_ne hs_c14 (k := 124) (j := 11) (.int (A9_c14 + (1 : Int32))) (Or.inr (by decide))).trans f_17
        have f_24 := (rd_ne hs_c14 (k := 124) (j := 11) (.int (A9_c14 + (1 : Int32))) (Or.inr (by decide))).trans e14_c14
        have f_25 := (rd_ne hs_c14 (k := 124) (j := 11) (.int (A9_c14 + (1 : Int32))) (Or.inr (by decide))).trans e12_c14
        have f_26 := (rd_ne hs_c14 (k := 124) (j := 11) (.int (A9_c14 + (1 : Int32))) (Or.inr (by decide))).trans e13_c14
        have f_27 := (rd_ne hs_c14 (k := 124) (j := 11) (.int (A9_c14 + (1 : Int32))) (Or.inr (by decide))).trans e15_c14
        have f_28 := rd_same (j := 11) (v := .int (A9_c14 + (1 : Int32))) rw_15.1
        have fr_29 := fr_18.wr (k := 124) (j := 11) (.int (A9_c14 + (1 : Int32))) (by unfold WP; omega)
        clear rw_15 fr_18 f_16 f_17 e11_c14 e14_c14 e12_c14 e13_c14 e15_c14
        generalize (wr hs_c14 124 11 (.int (A9_c14 + (1 : Int32)))) = hs_30 at *
        have t7 := sSem_ok (T := tx) (L := L) (s := A_c14) (by omega) (by omega)
        exact g_retV hEnd (gx gp_201 (w := 0x18) rfl (by decide) rfl) ⟨rfl, rfl, (A_c14 + ((1 : Nat) : Int)), b, ec, ep, (show PSX hs_30 tx L (A_c14 + ((1 : Nat) : Int)) b ec ep na from ⟨rw_20, f_21, ⟨_, f_22, hL_1⟩, ⟨_, f_28, v_19⟩, ⟨_, f_24, hb_c14⟩, ⟨_, f_25, hc_c14⟩, ⟨_, f_26, hd_c14⟩, ⟨_, f_27, hn_c14⟩, by omega, by omega, by omega, by omega, by omega, by omega⟩), fr_29, by omega, by omega, ⟨fun q => by omega, fun q => by rw [← qs_c14, t7]; exact Or.inl ⟨rfl, by omega, by omega, by omega, congrArg (skp tx L) (by omega)⟩⟩⟩ hk1 hk2
      · simp only [i_eq, show (59 : Int32).toInt = 59 from by decide] at h8
        refine g_loadA act (gx gp_201 (w := 0x1103) rfl (by decide) rfl) (a := 0) (n := 17) rfl rfl rfl ?_
        refine g_constI act (gx gp_201 (w := 0x40000000c00000009000000001201) rfl (by decide) rfl) (n := 18) (x := (1 : Int32)) (by decide) rfl ?_
        refine g_loadA act (gx gp_201 (w := 0x1303) rfl (by decide) rfl) (a := 0) (n := 19) rfl rfl rfl ?_
        refine r_getf act (gx gp_201 (w := 0x2c9001604) rfl (by decide) rfl) (n := 22) (ci := 9) (j := 11) (N := 39) rfl rfl rfl rw_15.1 (by decide) (v := .int A9_c14) e11_c14 ?_
        refine n_call tb_pres act hEnd (gx (P := G_call) gp_201 (w := 0xa00000000000080c3300012100190f) rfl (by decide) rfl) (d' := D_289) rfl (as := [.ref 124, .int (1 : Int32), .int A9_c14]) (rest := []) (bx_wrong (c1 := (1 : Int32)) (c2 := A9_c14) (show PSX hs_c14 tx L A_c14 b ec ep na from ⟨rw_15, f_16, ⟨_, f_17, hL_1⟩, ⟨_, e11_c14, hA_c14⟩, ⟨_, e14_c14, hb_c14⟩, ⟨_, e12_c14, hc_c14⟩, ⟨_, e13_c14, hd_c14⟩, ⟨_, e15_c14, hn_c14⟩, by omega, by omega, by omega, by omega, by omega, by omega⟩)) (show (3 : Nat) = fb 0xa00000000000080c3300012100190f % 16 by decide) (by show (3 : Nat) ≤ 3; decide) (fun _ => ⟨_, _, rfl, _, shp_at rw_15.1, Or.inr (show fb 0xa00000000000080c3300012100190f >>> 68 = 10 by decide)⟩) (by omega) (by show 8 + (3 + 11) + 0 ≤ R.locals; omega) (by show (0 : Nat) ≤ 8; decide) (by show kc + 0 ≤ _; omega) (by show ks + 0 ≤ _; omega) (fun r9 hs_c31 hpo hr9 => ?_) (fun x9 hs9 hx9 hpo => ?_)
        · obtain rfl : r9 = none := hr9.elim (fun q => q.2) (fun q => absurd rfl q.1)
          obtain ⟨-, b_c31, ec_c31, ep_c31, hP_c31, fr_c31, qb_c31, qw_c31, qx_c31⟩ := hpo
          rw [(show (1 : Int32).toInt = ((1 : Nat) : Int) from by decide), hA_c14] at qx_c31
          have rw_32 := rw_15.fr fr_c31 WP_rw
          have f_33 := f_16.fr (fun j9 _ => fr_c31.2.2 130 j9 (by unfold WP; omega))
          have f_34 := rd_fr fr_c31 f_17 (by unfold WP; omega)
          have fr_35 := fr_18.tr fr_c31
          obtain ⟨-, -, -, ⟨A9_c31, e11_c31, hA_c31⟩, ⟨b9_c31, e14_c31, hb_c31⟩, ⟨c9_c31, e12_c31, hc_c31⟩, ⟨d9_c31, e13_c31, hd_c31⟩, ⟨f9_c31, e15_c31, hn_c31⟩, -, -, q3_c31, q4_c31, q5_c31, q6_c31⟩ := hP_c31
          clear rw_15 f_16 f_17 e11_c14 e14_c14 e12_c14 e13_c14 e15_c14 fr_18
          show WpN (gp g0 wp) CLS p l e R s m args below meth c Q D_201.2.2.1 kc0 ks0 25 [some (.ref 124)] (hs_c31, kc, ks) []
          refine g_loadA act (gx gp_201 (w := 0x1a03) rfl (by decide) rfl) (a := 0) (n := 26) rfl rfl rfl ?_
          refine g_dup act (gx gp_201 (w := 0x1b22) rfl (by decide) rfl) (n := 27) rfl rfl ?_
          refine r_getf act (gx gp_201 (w := 0x2c9001e04) rfl (by decide) rfl) (n := 30) (ci := 9) (j := 11) (N := 39) rfl rfl rfl rw_32.1 (by decide) (v := .int A9_c31) e11_c31 ?_
          refine g_constI act (gx gp_201 (w := 0x40000000c00000009000000001f01) rfl (by decide) rfl) (n := 31) (x := (1 : Int32)) (by decide) rfl ?_
          refine g_iadd act (gx gp_201 (w := 0x200a) rfl (by decide) rfl) (n := 32) rfl ?_
          have v_36 := iv_add hA_c31 (show (1 : Int32).toInt = ((1 : Nat) : Int) from by decide) (show -2147483648 ≤ (A_c14 + ((1 : Nat) : Int)) by omega) (show (A_c14 + ((1 : Nat) : Int)) < 2147483648 by omega)
          refine r_putf act (gx gp_201 (w := 0x2c9002313) rfl (by decide) rfl) (n := 35) (ci := 9) (j := 11) (N := 39) rfl rfl rfl rw_32.1 (by decide) (Or.inl ⟨rfl, _, rfl⟩) ?_
          have rw_37 := RW.wr (k := 124) (j := 11) (v := .int (A9_c31 + (1 : Int32))) rw_32 (Or.inr (by decide))
          have f_38 := f_33.ne (k := 124) (j := 11) (v := .int (A9_c31 + (1 : Int32))) (by decide)
          have f_39 := (rd_ne hs_c31 (k := 124) (j := 11) (.int (A9_c31 + (1 : Int32))) (Or.inr (by decide))).trans f_34
          have f_41 := (rd_ne hs_c31 (k := 124) (j := 11) (.int (A9_c31 + (1 : Int32))) (Or.inr (by decide))).trans e14_c31
          have f_42 := (rd_ne hs_c31 (k := 124) (j := 11) (.int (A9_c31 + (1 : Int32))) (Or.inr (by decide))).trans e12_c31
          have f_43 := (rd_ne hs_c31 (k := 124) (j := 11) (.int (A9_c31 + (1 : Int32))) (Or.inr (by decide))).trans e13_c31
          have f_44 := (rd_ne hs_c31 (k := 124) (j := 11) (.int (A9_c31 + (1 : Int32))) (Or.inr (by decide))).trans e15_c31
          have f_45 := rd_same (j := 11) (v := .int (A9_c31 + (1 : Int32))) rw_32.1
          have fr_46 := fr_35.wr (k := 124) (j := 11) (.int (A9_c31 + (1 : Int32))) (by unfold WP; omega)
          clear rw_32 fr_35 f_33 f_34 e11_c31 e14_c31 e12_c31 e13_c31 e15_c31
          generalize (wr hs_c31 124 11 (.int (A9_c31 + (1 : Int32)))) = hs_47 at *
          have t4 := qx_c31 (by omega)
          have t7 := sSem_no (T := tx) (L := L) (s := A_c14) (by omega)
          rw [qs_c14] at t7
          exact g_retV hEnd (gx gp_201 (w := 0x18) rfl (by decide) rfl) ⟨rfl, rfl, (A_c14 + ((1 : Nat) : Int)), b_c31, ec_c31, ep_c31, (show PSX hs_47 tx L (A_c14 + ((1 : Nat) : Int)) b_c31 ec_c31 ep_c31 na from ⟨rw_37, f_38, ⟨_, f_39, hL_1⟩, ⟨_, f_45, v_36⟩, ⟨_, f_41, hb_c31⟩, ⟨_, f_42, hc_c31⟩, ⟨_, f_43, hd_c31⟩, ⟨_, f_44, hn_c31⟩, by omega, by omega, by omega, by omega, by omega, by omega⟩), fr_46, by omega, by omega, ⟨fun q => by omega, fun q => by rw [t7]; exact Or.inr ⟨by show (1 : Int) ≠ 0; decide, by omega, by show _ = (1 : Int); omega, by show _ = skp tx L A; omega⟩⟩⟩ hk1 hk2
        · exact absurd hpo.1 (by omega)
    · exact absurd hpo.1 (by omega)

theorem bx_adds {n9 : Int64} {cw : Int} {ci mi : Int32} {c9 : Nat} {m9 : Int} {fv : Nat → Int} (hP : PSX hs tx L A b ec ep na) (hn9 : n9.toInt = cw) (hn : cw ≠ 0) (hF : IArr hs 126 46 fv) (hci : ci.toInt = (c9 : Int)) (hc46 : c9 < 46) (hmi : mi.toInt = m9) : BodyN SSX TBL g0 CLS bl xs l D_176 3 67 0 0 [.ref 124, .long n9, .int ci, .int mi] hs (fun kd r h2 => kd = 0 ∧ ∃ (A2 b2 ec2 ep2 : Int) (x : Int32), r = some (.int x) ∧ PSX h2 tx L A2 b2 ec2 ep2 na ∧ FrS WP hs h2 ∧ A ≤ A2 ∧ (A ≤ L → A2 ≤ L) ∧ b ≤ b2 ∧ (x.toInt = 0 ∨ (x.toInt = 1 ∧ b2 = 0 ∧ fv c9 ≠ m9 ∧ A2 ≤ L)) ∧ ADo tx L b ec ep cw (fv c9) m9 A A2 b2 ec2 ep2 x.toInt) := by
  intro wp p e R s m args below meth c Q kc0 ks0 kc ks act hf hl hc hsl hEnd
  have hf : 3 ≤ R.frames := hf
  have hl : 67 ≤ R.locals := hl
  have hk1 : kc ≤ kc + 0 := by omega
  have hk2 : ks ≤ ks + 0 := by omega
  obtain ⟨rw_1, hT_1, ⟨L9_1, e10_1, hL_1⟩, ⟨A9_1, e11_1, hA_1⟩, ⟨b9_1, e14_1, hb_1⟩, ⟨c9_1, e12_1, hc_1⟩, ⟨d9_1, e13_1, hd_1⟩, ⟨f9_1, e15_1, hn_1⟩, q1_1, q2_1, q3_1, q4_1, q5_1, q6_1⟩ := hP
  have hfr0 := FrS.rf WP hs
  show WpN (gp g0 wp) CLS p l e R s m args below meth c Q D_176.2.2.1 kc0 ks0 0 [some (.ref 124), some (.long n9), none, some (.int ci), some (.int mi)] (hs, kc, ks) []
  refine g_loadA act (gx gp_176 (w := 0x103) rfl (by decide) rfl) (a := 0) (n := 1) rfl rfl rfl ?_
  refine r_getf act (gx gp_176 (w := 0x1000389000404) rfl (by decide) rfl) (n := 4) (ci := 9) (j := 14) (N := 39) rfl rfl rfl rw_1.1 (by decide) (v := .int b9_1) e14_1 ?_
  refine g_ifNe act (gx gp_176 (w := 0x1000071d) rfl (by decide) rfl) (tgt := 16) (n := 7) rfl rfl (fun h2 => ?_) (fun h2 => ?_)
  · simp only [i_eq, i0] at h2
    refine g_constI act (gx gp_176 (w := 0x40000000400000001000000001101) rfl (by decide) rfl) (n := 17) (x := (0 : Int32)) (by decide) rfl ?_
    exact g_retZ hEnd (gx gp_176 (w := 0x23) rfl (by decide) rfl) (Or.inl rfl) ⟨rfl, A, b, ec, ep, _, rfl, (show PSX hs tx L A b ec ep na from ⟨rw_1, hT_1, ⟨_, e10_1, hL_1⟩, ⟨_, e11_1, hA_1⟩, ⟨_, e14_1, hb_1⟩, ⟨_, e12_1, hc_1⟩, ⟨_, e13_1, hd_1⟩, ⟨_, e15_1, hn_1⟩, by omega, by omega, by omega, by omega, by omega, by omega⟩), hfr0, by omega, by omega, by omega, Or.inl (by decide), ⟨fun _ => ⟨by decide, by omega, by omega, by omega⟩, fun q => by omega⟩⟩ hk1 hk2
  · simp only [i_eq, i0] at h2
    refine g_loadA act (gx gp_176 (w := 0x803) rfl (by decide) rfl) (a := 0) (n := 8) rfl rfl rfl ?_
    refine n_call tb_pres act hEnd (gx (P := G_call) gp_176 (w := 0xa000000000000c141100011f000b0f) rfl (by decide) rfl) (d' := D_287) rfl (as := [.ref 124]) (rest := []) (bx_word (show PSX hs tx L A b ec ep na from ⟨rw_1, hT_1, ⟨_, e10_1, hL_1⟩, ⟨_, e11_1, hA_1⟩, ⟨_, e14_1, hb_1⟩, ⟨_, e12_1, hc_1⟩, ⟨_, e13_1, hd_1⟩, ⟨_, e15_1, hn_1⟩, by omega, by omega, by omega, by omega, by omega, by omega⟩)) (show (1 : Nat) = fb 0xa000000000000c141100011f000b0f % 16 by decide) (by show (1 : Nat) ≤ 5; decide) (fun _ => ⟨_, _, rfl, _, shp_at rw_1.1, Or.inr (show fb 0xa000000000000c141100011f000b0f >>> 68 = 10 by decide)⟩) (by omega) (by show 8 + (5 + 11) + 43 ≤ R.locals; omega) (by show (0 : Nat) ≤ 8; decide) (by show kc + 0 ≤ _; omega) (by show ks + 0 ≤ _; omega) (fun r9 hs_c2 hpo hr9 => ?_) (fun x9 hs9 hx9 hpo => ?_)
    · obtain ⟨-, A_c2, rv_c2, rfl, hP_c2, fr_c2, qs_c2, q7_c2, q8_c2, q9_c2⟩ := hpo
      try replace q8_c2 := q8_c2 (by omega)
      have qi_c2 : skp tx L A_c2 = A_c2 := by rw [qs_c2]; exact skp_id
      have rw_3 := rw_1.fr fr_c2 WP_rw
      have f_4 := hT_1.fr (fun j9 _ => fr_c2.2.2 130 j9 (by unfold WP; omega))
      have f_5 := rd_fr fr_c2 e10_1 (by unfold WP; omega)
      have f_6 := hF.fr (fun j9 _ => fr_c2.2.2 126 j9 (by unfold WP; omega))
      have fr_7 := hfr0.tr fr_c2
      obtain ⟨-, -, -, ⟨A9_c2, e11_c2, hA_c2⟩, ⟨b9_c2, e14_c2, hb_c2⟩, ⟨c9_c2, e12_c2, hc_c2⟩, ⟨d9_c2, e13_c2, hd_c2⟩, ⟨f9_c2, e15_c2, hn_c2⟩, -, -, q3_c2, q4_c2, q5_c2, q6_c2⟩ := hP_c2
      clear rw_1 hT_1 e10_1 e11_1 e14_1 e12_1 e13_1 e15_1 hF hfr0
      show WpN (gp g0 wp) CLS p l e R s m args below meth c Q D_176.2.2.1 kc0 ks0 11 [some (.ref 124), some (.long n9), none, some (.int ci), some (.int mi)] (hs_c2, kc, ks) [.long rv_c2]
      refine g_loadL act (gx gp_176 (w := 0x1000c06) rfl (by decide) rfl) (a := 1) (n := 12) rfl rfl rfl ?_
      refine g_lcmp act (gx gp_176 (w := 0xd0c) rfl (by decide) rfl) (n := 13) rfl ?_
      refine g_ifEq act (gx gp_176 (w := 0x1200100e) rfl (by decide) rfl) (tgt := 18) (n := 16) rfl rfl (fun h7 => ?_) (fun h7 => ?_)
      · simp only [cmpEq] at h7
        refine g_loadA act (gx gp_176 (w := 0x1303) rfl (by decide) rfl) (a := 0) (n := 19) rfl rfl rfl ?_
        refine r_getf act (gx gp_176 (w := 0x3000089001604) rfl (by decide) rfl) (n := 22) (ci := 9) (j := 2) (N := 39) rfl rfl rfl rw_3.1 (by decide) (rw_3.2 (2, 126, 32, 46) (by decide)).1 ?_
        refine g_loadI act (gx gp_176 (w := 0x3001702) rfl (by decide) rfl) (a := 3) (n := 23) rfl rfl rfl ?_
        obtain ⟨x_8, e_9, hx_10⟩ := f_6 c9 (by omega)
        refine r_iald act (gx gp_176 (w := 0x181a) rfl (by decide) rfl) (n := 24) (j := c9) rfl (rw_3.2 (2, 126, 32, 46) (by decide)).2 hci (show c9 < 46 by omega) (v := .int x_8) e_9 ?_
        refine g_loadI act (gx gp_176 (w := 0x4001a02) rfl (by decide) rfl) (a := 4) (n := 26) rfl rfl rfl ?_
        refine g_icmpNe act (gx gp_176 (w := 0x28001d21) rfl (by decide) rfl) (tgt := 40) (n := 29) rfl rfl (fun h11 => ?_) (fun h11 => ?_)
        · simp only [i_eq] at h11
          refine g_loadA act (gx gp_176 (w := 0x2903) rfl (by decide) rfl) (a := 0) (n := 41) rfl rfl rfl ?_
          refine g_loadA act (gx gp_176 (w := 0x2a03) rfl (by decide) rfl) (a := 0) (n := 42) rfl rfl rfl ?_
          refine n_call tb_pres act hEnd (gx (P := G_call) gp_176 (w := 0xa000000000000c0811000120002d0f) rfl (by decide) rfl) (d' := D_288) rfl (as := [.ref 124]) (rest := [.ref 124]) (bx_wordEnd (show PSX hs_c2 tx L A_c2 b ec ep na from ⟨rw_3, f_4, ⟨_, f_5, hL_1⟩, ⟨_, e11_c2, hA_c2⟩, ⟨_, e14_c2, hb_c2⟩, ⟨_, e12_c2, hc_c2⟩, ⟨_, e13_c2, hd_c2⟩, ⟨_, e15_c2, hn_c2⟩, by omega, by omega, by omega, by omega, by omega, by omega⟩)) (show (1 : Nat) = fb 0xa000000000000c0811000120002d0f % 16 by decide) (by show (1 : Nat) ≤ 2; decide) (fun _ => ⟨_, _, rfl, _, shp_at rw_3.1, Or.inr (show fb 0xa000000000000c0811000120002d0f >>> 68 = 10 by decide)⟩) (by omega) (by show 8 + (2 + 11) + 22 ≤ R.locals; omega) (by show (1 : Nat) ≤ 8; decide) (by show kc + 0 ≤ _; omega) (by show ks + 0 ≤ _; omega) (fun r9 h3 hpo hr9 => ?_) (fun x9 hs9 hx9 hpo => ?_)
          · obtain ⟨-, rfl, rv_11, rfl, w1_11⟩ := hpo
            have w2_11 := rnn_ge (T := tx) (L := L) (lo := 97) (hi := 122) (A := A_c2)
            have w3_11 : A_c2 ≤ L → rnn tx L 97 122 A_c2 ≤ L := fun q => rnn_le q
            show WpN (gp g0 wp) CLS p l e R s m args below meth c Q D_176.2.2.1 kc0 ks0 45 [some (.ref 124), some (.long n9), none, some (.int ci), some (.int mi)] (hs_c2, kc, ks) [.int rv_11, .ref 124]
            refine r_putf act (gx gp_176 (w := 0x2c9003013) rfl (by decide) rfl) (n := 48) (ci := 9) (j := 11) (N := 39) rfl rfl rfl rw_3.1 (by decide) (Or.inl ⟨rfl, _, rfl⟩) ?_
            have rw_12 := RW.wr (k := 124) (j := 11) (v := .int rv_11) rw_3 (Or.inr (by decide))
            have f_13 := f_4.ne (k := 124) (j := 11) (v := .int rv_11) (by decide)
            have f_14 := (rd_ne hs_c2 (k := 124) (j := 11) (.int rv_11) (Or.inr (by decide))).trans f_5
            have f_15 := f_6.ne (k := 124) (j := 11) (v := .int rv_11) (by decide)
            have f_17 := (rd_ne hs_c2 (k := 124) (j := 11) (.int rv_11) (Or.inr (by decide))).trans e14_c2
            have f_18 := (rd_ne hs_c2 (k := 124) (j := 11) (.int rv_11) (Or.inr (by decide))).trans e12_c2
            have f_19 := (rd_ne hs_c2 (k := 124) (j := 11) (.int rv_11) (Or.inr (by decide))).trans e13_c2
            have f_20 := (rd_ne hs_c2 (k := 124) (j := 11) (.int rv_11) (Or.inr (by decide))).trans e15_c2
            have f_21 := rd_same (j := 11) (v := .int rv_11) rw_3.1
            have fr_22 := fr_7.wr (k := 124) (j := 11) (.int rv_11) (by unfold WP; omega)
            clear rw_3 fr_7 f_4 f_5 f_6 e11_c2 e14_c2 e12_c2 e13_c2 e15_c2
            generalize (wr hs_c2 124 11 (.int rv_11)) = hs_23 at *
            refine g_constI act (gx gp_176 (w := 0x40000000c00000009000000003101) rfl (by decide) rfl) (n := 49) (x := (1 : Int32)) (by decide) rfl ?_
            have z1 := wrd_word (T := tx) (L := L) (s := A_c2) (by omega)
            have z3 := rnn_le (T := tx) (L := L) (lo := 97) (hi := 122) (A := A_c2) (by omega)
            exact g_retZ hEnd (gx gp_176 (w := 0x23) rfl (by decide) rfl) (Or.inr rfl) ⟨rfl, (Int32.toInt rv_11), b, ec, ep, _, rfl, (show PSX hs_23 tx L (Int32.toInt rv_11) b ec ep na from ⟨rw_12, f_13, ⟨_, f_14, hL_1⟩, ⟨_, f_21, (rfl : Int32.toInt rv_11 = _)⟩, ⟨_, f_17, hb_c2⟩, ⟨_, f_18, hc_c2⟩, ⟨_, f_19, hd_c2⟩, ⟨_, f_20, hn_c2⟩, by omega, by omega, by omega, by omega, by omega, by omega⟩), fr_22, by omega, by omega, by omega, Or.inr ⟨by decide, by omega, by omega, by omega⟩, ⟨fun q => by omega, fun q => by rw [← qs_c2]; exact Or.inr (Or.inr ⟨by decide, by omega, by omega, by omega, by omega, by omega, by rw [nxs_word (by omega)]; exact congrArg (skp tx L) (by omega)⟩)⟩⟩ hk1 hk2
          · exact absurd hpo.1 (by omega)
        · simp only [i_eq] at h11
          refine g_loadA act (gx gp_176 (w := 0x1e03) rfl (by decide) rfl) (a := 0) (n := 30) rfl rfl rfl ?_
          refine g_constI act (gx gp_176 (w := 0x40000001c00000019000000001f01) rfl (by decide) rfl) (n := 31) (x := (3 : Int32)) (by decide) rfl ?_
          refine g_loadA act (gx gp_176 (w := 0x2003) rfl (by decide) rfl) (a := 0) (n := 32) rfl rfl rfl ?_
          refine r_getf act (gx gp_176 (w := 0x2c9002304) rfl (by decide) rfl) (n := 35) (ci := 9) (j := 11) (N := 39) rfl rfl rfl rw_3.1 (by decide) (v := .int A9_c2) e11_c2 ?_
          refine n_call tb_pres act hEnd (gx (P := G_call) gp_176 (w := 0xa00000000000080c3300012100260f) rfl (by decide) rfl) (d' := D_289) rfl (as := [.ref 124, .int (3 : Int32), .int A9_c2]) (rest := []) (bx_wrong (c1 := (3 : Int32)) (c2 := A9_c2) (show PSX hs_c2 tx L A_c2 b ec ep na from ⟨rw_3, f_4, ⟨_, f_5, hL_1⟩, ⟨_, e11_c2, hA_c2⟩, ⟨_, e14_c2, hb_c2⟩, ⟨_, e12_c2, hc_c2⟩, ⟨_, e13_c2, hd_c2⟩, ⟨_, e15_c2, hn_c2⟩, by omega, by omega, by omega, by omega, by omega, by omega⟩)) (show (3 : Nat) = fb 0xa00000000000080c3300012100260f % 16 by decide) (by show (3 : Nat) ≤ 3; decide) (fun _ => ⟨_, _, rfl, _, shp_at rw_3.1, Or.inr (show fb 0xa00000000000080c3300012100260f >>> 68 = 10 by decide)⟩) (by omega) (by show 8 + (3 + 11) + 0 ≤ R.locals; omega) (by show (0 : Nat) ≤ 8; decide) (by show kc + 0 ≤ _; omega) (by show ks + 0 ≤ _; omega) (fun r9 hs_c24 hpo hr9 => ?_) (fun x9 hs9 hx9 hpo => ?_)
          · obtain rfl : r9 = none := hr9.elim (fun q => q.2) (fun q => absurd rfl q.1)
            obtain ⟨-, b_c24, ec_c24, ep_c24, hP_c24, fr_c24, qb_c24, qw_c24, qx_c24⟩ := hpo
            rw [(show (3 : Int32).toInt = ((3 : Nat) : Int) from by decide), hA_c2] at qx_c24
            have rw_25 := rw_3.fr fr_c24 WP_rw
            have f_26 := f_4.fr (fun j9 _ => fr_c24.2.2 130 j9 (by unfold WP; omega))
            have f_27 := rd_fr fr_c24 f_5 (by unfold WP; omega)
            have f_28 := f_6.fr (fun j9 _ => fr_c24.2.2 126 j9 (by unfold WP; omega))
            have fr_29 := fr_7.tr fr_c24
            obtain ⟨-, -, -, ⟨A9_c24, e11_c24, hA_c24⟩, ⟨b9_c24, e14_c24, hb_c24⟩, ⟨c9_c24, e12_c24, hc_c24⟩, ⟨d9_c24, e13_c24, hd_c24⟩, ⟨f9_c24, e15_c24, hn_c24⟩, -, -, q3_c24, q4_c24, q5_c24, q6_c24⟩ := hP_c24
            clear rw_3 f_4 f_5 f_6 e11_c2 e14_c2 e12_c2 e13_c2 e15_c2 fr_7
            show WpN (gp g0 wp) CLS p l e R s m args below meth c Q D_176.2.2.1 kc0 ks0 38 [some (.ref 124), some (.long n9), none, some (.int ci), some (.int mi)] (hs_c24, kc, ks) []
            refine g_constI act (gx gp_176 (w := 0x40000000400000001000000002701) rfl (by decide) rfl) (n := 39) (x := (0 : Int32)) (by decide) rfl ?_
            have t4 := qx_c24 (by omega)
            exact g_retZ hEnd (gx gp_176 (w := 0x23) rfl (by decide) rfl) (Or.inl rfl) ⟨rfl, A_c2, b_c24, ec_c24, ep_c24, _, rfl, (show PSX hs_c24 tx L A_c2 b_c24 ec_c24 ep_c24 na from ⟨rw_25, f_26, ⟨_, f_27, hL_1⟩, ⟨_, e11_c24, hA_c24⟩, ⟨_, e14_c24, hb_c24⟩, ⟨_, e12_c24, hc_c24⟩, ⟨_, e13_c24, hd_c24⟩, ⟨_, e15_c24, hn_c24⟩, by omega, by omega, by omega, by omega, by omega, by omega⟩), fr_29, by omega, by omega, by omega, Or.inl (by decide), ⟨fun q => by omega, fun q => by rw [← qs_c2]; exact Or.inr (Or.inl ⟨by decide, by omega, by omega, by omega, by omega, by omega⟩)⟩⟩ hk1 hk2
          · exact absurd hpo.1 (by omega)
      · simp only [cmpEq] at h7
        refine g_constI act (gx gp_176 (w := 0x40000000400000001000000001101) rfl (by decide) rfl) (n := 17) (x := (0 : Int32)) (by decide) rfl ?_
        exact g_retZ hEnd (gx gp_176 (w := 0x23) rfl (by decide) rfl) (Or.inl rfl) ⟨rfl, A_c2, b, ec, ep, _, rfl, (show PSX hs_c2 tx L A_c2 b ec ep na from ⟨rw_3, f_4, ⟨_, f_5, hL_1⟩, ⟨_, e11_c2, hA_c2⟩, ⟨_, e14_c2, hb_c2⟩, ⟨_, e12_c2, hc_c2⟩, ⟨_, e13_c2, hd_c2⟩, ⟨_, e15_c2, hn_c2⟩, by omega, by omega, by omega, by omega, by omega, by omega⟩), fr_7, by omega, by omega, by omega, Or.inl (by decide), ⟨fun q => by omega, fun q => by rw [← qs_c2]; exact Or.inl ⟨by decide, by omega, by omega, by omega, by omega, qi_c2⟩⟩⟩ hk1 hk2
    · exact absurd hpo.1 (by omega)

end PARX2

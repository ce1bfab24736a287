/-! The law's loop. -/
def SWB : Nat := 0x6fd06d506a1066d06450611060405dc05a805740558053b050704df04a70473043f040b03e303bb039f036b0337030302f302d702a3027b0253020f020201da01b2018a016e016101540144012800dc002880000000
theorem swb_0 : swb (fb 0x725000036) = SWB := by decide +kernel
theorem swn_0 : swn SWB = 40 := by decide +kernel
section LOOP
variable {g0 : GG} {bl : Nat} {xs : Nat → Int32} {l : Launch} {wp : va_W} {p : Program} {e : Env} {R : Room} {s : State} {m : MethodId} {args : Array Value} {below : List Frame} {meth : Method} {c : Code} {Q : State → Prop} {kc0 ks0 KC9 KS9 : Nat}
theorem law_loop (hTY : TYg g0) (act : Act SSX TBL (gp g0 wp) CLS bl xs D_0 p l s m args meth c) (hEnd : EndN SSX TBL (gp g0 wp) CLS D_0 p l e R s m args below meth c Q kc0 ks0 15 616 KC9 KS9 PE) (hf : 15 ≤ R.frames) (hl : 616 ≤ R.locals) (hc : 638008 ≤ R.cells + kc0) (hsl : 7182079 ≤ R.slots + ks0)  (hbl : bl ≤ 3072) (hKC : 638008 ≤ KC9) (hKS : 7182079 ≤ KS9) : ∀ (n t : Nat) (hs : List CE) (R0 : List Nat) (tx : Nat → Int) (L : Nat) (ec ep : Int) (kc ks : Nat) (i : Int32) (v6 v7 v8 : Option Value), n + t = 513 → t ≤ 512 → LJ hs R0 tx L ec ep → PT kc ks hs.length t → i.toInt = 6 * (t : Int) → WpN (gp g0 wp) CLS p l e R s m args below meth c Q D_0.2.2.1 kc0 ks0 28 [some (.ref 7000000000003), some (.ref 0), some (.ref 124), some (.ref 146), some (.ref 147), some (.int i), v6, v7, v8] (hs, kc, ks) [] := by
  intro n
  induction n with
  | zero => intro t hs R0 tx L ec ep kc ks i v6 v7 v8 h1 h2; omega
  | succ n ih =>
    intro t hs R0 tx L ec ep kc ks i v6 v7 v8 hn ht hI hP hi
    obtain ⟨p1, p2, p3⟩ := id hP
    have hob : (Int32.ofNat bl).toInt = (bl : Int) := by rw [Int32.toInt_ofNat_of_lt (by omega)]
    have hsb : (Int32.ofNat bl - (6 : Int32)).toInt = (bl : Int) - 6 := by rw [i_sub (by rw [hob, show (6 : Int32).toInt = 6 from rfl]; omega) (by rw [hob, show (6 : Int32).toInt = 6 from rfl]; omega), hob]; rfl
    refine g_loadI act (gx gp_0 (w := 0x5001e02) rfl (by decide) rfl) (a := 5) (n := 30) rfl rfl rfl ?_
    refine g_loadA act (gx gp_0 (w := 0x1f03) rfl (by decide) rfl) (a := 0) (n := 31) rfl rfl rfl ?_
    refine g_slen act (gx gp_0 (w := 0x2032) rfl (by decide) rfl) (n := 32) rfl ?_
    refine g_constI act (gx gp_0 (w := 0x40000003400000031000000002201) rfl (by decide) rfl) (n := 34) (x := (6 : Int32)) (by decide) rfl ?_
    refine g_isub act (gx gp_0 (w := 0x2326) rfl (by decide) rfl) (n := 35) rfl ?_
    refine g_icmpGt act (gx gp_0 (w := 0x72b00262b) rfl (by decide) rfl) (tgt := 1835) (n := 38) rfl rfl (fun h1 => ?_) (fun h1 => ?_)
    · refine g_constI act (gx gp_0 (w := 0x40000000c00000009000000072c01) rfl (by decide) rfl) (n := 1836) (x := (1 : Int32)) (by decide) rfl ?_
      exact n_zret hEnd (by decide +kernel) rfl (Or.inr rfl) ⟨rfl, rfl⟩ (by show kc ≤ _; omega) (by show ks ≤ _; omega)
    · rw [i_lt, hsb] at h1
      have hib : i.toInt + 6 ≤ (bl : Int) := by omega
      have ht2 : t ≤ 511 := by omega
      refine g_loadA act (gx gp_0 (w := 0x2703) rfl (by decide) rfl) (a := 0) (n := 39) rfl rfl rfl ?_
      refine g_loadI act (gx gp_0 (w := 0x5002902) rfl (by decide) rfl) (a := 5) (n := 41) rfl rfl rfl ?_
      refine g_sald act (gx gp_0 (w := 0x2a1a) rfl (by decide) rfl) (n := 42) rfl (by omega) (by omega) ?_
      refine g_constI act (gx gp_0 (w := 0x4000001fc000001f9000000002c01) rfl (by decide) rfl) (n := 44) (x := (63 : Int32)) (by decide) rfl ?_
      refine g_iand act (gx gp_0 (w := 0x2d33) rfl (by decide) rfl) (n := 45) rfl ?_
      have j6 := i_k (i := i) (k := 6) (by omega) (by omega) (by decide) (by decide)
      rw [show (6 : Int32).toInt = 6 from rfl] at j6
      have K : ∀ (h2 : List CE) (R2 : List Nat) (tx2 : Nat → Int) (L2 : Nat) (ec2 ep2 : Int) (kc2 ks2 : Nat) (v6 v7 v8 : Option Value), LJ h2 R2 tx2 L2 ec2 ep2 → PT kc2 ks2 h2.length (t + 1) → WpN (gp g0 wp) CLS p l e R s m args below meth c Q D_0.2.2.1 kc0 ks0 1829 [some (.ref 7000000000003), some (.ref 0), some (.ref 124), some (.ref 146), some (.ref 147), some (.int i), v6, v7, v8] (h2, kc2, ks2) [] := by
        intro h2 R2 tx2 L2 ec2 ep2 kc2 ks2 v6 v7 v8 q1 q2
        refine g_iinc act (gx gp_0 (w := 0x80000006000005072809) rfl (by decide) rfl) (a := 5) (i := (6 : Int32)) (n := 1832) rfl (by decide) rfl rfl (L2 := [some (.ref 7000000000003), some (.ref 0), some (.ref 124), some (.ref 146), some (.ref 147), some (.int (i + (6 : Int32))), v6, v7, v8]) rfl ?_
        refine g_goto act (gx gp_0 (w := 0x1c07) rfl (by decide) rfl) (n := 28) rfl ?_
        exact ih (t + 1) h2 R2 tx2 L2 ec2 ep2 kc2 ks2 _ _ _ _ (by omega) (by omega) q1 q2 (by omega)
      refine g_switch act (gx gp_0 (w := 0x725000036) rfl (by decide) rfl) (t := 1829) (b := SWB) rfl swb_0 (K _ _ _ _ _ _ _ _ _ _ _ hI (pt_step0 hP (Nat.le_add_right _ _))) (fun j t' hj htj _ => ?_)
      rw [swn_0] at hj
      match j, hj, htj with
      | 0, _, htj =>
        obtain rfl : 220 = t' := (by decide +kernel : (220 : Nat) = Nat.mod (Nat.shiftRight SWB (Nat.add 48 (Nat.mul 16 0))) 65536).trans htj
        exact lb_220 hTY act hEnd hf hl hc hsl hI hP ht2 hi hib K
      | 1, _, htj =>
        obtain rfl : 296 = t' := (by decide +kernel : (296 : Nat) = Nat.mod (Nat.shiftRight SWB (Nat.add 48 (Nat.mul 16 1))) 65536).trans htj
        exact lb_296 hTY act hEnd hf hl hc hsl hI hP ht2 hi hib K
      | 2, _, htj =>
        obtain rfl : 324 = t' := (by decide +kernel : (324 : Nat) = Nat.mod (Nat.shiftRight SWB (Nat.add 48 (Nat.mul 16 2))) 65536).trans htj
        exact lb_324 hTY act hEnd hf hl hc hsl hI hP ht2 hi hib K
      | 3, _, htj =>
        obtain rfl : 340 = t' := (by decide +kernel : (340 : Nat) = Nat.mod (Nat.shiftRight SWB (Nat.add 48 (Nat.mul 16 3))) 65536).trans htj
        exact lb_340 hTY act hEnd hf hl hc hsl hI hP ht2 hi hib K
      | 4, _, htj =>
        obtain rfl : 353 = t' := (by decide +kernel : (353 : Nat) = Nat.mod (Nat.shiftRight SWB (Nat.add 48 (Nat.mul 16 4))) 65536).trans htj
        exact lb_353 hTY act hEnd hf hl hc hsl hI hP ht2 hi hib K
      | 5, _, htj =>
        obtain rfl : 366 = t' := (by decide +kernel : (366 : Nat) = Nat.mod (Nat.shiftRight SWB (Nat.add 48 (Nat.mul 16 5))) 65536).trans htj
        exact lb_366 hTY act hEnd hf hl hc hsl hI hP ht2 hi hib K
      | 6, _, htj =>
        obtain rfl : 394 = t' := (by decide +kernel : (394 : Nat) = Nat.mod (Nat.shiftRight SWB (Nat.add 48 (Nat.mul 16 6))) 65536).trans htj
        exact lb_394 hTY act hEnd hf hl hc hsl hI hP ht2 hi hib K
      | 7, _, htj =>
        obtain rfl : 434 = t' := (by decide +kernel : (434 : Nat) = Nat.mod (Nat.shiftRight SWB (Nat.add 48 (Nat.mul 16 7))) 65536).trans htj
        exact lb_434 hTY act hEnd hf hl hc hsl hI hP ht2 hi hib K
      | 8, _, htj =>
        obtain rfl : 474 = t' := (by decide +kernel : (474 : Nat) = Nat.mod (Nat.shiftRight SWB (Nat.add 48 (Nat.mul 16 8))) 65536).trans htj
        exact lb_474 hTY act hEnd hf hl hc hsl hI hP ht2 hi hib K
      | 9, _, htj =>
        obtain rfl : 514 = t' := (by decide +kernel : (514 : Nat) = Nat.mod (Nat.shiftRight SWB (Nat.add 48 (Nat.mul 16 9))) 65536).trans htj
        exact lb_514 hTY act hEnd hf hl hc hsl hI hP ht2 hi hib K
      | 10, _, htj =>
        obtain rfl : 527 = t' := (by decide +kernel : (527 : Nat) = Nat.mod (Nat.shiftRight SWB (Nat.add 48 (Nat.mul 16 10))) 65536).trans htj
        exact lb_527 hTY act hEnd hf hl hc hsl hI hP ht2 hi hib K
      | 11, _, htj =>
        obtain rfl : 595 = t' := (by decide +kernel : (595 : Nat) = Nat.mod (Nat.shiftRight SWB (Nat.add 48 (Nat.mul 16 11))) 65536).trans htj
        exact lb_595 hTY act hEnd hf hl hc hsl hI hP ht2 hi hib K
      | 12, _, htj =>
        obtain rfl : 635 = t' := (by decide +kernel : (635 : Nat) = Nat.mod (Nat.shiftRight SWB (Nat.add 48 (Nat.mul 16 12))) 65536).trans htj
        exact lb_635 hTY act hEnd hf hl hc hsl hI hP ht2 hi hib K
      | 13, _, htj =>
        obtain rfl : 675 = t' := (by decide +kernel : (675 : Nat) = Nat.mod (Nat.shiftRight SWB (Nat.add 48 (Nat.mul 16 13))) 65536).trans htj
        exact lb_675 hTY act hEnd hf hl hc hsl hI hP ht2 hi hib K
      | 14, _, htj =>
        obtain rfl : 727 = t' := (by decide +kernel : (727 : Nat) = Nat.mod (Nat.shiftRight SWB (Nat.add 48 (Nat.mul 16 14))) 65536).trans htj
        exact lb_727 hTY act hEnd hf hl hc hsl hI hP ht2 hi hib K
      | 15, _, htj =>
        obtain rfl : 755 = t' := (by decide +kernel : (755 : Nat) = Nat.mod (Nat.shiftRight SWB (Nat.add 48 (Nat.mul 16 15))) 65536).trans htj
        exact lb_755 hTY act hEnd hf hl hc hsl hI hP ht2 hi hib K
      | 16, _, htj =>
        obtain rfl : 771 = t' := (by decide +kernel : (771 : Nat) = Nat.mod (Nat.shiftRight SWB (Nat.add 48 (Nat.mul 16 16))) 65536).trans htj
        exact lb_771 hTY act hEnd hf hl hc hsl hI hP ht2 hi hib K
      | 17, _, htj =>
        obtain rfl : 823 = t' := (by decide +kernel : (823 : Nat) = Nat.mod (Nat.shiftRight SWB (Nat.add 48 (Nat.mul 16 17))) 65536).trans htj
        exact lb_823 hTY act hEnd hf hl hc hsl hI hP ht2 hi hib K
      | 18, _, htj =>
        obtain rfl : 875 = t' := (by decide +kernel : (875 : Nat) = Nat.mod (Nat.shiftRight SWB (Nat.add 48 (Nat.mul 16 18))) 65536).trans htj
        exact lb_875 hTY act hEnd hf hl hc hsl hI hP ht2 hi hib K
      | 19, _, htj =>
        obtain rfl : 927 = t' := (by decide +kernel : (927 : Nat) = Nat.mod (Nat.shiftRight SWB (Nat.add 48 (Nat.mul 16 19))) 65536).trans htj
        exact lb_927 hTY act hEnd hf hl hc hsl hI hP ht2 hi hib K
      | 20, _, htj =>
        obtain rfl : 955 = t' := (by decide +kernel : (955 : Nat) = Nat.mod (Nat.shiftRight SWB (Nat.add 48 (Nat.mul 16 20))) 65536).trans htj
        exact lb_955 hTY act hEnd hf hl hc hsl hI hP ht2 hi hib K
      | 21, _, htj =>
        obtain rfl : 995 = t' := (by decide +kernel : (995 : Nat) = Nat.mod (Nat.shiftRight SWB (Nat.add 48 (Nat.mul 16 21))) 65536).trans htj
        exact lb_995 hTY act hEnd hf hl hc hsl hI hP ht2 hi hib K
      | 22, _, htj =>
        obtain rfl : 1035 = t' := (by decide +kernel : (1035 : Nat) = Nat.mod (Nat.shiftRight SWB (Nat.add 48 (Nat.mul 16 22))) 65536).trans htj
        exact lb_1035 hTY act hEnd hf hl hc hsl hI hP ht2 hi hib K
      | 23, _, htj =>
        obtain rfl : 1087 = t' := (by decide +kernel : (1087 : Nat) = Nat.mod (Nat.shiftRight SWB (Nat.add 48 (Nat.mul 16 23))) 65536).trans htj
        exact lb_1087 hTY act hEnd hf hl hc hsl hI hP ht2 hi hib K
      | 24, _, htj =>
        obtain rfl : 1139 = t' := (by decide +kernel : (1139 : Nat) = Nat.mod (Nat.shiftRight SWB (Nat.add 48 (Nat.mul 16 24))) 65536).trans htj
        exact lb_1139 hTY act hEnd hf hl hc hsl hI hP ht2 hi hib K
      | 25, _, htj =>
        obtain rfl : 1191 = t' := (by decide +kernel : (1191 : Nat) = Nat.mod (Nat.shiftRight SWB (Nat.add 48 (Nat.mul 16 25))) 65536).trans htj
        exact lb_1191 hTY act hEnd hf hl hc hsl hI hP ht2 hi hib K
      | 26, _, htj =>
        obtain rfl : 1247 = t' := (by decide +kernel : (1247 : Nat) = Nat.mod (Nat.shiftRight SWB (Nat.add 48 (Nat.mul 16 26))) 65536).trans htj
        exact lb_1247 hTY act hEnd hf hl hc hsl hI hP ht2 hi hib K
      | 27, _, htj =>
        obtain rfl : 1287 = t' := (by decide +kernel : (1287 : Nat) = Nat.mod (Nat.shiftRight SWB (Nat.add 48 (Nat.mul 16 27))) 65536).trans htj
        exact lb_1287 hTY act hEnd hf hl hc hsl hI hP ht2 hi hib K
      | 28, _, htj =>
        obtain rfl : 1339 = t' := (by decide +kernel : (1339 : Nat) = Nat.mod (Nat.shiftRight SWB (Nat.add 48 (Nat.mul 16 28))) 65536).trans htj
        exact lb_1339 hTY act hEnd hf hl hc hsl hI hP ht2 hi hib K
      | 29, _, htj =>
        obtain rfl : 1368 = t' := (by decide +kernel : (1368 : Nat) = Nat.mod (Nat.shiftRight SWB (Nat.add 48 (Nat.mul 16 29))) 65536).trans htj
        exact lb_1368 hTY act hEnd hf hl hc hsl hI hP ht2 hi hib K
      | 30, _, htj =>
        obtain rfl : 1396 = t' := (by decide +kernel : (1396 : Nat) = Nat.mod (Nat.shiftRight SWB (Nat.add 48 (Nat.mul 16 30))) 65536).trans htj
        exact lb_1396 hTY act hEnd hf hl hc hsl hI hP ht2 hi hib K
      | 31, _, htj =>
        obtain rfl : 1448 = t' := (by decide +kernel : (1448 : Nat) = Nat.mod (Nat.shiftRight SWB (Nat.add 48 (Nat.mul 16 31))) 65536).trans htj
        exact lb_1448 hTY act hEnd hf hl hc hsl hI hP ht2 hi hib K
      | 32, _, htj =>
        obtain rfl : 1500 = t' := (by decide +kernel : (1500 : Nat) = Nat.mod (Nat.shiftRight SWB (Nat.add 48 (Nat.mul 16 32))) 65536).trans htj
        exact lb_1500 hTY act hEnd hf hl hc hsl hI hP ht2 hi hib K
      | 33, _, htj =>
        obtain rfl : 1540 = t' := (by decide +kernel : (1540 : Nat) = Nat.mod (Nat.shiftRight SWB (Nat.add 48 (Nat.mul 16 33))) 65536).trans htj
        exact lb_1540 hTY act hEnd hf hl hc hsl hI hP ht2 hi hib K
      | 34, _, htj =>
        obtain rfl : 1553 = t' := (by decide +kernel : (1553 : Nat) = Nat.mod (Nat.shiftRight SWB (Nat.add 48 (Nat.mul 16 34))) 65536).trans htj
        exact lb_1553 hTY act hEnd hf hl hc hsl hI hP ht2 hi hib K
      | 35, _, htj =>
        obtain rfl : 1605 = t' := (by decide +kernel : (1605 : Nat) = Nat.mod (Nat.shiftRight SWB (Nat.add 48 (Nat.mul 16 35))) 65536).trans htj
        exact lb_1605 hTY act hEnd hf hl hc hsl hI hP ht2 hi hib K
      | 36, _, htj =>
        obtain rfl : 1645 = t' := (by decide +kernel : (1645 : Nat) = Nat.mod (Nat.shiftRight SWB (Nat.add 48 (Nat.mul 16 36))) 65536).trans htj
        exact lb_1645 hTY act hEnd hf hl hc hsl hI hP ht2 hi hib K
      | 37, _, htj =>
        obtain rfl : 1697 = t' := (by decide +kernel : (1697 : Nat) = Nat.mod (Nat.shiftRight SWB (Nat.add 48 (Nat.mul 16 37))) 65536).trans htj
        exact lb_1697 hTY act hEnd hf hl hc hsl hI hP ht2 hi hib K
      | 38, _, htj =>
        obtain rfl : 1749 = t' := (by decide +kernel : (1749 : Nat) = Nat.mod (Nat.shiftRight SWB (Nat.add 48 (Nat.mul 16 38))) 65536).trans htj
        exact lb_1749 hTY act hEnd hf hl hc hsl hI hP ht2 hi hib K
      | 39, _, htj =>
        obtain rfl : 1789 = t' := (by decide +kernel : (1789 : Nat) = Nat.mod (Nat.shiftRight SWB (Nat.add 48 (Nat.mul 16 39))) 65536).trans htj
        exact lb_1789 hTY act hEnd hf hl hc hsl hI hP ht2 hi hib K
      | j + 40, hj, _ => exact absurd hj (by omega)
end LOOP

/-! the reference: best -/
def iX8_best_112_3 : List Instr := [.iload 8, .aload_n 0, .getfield 89]
theorem oX8_best_112_3 : fOkB cX8_best 112 iX8_best_112_3 = true := by decide +kernel
theorem bX8_best_118 : fBk cX8_best 118 (.if_icmp .ge) 141 := ⟨23, by decide +kernel, by decide⟩
def iX8_best_141_8 : List Instr := [.bipush (-2), .istore 8, .iconst 0, .istore 9, .iconst 0, .istore 10, .iconst 0, .istore 11]
theorem oX8_best_141_8 : fOkB cX8_best 141 iX8_best_141_8 = true := by decide +kernel
def iX8_best_121_10 : List Instr := [.aload_n 0, .getfield 75, .iload 8, .aload_n 0, .getfield 19, .iload 8, .iaload, .iastore, .iinc 8 1, .goto (-26)]
theorem oX8_best_121_10 : fOkB cX8_best 121 iX8_best_121_10 = true := by decide +kernel
set_option maxRecDepth 100000 in
theorem lpX8_keep {G : fG} {d : Nat} {T : fS} {a b c e si ei m : Nat} {PL : List pTh} {mo q : Int32} (H : hOk (hD T) a b c e) (hsi : si < c) (F : fdR T b PL) (hp : plOk b PL) (hq : plSq PL) (hmb : m < 2 ^ b) (hm6 : m < 65536) (hw4 : (wsU m 16).length ≤ 4) (hpw : 0 ≤ (gA T 42 si).toInt ∧ (gA T 42 si).toInt ≤ 1000) : ∀ (u w : Nat) (S1 : fS), w + u = b → (kR T S1 ∧ gA S1 39 = gA T 39 ∧ ∀ j, j < w → gA S1 55 j = gA T 39 j) → fV G mX8_best (fZm G (d + 10) (fun r S' => r = some (.int (ask3 ((List.range (a ^ (wsU m 16).length)).foldl (fun o k => bsp (clV (gA T 36) (gA T 42 si) (erl (gI T 35 14) (leastF PL)) PL) (hD T) (wsU m 16) mo o (dgs a (wsU m 16).length k)) none) q)) ∧ ke T S')) 112 [(0, .ref 35), (1, .int (nI si)), (2, .int (nI ei)), (3, .int (nI m)), (4, .int mo), (5, .int q), (6, .int (nI (wsU m 16).length)), (7, .int (nI (a ^ (wsU m 16).length))), (8, .int (nI w))] [] S1 := by
  have hb16 : b ≤ 16 := H.2.1.2.1
  have ha8 : a ≤ 8 := H.1.2.2.1
  have ha1 : 1 ≤ a := H.1.2.1
  have hc4 : c ≤ 4 := H.2.2.1.2.1
  have hws : ∀ w ∈ wsU m 16, w < b := fun w hw => by rw [wsU16 hmb hb16] at hw; exact wsU_lt hw
  intro u
  induction u with
  | zero =>
    intro w S1 hu hI
    have h3 : gI S1 35 3 = nI b := (congrArg (fun q => q.2.1.1) hI.1.2.1).trans H.2.1.1
    refine fV.run iX8_best_112_3 oX8_best_112_3 (pc' := 118) (L' := [(0, .ref 35), (1, .int (nI si)), (2, .int (nI ei)), (3, .int (nI m)), (4, .int mo), (5, .int q), (6, .int (nI (wsU m 16).length)), (7, .int (nI (a ^ (wsU m 16).length))), (8, .int (nI w))]) (st' := [.int (gI S1 35 3), .int (nI w)]) (S' := S1) rfl trivial ?_
    refine fV.icmp_ge bX8_best_118 (fun c118 => ?_) (fun c118 => ?_)
    · refine fV.run iX8_best_141_8 oX8_best_141_8 (pc' := 154) (L' := [(0, .ref 35), (1, .int (nI si)), (2, .int (nI ei)), (3, .int (nI m)), (4, .int mo), (5, .int q), (6, .int (nI (wsU m 16).length)), (7, .int (nI (a ^ (wsU m 16).length))), (8, .int (-2)), (9, .int 0), (10, .int 0), (11, .int 0)]) (st' := []) (S' := S1) rfl trivial ?_
      exact lpX8_way H hsi F hp hq hmb hm6 hw4 hpw (a ^ (wsU m 16).length) 0 S1 (-2) 0 0 (by omega) ⟨hI.1, fun j hj => hI.2.2 j (by omega), fun v _ => congrFun hI.2.1 v, fun j h1 h2 => absurd h1 (by omega)⟩ rfl
    · exact absurd c118 (by rw [h3, nI_leI (by omega) (by omega)]; omega)
  | succ u ih =>
    intro w S1 hu hI
    have h3 : gI S1 35 3 = nI b := (congrArg (fun q => q.2.1.1) hI.1.2.1).trans H.2.1.1
    refine fV.run iX8_best_112_3 oX8_best_112_3 (pc' := 118) (L' := [(0, .ref 35), (1, .int (nI si)), (2, .int (nI ei)), (3, .int (nI m)), (4, .int mo), (5, .int q), (6, .int (nI (wsU m 16).length)), (7, .int (nI (a ^ (wsU m 16).length))), (8, .int (nI w))]) (st' := [.int (gI S1 35 3), .int (nI w)]) (S' := S1) rfl trivial ?_
    refine fV.icmp_ge bX8_best_118 (fun c118 => ?_) (fun c118 => ?_)
    · exact absurd c118 (by rw [h3, nI_leI (by omega) (by omega)]; omega)
    · refine fV.run iX8_best_121_10 oX8_best_121_10 (pc' := 112) (L' := [(0, .ref 35), (1, .int (nI si)), (2, .int (nI ei)), (3, .int (nI m)), (4, .int mo), (5, .int q), (6, .int (nI (wsU m 16).length)), (7, .int (nI (a ^ (wsU m 16).length))), (8, .int ((nI w) + 1))]) (st' := []) (S' := (wA S1 55 (upd (gA S1 55) (nI w).toNatClampNeg (gA S1 39 (nI w).toNatClampNeg)))) (P := vp_in (nI w) 16 ∧ vp_in (nI w) 16 ∧ True) rfl ⟨(vp_in_nI (by omega) (by decide)), (vp_in_nI (by omega) (by decide)), trivial⟩ ?_
      refine fV.to (L' := [(0, .ref 35), (1, .int (nI si)), (2, .int (nI ei)), (3, .int (nI m)), (4, .int mo), (5, .int q), (6, .int (nI (wsU m 16).length)), (7, .int (nI (a ^ (wsU m 16).length))), (8, .int (nI (w + 1)))]) (S' := wA S1 55 (upd (gA S1 55) w (gA T 39 w))) rfl (by rw [nI_1]) rfl (by rw [nI_clamp (by omega), hI.2.1]) (ih (w + 1) _ (by omega) ⟨hI.1.w56 _, hI.2.1, fun j hj => ?_⟩)
      show upd (gA S1 55) w (gA T 39 w) j = _
      by_cases ev : j = w
      · rw [ev, upd_y]
      · rw [upd_n _ _ ev]; exact hI.2.2 j (by omega)
def iX8_best_87_2 : List Instr := [.iload 8, .iload 6]
theorem oX8_best_87_2 : fOkB cX8_best 87 iX8_best_87_2 = true := by decide +kernel
theorem bX8_best_91 : fBk cX8_best 91 (.if_icmp .ge) 109 := ⟨18, by decide +kernel, by decide⟩
def iX8_best_109_2 : List Instr := [.iconst 0, .istore 8]
theorem oX8_best_109_2 : fOkB cX8_best 109 iX8_best_109_2 = true := by decide +kernel
def iX8_best_94_7 : List Instr := [.iload 7, .aload_n 0, .getfield 78, .imul, .istore 7, .iinc 8 1, .goto (-19)]
theorem oX8_best_94_7 : fOkB cX8_best 94 iX8_best_94_7 = true := by decide +kernel
set_option maxRecDepth 100000 in
theorem lpX8_pow {G : fG} {d : Nat} {T : fS} {a b c e si ei m : Nat} {PL : List pTh} {mo q : Int32} (H : hOk (hD T) a b c e) (hsi : si < c) (F : fdR T b PL) (hp : plOk b PL) (hq : plSq PL) (hmb : m < 2 ^ b) (hm6 : m < 65536) (hw4 : (wsU m 16).length ≤ 4) (hpw : 0 ≤ (gA T 42 si).toInt ∧ (gA T 42 si).toInt ≤ 1000) : ∀ (u k : Nat), k + u = (wsU m 16).length → fV G mX8_best (fZm G (d + 10) (fun r S' => r = some (.int (ask3 ((List.range (a ^ (wsU m 16).length)).foldl (fun o k => bsp (clV (gA T 36) (gA T 42 si) (erl (gI T 35 14) (leastF PL)) PL) (hD T) (wsU m 16) mo o (dgs a (wsU m 16).length k)) none) q)) ∧ ke T S')) 87 [(0, .ref 35), (1, .int (nI si)), (2, .int (nI ei)), (3, .int (nI m)), (4, .int mo), (5, .int q), (6, .int (nI (wsU m 16).length)), (7, .int (nI (a ^ k))), (8, .int (nI k))] [] T := by
  have hb16 : b ≤ 16 := H.2.1.2.1
  have ha8 : a ≤ 8 := H.1.2.2.1
  have ha1 : 1 ≤ a := H.1.2.1
  have hc4 : c ≤ 4 := H.2.2.1.2.1
  have hws : ∀ w ∈ wsU m 16, w < b := fun w hw => by rw [wsU16 hmb hb16] at hw; exact wsU_lt hw
  intro u
  induction u with
  | zero =>
    intro k hu
    refine fV.run iX8_best_87_2 oX8_best_87_2 (pc' := 91) (L' := [(0, .ref 35), (1, .int (nI si)), (2, .int (nI ei)), (3, .int (nI m)), (4, .int mo), (5, .int q), (6, .int (nI (wsU m 16).length)), (7, .int (nI (a ^ k))), (8, .int (nI k))]) (st' := [.int (nI (wsU m 16).length), .int (nI k)]) (S' := T) rfl trivial ?_
    refine fV.icmp_ge bX8_best_91 (fun c91 => ?_) (fun c91 => ?_)
    · refine fV.run iX8_best_109_2 oX8_best_109_2 (pc' := 112) (L' := [(0, .ref 35), (1, .int (nI si)), (2, .int (nI ei)), (3, .int (nI m)), (4, .int mo), (5, .int q), (6, .int (nI (wsU m 16).length)), (7, .int (nI (a ^ k))), (8, .int 0)]) (st' := []) (S' := T) rfl trivial ?_
      rw [show k = (wsU m 16).length by omega]
      exact lpX8_keep H hsi F hp hq hmb hm6 hw4 hpw b 0 T (by omega) ⟨kR.rf, rfl, fun j hj => absurd hj (by omega)⟩
    · exact absurd c91 (by rw [nI_leI (by omega) (by omega)]; omega)
  | succ u ih =>
    intro k hu
    refine fV.run iX8_best_87_2 oX8_best_87_2 (pc' := 91) (L' := [(0, .ref 35), (1, .int (nI si)), (2, .int (nI ei)), (3, .int (nI m)), (4, .int mo), (5, .int q), (6, .int (nI (wsU m 16).length)), (7, .int (nI (a ^ k))), (8, .int (nI k))]) (st' := [.int (nI (wsU m 16).length), .int (nI k)]) (S' := T) rfl trivial ?_
    refine fV.icmp_ge bX8_best_91 (fun c91 => ?_) (fun c91 => ?_)
    · exact absurd c91 (by rw [nI_leI (by omega) (by omega)]; omega)
    · refine fV.run iX8_best_94_7 oX8_best_94_7 (pc' := 87) (L' := [(0, .ref 35), (1, .int (nI si)), (2, .int (nI ei)), (3, .int (nI m)), (4, .int mo), (5, .int q), (6, .int (nI (wsU m 16).length)), (7, .int ((nI (a ^ k)) * (gI T 35 0))), (8, .int ((nI k) + 1))]) (st' := []) (S' := T) rfl trivial ?_
      exact fV.to (L' := [(0, .ref 35), (1, .int (nI si)), (2, .int (nI ei)), (3, .int (nI m)), (4, .int mo), (5, .int q), (6, .int (nI (wsU m 16).length)), (7, .int (nI (a ^ (k + 1)))), (8, .int (nI (k + 1)))]) rfl (by rw [show gI T 35 0 = nI a from H.1.1, nI_mul, nI_1, Nat.pow_succ]) rfl rfl (ih (k + 1) (by omega))
def iX8_best_0_3 : List Instr := [.aload_n 0, .iload_n 1, .iload_n 2]
theorem oX8_best_0_3 : fOkB cX8_best 0 iX8_best_0_3 = true := by decide +kernel
theorem dX8_best_3 : decode cX8_best 3 = .ok (.invokevirtual 201, 3) := by decide +kernel
theorem bX8_best_6 : fBk cX8_best 6 (.ifCond .ne) 13 := ⟨7, by decide +kernel, by decide⟩
def iX8_best_13_10 : List Instr := [.iload_n 3, .i2l, .lconst 0, .iconst 1, .aload_n 0, .getfield 89, .ishl, .iconst 1, .isub, .i2l]
theorem oX8_best_13_10 : fOkB cX8_best 13 iX8_best_13_10 = true := by decide +kernel
theorem dX8_best_25 : decode cX8_best 25 = .ok (.invokestatic 83, 3) := by decide +kernel
theorem bX8_best_28 : fBk cX8_best 28 (.ifCond .eq) 65 := ⟨37, by decide +kernel, by decide⟩
def iX8_best_65_1 : List Instr := [.sipush (-1002)]
theorem oX8_best_65_1 : fOkB cX8_best 65 iX8_best_65_1 = true := by decide +kernel
theorem dX8_best_68 : decode cX8_best 68 = .ok (.ireturn, 1) := by decide +kernel
def iX8_best_31_1 : List Instr := [.iload_n 3]
theorem oX8_best_31_1 : fOkB cX8_best 31 iX8_best_31_1 = true := by decide +kernel
set_option maxRecDepth 100000 in
theorem lX8_235 : Cond.methodLink RX8 235 yX8_bits ∈ fTB := fTB_at 911 rfl rfl
theorem dX8_best_32 : decode cX8_best 32 = .ok (.invokestatic 235, 3) := by decide +kernel
def iX8_best_35_1 : List Instr := [.iconst 4]
theorem oX8_best_35_1 : fOkB cX8_best 35 iX8_best_35_1 = true := by decide +kernel
theorem bX8_best_36 : fBk cX8_best 36 (.if_icmp .gt) 65 := ⟨29, by decide +kernel, by decide⟩
def iX8_best_39_4 : List Instr := [.iload 4, .i2l, .lconst 0, .ldc2_w 191]
theorem oX8_best_39_4 : fOkB cX8_best 39 iX8_best_39_4 = true := by decide +kernel
theorem dX8_best_46 : decode cX8_best 46 = .ok (.invokestatic 83, 3) := by decide +kernel
theorem bX8_best_49 : fBk cX8_best 49 (.ifCond .eq) 65 := ⟨16, by decide +kernel, by decide⟩
def iX8_best_52_4 : List Instr := [.iload 5, .i2l, .lconst 0, .ldc2_w 162]
theorem oX8_best_52_4 : fOkB cX8_best 52 iX8_best_52_4 = true := by decide +kernel
theorem dX8_best_59 : decode cX8_best 59 = .ok (.invokestatic 83, 3) := by decide +kernel
theorem bX8_best_62 : fBk cX8_best 62 (.ifCond .ne) 69 := ⟨7, by decide +kernel, by decide⟩
def iX8_best_69_3 : List Instr := [.aload_n 0, .iload_n 1, .iload_n 2]
theorem oX8_best_69_3 : fOkB cX8_best 69 iX8_best_69_3 = true := by decide +kernel
theorem dX8_best_72 : decode cX8_best 72 = .ok (.invokevirtual 206, 3) := by decide +kernel
def iX8_best_75_1 : List Instr := [.iload_n 3]
theorem oX8_best_75_1 : fOkB cX8_best 75 iX8_best_75_1 = true := by decide +kernel
theorem dX8_best_76 : decode cX8_best 76 = .ok (.invokestatic 235, 3) := by decide +kernel
def iX8_best_79_5 : List Instr := [.istore 6, .iconst 1, .istore 7, .iconst 0, .istore 8]
theorem oX8_best_79_5 : fOkB cX8_best 79 iX8_best_79_5 = true := by decide +kernel
def iX8_best_9_1 : List Instr := [.sipush (-1001)]
theorem oX8_best_9_1 : fOkB cX8_best 9 iX8_best_9_1 = true := by decide +kernel
theorem dX8_best_12 : decode cX8_best 12 = .ok (.ireturn, 1) := by decide +kernel
set_option maxRecDepth 100000 in
theorem qX8_best {G : fG} {d : Nat} {S : fS} (x y u mo q : Int32) {a b c e : Nat} (H : hOk (hD S) a b c e) : fCtr G (d + 10) mX8_best [.ref 35, .int x, .int y, .int u, .int mo, .int q] S (fun r S' => r = some (.int (oBest (hD S) a b x y u mo q)) ∧ ke S S') := by
  refine fCtr.of bXX8_best (Nat.le_of_ble_eq_true rfl) rfl ?_
  have hb16 : b ≤ 16 := H.2.1.2.1
  have ha8 : a ≤ 8 := H.1.2.2.1
  have hc4 : c ≤ 4 := H.2.2.1.2.1
  have he8 : e ≤ 8 := H.2.2.2.1.2.1
  have ho0 : 0 ≤ gI S 35 6 := by rw [show gI S 35 6 = nI c from H.2.2.1.1]; exact nI_pos' (by omega)
  have he0 : 0 ≤ gI S 35 10 := by rw [show gI S 35 10 = nI e from H.2.2.2.1.1]; exact nI_pos' (by omega)
  have hw0 : 0 ≤ gI S 35 3 := by rw [show gI S 35 3 = nI b from H.2.1.1]; exact nI_pos' (by omega)
  have hm3 : gI S 35 13 ≤ 3 := H.2.2.2.2.1.2
  have hm := most_N (m := gI S 35 13) H.2.2.2.2.1.1 hm3
  refine fV.run iX8_best_0_3 oX8_best_0_3 (pc' := 3) (L' := [(0, .ref 35), (1, .int x), (2, .int y), (3, .int u), (4, .int mo), (5, .int q)]) (st' := [.int y, .int x, .ref 35]) (S' := S) rfl trivial ?_
  refine fV.callV (M2 := mX8_areThere) (d := d + 9) (o := 35) (av := [.int x, .int y]) (rest := []) kX8_areThere dX8_best_3 lX8_201 rfl rfl rfl (Nat.le_of_ble_eq_true rfl) (fRoom (by decide)) ⟨Nat.le_refl _, Nat.le_refl _⟩ (qX8_areThere _ _ ho0 he0) ?_
  rintro _ S9 ⟨rfl, h9⟩
  rw [h9]
  clear h9 S9
  refine fV.to (pc' := 6) (L' := [(0, .ref 35), (1, .int x), (2, .int y), (3, .int u), (4, .int mo), (5, .int q)]) (st' := [.int (fB (decide ((0 ≤ x ∧ x < (gI S 35 6)) ∧ (0 ≤ y ∧ y < (gI S 35 10)))))]) (S' := S) rfl rfl rfl rfl ?_
  refine fV.if_ne bX8_best_6 (fun c6 => ?_) (fun c6 => ?_)
  · refine fV.run iX8_best_13_10 oX8_best_13_10 (pc' := 25) (L' := [(0, .ref 35), (1, .int x), (2, .int y), (3, .int u), (4, .int mo), (5, .int q)]) (st' := [.long (Int32.toInt64 ((1 <<< ((gI S 35 3) &&& 31)) - 1)), .long 0, .long (Int32.toInt64 u)]) (S' := S) rfl trivial ?_
    refine fV.callS (M2 := mX8_in) (d := d + 9) (av := [.long (Int32.toInt64 u), .long 0, .long (Int32.toInt64 ((1 <<< ((gI S 35 3) &&& 31)) - 1))]) (rest := []) kX8_in dX8_best_25 lX8_83 rfl rfl (Nat.le_of_ble_eq_true rfl) (fRoom (by decide)) ⟨Nat.le_refl _, Nat.le_refl _⟩ (qX8_inP _ _ _ (P := 0 ≤ u ∧ u ≤ ((1 <<< ((gI S 35 3) &&& 31)) - 1)) (and_congr (w_geN (by decide) _) (w_le _ _))) ?_
    rintro _ S9 ⟨rfl, h9⟩
    rw [h9]
    clear h9 S9
    refine fV.to (pc' := 28) (L' := [(0, .ref 35), (1, .int x), (2, .int y), (3, .int u), (4, .int mo), (5, .int q)]) (st' := [.int (fB (decide (0 ≤ u ∧ u ≤ ((1 <<< ((gI S 35 3) &&& 31)) - 1))))]) (S' := S) rfl rfl rfl rfl ?_
    refine fV.if_eq bX8_best_28 (fun c28 => ?_) (fun c28 => ?_)
    · refine fV.run iX8_best_65_1 oX8_best_65_1 (pc' := 68) (L' := [(0, .ref 35), (1, .int x), (2, .int y), (3, .int u), (4, .int mo), (5, .int q)]) (st' := [.int (-1002)]) (S' := S) rfl trivial ?_
      exact fV.iret rfl dX8_best_68 ⟨by unfold oBest; rw [if_pos (show thr (hD S) x y from by unfold thr; grind [fB, hD]), if_neg (fun z => fBd0.mp c28 z.1.1)], ke.rf⟩
    · refine fV.run iX8_best_31_1 oX8_best_31_1 (pc' := 32) (L' := [(0, .ref 35), (1, .int x), (2, .int y), (3, .int u), (4, .int mo), (5, .int q)]) (st' := [.int u]) (S' := S) rfl trivial ?_
      obtain ⟨m, hmb, hm6, rfl⟩ := set_N (b := b) hb16 (fBd1.mp c28).1 (by have h0 := (fBd1.mp c28).2; rw [show gI S 35 3 = nI b from H.2.1.1] at h0; exact h0)
      have hl16 : (wsU m 16).length ≤ 16 := by have := List.length_filter_le (bt1 m) (List.range 16); rwa [List.length_range] at this
      have h1le : isS (hD S) (nI m) ↔ (wsU m 16).length ≤ 4 := by unfold isS; rw [nI_clamp (by omega)]; exact ⟨fun z => z.2, fun z => ⟨fBd1.mp c28, z⟩⟩
      refine fV.callS (M2 := mX8_bits) (d := d + 9) (av := [.int (nI m)]) (rest := []) kX8_bits dX8_best_32 lX8_235 rfl rfl (Nat.le_of_ble_eq_true rfl) (fRoom (by decide)) ⟨Nat.le_refl _, Nat.le_refl _⟩ (qX8_bits hm6) ?_
      rintro _ S9 ⟨rfl, h9⟩
      rw [h9]
      clear h9 S9
      refine fV.to (pc' := 35) (L' := [(0, .ref 35), (1, .int x), (2, .int y), (3, .int (nI m)), (4, .int mo), (5, .int q)]) (st' := [.int (nI (wsU m 16).length)]) (S' := S) rfl rfl rfl rfl ?_
      refine fV.run iX8_best_35_1 oX8_best_35_1 (pc' := 36) (L' := [(0, .ref 35), (1, .int x), (2, .int y), (3, .int (nI m)), (4, .int mo), (5, .int q)]) (st' := [.int 4, .int (nI (wsU m 16).length)]) (S' := S) rfl trivial ?_
      refine fV.icmp_gt bX8_best_36 (fun c36 => ?_) (fun c36 => ?_)
      · refine fV.run iX8_best_65_1 oX8_best_65_1 (pc' := 68) (L' := [(0, .ref 35), (1, .int x), (2, .int y), (3, .int (nI m)), (4, .int mo), (5, .int q)]) (st' := [.int (-1002)]) (S' := S) rfl trivial ?_
        exact fV.iret rfl dX8_best_68 ⟨by unfold oBest; rw [if_pos (show thr (hD S) x y from by unfold thr; grind [fB, hD]), if_neg (fun z => by first | exact fBd0.mp c49 z.2.1 | exact fBd0.mp c62 z.2.2 | exact absurd ((nI_ltI (a := 4) (by decide) (by omega)).mp c36) (Nat.not_lt.mpr (h1le.mp z.1)))], ke.rf⟩
      · refine fV.run iX8_best_39_4 oX8_best_39_4 (pc' := 46) (L' := [(0, .ref 35), (1, .int x), (2, .int y), (3, .int (nI m)), (4, .int mo), (5, .int q)]) (st' := [.long 1000000, .long 0, .long (Int32.toInt64 mo)]) (S' := S) rfl trivial ?_
        refine fV.callS (M2 := mX8_in) (d := d + 9) (av := [.long (Int32.toInt64 mo), .long 0, .long 1000000]) (rest := []) kX8_in dX8_best_46 lX8_83 rfl rfl (Nat.le_of_ble_eq_true rfl) (fRoom (by decide)) ⟨Nat.le_refl _, Nat.le_refl _⟩ (qX8_inP _ _ _ (P := 0 ≤ mo ∧ mo ≤ 1000000) (and_congr (w_geN (by decide) _) (w_leN (by decide) _))) ?_
        rintro _ S9 ⟨rfl, h9⟩
        rw [h9]
        clear h9 S9
        refine fV.to (pc' := 49) (L' := [(0, .ref 35), (1, .int x), (2, .int y), (3, .int (nI m)), (4, .int mo), (5, .int q)]) (st' := [.int (fB (decide (0 ≤ mo ∧ mo ≤ 1000000)))]) (S' := S) rfl rfl rfl rfl ?_
        refine fV.if_eq bX8_best_49 (fun c49 => ?_) (fun c49 => ?_)
        · refine fV.run iX8_best_65_1 oX8_best_65_1 (pc' := 68) (L' := [(0, .ref 35), (1, .int x), (2, .int y), (3, .int (nI m)), (4, .int mo), (5, .int q)]) (st' := [.int (-1002)]) (S' := S) rfl trivial ?_
          exact fV.iret rfl dX8_best_68 ⟨by unfold oBest; rw [if_pos (show thr (hD S) x y from by unfold thr; grind [fB, hD]), if_neg (fun z => by first | exact fBd0.mp c49 z.2.1 | exact fBd0.mp c62 z.2.2 | exact absurd ((nI_ltI (a := 4) (by decide) (by omega)).mp c36) (Nat.not_lt.mpr (h1le.mp z.1)))], ke.rf⟩
        · refine fV.run iX8_best_52_4 oX8_best_52_4 (pc' := 59) (L' := [(0, .ref 35), (1, .int x), (2, .int y), (3, .int (nI m)), (4, .int mo), (5, .int q)]) (st' := [.long 2, .long 0, .long (Int32.toInt64 q)]) (S' := S) rfl trivial ?_
          refine fV.callS (M2 := mX8_in) (d := d + 9) (av := [.long (Int32.toInt64 q), .long 0, .long 2]) (rest := []) kX8_in dX8_best_59 lX8_83 rfl rfl (Nat.le_of_ble_eq_true rfl) (fRoom (by decide)) ⟨Nat.le_refl _, Nat.le_refl _⟩ (qX8_inP _ _ _ (P := 0 ≤ q ∧ q ≤ 2) (and_congr (w_geN (by decide) _) (w_leN (by decide) _))) ?_
          rintro _ S9 ⟨rfl, h9⟩
          rw [h9]
          clear h9 S9
          refine fV.to (pc' := 62) (L' := [(0, .ref 35), (1, .int x), (2, .int y), (3, .int (nI m)), (4, .int mo), (5, .int q)]) (st' := [.int (fB (decide (0 ≤ q ∧ q ≤ 2)))]) (S' := S) rfl rfl rfl rfl ?_
          refine fV.if_ne bX8_best_62 (fun c62 => ?_) (fun c62 => ?_)
          · refine fV.run iX8_best_69_3 oX8_best_69_3 (pc' := 72) (L' := [(0, .ref 35), (1, .int x), (2, .int y), (3, .int (nI m)), (4, .int mo), (5, .int q)]) (st' := [.int y, .int x, .ref 35]) (S' := S) rfl trivial ?_
            obtain ⟨si, hsi, rfl⟩ := n_in (x := x) (n := c) (by omega) (by grind [fB]) (by rw [← show gI S 35 6 = nI c from H.2.2.1.1]; grind [fB])
            obtain ⟨ei, hei, rfl⟩ := n_in (x := y) (n := e) (by omega) (by grind [fB]) (by rw [← show gI S 35 10 = nI e from H.2.2.2.1.1]; grind [fB])
            refine fV.callV (M2 := mX8_findPaths) (d := d + 9) (o := 35) (av := [.int (nI si), .int (nI ei)]) (rest := []) kX8_findPaths dX8_best_72 lX8_206 rfl rfl rfl (Nat.le_of_ble_eq_true rfl) (fRoom (by decide)) ⟨Nat.le_refl _, Nat.le_refl _⟩ (qX8_find (N := (gI S 35 13).toNatClampNeg + 1) H hsi hei (by omega) (by have := hm.1; rwa [Nat.zero_add] at this) hm.2.2 hm3) ?_
            rintro _ S9 ⟨rfl, hk9, hF9⟩
            obtain ⟨hp9, hq9, w39, hsf9, e37, e40, e43, ebo, hsh9, hpw9⟩ := fnd8 (lo := 0) (n := (gI S 35 13).toNatClampNeg + 1) H hsi hei hk9 (by omega)
            refine fV.to (pc' := 75) (L' := [(0, .ref 35), (1, .int (nI si)), (2, .int (nI ei)), (3, .int (nI m)), (4, .int mo), (5, .int q)]) (st' := []) (S' := S9) rfl rfl rfl rfl ?_
            refine fV.run iX8_best_75_1 oX8_best_75_1 (pc' := 76) (L' := [(0, .ref 35), (1, .int (nI si)), (2, .int (nI ei)), (3, .int (nI m)), (4, .int mo), (5, .int q)]) (st' := [.int (nI m)]) (S' := S9) rfl trivial ?_
            refine fV.callS (M2 := mX8_bits) (d := d + 9) (av := [.int (nI m)]) (rest := []) kX8_bits dX8_best_76 lX8_235 rfl rfl (Nat.le_of_ble_eq_true rfl) (fRoom (by decide)) ⟨Nat.le_refl _, Nat.le_refl _⟩ (qX8_bits hm6) ?_
            rintro _ S9 ⟨rfl, h9⟩
            rw [h9]
            clear h9 S9
            refine fV.to (pc' := 79) (L' := [(0, .ref 35), (1, .int (nI si)), (2, .int (nI ei)), (3, .int (nI m)), (4, .int mo), (5, .int q)]) (st' := [.int (nI (wsU m 16).length)]) (S' := S9) rfl rfl rfl rfl ?_
            refine fV.run iX8_best_79_5 oX8_best_79_5 (pc' := 87) (L' := [(0, .ref 35), (1, .int (nI si)), (2, .int (nI ei)), (3, .int (nI m)), (4, .int mo), (5, .int q), (6, .int (nI (wsU m 16).length)), (7, .int 1), (8, .int 0)]) (st' := []) (S' := S9) rfl trivial ?_
            have hw4 : (wsU m 16).length ≤ 4 := Nat.not_lt.mp (fun z => c36 ((nI_ltI (a := 4) (by decide) (by omega)).mpr z))
            have hob : oBest (hD S) a b (nI si) (nI ei) (nI m) mo q = ask3 ((List.range (a ^ (wsU m 16).length)).foldl (fun o k => bsp (clV (gA S9 36) (gA S9 42 si) (erl (gI S9 35 14) (leastF (plM (hD S) b si ei))) (plM (hD S) b si ei)) (hD S9) (wsU m 16) mo o (dgs a (wsU m 16).length k)) none) q := by
              unfold oBest
              rw [if_pos (show thr (hD S) (nI si) (nI ei) from ⟨⟨nI_pos' (by omega), by rw [show (hD S).2.2.1.1 = nI c from H.2.2.1.1, nI_ltI (by omega) (by omega)]; exact hsi⟩, nI_pos' (by omega), by rw [show (hD S).2.2.2.1.1 = nI e from H.2.2.2.1.1, nI_ltI (by omega) (by omega)]; exact hei⟩), if_pos (show isS (hD S) (nI m) ∧ (0 ≤ mo ∧ mo ≤ 1000000) ∧ (0 ≤ q ∧ q ≤ 2) from ⟨h1le.mpr hw4, fBd1.mp c49, fBd1.mp c62⟩), nI_clamp (by omega), nI_clamp (by omega), nI_clamp (by omega)]
              unfold bst
              rw [chs_code, ← hk9.1]
              rfl
            have H9 : hOk (hD S9) a b c e := by rw [hk9.1]; exact H
            rw [show (fun (r : Option Value) (S' : fS) => r = some (Value.int (oBest (hD S) a b (nI si) (nI ei) (nI m) mo q)) ∧ ke S S') = (fun r S' => r = some (Value.int (ask3 ((List.range (a ^ (wsU m 16).length)).foldl (fun o k => bsp (clV (gA S9 36) (gA S9 42 si) (erl (gI S9 35 14) (leastF (plM (hD S) b si ei))) (plM (hD S) b si ei)) (hD S9) (wsU m 16) mo o (dgs a (wsU m 16).length k)) none) q)) ∧ ke S9 S') from by funext r S'; rw [hob]; unfold ke; rw [hk9.1, hk9.2]]
            exact lpX8_pow H9 hsi hF9 hp9 hq9 hmb hm6 hw4 hpw9 _ 0 (Nat.zero_add _)
          · refine fV.run iX8_best_65_1 oX8_best_65_1 (pc' := 68) (L' := [(0, .ref 35), (1, .int x), (2, .int y), (3, .int (nI m)), (4, .int mo), (5, .int q)]) (st' := [.int (-1002)]) (S' := S) rfl trivial ?_
            exact fV.iret rfl dX8_best_68 ⟨by unfold oBest; rw [if_pos (show thr (hD S) x y from by unfold thr; grind [fB, hD]), if_neg (fun z => by first | exact fBd0.mp c49 z.2.1 | exact fBd0.mp c62 z.2.2 | exact absurd ((nI_ltI (a := 4) (by decide) (by omega)).mp c36) (Nat.not_lt.mpr (h1le.mp z.1)))], ke.rf⟩
  · refine fV.run iX8_best_9_1 oX8_best_9_1 (pc' := 12) (L' := [(0, .ref 35), (1, .int x), (2, .int y), (3, .int u), (4, .int mo), (5, .int q)]) (st' := [.int (-1001)]) (S' := S) rfl trivial ?_
    exact fV.iret rfl dX8_best_12 ⟨by unfold oBest; rw [if_neg (show ¬ thr (hD S) x y from by unfold thr; grind [fB, hD])], ke.rf⟩

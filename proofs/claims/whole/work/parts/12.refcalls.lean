/-! the reference's calls that change the hall -/
theorem w_geM1 (x : Int32) : (-1 : Int64) ≤ x.toInt64 ↔ -1 ≤ x := by rw [show (-1 : Int64) = (-1 : Int32).toInt64 from by decide, w_le]
def hSz (v : Int32) : Int32 := if v < 0 then -v else v
def rLen (en : Nat → Int32) (w : Nat) : Int32 := hSz (en (4 * w) - en (4 * w + 2)) + hSz (en (4 * w + 1) - en (4 * w + 3))
def hLen (en : Nat → Int32) (w : Nat) : Int32 := hHigh en w - hLow en w
theorem len_eq {en : Nat → Int32} {w : Nat} (hb : ∀ j, j < 4 → 0 ≤ en (4 * w + j) ∧ en (4 * w + j) ≤ 1000) (hs : (en (4 * w) = en (4 * w + 2) ∧ ¬ en (4 * w + 1) = en (4 * w + 3)) ∨ (¬ en (4 * w) = en (4 * w + 2) ∧ en (4 * w + 1) = en (4 * w + 3))) : rLen en w = hLen en w := by
  have h0 := hb 0 (by omega)
  have h1 := hb 1 (by omega)
  have h2 := hb 2 (by omega)
  have h3 := hb 3 (by omega)
  simp only [Nat.add_zero] at h0
  unfold rLen hLen hHigh hLow hSz
  generalize en (4 * w) = a at *
  generalize en (4 * w + 1) = b at *
  generalize en (4 * w + 2) = c at *
  generalize en (4 * w + 3) = e at *
  clear hb en w
  rcases hs with ⟨q1, q2⟩ | ⟨q1, q2⟩
  · subst q1
    simp only [if_true]
    by_cases z : b < e
    · rw [if_neg (show ¬ a - a < 0 by grind), if_pos (show b - e < 0 by grind), if_pos z, if_neg (show ¬ e < b by grind)]; grind
    · rw [if_neg (show ¬ a - a < 0 by grind), if_neg (show ¬ b - e < 0 by grind), if_neg z, if_pos (show e < b by grind)]; grind
  · subst q2
    simp only [if_neg q1]
    by_cases z : a < c
    · rw [if_pos (show a - c < 0 by grind), if_neg (show ¬ b - b < 0 by grind), if_pos z, if_neg (show ¬ c < a by grind)]; grind
    · rw [if_neg (show ¬ a - c < 0 by grind), if_neg (show ¬ b - b < 0 by grind), if_neg z, if_pos (show c < a by grind)]; grind
theorem vin4 {w : Nat} (hw : w < 16) : vp_in (4 * nI w) 64 ∧ vp_in (4 * nI w + 1) 64 ∧ vp_in (4 * nI w + 2) 64 ∧ vp_in (4 * nI w + 3) 64 := by
  have e : ∀ j : Nat, j < 4 → vp_in (nI (4 * w + j)) 64 := fun j hj => vp_in_nI (by omega) (by decide)
  refine ⟨vinN (w := 4 * w) (by omega) (by decide) (by simp [nI, Int32.ofNat_mul]), vinN (w := 4 * w + 1) (by omega) (by decide) (by simp [nI, Int32.ofNat_add, Int32.ofNat_mul]), vinN (w := 4 * w + 2) (by omega) (by decide) (by simp [nI, Int32.ofNat_add, Int32.ofNat_mul]), vinN (w := 4 * w + 3) (by omega) (by decide) (by simp [nI, Int32.ofNat_add, Int32.ofNat_mul])⟩
set_option maxRecDepth 100000 in
theorem qX8_inP {G : fG} {d : Nat} {S : fS} (v a b : Int64) {P : Prop} [Decidable P] (hP : (a ≤ v ∧ v ≤ b) ↔ P)  : fCtr G (d) mX8_in [.long v, .long a, .long b] S (fun r S' => r = some (.int (fB (decide (P)))) ∧ S' = S) := by
  refine fCtr.of bXX8_in (Nat.le_of_ble_eq_true rfl) rfl ?_
  refine fV.run iX8_in_0_3 oX8_in_0_3 (pc' := 3) (L' := [(0, .long v), (2, .long a), (4, .long b)]) (st' := [.int (lg_cmp v a)]) (S' := S) rfl trivial ?_
  refine fV.lif_lt bX8_in_3 (fun c3 => ?_) (fun c3 => ?_)
  · refine fV.run iX8_in_17_1 oX8_in_17_1 (pc' := 18) (L' := [(0, .long v), (2, .long a), (4, .long b)]) (st' := [.int 0]) (S' := S) rfl trivial ?_
    exact fV.zret rfl dX8_in_18 (by decide) ⟨fBf (by grind [fB]), rfl⟩
  · refine fV.run iX8_in_6_3 oX8_in_6_3 (pc' := 10) (L' := [(0, .long v), (2, .long a), (4, .long b)]) (st' := [.int (lg_cmp v b)]) (S' := S) rfl trivial ?_
    refine fV.lif_gt bX8_in_10 (fun c10 => ?_) (fun c10 => ?_)
    · refine fV.run iX8_in_17_1 oX8_in_17_1 (pc' := 18) (L' := [(0, .long v), (2, .long a), (4, .long b)]) (st' := [.int 0]) (S' := S) rfl trivial ?_
      exact fV.zret rfl dX8_in_18 (by decide) ⟨fBf (by grind [fB]), rfl⟩
    · refine fV.run iX8_in_13_2 oX8_in_13_2 (pc' := 18) (L' := [(0, .long v), (2, .long a), (4, .long b)]) (st' := [.int 1]) (S' := S) rfl trivial ?_
      exact fV.zret rfl dX8_in_18 (by decide) ⟨fBt (by grind [fB]), rfl⟩
def iX8_isPoint_0_4 : List Instr := [.iload_n 0, .i2l, .lconst 0, .ldc2_w 81]
theorem oX8_isPoint_0_4 : fOkB cX8_isPoint 0 iX8_isPoint_0_4 = true := by decide +kernel
set_option maxRecDepth 100000 in
theorem lX8_83 : Cond.methodLink RX8 83 yX8_in ∈ fTB := fTB_at 712 rfl rfl
theorem dX8_isPoint_6 : decode cX8_isPoint 6 = .ok (.invokestatic 83, 3) := by decide +kernel
theorem bX8_isPoint_9 : fBk cX8_isPoint 9 (.ifCond .eq) 28 := ⟨19, by decide +kernel, by decide⟩
def iX8_isPoint_28_1 : List Instr := [.iconst 0]
theorem oX8_isPoint_28_1 : fOkB cX8_isPoint 28 iX8_isPoint_28_1 = true := by decide +kernel
theorem dX8_isPoint_29 : decode cX8_isPoint 29 = .ok (.ireturn, 1) := by decide +kernel
def iX8_isPoint_12_4 : List Instr := [.iload_n 1, .i2l, .lconst 0, .ldc2_w 81]
theorem oX8_isPoint_12_4 : fOkB cX8_isPoint 12 iX8_isPoint_12_4 = true := by decide +kernel
theorem dX8_isPoint_18 : decode cX8_isPoint 18 = .ok (.invokestatic 83, 3) := by decide +kernel
theorem bX8_isPoint_21 : fBk cX8_isPoint 21 (.ifCond .eq) 28 := ⟨7, by decide +kernel, by decide⟩
def iX8_isPoint_24_2 : List Instr := [.iconst 1, .goto 4]
theorem oX8_isPoint_24_2 : fOkB cX8_isPoint 24 iX8_isPoint_24_2 = true := by decide +kernel
set_option maxRecDepth 100000 in
theorem qX8_isPoint {G : fG} {d : Nat} {S : fS} (x y : Int32)  : fCtr G (d + 1) mX8_isPoint [.int x, .int y] S (fun r S' => r = some (.int (fB (decide ((0 ≤ x ∧ x ≤ 1000) ∧ (0 ≤ y ∧ y ≤ 1000))))) ∧ S' = S) := by
  refine fCtr.of bXX8_isPoint (Nat.le_of_ble_eq_true rfl) rfl ?_
  refine fV.run iX8_isPoint_0_4 oX8_isPoint_0_4 (pc' := 6) (L' := [(0, .int x), (1, .int y)]) (st' := [.long 1000, .long 0, .long (Int32.toInt64 x)]) (S' := S) rfl trivial ?_
  refine fV.callS (M2 := mX8_in) (d := d) (av := [.long (Int32.toInt64 x), .long 0, .long 1000]) (rest := []) kX8_in dX8_isPoint_6 lX8_83 rfl rfl (Nat.le_of_ble_eq_true rfl) (fRoom (by decide)) ⟨Nat.le_refl _, Nat.le_refl _⟩ (qX8_inP _ _ _ (P := 0 ≤ x ∧ x ≤ 1000) (and_congr (w_geN (by decide) _) (w_leN (by decide) _))) ?_
  rintro _ S9 ⟨rfl, h9⟩
  rw [h9]
  clear h9 S9
  refine fV.to (pc' := 9) (L' := [(0, .int x), (1, .int y)]) (st' := [.int (fB (decide (0 ≤ x ∧ x ≤ 1000)))]) (S' := S) rfl rfl rfl rfl ?_
  refine fV.if_eq bX8_isPoint_9 (fun c9 => ?_) (fun c9 => ?_)
  · refine fV.run iX8_isPoint_28_1 oX8_isPoint_28_1 (pc' := 29) (L' := [(0, .int x), (1, .int y)]) (st' := [.int 0]) (S' := S) rfl trivial ?_
    exact fV.zret rfl dX8_isPoint_29 (by decide) ⟨fBf (by grind [fB]), rfl⟩
  · refine fV.run iX8_isPoint_12_4 oX8_isPoint_12_4 (pc' := 18) (L' := [(0, .int x), (1, .int y)]) (st' := [.long 1000, .long 0, .long (Int32.toInt64 y)]) (S' := S) rfl trivial ?_
    refine fV.callS (M2 := mX8_in) (d := d) (av := [.long (Int32.toInt64 y), .long 0, .long 1000]) (rest := []) kX8_in dX8_isPoint_18 lX8_83 rfl rfl (Nat.le_of_ble_eq_true rfl) (fRoom (by decide)) ⟨Nat.le_refl _, Nat.le_refl _⟩ (qX8_inP _ _ _ (P := 0 ≤ y ∧ y ≤ 1000) (and_congr (w_geN (by decide) _) (w_leN (by decide) _))) ?_
    rintro _ S9 ⟨rfl, h9⟩
    rw [h9]
    clear h9 S9
    refine fV.to (pc' := 21) (L' := [(0, .int x), (1, .int y)]) (st' := [.int (fB (decide (0 ≤ y ∧ y ≤ 1000)))]) (S' := S) rfl rfl rfl rfl ?_
    refine fV.if_eq bX8_isPoint_21 (fun c21 => ?_) (fun c21 => ?_)
    · refine fV.run iX8_isPoint_28_1 oX8_isPoint_28_1 (pc' := 29) (L' := [(0, .int x), (1, .int y)]) (st' := [.int 0]) (S' := S) rfl trivial ?_
      exact fV.zret rfl dX8_isPoint_29 (by decide) ⟨fBf (by grind [fB]), rfl⟩
    · refine fV.run iX8_isPoint_24_2 oX8_isPoint_24_2 (pc' := 29) (L' := [(0, .int x), (1, .int y)]) (st' := [.int 1]) (S' := S) rfl trivial ?_
      exact fV.zret rfl dX8_isPoint_29 (by decide) ⟨fBt (by grind [fB]), rfl⟩
def iX8_isStuff_0_8 : List Instr := [.iload_n 1, .i2l, .lconst 0, .aload_n 0, .getfield 78, .iconst 1, .isub, .i2l]
theorem oX8_isStuff_0_8 : fOkB cX8_isStuff 0 iX8_isStuff_0_8 = true := by decide +kernel
theorem dX8_isStuff_10 : decode cX8_isStuff 10 = .ok (.invokestatic 83, 3) := by decide +kernel
theorem dX8_isStuff_13 : decode cX8_isStuff 13 = .ok (.ireturn, 1) := by decide +kernel
set_option maxRecDepth 100000 in
theorem qX8_isStuff {G : fG} {d : Nat} {S : fS} (x : Int32) (hs0 : 0 ≤ gI S 35 0) : fCtr G (d + 1) mX8_isStuff [.ref 35, .int x] S (fun r S' => r = some (.int (fB (decide (0 ≤ x ∧ x < gI S 35 0)))) ∧ S' = S) := by
  refine fCtr.of bXX8_isStuff (Nat.le_of_ble_eq_true rfl) rfl ?_
  refine fV.run iX8_isStuff_0_8 oX8_isStuff_0_8 (pc' := 10) (L' := [(0, .ref 35), (1, .int x)]) (st' := [.long (Int32.toInt64 ((gI S 35 0) - 1)), .long 0, .long (Int32.toInt64 x)]) (S' := S) rfl trivial ?_
  refine fV.callS (M2 := mX8_in) (d := d) (av := [.long (Int32.toInt64 x), .long 0, .long (Int32.toInt64 ((gI S 35 0) - 1))]) (rest := []) kX8_in dX8_isStuff_10 lX8_83 rfl rfl (Nat.le_of_ble_eq_true rfl) (fRoom (by decide)) ⟨Nat.le_refl _, Nat.le_refl _⟩ (qX8_inP _ _ _ (P := 0 ≤ x ∧ x ≤ ((gI S 35 0) - 1)) (and_congr (w_geN (by decide) _) (w_le _ _))) ?_
  rintro _ S9 ⟨rfl, h9⟩
  rw [h9]
  clear h9 S9
  refine fV.to (pc' := 13) (L' := [(0, .ref 35), (1, .int x)]) (st' := [.int (fB (decide (0 ≤ x ∧ x ≤ ((gI S 35 0) - 1))))]) (S' := S) rfl rfl rfl rfl ?_
  exact fV.zret rfl dX8_isStuff_13 (fB01 _) ⟨congrArg (fun b => some (Value.int (fB b))) (decide_eq_decide.mpr (by grind)), rfl⟩
def iX8_isWall_0_8 : List Instr := [.iload_n 1, .i2l, .lconst 0, .aload_n 0, .getfield 89, .iconst 1, .isub, .i2l]
theorem oX8_isWall_0_8 : fOkB cX8_isWall 0 iX8_isWall_0_8 = true := by decide +kernel
theorem dX8_isWall_10 : decode cX8_isWall 10 = .ok (.invokestatic 83, 3) := by decide +kernel
theorem dX8_isWall_13 : decode cX8_isWall 13 = .ok (.ireturn, 1) := by decide +kernel
set_option maxRecDepth 100000 in
theorem qX8_isWall {G : fG} {d : Nat} {S : fS} (x : Int32) (hw0 : 0 ≤ gI S 35 3) : fCtr G (d + 1) mX8_isWall [.ref 35, .int x] S (fun r S' => r = some (.int (fB (decide (0 ≤ x ∧ x < gI S 35 3)))) ∧ S' = S) := by
  refine fCtr.of bXX8_isWall (Nat.le_of_ble_eq_true rfl) rfl ?_
  refine fV.run iX8_isWall_0_8 oX8_isWall_0_8 (pc' := 10) (L' := [(0, .ref 35), (1, .int x)]) (st' := [.long (Int32.toInt64 ((gI S 35 3) - 1)), .long 0, .long (Int32.toInt64 x)]) (S' := S) rfl trivial ?_
  refine fV.callS (M2 := mX8_in) (d := d) (av := [.long (Int32.toInt64 x), .long 0, .long (Int32.toInt64 ((gI S 35 3) - 1))]) (rest := []) kX8_in dX8_isWall_10 lX8_83 rfl rfl (Nat.le_of_ble_eq_true rfl) (fRoom (by decide)) ⟨Nat.le_refl _, Nat.le_refl _⟩ (qX8_inP _ _ _ (P := 0 ≤ x ∧ x ≤ ((gI S 35 3) - 1)) (and_congr (w_geN (by decide) _) (w_le _ _))) ?_
  rintro _ S9 ⟨rfl, h9⟩
  rw [h9]
  clear h9 S9
  refine fV.to (pc' := 13) (L' := [(0, .ref 35), (1, .int x)]) (st' := [.int (fB (decide (0 ≤ x ∧ x ≤ ((gI S 35 3) - 1))))]) (S' := S) rfl rfl rfl rfl ?_
  exact fV.zret rfl dX8_isWall_13 (fB01 _) ⟨congrArg (fun b => some (Value.int (fB b))) (decide_eq_decide.mpr (by grind)), rfl⟩
def iX8_isSource_0_8 : List Instr := [.iload_n 1, .i2l, .lconst 0, .aload_n 0, .getfield 103, .iconst 1, .isub, .i2l]
theorem oX8_isSource_0_8 : fOkB cX8_isSource 0 iX8_isSource_0_8 = true := by decide +kernel
theorem dX8_isSource_10 : decode cX8_isSource 10 = .ok (.invokestatic 83, 3) := by decide +kernel
theorem dX8_isSource_13 : decode cX8_isSource 13 = .ok (.ireturn, 1) := by decide +kernel
set_option maxRecDepth 100000 in
theorem qX8_isSource {G : fG} {d : Nat} {S : fS} (x : Int32) (ho0 : 0 ≤ gI S 35 6) : fCtr G (d + 1) mX8_isSource [.ref 35, .int x] S (fun r S' => r = some (.int (fB (decide (0 ≤ x ∧ x < gI S 35 6)))) ∧ S' = S) := by
  refine fCtr.of bXX8_isSource (Nat.le_of_ble_eq_true rfl) rfl ?_
  refine fV.run iX8_isSource_0_8 oX8_isSource_0_8 (pc' := 10) (L' := [(0, .ref 35), (1, .int x)]) (st' := [.long (Int32.toInt64 ((gI S 35 6) - 1)), .long 0, .long (Int32.toInt64 x)]) (S' := S) rfl trivial ?_
  refine fV.callS (M2 := mX8_in) (d := d) (av := [.long (Int32.toInt64 x), .long 0, .long (Int32.toInt64 ((gI S 35 6) - 1))]) (rest := []) kX8_in dX8_isSource_10 lX8_83 rfl rfl (Nat.le_of_ble_eq_true rfl) (fRoom (by decide)) ⟨Nat.le_refl _, Nat.le_refl _⟩ (qX8_inP _ _ _ (P := 0 ≤ x ∧ x ≤ ((gI S 35 6) - 1)) (and_congr (w_geN (by decide) _) (w_le _ _))) ?_
  rintro _ S9 ⟨rfl, h9⟩
  rw [h9]
  clear h9 S9
  refine fV.to (pc' := 13) (L' := [(0, .ref 35), (1, .int x)]) (st' := [.int (fB (decide (0 ≤ x ∧ x ≤ ((gI S 35 6) - 1))))]) (S' := S) rfl rfl rfl rfl ?_
  exact fV.zret rfl dX8_isSource_13 (fB01 _) ⟨congrArg (fun b => some (Value.int (fB b))) (decide_eq_decide.mpr (by grind)), rfl⟩
def iX8_isSeat_0_8 : List Instr := [.iload_n 1, .i2l, .lconst 0, .aload_n 0, .getfield 106, .iconst 1, .isub, .i2l]
theorem oX8_isSeat_0_8 : fOkB cX8_isSeat 0 iX8_isSeat_0_8 = true := by decide +kernel
theorem dX8_isSeat_10 : decode cX8_isSeat 10 = .ok (.invokestatic 83, 3) := by decide +kernel
theorem dX8_isSeat_13 : decode cX8_isSeat 13 = .ok (.ireturn, 1) := by decide +kernel
set_option maxRecDepth 100000 in
theorem qX8_isSeat {G : fG} {d : Nat} {S : fS} (x : Int32) (he0 : 0 ≤ gI S 35 10) : fCtr G (d + 1) mX8_isSeat [.ref 35, .int x] S (fun r S' => r = some (.int (fB (decide (0 ≤ x ∧ x < gI S 35 10)))) ∧ S' = S) := by
  refine fCtr.of bXX8_isSeat (Nat.le_of_ble_eq_true rfl) rfl ?_
  refine fV.run iX8_isSeat_0_8 oX8_isSeat_0_8 (pc' := 10) (L' := [(0, .ref 35), (1, .int x)]) (st' := [.long (Int32.toInt64 ((gI S 35 10) - 1)), .long 0, .long (Int32.toInt64 x)]) (S' := S) rfl trivial ?_
  refine fV.callS (M2 := mX8_in) (d := d) (av := [.long (Int32.toInt64 x), .long 0, .long (Int32.toInt64 ((gI S 35 10) - 1))]) (rest := []) kX8_in dX8_isSeat_10 lX8_83 rfl rfl (Nat.le_of_ble_eq_true rfl) (fRoom (by decide)) ⟨Nat.le_refl _, Nat.le_refl _⟩ (qX8_inP _ _ _ (P := 0 ≤ x ∧ x ≤ ((gI S 35 10) - 1)) (and_congr (w_geN (by decide) _) (w_le _ _))) ?_
  rintro _ S9 ⟨rfl, h9⟩
  rw [h9]
  clear h9 S9
  refine fV.to (pc' := 13) (L' := [(0, .ref 35), (1, .int x)]) (st' := [.int (fB (decide (0 ≤ x ∧ x ≤ ((gI S 35 10) - 1))))]) (S' := S) rfl rfl rfl rfl ?_
  exact fV.zret rfl dX8_isSeat_13 (fB01 _) ⟨congrArg (fun b => some (Value.int (fB b))) (decide_eq_decide.mpr (by grind)), rfl⟩
def iX8_areThere_0_2 : List Instr := [.aload_n 0, .iload_n 1]
theorem oX8_areThere_0_2 : fOkB cX8_areThere 0 iX8_areThere_0_2 = true := by decide +kernel
set_option maxRecDepth 100000 in
theorem lX8_109 : Cond.methodLink RX8 109 yX8_isSource ∈ fTB := fTB_at 751 rfl rfl
theorem dX8_areThere_2 : decode cX8_areThere 2 = .ok (.invokevirtual 109, 3) := by decide +kernel
theorem bX8_areThere_5 : fBk cX8_areThere 5 (.ifCond .eq) 20 := ⟨15, by decide +kernel, by decide⟩
def iX8_areThere_20_1 : List Instr := [.iconst 0]
theorem oX8_areThere_20_1 : fOkB cX8_areThere 20 iX8_areThere_20_1 = true := by decide +kernel
theorem dX8_areThere_21 : decode cX8_areThere 21 = .ok (.ireturn, 1) := by decide +kernel
def iX8_areThere_8_2 : List Instr := [.aload_n 0, .iload_n 2]
theorem oX8_areThere_8_2 : fOkB cX8_areThere 8 iX8_areThere_8_2 = true := by decide +kernel
set_option maxRecDepth 100000 in
theorem lX8_112 : Cond.methodLink RX8 112 yX8_isSeat ∈ fTB := fTB_at 755 rfl rfl
theorem dX8_areThere_10 : decode cX8_areThere 10 = .ok (.invokevirtual 112, 3) := by decide +kernel
theorem bX8_areThere_13 : fBk cX8_areThere 13 (.ifCond .eq) 20 := ⟨7, by decide +kernel, by decide⟩
def iX8_areThere_16_2 : List Instr := [.iconst 1, .goto 4]
theorem oX8_areThere_16_2 : fOkB cX8_areThere 16 iX8_areThere_16_2 = true := by decide +kernel
set_option maxRecDepth 100000 in
theorem qX8_areThere {G : fG} {d : Nat} {S : fS} (x y : Int32) (ho0 : 0 ≤ gI S 35 6) (he0 : 0 ≤ gI S 35 10) : fCtr G (d + 2) mX8_areThere [.ref 35, .int x, .int y] S (fun r S' => r = some (.int (fB (decide ((0 ≤ x ∧ x < gI S 35 6) ∧ (0 ≤ y ∧ y < gI S 35 10))))) ∧ S' = S) := by
  refine fCtr.of bXX8_areThere (Nat.le_of_ble_eq_true rfl) rfl ?_
  refine fV.run iX8_areThere_0_2 oX8_areThere_0_2 (pc' := 2) (L' := [(0, .ref 35), (1, .int x), (2, .int y)]) (st' := [.int x, .ref 35]) (S' := S) rfl trivial ?_
  refine fV.callV (M2 := mX8_isSource) (d := d + 1) (o := 35) (av := [.int x]) (rest := []) kX8_isSource dX8_areThere_2 lX8_109 rfl rfl rfl (Nat.le_of_ble_eq_true rfl) (fRoom (by decide)) ⟨Nat.le_refl _, Nat.le_refl _⟩ (qX8_isSource _ ho0) ?_
  rintro _ S9 ⟨rfl, h9⟩
  rw [h9]
  clear h9 S9
  refine fV.to (pc' := 5) (L' := [(0, .ref 35), (1, .int x), (2, .int y)]) (st' := [.int (fB (decide (0 ≤ x ∧ x < (gI S 35 6))))]) (S' := S) rfl rfl rfl rfl ?_
  refine fV.if_eq bX8_areThere_5 (fun c5 => ?_) (fun c5 => ?_)
  · refine fV.run iX8_areThere_20_1 oX8_areThere_20_1 (pc' := 21) (L' := [(0, .ref 35), (1, .int x), (2, .int y)]) (st' := [.int 0]) (S' := S) rfl trivial ?_
    exact fV.zret rfl dX8_areThere_21 (by decide) ⟨fBf (by grind [fB]), rfl⟩
  · refine fV.run iX8_areThere_8_2 oX8_areThere_8_2 (pc' := 10) (L' := [(0, .ref 35), (1, .int x), (2, .int y)]) (st' := [.int y, .ref 35]) (S' := S) rfl trivial ?_
    refine fV.callV (M2 := mX8_isSeat) (d := d + 1) (o := 35) (av := [.int y]) (rest := []) kX8_isSeat dX8_areThere_10 lX8_112 rfl rfl rfl (Nat.le_of_ble_eq_true rfl) (fRoom (by decide)) ⟨Nat.le_refl _, Nat.le_refl _⟩ (qX8_isSeat _ he0) ?_
    rintro _ S9 ⟨rfl, h9⟩
    rw [h9]
    clear h9 S9
    refine fV.to (pc' := 13) (L' := [(0, .ref 35), (1, .int x), (2, .int y)]) (st' := [.int (fB (decide (0 ≤ y ∧ y < (gI S 35 10))))]) (S' := S) rfl rfl rfl rfl ?_
    refine fV.if_eq bX8_areThere_13 (fun c13 => ?_) (fun c13 => ?_)
    · refine fV.run iX8_areThere_20_1 oX8_areThere_20_1 (pc' := 21) (L' := [(0, .ref 35), (1, .int x), (2, .int y)]) (st' := [.int 0]) (S' := S) rfl trivial ?_
      exact fV.zret rfl dX8_areThere_21 (by decide) ⟨fBf (by grind [fB]), rfl⟩
    · refine fV.run iX8_areThere_16_2 oX8_areThere_16_2 (pc' := 21) (L' := [(0, .ref 35), (1, .int x), (2, .int y)]) (st' := [.int 1]) (S' := S) rfl trivial ?_
      exact fV.zret rfl dX8_areThere_21 (by decide) ⟨fBt (by grind [fB]), rfl⟩
def iX8_stuff_0_4 : List Instr := [.iload_n 1, .i2l, .lconst 0, .ldc2_w 87]
theorem oX8_stuff_0_4 : fOkB cX8_stuff 0 iX8_stuff_0_4 = true := by decide +kernel
theorem dX8_stuff_6 : decode cX8_stuff 6 = .ok (.invokestatic 83, 3) := by decide +kernel
theorem bX8_stuff_9 : fBk cX8_stuff 9 (.ifCond .eq) 24 := ⟨15, by decide +kernel, by decide⟩
def iX8_stuff_24_1 : List Instr := [.sipush (-1002)]
theorem oX8_stuff_24_1 : fOkB cX8_stuff 24 iX8_stuff_24_1 = true := by decide +kernel
theorem dX8_stuff_27 : decode cX8_stuff 27 = .ok (.ireturn, 1) := by decide +kernel
def iX8_stuff_12_4 : List Instr := [.iload_n 2, .i2l, .lconst 0, .ldc2_w 81]
theorem oX8_stuff_12_4 : fOkB cX8_stuff 12 iX8_stuff_12_4 = true := by decide +kernel
theorem dX8_stuff_18 : decode cX8_stuff 18 = .ok (.invokestatic 83, 3) := by decide +kernel
theorem bX8_stuff_21 : fBk cX8_stuff 21 (.ifCond .ne) 28 := ⟨7, by decide +kernel, by decide⟩
def iX8_stuff_28_3 : List Instr := [.aload_n 0, .getfield 78, .bipush 8]
theorem oX8_stuff_28_3 : fOkB cX8_stuff 28 iX8_stuff_28_3 = true := by decide +kernel
theorem bX8_stuff_34 : fBk cX8_stuff 34 (.if_icmp .ne) 41 := ⟨7, by decide +kernel, by decide⟩
def iX8_stuff_41_22 : List Instr := [.aload_n 0, .getfield 7, .aload_n 0, .getfield 78, .iload_n 1, .iastore, .aload_n 0, .getfield 13, .aload_n 0, .getfield 78, .iload_n 2, .iastore, .aload_n 0, .dup, .getfield 78, .iconst 1, .iadd, .putfield 78, .aload_n 0, .getfield 78, .iconst 1, .isub]
theorem oX8_stuff_41_22 : fOkB cX8_stuff 41 iX8_stuff_41_22 = true := by decide +kernel
theorem dX8_stuff_77 : decode cX8_stuff 77 = .ok (.ireturn, 1) := by decide +kernel
def iX8_stuff_37_1 : List Instr := [.sipush (-1004)]
theorem oX8_stuff_37_1 : fOkB cX8_stuff 37 iX8_stuff_37_1 = true := by decide +kernel
theorem dX8_stuff_40 : decode cX8_stuff 40 = .ok (.ireturn, 1) := by decide +kernel
set_option maxRecDepth 100000 in
theorem qX8_stuff {G : fG} {d : Nat} {S : fS} (s c : Int32) (hs0 : 0 ≤ gI S 35 0) (hs8 : gI S 35 0 ≤ 8) (hw0 : 0 ≤ gI S 35 3) (hw8 : gI S 35 3 ≤ 16) (ho0 : 0 ≤ gI S 35 6) (ho8 : gI S 35 6 ≤ 4) (he0 : 0 ≤ gI S 35 10) (he8 : gI S 35 10 ≤ 8) : fCtr G (d + 1) mX8_stuff [.ref 35, .int s, .int c] S (qD S (oStuff (hD S) s c)) := by
  refine fCtr.of bXX8_stuff (Nat.le_of_ble_eq_true rfl) rfl ?_
  refine fV.run iX8_stuff_0_4 oX8_stuff_0_4 (pc' := 6) (L' := [(0, .ref 35), (1, .int s), (2, .int c)]) (st' := [.long 100, .long 0, .long (Int32.toInt64 s)]) (S' := S) rfl trivial ?_
  refine fV.callS (M2 := mX8_in) (d := d) (av := [.long (Int32.toInt64 s), .long 0, .long 100]) (rest := []) kX8_in dX8_stuff_6 lX8_83 rfl rfl (Nat.le_of_ble_eq_true rfl) (fRoom (by decide)) ⟨Nat.le_refl _, Nat.le_refl _⟩ (qX8_inP _ _ _ (P := 0 ≤ s ∧ s ≤ 100) (and_congr (w_geN (by decide) _) (w_leN (by decide) _))) ?_
  rintro _ S9 ⟨rfl, h9⟩
  rw [h9]
  clear h9 S9
  refine fV.to (pc' := 9) (L' := [(0, .ref 35), (1, .int s), (2, .int c)]) (st' := [.int (fB (decide (0 ≤ s ∧ s ≤ 100)))]) (S' := S) rfl rfl rfl rfl ?_
  refine fV.if_eq bX8_stuff_9 (fun c9 => ?_) (fun c9 => ?_)
  · refine fV.run iX8_stuff_24_1 oX8_stuff_24_1 (pc' := 27) (L' := [(0, .ref 35), (1, .int s), (2, .int c)]) (st' := [.int (-1002)]) (S' := S) rfl trivial ?_
    exact fV.iret rfl dX8_stuff_27 (by unfold oStuff; rw [if_neg (by grind [fB, hD])]; exact ⟨rfl, rfl, rfl⟩)
  · refine fV.run iX8_stuff_12_4 oX8_stuff_12_4 (pc' := 18) (L' := [(0, .ref 35), (1, .int s), (2, .int c)]) (st' := [.long 1000, .long 0, .long (Int32.toInt64 c)]) (S' := S) rfl trivial ?_
    refine fV.callS (M2 := mX8_in) (d := d) (av := [.long (Int32.toInt64 c), .long 0, .long 1000]) (rest := []) kX8_in dX8_stuff_18 lX8_83 rfl rfl (Nat.le_of_ble_eq_true rfl) (fRoom (by decide)) ⟨Nat.le_refl _, Nat.le_refl _⟩ (qX8_inP _ _ _ (P := 0 ≤ c ∧ c ≤ 1000) (and_congr (w_geN (by decide) _) (w_leN (by decide) _))) ?_
    rintro _ S9 ⟨rfl, h9⟩
    rw [h9]
    clear h9 S9
    refine fV.to (pc' := 21) (L' := [(0, .ref 35), (1, .int s), (2, .int c)]) (st' := [.int (fB (decide (0 ≤ c ∧ c ≤ 1000)))]) (S' := S) rfl rfl rfl rfl ?_
    refine fV.if_ne bX8_stuff_21 (fun c21 => ?_) (fun c21 => ?_)
    · refine fV.run iX8_stuff_28_3 oX8_stuff_28_3 (pc' := 34) (L' := [(0, .ref 35), (1, .int s), (2, .int c)]) (st' := [.int 8, .int (gI S 35 0)]) (S' := S) rfl trivial ?_
      refine fV.icmp_ne bX8_stuff_34 (fun c34 => ?_) (fun c34 => ?_)
      · refine fV.run iX8_stuff_41_22 oX8_stuff_41_22 (pc' := 77) (L' := [(0, .ref 35), (1, .int s), (2, .int c)]) (st' := [.int (((gI S 35 0) + 1) - 1)]) (S' := (wI (wA (wA S 36 (upd (gA S 36) (gI S 35 0).toNatClampNeg s)) 37 (upd (gA S 37) (gI S 35 0).toNatClampNeg c)) 35 0 ((gI S 35 0) + 1))) (P := vp_in (gI S 35 0) 8 ∧ vp_in (gI S 35 0) 8 ∧ True) rfl ⟨(vin (by decide) (by grind [fB]) (by grind [fB])), (vin (by decide) (by grind [fB]) (by grind [fB])), trivial⟩ ?_
        exact fV.iret rfl dX8_stuff_77 (by unfold oStuff; rw [if_pos (by grind [fB, hD]), if_neg (by grind [fB, hD])]; exact ⟨by simp only [Int32.add_sub_cancel]; rfl, rfl, rfl⟩)
      · refine fV.run iX8_stuff_37_1 oX8_stuff_37_1 (pc' := 40) (L' := [(0, .ref 35), (1, .int s), (2, .int c)]) (st' := [.int (-1004)]) (S' := S) rfl trivial ?_
        exact fV.iret rfl dX8_stuff_40 (by unfold oStuff; rw [if_pos (by grind [fB, hD]), if_pos (by grind [fB, hD])]; exact ⟨rfl, rfl, rfl⟩)
    · refine fV.run iX8_stuff_24_1 oX8_stuff_24_1 (pc' := 27) (L' := [(0, .ref 35), (1, .int s), (2, .int c)]) (st' := [.int (-1002)]) (S' := S) rfl trivial ?_
      exact fV.iret rfl dX8_stuff_27 (by unfold oStuff; rw [if_neg (by grind [fB, hD])]; exact ⟨rfl, rfl, rfl⟩)
def iX8_source_0_2 : List Instr := [.iload_n 1, .iload_n 2]
theorem oX8_source_0_2 : fOkB cX8_source 0 iX8_source_0_2 = true := by decide +kernel
set_option maxRecDepth 100000 in
theorem lX8_96 : Cond.methodLink RX8 96 yX8_isPoint ∈ fTB := fTB_at 724 rfl rfl
theorem dX8_source_2 : decode cX8_source 2 = .ok (.invokestatic 96, 3) := by decide +kernel
theorem bX8_source_5 : fBk cX8_source 5 (.ifCond .eq) 20 := ⟨15, by decide +kernel, by decide⟩
def iX8_source_20_1 : List Instr := [.sipush (-1002)]
theorem oX8_source_20_1 : fOkB cX8_source 20 iX8_source_20_1 = true := by decide +kernel
theorem dX8_source_23 : decode cX8_source 23 = .ok (.ireturn, 1) := by decide +kernel
def iX8_source_8_4 : List Instr := [.iload_n 3, .i2l, .lconst 1, .ldc2_w 81]
theorem oX8_source_8_4 : fOkB cX8_source 8 iX8_source_8_4 = true := by decide +kernel
theorem dX8_source_14 : decode cX8_source 14 = .ok (.invokestatic 83, 3) := by decide +kernel
theorem bX8_source_17 : fBk cX8_source 17 (.ifCond .ne) 24 := ⟨7, by decide +kernel, by decide⟩
def iX8_source_24_3 : List Instr := [.aload_n 0, .getfield 103, .iconst 4]
theorem oX8_source_24_3 : fOkB cX8_source 24 iX8_source_24_3 = true := by decide +kernel
theorem bX8_source_29 : fBk cX8_source 29 (.if_icmp .ne) 36 := ⟨7, by decide +kernel, by decide⟩
def iX8_source_36_28 : List Instr := [.aload_n 0, .getfield 22, .aload_n 0, .getfield 103, .iload_n 1, .iastore, .aload_n 0, .getfield 25, .aload_n 0, .getfield 103, .iload_n 2, .iastore, .aload_n 0, .getfield 28, .aload_n 0, .getfield 103, .iload_n 3, .iastore, .aload_n 0, .dup, .getfield 103, .iconst 1, .iadd, .putfield 103, .aload_n 0, .getfield 103, .iconst 1, .isub]
theorem oX8_source_36_28 : fOkB cX8_source 36 iX8_source_36_28 = true := by decide +kernel
theorem dX8_source_82 : decode cX8_source 82 = .ok (.ireturn, 1) := by decide +kernel
def iX8_source_32_1 : List Instr := [.sipush (-1004)]
theorem oX8_source_32_1 : fOkB cX8_source 32 iX8_source_32_1 = true := by decide +kernel
theorem dX8_source_35 : decode cX8_source 35 = .ok (.ireturn, 1) := by decide +kernel
set_option maxRecDepth 100000 in
theorem qX8_source {G : fG} {d : Nat} {S : fS} (x y p : Int32) (hs0 : 0 ≤ gI S 35 0) (hs8 : gI S 35 0 ≤ 8) (hw0 : 0 ≤ gI S 35 3) (hw8 : gI S 35 3 ≤ 16) (ho0 : 0 ≤ gI S 35 6) (ho8 : gI S 35 6 ≤ 4) (he0 : 0 ≤ gI S 35 10) (he8 : gI S 35 10 ≤ 8) : fCtr G (d + 2) mX8_source [.ref 35, .int x, .int y, .int p] S (qD S (oSource (hD S) x y p)) := by
  refine fCtr.of bXX8_source (Nat.le_of_ble_eq_true rfl) rfl ?_
  refine fV.run iX8_source_0_2 oX8_source_0_2 (pc' := 2) (L' := [(0, .ref 35), (1, .int x), (2, .int y), (3, .int p)]) (st' := [.int y, .int x]) (S' := S) rfl trivial ?_
  refine fV.callS (M2 := mX8_isPoint) (d := d + 1) (av := [.int x, .int y]) (rest := []) kX8_isPoint dX8_source_2 lX8_96 rfl rfl (Nat.le_of_ble_eq_true rfl) (fRoom (by decide)) ⟨Nat.le_refl _, Nat.le_refl _⟩ (qX8_isPoint _ _) ?_
  rintro _ S9 ⟨rfl, h9⟩
  rw [h9]
  clear h9 S9
  refine fV.to (pc' := 5) (L' := [(0, .ref 35), (1, .int x), (2, .int y), (3, .int p)]) (st' := [.int (fB (decide ((0 ≤ x ∧ x ≤ 1000) ∧ (0 ≤ y ∧ y ≤ 1000))))]) (S' := S) rfl rfl rfl rfl ?_
  refine fV.if_eq bX8_source_5 (fun c5 => ?_) (fun c5 => ?_)
  · refine fV.run iX8_source_20_1 oX8_source_20_1 (pc' := 23) (L' := [(0, .ref 35), (1, .int x), (2, .int y), (3, .int p)]) (st' := [.int (-1002)]) (S' := S) rfl trivial ?_
    exact fV.iret rfl dX8_source_23 (by unfold oSource; rw [if_neg (by grind [fB, hD])]; exact ⟨rfl, rfl, rfl⟩)
  · refine fV.run iX8_source_8_4 oX8_source_8_4 (pc' := 14) (L' := [(0, .ref 35), (1, .int x), (2, .int y), (3, .int p)]) (st' := [.long 1000, .long 1, .long (Int32.toInt64 p)]) (S' := S) rfl trivial ?_
    refine fV.callS (M2 := mX8_in) (d := d + 1) (av := [.long (Int32.toInt64 p), .long 1, .long 1000]) (rest := []) kX8_in dX8_source_14 lX8_83 rfl rfl (Nat.le_of_ble_eq_true rfl) (fRoom (by decide)) ⟨Nat.le_refl _, Nat.le_refl _⟩ (qX8_inP _ _ _ (P := 1 ≤ p ∧ p ≤ 1000) (and_congr (w_geN (by decide) _) (w_leN (by decide) _))) ?_
    rintro _ S9 ⟨rfl, h9⟩
    rw [h9]
    clear h9 S9
    refine fV.to (pc' := 17) (L' := [(0, .ref 35), (1, .int x), (2, .int y), (3, .int p)]) (st' := [.int (fB (decide (1 ≤ p ∧ p ≤ 1000)))]) (S' := S) rfl rfl rfl rfl ?_
    refine fV.if_ne bX8_source_17 (fun c17 => ?_) (fun c17 => ?_)
    · refine fV.run iX8_source_24_3 oX8_source_24_3 (pc' := 29) (L' := [(0, .ref 35), (1, .int x), (2, .int y), (3, .int p)]) (st' := [.int 4, .int (gI S 35 6)]) (S' := S) rfl trivial ?_
      refine fV.icmp_ne bX8_source_29 (fun c29 => ?_) (fun c29 => ?_)
      · refine fV.run iX8_source_36_28 oX8_source_36_28 (pc' := 82) (L' := [(0, .ref 35), (1, .int x), (2, .int y), (3, .int p)]) (st' := [.int (((gI S 35 6) + 1) - 1)]) (S' := (wI (wA (wA (wA S 40 (upd (gA S 40) (gI S 35 6).toNatClampNeg x)) 41 (upd (gA S 41) (gI S 35 6).toNatClampNeg y)) 42 (upd (gA S 42) (gI S 35 6).toNatClampNeg p)) 35 6 ((gI S 35 6) + 1))) (P := vp_in (gI S 35 6) 4 ∧ vp_in (gI S 35 6) 4 ∧ vp_in (gI S 35 6) 4 ∧ True) rfl ⟨(vin (by decide) (by grind [fB]) (by grind [fB])), (vin (by decide) (by grind [fB]) (by grind [fB])), (vin (by decide) (by grind [fB]) (by grind [fB])), trivial⟩ ?_
        exact fV.iret rfl dX8_source_82 (by unfold oSource; rw [if_pos (by grind [fB, hD]), if_neg (by grind [fB, hD])]; exact ⟨by simp only [Int32.add_sub_cancel]; rfl, rfl, rfl⟩)
      · refine fV.run iX8_source_32_1 oX8_source_32_1 (pc' := 35) (L' := [(0, .ref 35), (1, .int x), (2, .int y), (3, .int p)]) (st' := [.int (-1004)]) (S' := S) rfl trivial ?_
        exact fV.iret rfl dX8_source_35 (by unfold oSource; rw [if_pos (by grind [fB, hD]), if_pos (by grind [fB, hD])]; exact ⟨rfl, rfl, rfl⟩)
    · refine fV.run iX8_source_20_1 oX8_source_20_1 (pc' := 23) (L' := [(0, .ref 35), (1, .int x), (2, .int y), (3, .int p)]) (st' := [.int (-1002)]) (S' := S) rfl trivial ?_
      exact fV.iret rfl dX8_source_23 (by unfold oSource; rw [if_neg (by grind [fB, hD])]; exact ⟨rfl, rfl, rfl⟩)
def iX8_seat_0_2 : List Instr := [.iload_n 1, .iload_n 2]
theorem oX8_seat_0_2 : fOkB cX8_seat 0 iX8_seat_0_2 = true := by decide +kernel
theorem dX8_seat_2 : decode cX8_seat 2 = .ok (.invokestatic 96, 3) := by decide +kernel
theorem bX8_seat_5 : fBk cX8_seat 5 (.ifCond .ne) 12 := ⟨7, by decide +kernel, by decide⟩
def iX8_seat_12_3 : List Instr := [.aload_n 0, .getfield 106, .bipush 8]
theorem oX8_seat_12_3 : fOkB cX8_seat 12 iX8_seat_12_3 = true := by decide +kernel
theorem bX8_seat_18 : fBk cX8_seat 18 (.if_icmp .ne) 25 := ⟨7, by decide +kernel, by decide⟩
def iX8_seat_25_22 : List Instr := [.aload_n 0, .getfield 31, .aload_n 0, .getfield 106, .iload_n 1, .iastore, .aload_n 0, .getfield 34, .aload_n 0, .getfield 106, .iload_n 2, .iastore, .aload_n 0, .dup, .getfield 106, .iconst 1, .iadd, .putfield 106, .aload_n 0, .getfield 106, .iconst 1, .isub]
theorem oX8_seat_25_22 : fOkB cX8_seat 25 iX8_seat_25_22 = true := by decide +kernel
theorem dX8_seat_61 : decode cX8_seat 61 = .ok (.ireturn, 1) := by decide +kernel
def iX8_seat_21_1 : List Instr := [.sipush (-1004)]
theorem oX8_seat_21_1 : fOkB cX8_seat 21 iX8_seat_21_1 = true := by decide +kernel
theorem dX8_seat_24 : decode cX8_seat 24 = .ok (.ireturn, 1) := by decide +kernel
def iX8_seat_8_1 : List Instr := [.sipush (-1002)]
theorem oX8_seat_8_1 : fOkB cX8_seat 8 iX8_seat_8_1 = true := by decide +kernel
theorem dX8_seat_11 : decode cX8_seat 11 = .ok (.ireturn, 1) := by decide +kernel
set_option maxRecDepth 100000 in
theorem qX8_seat {G : fG} {d : Nat} {S : fS} (x y : Int32) (hs0 : 0 ≤ gI S 35 0) (hs8 : gI S 35 0 ≤ 8) (hw0 : 0 ≤ gI S 35 3) (hw8 : gI S 35 3 ≤ 16) (ho0 : 0 ≤ gI S 35 6) (ho8 : gI S 35 6 ≤ 4) (he0 : 0 ≤ gI S 35 10) (he8 : gI S 35 10 ≤ 8) : fCtr G (d + 2) mX8_seat [.ref 35, .int x, .int y] S (qD S (oSeat (hD S) x y)) := by
  refine fCtr.of bXX8_seat (Nat.le_of_ble_eq_true rfl) rfl ?_
  refine fV.run iX8_seat_0_2 oX8_seat_0_2 (pc' := 2) (L' := [(0, .ref 35), (1, .int x), (2, .int y)]) (st' := [.int y, .int x]) (S' := S) rfl trivial ?_
  refine fV.callS (M2 := mX8_isPoint) (d := d + 1) (av := [.int x, .int y]) (rest := []) kX8_isPoint dX8_seat_2 lX8_96 rfl rfl (Nat.le_of_ble_eq_true rfl) (fRoom (by decide)) ⟨Nat.le_refl _, Nat.le_refl _⟩ (qX8_isPoint _ _) ?_
  rintro _ S9 ⟨rfl, h9⟩
  rw [h9]
  clear h9 S9
  refine fV.to (pc' := 5) (L' := [(0, .ref 35), (1, .int x), (2, .int y)]) (st' := [.int (fB (decide ((0 ≤ x ∧ x ≤ 1000) ∧ (0 ≤ y ∧ y ≤ 1000))))]) (S' := S) rfl rfl rfl rfl ?_
  refine fV.if_ne bX8_seat_5 (fun c5 => ?_) (fun c5 => ?_)
  · refine fV.run iX8_seat_12_3 oX8_seat_12_3 (pc' := 18) (L' := [(0, .ref 35), (1, .int x), (2, .int y)]) (st' := [.int 8, .int (gI S 35 10)]) (S' := S) rfl trivial ?_
    refine fV.icmp_ne bX8_seat_18 (fun c18 => ?_) (fun c18 => ?_)
    · refine fV.run iX8_seat_25_22 oX8_seat_25_22 (pc' := 61) (L' := [(0, .ref 35), (1, .int x), (2, .int y)]) (st' := [.int (((gI S 35 10) + 1) - 1)]) (S' := (wI (wA (wA S 43 (upd (gA S 43) (gI S 35 10).toNatClampNeg x)) 44 (upd (gA S 44) (gI S 35 10).toNatClampNeg y)) 35 10 ((gI S 35 10) + 1))) (P := vp_in (gI S 35 10) 8 ∧ vp_in (gI S 35 10) 8 ∧ True) rfl ⟨(vin (by decide) (by grind [fB]) (by grind [fB])), (vin (by decide) (by grind [fB]) (by grind [fB])), trivial⟩ ?_
      exact fV.iret rfl dX8_seat_61 (by unfold oSeat; rw [if_pos (by grind [fB, hD]), if_neg (by grind [fB, hD])]; exact ⟨by simp only [Int32.add_sub_cancel]; rfl, rfl, rfl⟩)
    · refine fV.run iX8_seat_21_1 oX8_seat_21_1 (pc' := 24) (L' := [(0, .ref 35), (1, .int x), (2, .int y)]) (st' := [.int (-1004)]) (S' := S) rfl trivial ?_
      exact fV.iret rfl dX8_seat_24 (by unfold oSeat; rw [if_pos (by grind [fB, hD]), if_pos (by grind [fB, hD])]; exact ⟨rfl, rfl, rfl⟩)
  · refine fV.run iX8_seat_8_1 oX8_seat_8_1 (pc' := 11) (L' := [(0, .ref 35), (1, .int x), (2, .int y)]) (st' := [.int (-1002)]) (S' := S) rfl trivial ?_
    exact fV.iret rfl dX8_seat_11 (by unfold oSeat; rw [if_neg (by grind [fB, hD])]; exact ⟨rfl, rfl, rfl⟩)
def iX8_cover_0_2 : List Instr := [.aload_n 0, .iload_n 1]
theorem oX8_cover_0_2 : fOkB cX8_cover 0 iX8_cover_0_2 = true := by decide +kernel
set_option maxRecDepth 100000 in
theorem lX8_100 : Cond.methodLink RX8 100 yX8_isWall ∈ fTB := fTB_at 731 rfl rfl
theorem dX8_cover_2 : decode cX8_cover 2 = .ok (.invokevirtual 100, 3) := by decide +kernel
theorem bX8_cover_5 : fBk cX8_cover 5 (.ifCond .eq) 16 := ⟨11, by decide +kernel, by decide⟩
def iX8_cover_16_1 : List Instr := [.sipush (-1001)]
theorem oX8_cover_16_1 : fOkB cX8_cover 16 iX8_cover_16_1 = true := by decide +kernel
theorem dX8_cover_19 : decode cX8_cover 19 = .ok (.ireturn, 1) := by decide +kernel
def iX8_cover_8_2 : List Instr := [.aload_n 0, .iload_n 2]
theorem oX8_cover_8_2 : fOkB cX8_cover 8 iX8_cover_8_2 = true := by decide +kernel
set_option maxRecDepth 100000 in
theorem lX8_92 : Cond.methodLink RX8 92 yX8_isStuff ∈ fTB := fTB_at 720 rfl rfl
theorem dX8_cover_10 : decode cX8_cover 10 = .ok (.invokevirtual 92, 3) := by decide +kernel
theorem bX8_cover_13 : fBk cX8_cover 13 (.ifCond .ne) 20 := ⟨7, by decide +kernel, by decide⟩
def iX8_cover_20_11 : List Instr := [.aload_n 0, .getfield 19, .iload_n 1, .iaload, .istore_n 3, .aload_n 0, .getfield 19, .iload_n 1, .iload_n 2, .iastore, .iload_n 3]
theorem oX8_cover_20_11 : fOkB cX8_cover 20 iX8_cover_20_11 = true := by decide +kernel
theorem dX8_cover_35 : decode cX8_cover 35 = .ok (.ireturn, 1) := by decide +kernel
set_option maxRecDepth 100000 in
theorem qX8_cover {G : fG} {d : Nat} {S : fS} (w m : Int32) (hs0 : 0 ≤ gI S 35 0) (hs8 : gI S 35 0 ≤ 8) (hw0 : 0 ≤ gI S 35 3) (hw8 : gI S 35 3 ≤ 16) (ho0 : 0 ≤ gI S 35 6) (ho8 : gI S 35 6 ≤ 4) (he0 : 0 ≤ gI S 35 10) (he8 : gI S 35 10 ≤ 8) : fCtr G (d + 2) mX8_cover [.ref 35, .int w, .int m] S (qD S (oCover (hD S) w m)) := by
  refine fCtr.of bXX8_cover (Nat.le_of_ble_eq_true rfl) rfl ?_
  refine fV.run iX8_cover_0_2 oX8_cover_0_2 (pc' := 2) (L' := [(0, .ref 35), (1, .int w), (2, .int m)]) (st' := [.int w, .ref 35]) (S' := S) rfl trivial ?_
  refine fV.callV (M2 := mX8_isWall) (d := d + 1) (o := 35) (av := [.int w]) (rest := []) kX8_isWall dX8_cover_2 lX8_100 rfl rfl rfl (Nat.le_of_ble_eq_true rfl) (fRoom (by decide)) ⟨Nat.le_refl _, Nat.le_refl _⟩ (qX8_isWall _ hw0) ?_
  rintro _ S9 ⟨rfl, h9⟩
  rw [h9]
  clear h9 S9
  refine fV.to (pc' := 5) (L' := [(0, .ref 35), (1, .int w), (2, .int m)]) (st' := [.int (fB (decide (0 ≤ w ∧ w < (gI S 35 3))))]) (S' := S) rfl rfl rfl rfl ?_
  refine fV.if_eq bX8_cover_5 (fun c5 => ?_) (fun c5 => ?_)
  · refine fV.run iX8_cover_16_1 oX8_cover_16_1 (pc' := 19) (L' := [(0, .ref 35), (1, .int w), (2, .int m)]) (st' := [.int (-1001)]) (S' := S) rfl trivial ?_
    exact fV.iret rfl dX8_cover_19 (by unfold oCover; rw [if_neg (by grind [fB, hD])]; exact ⟨rfl, rfl, rfl⟩)
  · refine fV.run iX8_cover_8_2 oX8_cover_8_2 (pc' := 10) (L' := [(0, .ref 35), (1, .int w), (2, .int m)]) (st' := [.int m, .ref 35]) (S' := S) rfl trivial ?_
    refine fV.callV (M2 := mX8_isStuff) (d := d + 1) (o := 35) (av := [.int m]) (rest := []) kX8_isStuff dX8_cover_10 lX8_92 rfl rfl rfl (Nat.le_of_ble_eq_true rfl) (fRoom (by decide)) ⟨Nat.le_refl _, Nat.le_refl _⟩ (qX8_isStuff _ hs0) ?_
    rintro _ S9 ⟨rfl, h9⟩
    rw [h9]
    clear h9 S9
    refine fV.to (pc' := 13) (L' := [(0, .ref 35), (1, .int w), (2, .int m)]) (st' := [.int (fB (decide (0 ≤ m ∧ m < (gI S 35 0))))]) (S' := S) rfl rfl rfl rfl ?_
    refine fV.if_ne bX8_cover_13 (fun c13 => ?_) (fun c13 => ?_)
    · refine fV.run iX8_cover_20_11 oX8_cover_20_11 (pc' := 35) (L' := [(0, .ref 35), (1, .int w), (2, .int m), (3, .int (gA S 39 w.toNatClampNeg))]) (st' := [.int (gA S 39 w.toNatClampNeg)]) (S' := (wA S 39 (upd (gA S 39) w.toNatClampNeg m))) (P := vp_in w 16 ∧ vp_in w 16 ∧ True) rfl ⟨(vin (by decide) (by grind [fB]) (by grind [fB])), (vin (by decide) (by grind [fB]) (by grind [fB])), trivial⟩ ?_
      exact fV.iret rfl dX8_cover_35 (by unfold oCover; rw [if_pos (by grind [fB, hD])]; exact ⟨rfl, rfl, rfl⟩)
    · refine fV.run iX8_cover_16_1 oX8_cover_16_1 (pc' := 19) (L' := [(0, .ref 35), (1, .int w), (2, .int m)]) (st' := [.int (-1001)]) (S' := S) rfl trivial ?_
      exact fV.iret rfl dX8_cover_19 (by unfold oCover; rw [if_neg (by grind [fB, hD])]; exact ⟨rfl, rfl, rfl⟩)
def iX8_back_0_2 : List Instr := [.aload_n 0, .getfield 89]
theorem oX8_back_0_2 : fOkB cX8_back 0 iX8_back_0_2 = true := by decide +kernel
theorem bX8_back_4 : fBk cX8_back 4 (.ifCond .ne) 11 := ⟨7, by decide +kernel, by decide⟩
def iX8_back_11_8 : List Instr := [.aload_n 0, .dup, .getfield 89, .iconst 1, .isub, .putfield 89, .aload_n 0, .getfield 89]
theorem oX8_back_11_8 : fOkB cX8_back 11 iX8_back_11_8 = true := by decide +kernel
theorem dX8_back_25 : decode cX8_back 25 = .ok (.ireturn, 1) := by decide +kernel
def iX8_back_7_1 : List Instr := [.sipush (-1003)]
theorem oX8_back_7_1 : fOkB cX8_back 7 iX8_back_7_1 = true := by decide +kernel
theorem dX8_back_10 : decode cX8_back 10 = .ok (.ireturn, 1) := by decide +kernel
set_option maxRecDepth 100000 in
theorem qX8_back {G : fG} {d : Nat} {S : fS}   : fCtr G (d) mX8_back [.ref 35] S (qD S (oBack (hD S) )) := by
  refine fCtr.of bXX8_back (Nat.le_of_ble_eq_true rfl) rfl ?_
  refine fV.run iX8_back_0_2 oX8_back_0_2 (pc' := 4) (L' := [(0, .ref 35)]) (st' := [.int (gI S 35 3)]) (S' := S) rfl trivial ?_
  refine fV.if_ne bX8_back_4 (fun c4 => ?_) (fun c4 => ?_)
  · refine fV.run iX8_back_11_8 oX8_back_11_8 (pc' := 25) (L' := [(0, .ref 35)]) (st' := [.int ((gI S 35 3) - 1)]) (S' := (wI S 35 3 ((gI S 35 3) - 1))) rfl trivial ?_
    exact fV.iret rfl dX8_back_25 (by unfold oBack; rw [if_neg (by grind [fB, hD])]; exact ⟨rfl, rfl, rfl⟩)
  · refine fV.run iX8_back_7_1 oX8_back_7_1 (pc' := 10) (L' := [(0, .ref 35)]) (st' := [.int (-1003)]) (S' := S) rfl trivial ?_
    exact fV.iret rfl dX8_back_10 (by unfold oBack; rw [if_pos (by grind [fB, hD])]; exact ⟨rfl, rfl, rfl⟩)
def iX8_wall_0_2 : List Instr := [.aload_n 0, .iload 5]
theorem oX8_wall_0_2 : fOkB cX8_wall 0 iX8_wall_0_2 = true := by decide +kernel
theorem dX8_wall_3 : decode cX8_wall 3 = .ok (.invokevirtual 92, 3) := by decide +kernel
theorem bX8_wall_6 : fBk cX8_wall 6 (.ifCond .ne) 13 := ⟨7, by decide +kernel, by decide⟩
def iX8_wall_13_2 : List Instr := [.iload_n 1, .iload_n 2]
theorem oX8_wall_13_2 : fOkB cX8_wall 13 iX8_wall_13_2 = true := by decide +kernel
theorem dX8_wall_15 : decode cX8_wall 15 = .ok (.invokestatic 96, 3) := by decide +kernel
theorem bX8_wall_18 : fBk cX8_wall 18 (.ifCond .eq) 54 := ⟨36, by decide +kernel, by decide⟩
def iX8_wall_54_1 : List Instr := [.sipush (-1002)]
theorem oX8_wall_54_1 : fOkB cX8_wall 54 iX8_wall_54_1 = true := by decide +kernel
theorem dX8_wall_57 : decode cX8_wall 57 = .ok (.ireturn, 1) := by decide +kernel
def iX8_wall_21_2 : List Instr := [.iload_n 3, .iload 4]
theorem oX8_wall_21_2 : fOkB cX8_wall 21 iX8_wall_21_2 = true := by decide +kernel
theorem dX8_wall_24 : decode cX8_wall 24 = .ok (.invokestatic 96, 3) := by decide +kernel
theorem bX8_wall_27 : fBk cX8_wall 27 (.ifCond .eq) 54 := ⟨27, by decide +kernel, by decide⟩
def iX8_wall_30_2 : List Instr := [.iload_n 1, .iload_n 3]
theorem oX8_wall_30_2 : fOkB cX8_wall 30 iX8_wall_30_2 = true := by decide +kernel
theorem bX8_wall_32 : fBk cX8_wall 32 (.if_icmp .ne) 39 := ⟨7, by decide +kernel, by decide⟩
def iX8_wall_39_3 : List Instr := [.iconst 0, .iload_n 2, .iload 4]
theorem oX8_wall_39_3 : fOkB cX8_wall 39 iX8_wall_39_3 = true := by decide +kernel
theorem bX8_wall_43 : fBk cX8_wall 43 (.if_icmp .ne) 50 := ⟨7, by decide +kernel, by decide⟩
def iX8_wall_50_1 : List Instr := [.iconst 0]
theorem oX8_wall_50_1 : fOkB cX8_wall 50 iX8_wall_50_1 = true := by decide +kernel
theorem bX8_wall_51 : fBk cX8_wall 51 (.if_icmp .ne) 58 := ⟨7, by decide +kernel, by decide⟩
def iX8_wall_46_2 : List Instr := [.iconst 1, .goto 4]
theorem oX8_wall_46_2 : fOkB cX8_wall 46 iX8_wall_46_2 = true := by decide +kernel
def iX8_wall_58_3 : List Instr := [.aload_n 0, .getfield 89, .bipush 16]
theorem oX8_wall_58_3 : fOkB cX8_wall 58 iX8_wall_58_3 = true := by decide +kernel
theorem bX8_wall_64 : fBk cX8_wall 64 (.if_icmp .ne) 71 := ⟨7, by decide +kernel, by decide⟩
def iX8_wall_71_54 : List Instr := [.aload_n 0, .getfield 16, .iconst 4, .aload_n 0, .getfield 89, .imul, .iload_n 1, .iastore, .aload_n 0, .getfield 16, .iconst 4, .aload_n 0, .getfield 89, .imul, .iconst 1, .iadd, .iload_n 2, .iastore, .aload_n 0, .getfield 16, .iconst 4, .aload_n 0, .getfield 89, .imul, .iconst 2, .iadd, .iload_n 3, .iastore, .aload_n 0, .getfield 16, .iconst 4, .aload_n 0, .getfield 89, .imul, .iconst 3, .iadd, .iload 4, .iastore, .aload_n 0, .getfield 19, .aload_n 0, .getfield 89, .iload 5, .iastore, .aload_n 0, .dup, .getfield 89, .iconst 1, .iadd, .putfield 89, .aload_n 0, .getfield 89, .iconst 1, .isub]
theorem oX8_wall_71_54 : fOkB cX8_wall 71 iX8_wall_71_54 = true := by decide +kernel
theorem dX8_wall_153 : decode cX8_wall 153 = .ok (.ireturn, 1) := by decide +kernel
def iX8_wall_67_1 : List Instr := [.sipush (-1004)]
theorem oX8_wall_67_1 : fOkB cX8_wall 67 iX8_wall_67_1 = true := by decide +kernel
theorem dX8_wall_70 : decode cX8_wall 70 = .ok (.ireturn, 1) := by decide +kernel
def iX8_wall_35_4 : List Instr := [.iconst 1, .goto 4, .iload_n 2, .iload 4]
theorem oX8_wall_35_4 : fOkB cX8_wall 35 iX8_wall_35_4 = true := by decide +kernel
def iX8_wall_9_1 : List Instr := [.sipush (-1001)]
theorem oX8_wall_9_1 : fOkB cX8_wall 9 iX8_wall_9_1 = true := by decide +kernel
theorem dX8_wall_12 : decode cX8_wall 12 = .ok (.ireturn, 1) := by decide +kernel
set_option maxRecDepth 100000 in
theorem qX8_wall {G : fG} {d : Nat} {S : fS} (x0 y0 x1 y1 m : Int32) (hs0 : 0 ≤ gI S 35 0) (hs8 : gI S 35 0 ≤ 8) (hw0 : 0 ≤ gI S 35 3) (hw8 : gI S 35 3 ≤ 16) (ho0 : 0 ≤ gI S 35 6) (ho8 : gI S 35 6 ≤ 4) (he0 : 0 ≤ gI S 35 10) (he8 : gI S 35 10 ≤ 8) : fCtr G (d + 2) mX8_wall [.ref 35, .int x0, .int y0, .int x1, .int y1, .int m] S (qD S (oWall (hD S) x0 y0 x1 y1 m)) := by
  refine fCtr.of bXX8_wall (Nat.le_of_ble_eq_true rfl) rfl ?_
  refine fV.run iX8_wall_0_2 oX8_wall_0_2 (pc' := 3) (L' := [(0, .ref 35), (1, .int x0), (2, .int y0), (3, .int x1), (4, .int y1), (5, .int m)]) (st' := [.int m, .ref 35]) (S' := S) rfl trivial ?_
  refine fV.callV (M2 := mX8_isStuff) (d := d + 1) (o := 35) (av := [.int m]) (rest := []) kX8_isStuff dX8_wall_3 lX8_92 rfl rfl rfl (Nat.le_of_ble_eq_true rfl) (fRoom (by decide)) ⟨Nat.le_refl _, Nat.le_refl _⟩ (qX8_isStuff _ hs0) ?_
  rintro _ S9 ⟨rfl, h9⟩
  rw [h9]
  clear h9 S9
  refine fV.to (pc' := 6) (L' := [(0, .ref 35), (1, .int x0), (2, .int y0), (3, .int x1), (4, .int y1), (5, .int m)]) (st' := [.int (fB (decide (0 ≤ m ∧ m < (gI S 35 0))))]) (S' := S) rfl rfl rfl rfl ?_
  refine fV.if_ne bX8_wall_6 (fun c6 => ?_) (fun c6 => ?_)
  · refine fV.run iX8_wall_13_2 oX8_wall_13_2 (pc' := 15) (L' := [(0, .ref 35), (1, .int x0), (2, .int y0), (3, .int x1), (4, .int y1), (5, .int m)]) (st' := [.int y0, .int x0]) (S' := S) rfl trivial ?_
    refine fV.callS (M2 := mX8_isPoint) (d := d + 1) (av := [.int x0, .int y0]) (rest := []) kX8_isPoint dX8_wall_15 lX8_96 rfl rfl (Nat.le_of_ble_eq_true rfl) (fRoom (by decide)) ⟨Nat.le_refl _, Nat.le_refl _⟩ (qX8_isPoint _ _) ?_
    rintro _ S9 ⟨rfl, h9⟩
    rw [h9]
    clear h9 S9
    refine fV.to (pc' := 18) (L' := [(0, .ref 35), (1, .int x0), (2, .int y0), (3, .int x1), (4, .int y1), (5, .int m)]) (st' := [.int (fB (decide ((0 ≤ x0 ∧ x0 ≤ 1000) ∧ (0 ≤ y0 ∧ y0 ≤ 1000))))]) (S' := S) rfl rfl rfl rfl ?_
    refine fV.if_eq bX8_wall_18 (fun c18 => ?_) (fun c18 => ?_)
    · refine fV.run iX8_wall_54_1 oX8_wall_54_1 (pc' := 57) (L' := [(0, .ref 35), (1, .int x0), (2, .int y0), (3, .int x1), (4, .int y1), (5, .int m)]) (st' := [.int (-1002)]) (S' := S) rfl trivial ?_
      exact fV.iret rfl dX8_wall_57 (by first | exact (by unfold oWall; rw [if_pos (by grind [fB, hD]), if_neg (by grind [fB, hD])]; exact ⟨rfl, rfl, rfl⟩) | exact (by unfold oWall; rw [if_pos (by grind [fB, hD]), if_pos (by grind [fB, hD]), if_neg (by grind [fB, hD])]; exact ⟨rfl, rfl, rfl⟩) | (exfalso; grind [fB]))
    · refine fV.run iX8_wall_21_2 oX8_wall_21_2 (pc' := 24) (L' := [(0, .ref 35), (1, .int x0), (2, .int y0), (3, .int x1), (4, .int y1), (5, .int m)]) (st' := [.int y1, .int x1]) (S' := S) rfl trivial ?_
      refine fV.callS (M2 := mX8_isPoint) (d := d + 1) (av := [.int x1, .int y1]) (rest := []) kX8_isPoint dX8_wall_24 lX8_96 rfl rfl (Nat.le_of_ble_eq_true rfl) (fRoom (by decide)) ⟨Nat.le_refl _, Nat.le_refl _⟩ (qX8_isPoint _ _) ?_
      rintro _ S9 ⟨rfl, h9⟩
      rw [h9]
      clear h9 S9
      refine fV.to (pc' := 27) (L' := [(0, .ref 35), (1, .int x0), (2, .int y0), (3, .int x1), (4, .int y1), (5, .int m)]) (st' := [.int (fB (decide ((0 ≤ x1 ∧ x1 ≤ 1000) ∧ (0 ≤ y1 ∧ y1 ≤ 1000))))]) (S' := S) rfl rfl rfl rfl ?_
      refine fV.if_eq bX8_wall_27 (fun c27 => ?_) (fun c27 => ?_)
      · refine fV.run iX8_wall_54_1 oX8_wall_54_1 (pc' := 57) (L' := [(0, .ref 35), (1, .int x0), (2, .int y0), (3, .int x1), (4, .int y1), (5, .int m)]) (st' := [.int (-1002)]) (S' := S) rfl trivial ?_
        exact fV.iret rfl dX8_wall_57 (by first | exact (by unfold oWall; rw [if_pos (by grind [fB, hD]), if_neg (by grind [fB, hD])]; exact ⟨rfl, rfl, rfl⟩) | exact (by unfold oWall; rw [if_pos (by grind [fB, hD]), if_pos (by grind [fB, hD]), if_neg (by grind [fB, hD])]; exact ⟨rfl, rfl, rfl⟩) | (exfalso; grind [fB]))
      · refine fV.run iX8_wall_30_2 oX8_wall_30_2 (pc' := 32) (L' := [(0, .ref 35), (1, .int x0), (2, .int y0), (3, .int x1), (4, .int y1), (5, .int m)]) (st' := [.int x1, .int x0]) (S' := S) rfl trivial ?_
        refine fV.icmp_ne bX8_wall_32 (fun c32 => ?_) (fun c32 => ?_)
        · refine fV.run iX8_wall_39_3 oX8_wall_39_3 (pc' := 43) (L' := [(0, .ref 35), (1, .int x0), (2, .int y0), (3, .int x1), (4, .int y1), (5, .int m)]) (st' := [.int y1, .int y0, .int 0]) (S' := S) rfl trivial ?_
          refine fV.icmp_ne bX8_wall_43 (fun c43 => ?_) (fun c43 => ?_)
          · refine fV.run iX8_wall_50_1 oX8_wall_50_1 (pc' := 51) (L' := [(0, .ref 35), (1, .int x0), (2, .int y0), (3, .int x1), (4, .int y1), (5, .int m)]) (st' := [.int 0, .int 0]) (S' := S) rfl trivial ?_
            refine fV.icmp_ne bX8_wall_51 (fun c51 => ?_) (fun c51 => ?_)
            · exact absurd c51 (by decide)
            · refine fV.run iX8_wall_54_1 oX8_wall_54_1 (pc' := 57) (L' := [(0, .ref 35), (1, .int x0), (2, .int y0), (3, .int x1), (4, .int y1), (5, .int m)]) (st' := [.int (-1002)]) (S' := S) rfl trivial ?_
              exact fV.iret rfl dX8_wall_57 (by first | exact (by unfold oWall; rw [if_pos (by grind [fB, hD]), if_neg (by grind [fB, hD])]; exact ⟨rfl, rfl, rfl⟩) | exact (by unfold oWall; rw [if_pos (by grind [fB, hD]), if_pos (by grind [fB, hD]), if_neg (by grind [fB, hD])]; exact ⟨rfl, rfl, rfl⟩) | (exfalso; grind [fB]))
          · refine fV.run iX8_wall_46_2 oX8_wall_46_2 (pc' := 51) (L' := [(0, .ref 35), (1, .int x0), (2, .int y0), (3, .int x1), (4, .int y1), (5, .int m)]) (st' := [.int 1, .int 0]) (S' := S) rfl trivial ?_
            refine fV.icmp_ne bX8_wall_51 (fun c51 => ?_) (fun c51 => ?_)
            · refine fV.run iX8_wall_58_3 oX8_wall_58_3 (pc' := 64) (L' := [(0, .ref 35), (1, .int x0), (2, .int y0), (3, .int x1), (4, .int y1), (5, .int m)]) (st' := [.int 16, .int (gI S 35 3)]) (S' := S) rfl trivial ?_
              refine fV.icmp_ne bX8_wall_64 (fun c64 => ?_) (fun c64 => ?_)
              · refine fV.run iX8_wall_71_54 oX8_wall_71_54 (pc' := 153) (L' := [(0, .ref 35), (1, .int x0), (2, .int y0), (3, .int x1), (4, .int y1), (5, .int m)]) (st' := [.int (((gI S 35 3) + 1) - 1)]) (S' := (wI (wA (wA (wA (wA (wA S 38 (upd (gA S 38) (4 * (gI S 35 3)).toNatClampNeg x0)) 38 (upd (upd (gA S 38) (4 * (gI S 35 3)).toNatClampNeg x0) ((4 * (gI S 35 3)) + 1).toNatClampNeg y0)) 38 (upd (upd (upd (gA S 38) (4 * (gI S 35 3)).toNatClampNeg x0) ((4 * (gI S 35 3)) + 1).toNatClampNeg y0) ((4 * (gI S 35 3)) + 2).toNatClampNeg x1)) 38 (upd (upd (upd (upd (gA S 38) (4 * (gI S 35 3)).toNatClampNeg x0) ((4 * (gI S 35 3)) + 1).toNatClampNeg y0) ((4 * (gI S 35 3)) + 2).toNatClampNeg x1) ((4 * (gI S 35 3)) + 3).toNatClampNeg y1)) 39 (upd (gA S 39) (gI S 35 3).toNatClampNeg m)) 35 3 ((gI S 35 3) + 1))) (P := vp_in (4 * (gI S 35 3)) 64 ∧ vp_in ((4 * (gI S 35 3)) + 1) 64 ∧ vp_in ((4 * (gI S 35 3)) + 2) 64 ∧ vp_in ((4 * (gI S 35 3)) + 3) 64 ∧ vp_in (gI S 35 3) 16 ∧ True) rfl ⟨(vin (by decide) (by grind [fB]) (by grind [fB])), (vin (by decide) (by grind [fB]) (by grind [fB])), (vin (by decide) (by grind [fB]) (by grind [fB])), (vin (by decide) (by grind [fB]) (by grind [fB])), (vin (by decide) (by grind [fB]) (by grind [fB])), trivial⟩ ?_
                exact fV.iret rfl dX8_wall_153 (by first | exact (by unfold oWall; rw [if_pos (by grind [fB, hD]), if_pos (by grind [fB, hD]), if_pos (by grind [fB, hD]), if_neg (by grind [fB, hD])]; exact ⟨by simp only [Int32.add_sub_cancel]; rfl, rfl, rfl⟩) | (exfalso; grind [fB]))
              · refine fV.run iX8_wall_67_1 oX8_wall_67_1 (pc' := 70) (L' := [(0, .ref 35), (1, .int x0), (2, .int y0), (3, .int x1), (4, .int y1), (5, .int m)]) (st' := [.int (-1004)]) (S' := S) rfl trivial ?_
                exact fV.iret rfl dX8_wall_70 (by first | exact (by unfold oWall; rw [if_pos (by grind [fB, hD]), if_pos (by grind [fB, hD]), if_pos (by grind [fB, hD]), if_pos (by grind [fB, hD])]; exact ⟨rfl, rfl, rfl⟩) | (exfalso; grind [fB]))
            · exact absurd c51 (by decide)
        · refine fV.run iX8_wall_35_4 oX8_wall_35_4 (pc' := 43) (L' := [(0, .ref 35), (1, .int x0), (2, .int y0), (3, .int x1), (4, .int y1), (5, .int m)]) (st' := [.int y1, .int y0, .int 1]) (S' := S) rfl trivial ?_
          refine fV.icmp_ne bX8_wall_43 (fun c43 => ?_) (fun c43 => ?_)
          · refine fV.run iX8_wall_50_1 oX8_wall_50_1 (pc' := 51) (L' := [(0, .ref 35), (1, .int x0), (2, .int y0), (3, .int x1), (4, .int y1), (5, .int m)]) (st' := [.int 0, .int 1]) (S' := S) rfl trivial ?_
            refine fV.icmp_ne bX8_wall_51 (fun c51 => ?_) (fun c51 => ?_)
            · refine fV.run iX8_wall_58_3 oX8_wall_58_3 (pc' := 64) (L' := [(0, .ref 35), (1, .int x0), (2, .int y0), (3, .int x1), (4, .int y1), (5, .int m)]) (st' := [.int 16, .int (gI S 35 3)]) (S' := S) rfl trivial ?_
              refine fV.icmp_ne bX8_wall_64 (fun c64 => ?_) (fun c64 => ?_)
              · refine fV.run iX8_wall_71_54 oX8_wall_71_54 (pc' := 153) (L' := [(0, .ref 35), (1, .int x0), (2, .int y0), (3, .int x1), (4, .int y1), (5, .int m)]) (st' := [.int (((gI S 35 3) + 1) - 1)]) (S' := (wI (wA (wA (wA (wA (wA S 38 (upd (gA S 38) (4 * (gI S 35 3)).toNatClampNeg x0)) 38 (upd (upd (gA S 38) (4 * (gI S 35 3)).toNatClampNeg x0) ((4 * (gI S 35 3)) + 1).toNatClampNeg y0)) 38 (upd (upd (upd (gA S 38) (4 * (gI S 35 3)).toNatClampNeg x0) ((4 * (gI S 35 3)) + 1).toNatClampNeg y0) ((4 * (gI S 35 3)) + 2).toNatClampNeg x1)) 38 (upd (upd (upd (upd (gA S 38) (4 * (gI S 35 3)).toNatClampNeg x0) ((4 * (gI S 35 3)) + 1).toNatClampNeg y0) ((4 * (gI S 35 3)) + 2).toNatClampNeg x1) ((4 * (gI S 35 3)) + 3).toNatClampNeg y1)) 39 (upd (gA S 39) (gI S 35 3).toNatClampNeg m)) 35 3 ((gI S 35 3) + 1))) (P := vp_in (4 * (gI S 35 3)) 64 ∧ vp_in ((4 * (gI S 35 3)) + 1) 64 ∧ vp_in ((4 * (gI S 35 3)) + 2) 64 ∧ vp_in ((4 * (gI S 35 3)) + 3) 64 ∧ vp_in (gI S 35 3) 16 ∧ True) rfl ⟨(vin (by decide) (by grind [fB]) (by grind [fB])), (vin (by decide) (by grind [fB]) (by grind [fB])), (vin (by decide) (by grind [fB]) (by grind [fB])), (vin (by decide) (by grind [fB]) (by grind [fB])), (vin (by decide) (by grind [fB]) (by grind [fB])), trivial⟩ ?_
                exact fV.iret rfl dX8_wall_153 (by first | exact (by unfold oWall; rw [if_pos (by grind [fB, hD]), if_pos (by grind [fB, hD]), if_pos (by grind [fB, hD]), if_neg (by grind [fB, hD])]; exact ⟨by simp only [Int32.add_sub_cancel]; rfl, rfl, rfl⟩) | (exfalso; grind [fB]))
              · refine fV.run iX8_wall_67_1 oX8_wall_67_1 (pc' := 70) (L' := [(0, .ref 35), (1, .int x0), (2, .int y0), (3, .int x1), (4, .int y1), (5, .int m)]) (st' := [.int (-1004)]) (S' := S) rfl trivial ?_
                exact fV.iret rfl dX8_wall_70 (by first | exact (by unfold oWall; rw [if_pos (by grind [fB, hD]), if_pos (by grind [fB, hD]), if_pos (by grind [fB, hD]), if_pos (by grind [fB, hD])]; exact ⟨rfl, rfl, rfl⟩) | (exfalso; grind [fB]))
            · exact absurd c51 (by decide)
          · refine fV.run iX8_wall_46_2 oX8_wall_46_2 (pc' := 51) (L' := [(0, .ref 35), (1, .int x0), (2, .int y0), (3, .int x1), (4, .int y1), (5, .int m)]) (st' := [.int 1, .int 1]) (S' := S) rfl trivial ?_
            refine fV.icmp_ne bX8_wall_51 (fun c51 => ?_) (fun c51 => ?_)
            · exact absurd c51 (by decide)
            · refine fV.run iX8_wall_54_1 oX8_wall_54_1 (pc' := 57) (L' := [(0, .ref 35), (1, .int x0), (2, .int y0), (3, .int x1), (4, .int y1), (5, .int m)]) (st' := [.int (-1002)]) (S' := S) rfl trivial ?_
              exact fV.iret rfl dX8_wall_57 (by first | exact (by unfold oWall; rw [if_pos (by grind [fB, hD]), if_neg (by grind [fB, hD])]; exact ⟨rfl, rfl, rfl⟩) | exact (by unfold oWall; rw [if_pos (by grind [fB, hD]), if_pos (by grind [fB, hD]), if_neg (by grind [fB, hD])]; exact ⟨rfl, rfl, rfl⟩) | (exfalso; grind [fB]))
  · refine fV.run iX8_wall_9_1 oX8_wall_9_1 (pc' := 12) (L' := [(0, .ref 35), (1, .int x0), (2, .int y0), (3, .int x1), (4, .int y1), (5, .int m)]) (st' := [.int (-1001)]) (S' := S) rfl trivial ?_
    exact fV.iret rfl dX8_wall_12 (by unfold oWall; rw [if_neg (by grind [fB, hD])]; exact ⟨rfl, rfl, rfl⟩)
def iX8_move_0_4 : List Instr := [.iload_n 2, .i2l, .lconst 0, .lconst 1]
theorem oX8_move_0_4 : fOkB cX8_move 0 iX8_move_0_4 = true := by decide +kernel
theorem dX8_move_4 : decode cX8_move 4 = .ok (.invokestatic 83, 3) := by decide +kernel
theorem bX8_move_7 : fBk cX8_move 7 (.ifCond .ne) 14 := ⟨7, by decide +kernel, by decide⟩
def iX8_move_14_1 : List Instr := [.iload_n 2]
theorem oX8_move_14_1 : fOkB cX8_move 14 iX8_move_14_1 = true := by decide +kernel
theorem bX8_move_15 : fBk cX8_move 15 (.ifCond .ne) 29 := ⟨14, by decide +kernel, by decide⟩
def iX8_move_29_2 : List Instr := [.aload_n 0, .iload_n 1]
theorem oX8_move_29_2 : fOkB cX8_move 29 iX8_move_29_2 = true := by decide +kernel
theorem dX8_move_31 : decode cX8_move 31 = .ok (.invokevirtual 112, 3) := by decide +kernel
theorem bX8_move_34 : fBk cX8_move 34 (.ifCond .ne) 41 := ⟨7, by decide +kernel, by decide⟩
def iX8_move_41_2 : List Instr := [.iload_n 3, .iload 4]
theorem oX8_move_41_2 : fOkB cX8_move 41 iX8_move_41_2 = true := by decide +kernel
theorem dX8_move_44 : decode cX8_move 44 = .ok (.invokestatic 96, 3) := by decide +kernel
theorem bX8_move_47 : fBk cX8_move 47 (.ifCond .ne) 54 := ⟨7, by decide +kernel, by decide⟩
def iX8_move_54_1 : List Instr := [.iload_n 2]
theorem oX8_move_54_1 : fOkB cX8_move 54 iX8_move_54_1 = true := by decide +kernel
theorem bX8_move_55 : fBk cX8_move 55 (.ifCond .ne) 76 := ⟨21, by decide +kernel, by decide⟩
def iX8_move_76_11 : List Instr := [.aload_n 0, .getfield 31, .iload_n 1, .iload_n 3, .iastore, .aload_n 0, .getfield 34, .iload_n 1, .iload 4, .iastore, .iconst 1]
theorem oX8_move_76_11 : fOkB cX8_move 76 iX8_move_76_11 = true := by decide +kernel
theorem dX8_move_92 : decode cX8_move 92 = .ok (.ireturn, 1) := by decide +kernel
def iX8_move_58_12 : List Instr := [.aload_n 0, .getfield 22, .iload_n 1, .iload_n 3, .iastore, .aload_n 0, .getfield 25, .iload_n 1, .iload 4, .iastore, .goto 18, .iconst 1]
theorem oX8_move_58_12 : fOkB cX8_move 58 iX8_move_58_12 = true := by decide +kernel
def iX8_move_50_1 : List Instr := [.sipush (-1002)]
theorem oX8_move_50_1 : fOkB cX8_move 50 iX8_move_50_1 = true := by decide +kernel
theorem dX8_move_53 : decode cX8_move 53 = .ok (.ireturn, 1) := by decide +kernel
def iX8_move_37_1 : List Instr := [.sipush (-1001)]
theorem oX8_move_37_1 : fOkB cX8_move 37 iX8_move_37_1 = true := by decide +kernel
theorem dX8_move_40 : decode cX8_move 40 = .ok (.ireturn, 1) := by decide +kernel
def iX8_move_18_2 : List Instr := [.aload_n 0, .iload_n 1]
theorem oX8_move_18_2 : fOkB cX8_move 18 iX8_move_18_2 = true := by decide +kernel
theorem dX8_move_20 : decode cX8_move 20 = .ok (.invokevirtual 109, 3) := by decide +kernel
theorem bX8_move_23 : fBk cX8_move 23 (.ifCond .ne) 41 := ⟨18, by decide +kernel, by decide⟩
def iX8_move_26_2 : List Instr := [.goto 11, .sipush (-1001)]
theorem oX8_move_26_2 : fOkB cX8_move 26 iX8_move_26_2 = true := by decide +kernel
def iX8_move_10_1 : List Instr := [.sipush (-1002)]
theorem oX8_move_10_1 : fOkB cX8_move 10 iX8_move_10_1 = true := by decide +kernel
theorem dX8_move_13 : decode cX8_move 13 = .ok (.ireturn, 1) := by decide +kernel
set_option maxRecDepth 100000 in
theorem qX8_move {G : fG} {d : Nat} {S : fS} (k t x y : Int32) (hs0 : 0 ≤ gI S 35 0) (hs8 : gI S 35 0 ≤ 8) (hw0 : 0 ≤ gI S 35 3) (hw8 : gI S 35 3 ≤ 16) (ho0 : 0 ≤ gI S 35 6) (ho8 : gI S 35 6 ≤ 4) (he0 : 0 ≤ gI S 35 10) (he8 : gI S 35 10 ≤ 8) : fCtr G (d + 2) mX8_move [.ref 35, .int k, .int t, .int x, .int y] S (qD S (oMove (hD S) k t x y)) := by
  refine fCtr.of bXX8_move (Nat.le_of_ble_eq_true rfl) rfl ?_
  refine fV.run iX8_move_0_4 oX8_move_0_4 (pc' := 4) (L' := [(0, .ref 35), (1, .int k), (2, .int t), (3, .int x), (4, .int y)]) (st' := [.long 1, .long 0, .long (Int32.toInt64 t)]) (S' := S) rfl trivial ?_
  refine fV.callS (M2 := mX8_in) (d := d + 1) (av := [.long (Int32.toInt64 t), .long 0, .long 1]) (rest := []) kX8_in dX8_move_4 lX8_83 rfl rfl (Nat.le_of_ble_eq_true rfl) (fRoom (by decide)) ⟨Nat.le_refl _, Nat.le_refl _⟩ (qX8_inP _ _ _ (P := 0 ≤ t ∧ t ≤ 1) (and_congr (w_geN (by decide) _) (w_leN (by decide) _))) ?_
  rintro _ S9 ⟨rfl, h9⟩
  rw [h9]
  clear h9 S9
  refine fV.to (pc' := 7) (L' := [(0, .ref 35), (1, .int k), (2, .int t), (3, .int x), (4, .int y)]) (st' := [.int (fB (decide (0 ≤ t ∧ t ≤ 1)))]) (S' := S) rfl rfl rfl rfl ?_
  refine fV.if_ne bX8_move_7 (fun c7 => ?_) (fun c7 => ?_)
  · refine fV.run iX8_move_14_1 oX8_move_14_1 (pc' := 15) (L' := [(0, .ref 35), (1, .int k), (2, .int t), (3, .int x), (4, .int y)]) (st' := [.int t]) (S' := S) rfl trivial ?_
    refine fV.if_ne bX8_move_15 (fun c15 => ?_) (fun c15 => ?_)
    · refine fV.run iX8_move_29_2 oX8_move_29_2 (pc' := 31) (L' := [(0, .ref 35), (1, .int k), (2, .int t), (3, .int x), (4, .int y)]) (st' := [.int k, .ref 35]) (S' := S) rfl trivial ?_
      refine fV.callV (M2 := mX8_isSeat) (d := d + 1) (o := 35) (av := [.int k]) (rest := []) kX8_isSeat dX8_move_31 lX8_112 rfl rfl rfl (Nat.le_of_ble_eq_true rfl) (fRoom (by decide)) ⟨Nat.le_refl _, Nat.le_refl _⟩ (qX8_isSeat _ he0) ?_
      rintro _ S9 ⟨rfl, h9⟩
      rw [h9]
      clear h9 S9
      refine fV.to (pc' := 34) (L' := [(0, .ref 35), (1, .int k), (2, .int t), (3, .int x), (4, .int y)]) (st' := [.int (fB (decide (0 ≤ k ∧ k < (gI S 35 10))))]) (S' := S) rfl rfl rfl rfl ?_
      refine fV.if_ne bX8_move_34 (fun c34 => ?_) (fun c34 => ?_)
      · refine fV.run iX8_move_41_2 oX8_move_41_2 (pc' := 44) (L' := [(0, .ref 35), (1, .int k), (2, .int t), (3, .int x), (4, .int y)]) (st' := [.int y, .int x]) (S' := S) rfl trivial ?_
        refine fV.callS (M2 := mX8_isPoint) (d := d + 1) (av := [.int x, .int y]) (rest := []) kX8_isPoint dX8_move_44 lX8_96 rfl rfl (Nat.le_of_ble_eq_true rfl) (fRoom (by decide)) ⟨Nat.le_refl _, Nat.le_refl _⟩ (qX8_isPoint _ _) ?_
        rintro _ S9 ⟨rfl, h9⟩
        rw [h9]
        clear h9 S9
        refine fV.to (pc' := 47) (L' := [(0, .ref 35), (1, .int k), (2, .int t), (3, .int x), (4, .int y)]) (st' := [.int (fB (decide ((0 ≤ x ∧ x ≤ 1000) ∧ (0 ≤ y ∧ y ≤ 1000))))]) (S' := S) rfl rfl rfl rfl ?_
        refine fV.if_ne bX8_move_47 (fun c47 => ?_) (fun c47 => ?_)
        · refine fV.run iX8_move_54_1 oX8_move_54_1 (pc' := 55) (L' := [(0, .ref 35), (1, .int k), (2, .int t), (3, .int x), (4, .int y)]) (st' := [.int t]) (S' := S) rfl trivial ?_
          refine fV.if_ne bX8_move_55 (fun c55 => ?_) (fun c55 => ?_)
          · refine fV.run iX8_move_76_11 oX8_move_76_11 (pc' := 92) (L' := [(0, .ref 35), (1, .int k), (2, .int t), (3, .int x), (4, .int y)]) (st' := [.int 1]) (S' := (wA (wA S 43 (upd (gA S 43) k.toNatClampNeg x)) 44 (upd (gA S 44) k.toNatClampNeg y))) (P := vp_in k 8 ∧ vp_in k 8 ∧ True) rfl ⟨(by first | exact vin (by decide) (by grind [fB]) (by grind [fB]) | (exfalso; grind [fB])), (by first | exact vin (by decide) (by grind [fB]) (by grind [fB]) | (exfalso; grind [fB])), trivial⟩ ?_
            exact fV.iret rfl dX8_move_92 (by first | exact (by unfold oMove; rw [if_pos (by grind [fB, hD]), if_pos (by grind [fB, hD]), if_pos (by grind [fB, hD])]; exact ⟨rfl, rfl, rfl⟩) | exact (by unfold oMove; rw [if_neg (by grind [fB, hD]), if_pos (by grind [fB, hD]), if_pos (by grind [fB, hD]), if_pos (by grind [fB, hD])]; exact ⟨rfl, rfl, rfl⟩) | (exfalso; grind [fB]))
          · refine fV.run iX8_move_58_12 oX8_move_58_12 (pc' := 92) (L' := [(0, .ref 35), (1, .int k), (2, .int t), (3, .int x), (4, .int y)]) (st' := [.int 1]) (S' := (wA (wA S 40 (upd (gA S 40) k.toNatClampNeg x)) 41 (upd (gA S 41) k.toNatClampNeg y))) (P := vp_in k 4 ∧ vp_in k 4 ∧ True) rfl ⟨(by first | exact vin (by decide) (by grind [fB]) (by grind [fB]) | (exfalso; grind [fB])), (by first | exact vin (by decide) (by grind [fB]) (by grind [fB]) | (exfalso; grind [fB])), trivial⟩ ?_
            exact fV.iret rfl dX8_move_92 (by first | exact (by unfold oMove; rw [if_pos (by grind [fB, hD]), if_pos (by grind [fB, hD]), if_pos (by grind [fB, hD])]; exact ⟨rfl, rfl, rfl⟩) | exact (by unfold oMove; rw [if_neg (by grind [fB, hD]), if_pos (by grind [fB, hD]), if_pos (by grind [fB, hD]), if_pos (by grind [fB, hD])]; exact ⟨rfl, rfl, rfl⟩) | (exfalso; grind [fB]))
        · refine fV.run iX8_move_50_1 oX8_move_50_1 (pc' := 53) (L' := [(0, .ref 35), (1, .int k), (2, .int t), (3, .int x), (4, .int y)]) (st' := [.int (-1002)]) (S' := S) rfl trivial ?_
          exact fV.iret rfl dX8_move_53 (by first | exact (by unfold oMove; rw [if_neg (by grind [fB, hD]), if_neg (by grind [fB, hD])]; exact ⟨rfl, rfl, rfl⟩) | exact (by unfold oMove; rw [if_pos (by grind [fB, hD]), if_pos (by grind [fB, hD]), if_neg (by grind [fB, hD])]; exact ⟨rfl, rfl, rfl⟩) | exact (by unfold oMove; rw [if_neg (by grind [fB, hD]), if_pos (by grind [fB, hD]), if_pos (by grind [fB, hD]), if_neg (by grind [fB, hD])]; exact ⟨rfl, rfl, rfl⟩) | (exfalso; grind [fB]))
      · refine fV.run iX8_move_37_1 oX8_move_37_1 (pc' := 40) (L' := [(0, .ref 35), (1, .int k), (2, .int t), (3, .int x), (4, .int y)]) (st' := [.int (-1001)]) (S' := S) rfl trivial ?_
        exact fV.iret rfl dX8_move_40 (by first | exact (by unfold oMove; rw [if_pos (by grind [fB, hD]), if_neg (by grind [fB, hD])]; exact ⟨rfl, rfl, rfl⟩) | exact (by unfold oMove; rw [if_neg (by grind [fB, hD]), if_pos (by grind [fB, hD]), if_neg (by grind [fB, hD])]; exact ⟨rfl, rfl, rfl⟩) | (exfalso; grind [fB]))
    · refine fV.run iX8_move_18_2 oX8_move_18_2 (pc' := 20) (L' := [(0, .ref 35), (1, .int k), (2, .int t), (3, .int x), (4, .int y)]) (st' := [.int k, .ref 35]) (S' := S) rfl trivial ?_
      refine fV.callV (M2 := mX8_isSource) (d := d + 1) (o := 35) (av := [.int k]) (rest := []) kX8_isSource dX8_move_20 lX8_109 rfl rfl rfl (Nat.le_of_ble_eq_true rfl) (fRoom (by decide)) ⟨Nat.le_refl _, Nat.le_refl _⟩ (qX8_isSource _ ho0) ?_
      rintro _ S9 ⟨rfl, h9⟩
      rw [h9]
      clear h9 S9
      refine fV.to (pc' := 23) (L' := [(0, .ref 35), (1, .int k), (2, .int t), (3, .int x), (4, .int y)]) (st' := [.int (fB (decide (0 ≤ k ∧ k < (gI S 35 6))))]) (S' := S) rfl rfl rfl rfl ?_
      refine fV.if_ne bX8_move_23 (fun c23 => ?_) (fun c23 => ?_)
      · refine fV.run iX8_move_41_2 oX8_move_41_2 (pc' := 44) (L' := [(0, .ref 35), (1, .int k), (2, .int t), (3, .int x), (4, .int y)]) (st' := [.int y, .int x]) (S' := S) rfl trivial ?_
        refine fV.callS (M2 := mX8_isPoint) (d := d + 1) (av := [.int x, .int y]) (rest := []) kX8_isPoint dX8_move_44 lX8_96 rfl rfl (Nat.le_of_ble_eq_true rfl) (fRoom (by decide)) ⟨Nat.le_refl _, Nat.le_refl _⟩ (qX8_isPoint _ _) ?_
        rintro _ S9 ⟨rfl, h9⟩
        rw [h9]
        clear h9 S9
        refine fV.to (pc' := 47) (L' := [(0, .ref 35), (1, .int k), (2, .int t), (3, .int x), (4, .int y)]) (st' := [.int (fB (decide ((0 ≤ x ∧ x ≤ 1000) ∧ (0 ≤ y ∧ y ≤ 1000))))]) (S' := S) rfl rfl rfl rfl ?_
        refine fV.if_ne bX8_move_47 (fun c47 => ?_) (fun c47 => ?_)
        · refine fV.run iX8_move_54_1 oX8_move_54_1 (pc' := 55) (L' := [(0, .ref 35), (1, .int k), (2, .int t), (3, .int x), (4, .int y)]) (st' := [.int t]) (S' := S) rfl trivial ?_
          refine fV.if_ne bX8_move_55 (fun c55 => ?_) (fun c55 => ?_)
          · refine fV.run iX8_move_76_11 oX8_move_76_11 (pc' := 92) (L' := [(0, .ref 35), (1, .int k), (2, .int t), (3, .int x), (4, .int y)]) (st' := [.int 1]) (S' := (wA (wA S 43 (upd (gA S 43) k.toNatClampNeg x)) 44 (upd (gA S 44) k.toNatClampNeg y))) (P := vp_in k 8 ∧ vp_in k 8 ∧ True) rfl ⟨(by first | exact vin (by decide) (by grind [fB]) (by grind [fB]) | (exfalso; grind [fB])), (by first | exact vin (by decide) (by grind [fB]) (by grind [fB]) | (exfalso; grind [fB])), trivial⟩ ?_
            exact fV.iret rfl dX8_move_92 (by first | exact (by unfold oMove; rw [if_pos (by grind [fB, hD]), if_pos (by grind [fB, hD]), if_pos (by grind [fB, hD])]; exact ⟨rfl, rfl, rfl⟩) | exact (by unfold oMove; rw [if_neg (by grind [fB, hD]), if_pos (by grind [fB, hD]), if_pos (by grind [fB, hD]), if_pos (by grind [fB, hD])]; exact ⟨rfl, rfl, rfl⟩) | (exfalso; grind [fB]))
          · refine fV.run iX8_move_58_12 oX8_move_58_12 (pc' := 92) (L' := [(0, .ref 35), (1, .int k), (2, .int t), (3, .int x), (4, .int y)]) (st' := [.int 1]) (S' := (wA (wA S 40 (upd (gA S 40) k.toNatClampNeg x)) 41 (upd (gA S 41) k.toNatClampNeg y))) (P := vp_in k 4 ∧ vp_in k 4 ∧ True) rfl ⟨(by first | exact vin (by decide) (by grind [fB]) (by grind [fB]) | (exfalso; grind [fB])), (by first | exact vin (by decide) (by grind [fB]) (by grind [fB]) | (exfalso; grind [fB])), trivial⟩ ?_
            exact fV.iret rfl dX8_move_92 (by first | exact (by unfold oMove; rw [if_pos (by grind [fB, hD]), if_pos (by grind [fB, hD]), if_pos (by grind [fB, hD])]; exact ⟨rfl, rfl, rfl⟩) | exact (by unfold oMove; rw [if_neg (by grind [fB, hD]), if_pos (by grind [fB, hD]), if_pos (by grind [fB, hD]), if_pos (by grind [fB, hD])]; exact ⟨rfl, rfl, rfl⟩) | (exfalso; grind [fB]))
        · refine fV.run iX8_move_50_1 oX8_move_50_1 (pc' := 53) (L' := [(0, .ref 35), (1, .int k), (2, .int t), (3, .int x), (4, .int y)]) (st' := [.int (-1002)]) (S' := S) rfl trivial ?_
          exact fV.iret rfl dX8_move_53 (by first | exact (by unfold oMove; rw [if_neg (by grind [fB, hD]), if_neg (by grind [fB, hD])]; exact ⟨rfl, rfl, rfl⟩) | exact (by unfold oMove; rw [if_pos (by grind [fB, hD]), if_pos (by grind [fB, hD]), if_neg (by grind [fB, hD])]; exact ⟨rfl, rfl, rfl⟩) | exact (by unfold oMove; rw [if_neg (by grind [fB, hD]), if_pos (by grind [fB, hD]), if_pos (by grind [fB, hD]), if_neg (by grind [fB, hD])]; exact ⟨rfl, rfl, rfl⟩) | (exfalso; grind [fB]))
      · refine fV.run iX8_move_26_2 oX8_move_26_2 (pc' := 40) (L' := [(0, .ref 35), (1, .int k), (2, .int t), (3, .int x), (4, .int y)]) (st' := [.int (-1001)]) (S' := S) rfl trivial ?_
        exact fV.iret rfl dX8_move_40 (by first | exact (by unfold oMove; rw [if_pos (by grind [fB, hD]), if_neg (by grind [fB, hD])]; exact ⟨rfl, rfl, rfl⟩) | exact (by unfold oMove; rw [if_neg (by grind [fB, hD]), if_pos (by grind [fB, hD]), if_neg (by grind [fB, hD])]; exact ⟨rfl, rfl, rfl⟩) | (exfalso; grind [fB]))
  · refine fV.run iX8_move_10_1 oX8_move_10_1 (pc' := 13) (L' := [(0, .ref 35), (1, .int k), (2, .int t), (3, .int x), (4, .int y)]) (st' := [.int (-1002)]) (S' := S) rfl trivial ?_
    exact fV.iret rfl dX8_move_13 (by first | exact (by unfold oMove; rw [if_neg (by grind [fB, hD]), if_neg (by grind [fB, hD])]; exact ⟨rfl, rfl, rfl⟩) | exact (by unfold oMove; rw [if_pos (by grind [fB, hD]), if_pos (by grind [fB, hD]), if_neg (by grind [fB, hD])]; exact ⟨rfl, rfl, rfl⟩) | exact (by unfold oMove; rw [if_neg (by grind [fB, hD]), if_pos (by grind [fB, hD]), if_pos (by grind [fB, hD]), if_neg (by grind [fB, hD])]; exact ⟨rfl, rfl, rfl⟩) | (exfalso; grind [fB]))
theorem rwI_self (S : fS) (o k : Nat) : wI S o k (gI S o k) = S := by
  unfold wI gI
  cases Nat.blt o 35
  · have : fup S.2.1 o (fup (S.2.1 o) k (S.2.1 o k)) = S.2.1 := by
      funext a b
      unfold fup
      by_cases h : a = o
      · subst h; by_cases h2 : b = k
        · subst h2; simp
        · simp [h2]
      · simp [h]
    simp only [cond_false, this]
  · have : fup S.1.1 o (fup (S.1.1 o) k (S.1.1 o k)) = S.1.1 := by
      funext a b
      unfold fup
      by_cases h : a = o
      · subst h; by_cases h2 : b = k
        · subst h2; simp
        · simp [h2]
      · simp [h]
    simp only [cond_true, this]
def iX8_rule_0_4 : List Instr := [.iload_n 1, .i2l, .lconst 0, .lconst 1]
theorem oX8_rule_0_4 : fOkB cX8_rule 0 iX8_rule_0_4 = true := by decide +kernel
theorem dX8_rule_4 : decode cX8_rule 4 = .ok (.invokestatic 83, 3) := by decide +kernel
theorem bX8_rule_7 : fBk cX8_rule 7 (.ifCond .eq) 33 := ⟨26, by decide +kernel, by decide⟩
def iX8_rule_33_1 : List Instr := [.sipush (-1002)]
theorem oX8_rule_33_1 : fOkB cX8_rule 33 iX8_rule_33_1 = true := by decide +kernel
theorem dX8_rule_36 : decode cX8_rule 36 = .ok (.ireturn, 1) := by decide +kernel
def iX8_rule_10_5 : List Instr := [.iload_n 2, .i2l, .iload_n 1, .i2l, .iload_n 1]
theorem oX8_rule_10_5 : fOkB cX8_rule 10 iX8_rule_10_5 = true := by decide +kernel
theorem bX8_rule_15 : fBk cX8_rule 15 (.ifCond .ne) 24 := ⟨9, by decide +kernel, by decide⟩
def iX8_rule_24_1 : List Instr := [.ldc2_w 87]
theorem oX8_rule_24_1 : fOkB cX8_rule 24 iX8_rule_24_1 = true := by decide +kernel
theorem dX8_rule_27 : decode cX8_rule 27 = .ok (.invokestatic 83, 3) := by decide +kernel
theorem bX8_rule_30 : fBk cX8_rule 30 (.ifCond .ne) 37 := ⟨7, by decide +kernel, by decide⟩
def iX8_rule_37_1 : List Instr := [.iload_n 1]
theorem oX8_rule_37_1 : fOkB cX8_rule 37 iX8_rule_37_1 = true := by decide +kernel
theorem bX8_rule_38 : fBk cX8_rule 38 (.ifCond .ne) 48 := ⟨10, by decide +kernel, by decide⟩
def iX8_rule_48_5 : List Instr := [.aload_n 0, .getfield 41, .istore_n 3, .aload_n 0, .iload_n 1]
theorem oX8_rule_48_5 : fOkB cX8_rule 48 iX8_rule_48_5 = true := by decide +kernel
theorem bX8_rule_55 : fBk cX8_rule 55 (.ifCond .ne) 62 := ⟨7, by decide +kernel, by decide⟩
def iX8_rule_62_6 : List Instr := [.aload_n 0, .getfield 37, .putfield 37, .aload_n 0, .iload_n 1, .iconst 1]
theorem oX8_rule_62_6 : fOkB cX8_rule 62 iX8_rule_62_6 = true := by decide +kernel
theorem bX8_rule_72 : fBk cX8_rule 72 (.if_icmp .ne) 79 := ⟨7, by decide +kernel, by decide⟩
def iX8_rule_79_4 : List Instr := [.aload_n 0, .getfield 41, .putfield 41, .iload_n 3]
theorem oX8_rule_79_4 : fOkB cX8_rule 79 iX8_rule_79_4 = true := by decide +kernel
theorem dX8_rule_87 : decode cX8_rule 87 = .ok (.ireturn, 1) := by decide +kernel
def iX8_rule_75_4 : List Instr := [.iload_n 2, .goto 7, .putfield 41, .iload_n 3]
theorem oX8_rule_75_4 : fOkB cX8_rule 75 iX8_rule_75_4 = true := by decide +kernel
def iX8_rule_58_6 : List Instr := [.iload_n 2, .goto 7, .putfield 37, .aload_n 0, .iload_n 1, .iconst 1]
theorem oX8_rule_58_6 : fOkB cX8_rule 58 iX8_rule_58_6 = true := by decide +kernel
def iX8_rule_41_6 : List Instr := [.aload_n 0, .getfield 37, .goto 7, .istore_n 3, .aload_n 0, .iload_n 1]
theorem oX8_rule_41_6 : fOkB cX8_rule 41 iX8_rule_41_6 = true := by decide +kernel
def iX8_rule_18_2 : List Instr := [.ldc2_w 115, .goto 6]
theorem oX8_rule_18_2 : fOkB cX8_rule 18 iX8_rule_18_2 = true := by decide +kernel
set_option maxRecDepth 100000 in
theorem qX8_rule {G : fG} {d : Nat} {S : fS} (t v : Int32) (hs0 : 0 ≤ gI S 35 0) (hs8 : gI S 35 0 ≤ 8) (hw0 : 0 ≤ gI S 35 3) (hw8 : gI S 35 3 ≤ 16) (ho0 : 0 ≤ gI S 35 6) (ho8 : gI S 35 6 ≤ 4) (he0 : 0 ≤ gI S 35 10) (he8 : gI S 35 10 ≤ 8) : fCtr G (d + 1) mX8_rule [.ref 35, .int t, .int v] S (qD S (oRule (hD S) t v)) := by
  refine fCtr.of bXX8_rule (Nat.le_of_ble_eq_true rfl) rfl ?_
  refine fV.run iX8_rule_0_4 oX8_rule_0_4 (pc' := 4) (L' := [(0, .ref 35), (1, .int t), (2, .int v)]) (st' := [.long 1, .long 0, .long (Int32.toInt64 t)]) (S' := S) rfl trivial ?_
  refine fV.callS (M2 := mX8_in) (d := d) (av := [.long (Int32.toInt64 t), .long 0, .long 1]) (rest := []) kX8_in dX8_rule_4 lX8_83 rfl rfl (Nat.le_of_ble_eq_true rfl) (fRoom (by decide)) ⟨Nat.le_refl _, Nat.le_refl _⟩ (qX8_inP _ _ _ (P := 0 ≤ t ∧ t ≤ 1) (and_congr (w_geN (by decide) _) (w_leN (by decide) _))) ?_
  rintro _ S9 ⟨rfl, h9⟩
  rw [h9]
  clear h9 S9
  refine fV.to (pc' := 7) (L' := [(0, .ref 35), (1, .int t), (2, .int v)]) (st' := [.int (fB (decide (0 ≤ t ∧ t ≤ 1)))]) (S' := S) rfl rfl rfl rfl ?_
  refine fV.if_eq bX8_rule_7 (fun c7 => ?_) (fun c7 => ?_)
  · refine fV.run iX8_rule_33_1 oX8_rule_33_1 (pc' := 36) (L' := [(0, .ref 35), (1, .int t), (2, .int v)]) (st' := [.int (-1002)]) (S' := S) rfl trivial ?_
    exact fV.iret rfl dX8_rule_36 (by first | exact (by unfold oRule; rw [if_pos (by grind [fB, hD]), if_neg (by grind [fB, hD])]; exact ⟨rfl, rfl, rfl⟩) | exact (by unfold oRule; rw [if_neg (by grind [fB, hD]), if_pos (by grind [fB, hD]), if_neg (by grind [fB, hD])]; exact ⟨rfl, rfl, rfl⟩) | exact (by unfold oRule; rw [if_neg (by grind [fB, hD]), if_neg (by grind [fB, hD])]; exact ⟨rfl, rfl, rfl⟩) | (exfalso; grind [fB]))
  · refine fV.run iX8_rule_10_5 oX8_rule_10_5 (pc' := 15) (L' := [(0, .ref 35), (1, .int t), (2, .int v)]) (st' := [.int t, .long (Int32.toInt64 t), .long (Int32.toInt64 v)]) (S' := S) rfl trivial ?_
    refine fV.if_ne bX8_rule_15 (fun c15 => ?_) (fun c15 => ?_)
    · refine fV.run iX8_rule_24_1 oX8_rule_24_1 (pc' := 27) (L' := [(0, .ref 35), (1, .int t), (2, .int v)]) (st' := [.long 100, .long (Int32.toInt64 t), .long (Int32.toInt64 v)]) (S' := S) rfl trivial ?_
      refine fV.callS (M2 := mX8_in) (d := d) (av := [.long (Int32.toInt64 v), .long (Int32.toInt64 t), .long 100]) (rest := []) kX8_in dX8_rule_27 lX8_83 rfl rfl (Nat.le_of_ble_eq_true rfl) (fRoom (by decide)) ⟨Nat.le_refl _, Nat.le_refl _⟩ (qX8_inP _ _ _ (P := t ≤ v ∧ v ≤ 100) (and_congr (w_le _ _) (w_leN (by decide) _))) ?_
      rintro _ S9 ⟨rfl, h9⟩
      rw [h9]
      clear h9 S9
      refine fV.to (pc' := 30) (L' := [(0, .ref 35), (1, .int t), (2, .int v)]) (st' := [.int (fB (decide (t ≤ v ∧ v ≤ 100)))]) (S' := S) rfl rfl rfl rfl ?_
      refine fV.if_ne bX8_rule_30 (fun c30 => ?_) (fun c30 => ?_)
      · refine fV.run iX8_rule_37_1 oX8_rule_37_1 (pc' := 38) (L' := [(0, .ref 35), (1, .int t), (2, .int v)]) (st' := [.int t]) (S' := S) rfl trivial ?_
        refine fV.if_ne bX8_rule_38 (fun c38 => ?_) (fun c38 => ?_)
        · refine fV.run iX8_rule_48_5 oX8_rule_48_5 (pc' := 55) (L' := [(0, .ref 35), (1, .int t), (2, .int v), (3, .int (gI S 35 14))]) (st' := [.int t, .ref 35]) (S' := S) rfl trivial ?_
          refine fV.if_ne bX8_rule_55 (fun c55 => ?_) (fun c55 => ?_)
          · refine fV.run iX8_rule_62_6 oX8_rule_62_6 (pc' := 72) (L' := [(0, .ref 35), (1, .int t), (2, .int v), (3, .int (gI S 35 14))]) (st' := [.int 1, .int t, .ref 35]) (S' := (wI S 35 13 (gI S 35 13))) rfl trivial ?_
            refine fV.icmp_ne bX8_rule_72 (fun c72 => ?_) (fun c72 => ?_)
            · refine fV.run iX8_rule_79_4 oX8_rule_79_4 (pc' := 87) (L' := [(0, .ref 35), (1, .int t), (2, .int v), (3, .int (gI S 35 14))]) (st' := [.int (gI S 35 14)]) (S' := (wI (wI S 35 13 (gI S 35 13)) 35 14 (gI S 35 14))) rfl trivial ?_
              exact fV.iret rfl dX8_rule_87 (by first | exact (by unfold oRule; rw [if_pos (by grind [fB, hD]), if_pos (by grind [fB, hD])]; exact ⟨rfl, rfl, rfl⟩) | exact (by unfold oRule; rw [if_neg (by grind [fB, hD]), if_pos (by grind [fB, hD]), if_pos (by grind [fB, hD])]; exact ⟨rfl, rfl, rfl⟩) | (exfalso; grind [fB]))
            · refine fV.run iX8_rule_75_4 oX8_rule_75_4 (pc' := 87) (L' := [(0, .ref 35), (1, .int t), (2, .int v), (3, .int (gI S 35 14))]) (st' := [.int (gI S 35 14)]) (S' := (wI (wI S 35 13 (gI S 35 13)) 35 14 v)) rfl trivial ?_
              exact fV.iret rfl dX8_rule_87 (by first | exact (by unfold oRule; rw [if_pos (by grind [fB, hD]), if_pos (by grind [fB, hD])]; exact ⟨rfl, rfl, rfl⟩) | exact (by unfold oRule; rw [if_neg (by grind [fB, hD]), if_pos (by grind [fB, hD]), if_pos (by grind [fB, hD])]; exact ⟨rfl, rfl, rfl⟩) | (exfalso; grind [fB]))
          · refine fV.run iX8_rule_58_6 oX8_rule_58_6 (pc' := 72) (L' := [(0, .ref 35), (1, .int t), (2, .int v), (3, .int (gI S 35 14))]) (st' := [.int 1, .int t, .ref 35]) (S' := (wI S 35 13 v)) rfl trivial ?_
            refine fV.icmp_ne bX8_rule_72 (fun c72 => ?_) (fun c72 => ?_)
            · refine fV.run iX8_rule_79_4 oX8_rule_79_4 (pc' := 87) (L' := [(0, .ref 35), (1, .int t), (2, .int v), (3, .int (gI S 35 14))]) (st' := [.int (gI S 35 14)]) (S' := (wI (wI S 35 13 v) 35 14 (gI S 35 14))) rfl trivial ?_
              exact fV.iret rfl dX8_rule_87 (by first | exact (by unfold oRule; rw [if_pos (by grind [fB, hD]), if_pos (by grind [fB, hD])]; exact ⟨rfl, rfl, rfl⟩) | exact (by unfold oRule; rw [if_neg (by grind [fB, hD]), if_pos (by grind [fB, hD]), if_pos (by grind [fB, hD])]; exact ⟨rfl, rfl, rfl⟩) | (exfalso; grind [fB]))
            · refine fV.run iX8_rule_75_4 oX8_rule_75_4 (pc' := 87) (L' := [(0, .ref 35), (1, .int t), (2, .int v), (3, .int (gI S 35 14))]) (st' := [.int (gI S 35 14)]) (S' := (wI (wI S 35 13 v) 35 14 v)) rfl trivial ?_
              exact fV.iret rfl dX8_rule_87 (by first | exact (by unfold oRule; rw [if_pos (by grind [fB, hD]), if_pos (by grind [fB, hD])]; exact ⟨rfl, rfl, rfl⟩) | exact (by unfold oRule; rw [if_neg (by grind [fB, hD]), if_pos (by grind [fB, hD]), if_pos (by grind [fB, hD])]; exact ⟨rfl, rfl, rfl⟩) | (exfalso; grind [fB]))
        · refine fV.run iX8_rule_41_6 oX8_rule_41_6 (pc' := 55) (L' := [(0, .ref 35), (1, .int t), (2, .int v), (3, .int (gI S 35 13))]) (st' := [.int t, .ref 35]) (S' := S) rfl trivial ?_
          refine fV.if_ne bX8_rule_55 (fun c55 => ?_) (fun c55 => ?_)
          · refine fV.run iX8_rule_62_6 oX8_rule_62_6 (pc' := 72) (L' := [(0, .ref 35), (1, .int t), (2, .int v), (3, .int (gI S 35 13))]) (st' := [.int 1, .int t, .ref 35]) (S' := (wI S 35 13 (gI S 35 13))) rfl trivial ?_
            refine fV.icmp_ne bX8_rule_72 (fun c72 => ?_) (fun c72 => ?_)
            · refine fV.run iX8_rule_79_4 oX8_rule_79_4 (pc' := 87) (L' := [(0, .ref 35), (1, .int t), (2, .int v), (3, .int (gI S 35 13))]) (st' := [.int (gI S 35 13)]) (S' := (wI (wI S 35 13 (gI S 35 13)) 35 14 (gI S 35 14))) rfl trivial ?_
              exact fV.iret rfl dX8_rule_87 (by first | exact (by unfold oRule; rw [if_pos (by grind [fB, hD]), if_pos (by grind [fB, hD])]; exact ⟨rfl, rfl, rfl⟩) | exact (by unfold oRule; rw [if_neg (by grind [fB, hD]), if_pos (by grind [fB, hD]), if_pos (by grind [fB, hD])]; exact ⟨rfl, rfl, rfl⟩) | (exfalso; grind [fB]))
            · refine fV.run iX8_rule_75_4 oX8_rule_75_4 (pc' := 87) (L' := [(0, .ref 35), (1, .int t), (2, .int v), (3, .int (gI S 35 13))]) (st' := [.int (gI S 35 13)]) (S' := (wI (wI S 35 13 (gI S 35 13)) 35 14 v)) rfl trivial ?_
              exact fV.iret rfl dX8_rule_87 (by first | exact (by unfold oRule; rw [if_pos (by grind [fB, hD]), if_pos (by grind [fB, hD])]; exact ⟨rfl, rfl, rfl⟩) | exact (by unfold oRule; rw [if_neg (by grind [fB, hD]), if_pos (by grind [fB, hD]), if_pos (by grind [fB, hD])]; exact ⟨rfl, rfl, rfl⟩) | (exfalso; grind [fB]))
          · refine fV.run iX8_rule_58_6 oX8_rule_58_6 (pc' := 72) (L' := [(0, .ref 35), (1, .int t), (2, .int v), (3, .int (gI S 35 13))]) (st' := [.int 1, .int t, .ref 35]) (S' := (wI S 35 13 v)) rfl trivial ?_
            refine fV.icmp_ne bX8_rule_72 (fun c72 => ?_) (fun c72 => ?_)
            · refine fV.run iX8_rule_79_4 oX8_rule_79_4 (pc' := 87) (L' := [(0, .ref 35), (1, .int t), (2, .int v), (3, .int (gI S 35 13))]) (st' := [.int (gI S 35 13)]) (S' := (wI (wI S 35 13 v) 35 14 (gI S 35 14))) rfl trivial ?_
              exact fV.iret rfl dX8_rule_87 (by first | exact (by unfold oRule; rw [if_pos (by grind [fB, hD]), if_pos (by grind [fB, hD])]; exact ⟨rfl, rfl, rfl⟩) | exact (by unfold oRule; rw [if_neg (by grind [fB, hD]), if_pos (by grind [fB, hD]), if_pos (by grind [fB, hD])]; exact ⟨rfl, rfl, rfl⟩) | (exfalso; grind [fB]))
            · refine fV.run iX8_rule_75_4 oX8_rule_75_4 (pc' := 87) (L' := [(0, .ref 35), (1, .int t), (2, .int v), (3, .int (gI S 35 13))]) (st' := [.int (gI S 35 13)]) (S' := (wI (wI S 35 13 v) 35 14 v)) rfl trivial ?_
              exact fV.iret rfl dX8_rule_87 (by first | exact (by unfold oRule; rw [if_pos (by grind [fB, hD]), if_pos (by grind [fB, hD])]; exact ⟨rfl, rfl, rfl⟩) | exact (by unfold oRule; rw [if_neg (by grind [fB, hD]), if_pos (by grind [fB, hD]), if_pos (by grind [fB, hD])]; exact ⟨rfl, rfl, rfl⟩) | (exfalso; grind [fB]))
      · refine fV.run iX8_rule_33_1 oX8_rule_33_1 (pc' := 36) (L' := [(0, .ref 35), (1, .int t), (2, .int v)]) (st' := [.int (-1002)]) (S' := S) rfl trivial ?_
        exact fV.iret rfl dX8_rule_36 (by first | exact (by unfold oRule; rw [if_pos (by grind [fB, hD]), if_neg (by grind [fB, hD])]; exact ⟨rfl, rfl, rfl⟩) | exact (by unfold oRule; rw [if_neg (by grind [fB, hD]), if_pos (by grind [fB, hD]), if_neg (by grind [fB, hD])]; exact ⟨rfl, rfl, rfl⟩) | exact (by unfold oRule; rw [if_neg (by grind [fB, hD]), if_neg (by grind [fB, hD])]; exact ⟨rfl, rfl, rfl⟩) | (exfalso; grind [fB]))
    · refine fV.run iX8_rule_18_2 oX8_rule_18_2 (pc' := 27) (L' := [(0, .ref 35), (1, .int t), (2, .int v)]) (st' := [.long 3, .long (Int32.toInt64 t), .long (Int32.toInt64 v)]) (S' := S) rfl trivial ?_
      refine fV.callS (M2 := mX8_in) (d := d) (av := [.long (Int32.toInt64 v), .long (Int32.toInt64 t), .long 3]) (rest := []) kX8_in dX8_rule_27 lX8_83 rfl rfl (Nat.le_of_ble_eq_true rfl) (fRoom (by decide)) ⟨Nat.le_refl _, Nat.le_refl _⟩ (qX8_inP _ _ _ (P := t ≤ v ∧ v ≤ 3) (and_congr (w_le _ _) (w_leN (by decide) _))) ?_
      rintro _ S9 ⟨rfl, h9⟩
      rw [h9]
      clear h9 S9
      refine fV.to (pc' := 30) (L' := [(0, .ref 35), (1, .int t), (2, .int v)]) (st' := [.int (fB (decide (t ≤ v ∧ v ≤ 3)))]) (S' := S) rfl rfl rfl rfl ?_
      refine fV.if_ne bX8_rule_30 (fun c30 => ?_) (fun c30 => ?_)
      · refine fV.run iX8_rule_37_1 oX8_rule_37_1 (pc' := 38) (L' := [(0, .ref 35), (1, .int t), (2, .int v)]) (st' := [.int t]) (S' := S) rfl trivial ?_
        refine fV.if_ne bX8_rule_38 (fun c38 => ?_) (fun c38 => ?_)
        · refine fV.run iX8_rule_48_5 oX8_rule_48_5 (pc' := 55) (L' := [(0, .ref 35), (1, .int t), (2, .int v), (3, .int (gI S 35 14))]) (st' := [.int t, .ref 35]) (S' := S) rfl trivial ?_
          refine fV.if_ne bX8_rule_55 (fun c55 => ?_) (fun c55 => ?_)
          · refine fV.run iX8_rule_62_6 oX8_rule_62_6 (pc' := 72) (L' := [(0, .ref 35), (1, .int t), (2, .int v), (3, .int (gI S 35 14))]) (st' := [.int 1, .int t, .ref 35]) (S' := (wI S 35 13 (gI S 35 13))) rfl trivial ?_
            refine fV.icmp_ne bX8_rule_72 (fun c72 => ?_) (fun c72 => ?_)
            · refine fV.run iX8_rule_79_4 oX8_rule_79_4 (pc' := 87) (L' := [(0, .ref 35), (1, .int t), (2, .int v), (3, .int (gI S 35 14))]) (st' := [.int (gI S 35 14)]) (S' := (wI (wI S 35 13 (gI S 35 13)) 35 14 (gI S 35 14))) rfl trivial ?_
              exact fV.iret rfl dX8_rule_87 (by first | exact (by unfold oRule; rw [if_pos (by grind [fB, hD]), if_pos (by grind [fB, hD])]; exact ⟨rfl, rfl, rfl⟩) | exact (by unfold oRule; rw [if_neg (by grind [fB, hD]), if_pos (by grind [fB, hD]), if_pos (by grind [fB, hD])]; exact ⟨rfl, rfl, rfl⟩) | (exfalso; grind [fB]))
            · refine fV.run iX8_rule_75_4 oX8_rule_75_4 (pc' := 87) (L' := [(0, .ref 35), (1, .int t), (2, .int v), (3, .int (gI S 35 14))]) (st' := [.int (gI S 35 14)]) (S' := (wI (wI S 35 13 (gI S 35 13)) 35 14 v)) rfl trivial ?_
              exact fV.iret rfl dX8_rule_87 (by first | exact (by unfold oRule; rw [if_pos (by grind [fB, hD]), if_pos (by grind [fB, hD])]; exact ⟨rfl, rfl, rfl⟩) | exact (by unfold oRule; rw [if_neg (by grind [fB, hD]), if_pos (by grind [fB, hD]), if_pos (by grind [fB, hD])]; exact ⟨rfl, rfl, rfl⟩) | (exfalso; grind [fB]))
          · refine fV.run iX8_rule_58_6 oX8_rule_58_6 (pc' := 72) (L' := [(0, .ref 35), (1, .int t), (2, .int v), (3, .int (gI S 35 14))]) (st' := [.int 1, .int t, .ref 35]) (S' := (wI S 35 13 v)) rfl trivial ?_
            refine fV.icmp_ne bX8_rule_72 (fun c72 => ?_) (fun c72 => ?_)
            · refine fV.run iX8_rule_79_4 oX8_rule_79_4 (pc' := 87) (L' := [(0, .ref 35), (1, .int t), (2, .int v), (3, .int (gI S 35 14))]) (st' := [.int (gI S 35 14)]) (S' := (wI (wI S 35 13 v) 35 14 (gI S 35 14))) rfl trivial ?_
              exact fV.iret rfl dX8_rule_87 (by first | exact (by unfold oRule; rw [if_pos (by grind [fB, hD]), if_pos (by grind [fB, hD])]; exact ⟨rfl, rfl, rfl⟩) | exact (by unfold oRule; rw [if_neg (by grind [fB, hD]), if_pos (by grind [fB, hD]), if_pos (by grind [fB, hD])]; exact ⟨rfl, rfl, rfl⟩) | (exfalso; grind [fB]))
            · refine fV.run iX8_rule_75_4 oX8_rule_75_4 (pc' := 87) (L' := [(0, .ref 35), (1, .int t), (2, .int v), (3, .int (gI S 35 14))]) (st' := [.int (gI S 35 14)]) (S' := (wI (wI S 35 13 v) 35 14 v)) rfl trivial ?_
              exact fV.iret rfl dX8_rule_87 (by first | exact (by unfold oRule; rw [if_pos (by grind [fB, hD]), if_pos (by grind [fB, hD])]; exact ⟨rfl, rfl, rfl⟩) | exact (by unfold oRule; rw [if_neg (by grind [fB, hD]), if_pos (by grind [fB, hD]), if_pos (by grind [fB, hD])]; exact ⟨rfl, rfl, rfl⟩) | (exfalso; grind [fB]))
        · refine fV.run iX8_rule_41_6 oX8_rule_41_6 (pc' := 55) (L' := [(0, .ref 35), (1, .int t), (2, .int v), (3, .int (gI S 35 13))]) (st' := [.int t, .ref 35]) (S' := S) rfl trivial ?_
          refine fV.if_ne bX8_rule_55 (fun c55 => ?_) (fun c55 => ?_)
          · refine fV.run iX8_rule_62_6 oX8_rule_62_6 (pc' := 72) (L' := [(0, .ref 35), (1, .int t), (2, .int v), (3, .int (gI S 35 13))]) (st' := [.int 1, .int t, .ref 35]) (S' := (wI S 35 13 (gI S 35 13))) rfl trivial ?_
            refine fV.icmp_ne bX8_rule_72 (fun c72 => ?_) (fun c72 => ?_)
            · refine fV.run iX8_rule_79_4 oX8_rule_79_4 (pc' := 87) (L' := [(0, .ref 35), (1, .int t), (2, .int v), (3, .int (gI S 35 13))]) (st' := [.int (gI S 35 13)]) (S' := (wI (wI S 35 13 (gI S 35 13)) 35 14 (gI S 35 14))) rfl trivial ?_
              exact fV.iret rfl dX8_rule_87 (by first | exact (by unfold oRule; rw [if_pos (by grind [fB, hD]), if_pos (by grind [fB, hD])]; exact ⟨rfl, rfl, rfl⟩) | exact (by unfold oRule; rw [if_neg (by grind [fB, hD]), if_pos (by grind [fB, hD]), if_pos (by grind [fB, hD])]; exact ⟨rfl, rfl, rfl⟩) | (exfalso; grind [fB]))
            · refine fV.run iX8_rule_75_4 oX8_rule_75_4 (pc' := 87) (L' := [(0, .ref 35), (1, .int t), (2, .int v), (3, .int (gI S 35 13))]) (st' := [.int (gI S 35 13)]) (S' := (wI (wI S 35 13 (gI S 35 13)) 35 14 v)) rfl trivial ?_
              exact fV.iret rfl dX8_rule_87 (by first | exact (by unfold oRule; rw [if_pos (by grind [fB, hD]), if_pos (by grind [fB, hD])]; exact ⟨rfl, rfl, rfl⟩) | exact (by unfold oRule; rw [if_neg (by grind [fB, hD]), if_pos (by grind [fB, hD]), if_pos (by grind [fB, hD])]; exact ⟨rfl, rfl, rfl⟩) | (exfalso; grind [fB]))
          · refine fV.run iX8_rule_58_6 oX8_rule_58_6 (pc' := 72) (L' := [(0, .ref 35), (1, .int t), (2, .int v), (3, .int (gI S 35 13))]) (st' := [.int 1, .int t, .ref 35]) (S' := (wI S 35 13 v)) rfl trivial ?_
            refine fV.icmp_ne bX8_rule_72 (fun c72 => ?_) (fun c72 => ?_)
            · refine fV.run iX8_rule_79_4 oX8_rule_79_4 (pc' := 87) (L' := [(0, .ref 35), (1, .int t), (2, .int v), (3, .int (gI S 35 13))]) (st' := [.int (gI S 35 13)]) (S' := (wI (wI S 35 13 v) 35 14 (gI S 35 14))) rfl trivial ?_
              exact fV.iret rfl dX8_rule_87 (by first | exact (by unfold oRule; rw [if_pos (by grind [fB, hD]), if_pos (by grind [fB, hD])]; exact ⟨rfl, rfl, rfl⟩) | exact (by unfold oRule; rw [if_neg (by grind [fB, hD]), if_pos (by grind [fB, hD]), if_pos (by grind [fB, hD])]; exact ⟨rfl, rfl, rfl⟩) | (exfalso; grind [fB]))
            · refine fV.run iX8_rule_75_4 oX8_rule_75_4 (pc' := 87) (L' := [(0, .ref 35), (1, .int t), (2, .int v), (3, .int (gI S 35 13))]) (st' := [.int (gI S 35 13)]) (S' := (wI (wI S 35 13 v) 35 14 v)) rfl trivial ?_
              exact fV.iret rfl dX8_rule_87 (by first | exact (by unfold oRule; rw [if_pos (by grind [fB, hD]), if_pos (by grind [fB, hD])]; exact ⟨rfl, rfl, rfl⟩) | exact (by unfold oRule; rw [if_neg (by grind [fB, hD]), if_pos (by grind [fB, hD]), if_pos (by grind [fB, hD])]; exact ⟨rfl, rfl, rfl⟩) | (exfalso; grind [fB]))
      · refine fV.run iX8_rule_33_1 oX8_rule_33_1 (pc' := 36) (L' := [(0, .ref 35), (1, .int t), (2, .int v)]) (st' := [.int (-1002)]) (S' := S) rfl trivial ?_
        exact fV.iret rfl dX8_rule_36 (by first | exact (by unfold oRule; rw [if_pos (by grind [fB, hD]), if_neg (by grind [fB, hD])]; exact ⟨rfl, rfl, rfl⟩) | exact (by unfold oRule; rw [if_neg (by grind [fB, hD]), if_pos (by grind [fB, hD]), if_neg (by grind [fB, hD])]; exact ⟨rfl, rfl, rfl⟩) | exact (by unfold oRule; rw [if_neg (by grind [fB, hD]), if_neg (by grind [fB, hD])]; exact ⟨rfl, rfl, rfl⟩) | (exfalso; grind [fB]))
def iX8_size_0_1 : List Instr := [.iload_n 0]
theorem oX8_size_0_1 : fOkB cX8_size 0 iX8_size_0_1 = true := by decide +kernel
theorem bX8_size_1 : fBk cX8_size 1 (.ifCond .ge) 9 := ⟨8, by decide +kernel, by decide⟩
def iX8_size_9_1 : List Instr := [.iload_n 0]
theorem oX8_size_9_1 : fOkB cX8_size 9 iX8_size_9_1 = true := by decide +kernel
theorem dX8_size_10 : decode cX8_size 10 = .ok (.ireturn, 1) := by decide +kernel
def iX8_size_4_3 : List Instr := [.iload_n 0, .ineg, .goto 4]
theorem oX8_size_4_3 : fOkB cX8_size 4 iX8_size_4_3 = true := by decide +kernel
set_option maxRecDepth 100000 in
theorem qX8_size {G : fG} {d : Nat} {S : fS} (v : Int32)  : fCtr G (d) mX8_size [.int v] S (fun r S' => r = some (.int (hSz v)) ∧ S' = S) := by
  refine fCtr.of bXX8_size (Nat.le_of_ble_eq_true rfl) rfl ?_
  refine fV.run iX8_size_0_1 oX8_size_0_1 (pc' := 1) (L' := [(0, .int v)]) (st' := [.int v]) (S' := S) rfl trivial ?_
  refine fV.if_ge bX8_size_1 (fun c1 => ?_) (fun c1 => ?_)
  · refine fV.run iX8_size_9_1 oX8_size_9_1 (pc' := 10) (L' := [(0, .int v)]) (st' := [.int v]) (S' := S) rfl trivial ?_
    exact fV.iret rfl dX8_size_10 ⟨by rw [hSz, if_neg (by grind)], rfl⟩
  · refine fV.run iX8_size_4_3 oX8_size_4_3 (pc' := 10) (L' := [(0, .int v)]) (st' := [.int (-v)]) (S' := S) rfl trivial ?_
    exact fV.iret rfl dX8_size_10 ⟨by rw [hSz, if_pos (by grind)], rfl⟩
def iX8_lengthOf_0_15 : List Instr := [.aload_n 0, .getfield 16, .iconst 4, .iload_n 1, .imul, .iaload, .aload_n 0, .getfield 16, .iconst 4, .iload_n 1, .imul, .iconst 2, .iadd, .iaload, .isub]
theorem oX8_lengthOf_0_15 : fOkB cX8_lengthOf 0 iX8_lengthOf_0_15 = true := by decide +kernel
set_option maxRecDepth 100000 in
theorem lX8_117 : Cond.methodLink RX8 117 yX8_size ∈ fTB := fTB_at 773 rfl rfl
theorem dX8_lengthOf_19 : decode cX8_lengthOf 19 = .ok (.invokestatic 117, 3) := by decide +kernel
def iX8_lengthOf_22_17 : List Instr := [.aload_n 0, .getfield 16, .iconst 4, .iload_n 1, .imul, .iconst 1, .iadd, .iaload, .aload_n 0, .getfield 16, .iconst 4, .iload_n 1, .imul, .iconst 3, .iadd, .iaload, .isub]
theorem oX8_lengthOf_22_17 : fOkB cX8_lengthOf 22 iX8_lengthOf_22_17 = true := by decide +kernel
theorem dX8_lengthOf_43 : decode cX8_lengthOf 43 = .ok (.invokestatic 117, 3) := by decide +kernel
def iX8_lengthOf_46_1 : List Instr := [.iadd]
theorem oX8_lengthOf_46_1 : fOkB cX8_lengthOf 46 iX8_lengthOf_46_1 = true := by decide +kernel
theorem dX8_lengthOf_47 : decode cX8_lengthOf 47 = .ok (.ireturn, 1) := by decide +kernel
set_option maxRecDepth 100000 in
theorem qX8_lengthOf {G : fG} {d : Nat} {S : fS} {w : Nat} (hw : w < 16) : fCtr G (d + 1) mX8_lengthOf [.ref 35, .int (nI w)] S (fun r S' => r = some (.int (rLen (gA S 38) w)) ∧ S' = S) := by
  refine fCtr.of bXX8_lengthOf (Nat.le_of_ble_eq_true rfl) rfl ?_
  refine fV.run iX8_lengthOf_0_15 oX8_lengthOf_0_15 (pc' := 19) (L' := [(0, .ref 35), (1, .int (nI w))]) (st' := [.int ((gA S 38 (4 * (nI w)).toNatClampNeg) - (gA S 38 ((4 * (nI w)) + 2).toNatClampNeg))]) (S' := S) (P := vp_in (4 * (nI w)) 64 ∧ vp_in ((4 * (nI w)) + 2) 64 ∧ True) rfl ⟨(by first | exact (vin4 hw).1 | exact (vin4 hw).2.1 | exact (vin4 hw).2.2.1 | exact (vin4 hw).2.2.2), (by first | exact (vin4 hw).1 | exact (vin4 hw).2.1 | exact (vin4 hw).2.2.1 | exact (vin4 hw).2.2.2), trivial⟩ ?_
  refine fV.callS (M2 := mX8_size) (d := d) (av := [.int ((gA S 38 (4 * (nI w)).toNatClampNeg) - (gA S 38 ((4 * (nI w)) + 2).toNatClampNeg))]) (rest := []) kX8_size dX8_lengthOf_19 lX8_117 rfl rfl (Nat.le_of_ble_eq_true rfl) (fRoom (by decide)) ⟨Nat.le_refl _, Nat.le_refl _⟩ (qX8_size _) ?_
  rintro _ S9 ⟨rfl, h9⟩
  rw [h9]
  clear h9 S9
  refine fV.to (pc' := 22) (L' := [(0, .ref 35), (1, .int (nI w))]) (st' := [.int (hSz ((gA S 38 (4 * (nI w)).toNatClampNeg) - (gA S 38 ((4 * (nI w)) + 2).toNatClampNeg)))]) (S' := S) rfl rfl rfl rfl ?_
  refine fV.run iX8_lengthOf_22_17 oX8_lengthOf_22_17 (pc' := 43) (L' := [(0, .ref 35), (1, .int (nI w))]) (st' := [.int ((gA S 38 ((4 * (nI w)) + 1).toNatClampNeg) - (gA S 38 ((4 * (nI w)) + 3).toNatClampNeg)), .int (hSz ((gA S 38 (4 * (nI w)).toNatClampNeg) - (gA S 38 ((4 * (nI w)) + 2).toNatClampNeg)))]) (S' := S) (P := vp_in ((4 * (nI w)) + 1) 64 ∧ vp_in ((4 * (nI w)) + 3) 64 ∧ True) rfl ⟨(by first | exact (vin4 hw).1 | exact (vin4 hw).2.1 | exact (vin4 hw).2.2.1 | exact (vin4 hw).2.2.2), (by first | exact (vin4 hw).1 | exact (vin4 hw).2.1 | exact (vin4 hw).2.2.1 | exact (vin4 hw).2.2.2), trivial⟩ ?_
  refine fV.callS (M2 := mX8_size) (d := d) (av := [.int ((gA S 38 ((4 * (nI w)) + 1).toNatClampNeg) - (gA S 38 ((4 * (nI w)) + 3).toNatClampNeg))]) (rest := [.int (hSz ((gA S 38 (4 * (nI w)).toNatClampNeg) - (gA S 38 ((4 * (nI w)) + 2).toNatClampNeg)))]) kX8_size dX8_lengthOf_43 lX8_117 rfl rfl (Nat.le_of_ble_eq_true rfl) (fRoom (by decide)) ⟨Nat.le_refl _, Nat.le_refl _⟩ (qX8_size _) ?_
  rintro _ S9 ⟨rfl, h9⟩
  rw [h9]
  clear h9 S9
  refine fV.to (pc' := 46) (L' := [(0, .ref 35), (1, .int (nI w))]) (st' := [.int (hSz ((gA S 38 ((4 * (nI w)) + 1).toNatClampNeg) - (gA S 38 ((4 * (nI w)) + 3).toNatClampNeg))), .int (hSz ((gA S 38 (4 * (nI w)).toNatClampNeg) - (gA S 38 ((4 * (nI w)) + 2).toNatClampNeg)))]) (S' := S) rfl rfl rfl rfl ?_
  refine fV.run iX8_lengthOf_46_1 oX8_lengthOf_46_1 (pc' := 47) (L' := [(0, .ref 35), (1, .int (nI w))]) (st' := [.int ((hSz ((gA S 38 (4 * (nI w)).toNatClampNeg) - (gA S 38 ((4 * (nI w)) + 2).toNatClampNeg))) + (hSz ((gA S 38 ((4 * (nI w)) + 1).toNatClampNeg) - (gA S 38 ((4 * (nI w)) + 3).toNatClampNeg))))]) (S' := S) rfl trivial ?_
  exact fV.iret rfl dX8_lengthOf_47 ⟨by obtain ⟨e0, e1, e2, e3⟩ := cl4 (b := w) (by omega); rw [e0, e1, e2, e3]; rfl, rfl⟩

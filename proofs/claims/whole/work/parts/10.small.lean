def iX7_isWithin_0_2 : List Instr := [.iload_n 0, .iload_n 1]
theorem oX7_isWithin_0_2 : fOkB cX7_isWithin 0 iX7_isWithin_0_2 = true := by decide +kernel
theorem bX7_isWithin_2 : fBk cX7_isWithin 2 (.if_icmp .lt) 14 := ⟨12, by decide +kernel, by decide⟩
def iX7_isWithin_14_1 : List Instr := [.iconst 0]
theorem oX7_isWithin_14_1 : fOkB cX7_isWithin 14 iX7_isWithin_14_1 = true := by decide +kernel
theorem dX7_isWithin_15 : decode cX7_isWithin 15 = .ok (.ireturn, 1) := by decide +kernel
def iX7_isWithin_5_2 : List Instr := [.iload_n 0, .iload_n 2]
theorem oX7_isWithin_5_2 : fOkB cX7_isWithin 5 iX7_isWithin_5_2 = true := by decide +kernel
theorem bX7_isWithin_7 : fBk cX7_isWithin 7 (.if_icmp .gt) 14 := ⟨7, by decide +kernel, by decide⟩
def iX7_isWithin_10_2 : List Instr := [.iconst 1, .goto 4]
theorem oX7_isWithin_10_2 : fOkB cX7_isWithin 10 iX7_isWithin_10_2 = true := by decide +kernel
set_option maxRecDepth 100000 in
theorem qX7_isWithin {G : fG} {d : Nat} {S : fS} (x a b : Int32)  : fCtr G (d) mX7_isWithin [.int x, .int a, .int b] S (fun r S' => r = some (.int (fB (decide (a ≤ x ∧ x ≤ b)))) ∧ S' = S) := by
  refine fCtr.of bXX7_isWithin (Nat.le_of_ble_eq_true rfl) rfl ?_
  refine fV.run iX7_isWithin_0_2 oX7_isWithin_0_2 (pc' := 2) (L' := [(0, .int x), (1, .int a), (2, .int b)]) (st' := [.int a, .int x]) (S' := S) rfl trivial ?_
  refine fV.icmp_lt bX7_isWithin_2 (fun c2 => ?_) (fun c2 => ?_)
  · refine fV.run iX7_isWithin_14_1 oX7_isWithin_14_1 (pc' := 15) (L' := [(0, .int x), (1, .int a), (2, .int b)]) (st' := [.int 0]) (S' := S) rfl trivial ?_
    exact fV.zret rfl dX7_isWithin_15 (by decide) ⟨fBf (by grind [fB]), rfl⟩
  · refine fV.run iX7_isWithin_5_2 oX7_isWithin_5_2 (pc' := 7) (L' := [(0, .int x), (1, .int a), (2, .int b)]) (st' := [.int b, .int x]) (S' := S) rfl trivial ?_
    refine fV.icmp_gt bX7_isWithin_7 (fun c7 => ?_) (fun c7 => ?_)
    · refine fV.run iX7_isWithin_14_1 oX7_isWithin_14_1 (pc' := 15) (L' := [(0, .int x), (1, .int a), (2, .int b)]) (st' := [.int 0]) (S' := S) rfl trivial ?_
      exact fV.zret rfl dX7_isWithin_15 (by decide) ⟨fBf (by grind [fB]), rfl⟩
    · refine fV.run iX7_isWithin_10_2 oX7_isWithin_10_2 (pc' := 15) (L' := [(0, .int x), (1, .int a), (2, .int b)]) (st' := [.int 1]) (S' := S) rfl trivial ?_
      exact fV.zret rfl dX7_isWithin_15 (by decide) ⟨fBt (by grind [fB]), rfl⟩
def iX7_isPoint_0_3 : List Instr := [.iload_n 0, .iconst 0, .sipush 1000]
theorem oX7_isPoint_0_3 : fOkB cX7_isPoint 0 iX7_isPoint_0_3 = true := by decide +kernel
set_option maxRecDepth 100000 in
theorem lX7_74 : Cond.methodLink RX7 74 yX7_isWithin ∈ fTB := fTB_at 323 rfl rfl
theorem dX7_isPoint_5 : decode cX7_isPoint 5 = .ok (.invokestatic 74, 3) := by decide +kernel
theorem bX7_isPoint_8 : fBk cX7_isPoint 8 (.ifCond .eq) 26 := ⟨18, by decide +kernel, by decide⟩
def iX7_isPoint_26_1 : List Instr := [.iconst 0]
theorem oX7_isPoint_26_1 : fOkB cX7_isPoint 26 iX7_isPoint_26_1 = true := by decide +kernel
theorem dX7_isPoint_27 : decode cX7_isPoint 27 = .ok (.ireturn, 1) := by decide +kernel
def iX7_isPoint_11_3 : List Instr := [.iload_n 1, .iconst 0, .sipush 1000]
theorem oX7_isPoint_11_3 : fOkB cX7_isPoint 11 iX7_isPoint_11_3 = true := by decide +kernel
theorem dX7_isPoint_16 : decode cX7_isPoint 16 = .ok (.invokestatic 74, 3) := by decide +kernel
theorem bX7_isPoint_19 : fBk cX7_isPoint 19 (.ifCond .eq) 26 := ⟨7, by decide +kernel, by decide⟩
def iX7_isPoint_22_2 : List Instr := [.iconst 1, .goto 4]
theorem oX7_isPoint_22_2 : fOkB cX7_isPoint 22 iX7_isPoint_22_2 = true := by decide +kernel
set_option maxRecDepth 100000 in
theorem qX7_isPoint {G : fG} {d : Nat} {S : fS} (x y : Int32)  : fCtr G (d + 1) mX7_isPoint [.int x, .int y] S (fun r S' => r = some (.int (fB (decide ((0 ≤ x ∧ x ≤ 1000) ∧ (0 ≤ y ∧ y ≤ 1000))))) ∧ S' = S) := by
  refine fCtr.of bXX7_isPoint (Nat.le_of_ble_eq_true rfl) rfl ?_
  refine fV.run iX7_isPoint_0_3 oX7_isPoint_0_3 (pc' := 5) (L' := [(0, .int x), (1, .int y)]) (st' := [.int 1000, .int 0, .int x]) (S' := S) rfl trivial ?_
  refine fV.callS (M2 := mX7_isWithin) (d := d) (av := [.int x, .int 0, .int 1000]) (rest := []) kX7_isWithin dX7_isPoint_5 lX7_74 rfl rfl (Nat.le_of_ble_eq_true rfl) (fRoom (by decide)) ⟨Nat.le_refl _, Nat.le_refl _⟩ (qX7_isWithin _ _ _) ?_
  rintro _ S9 ⟨rfl, h9⟩
  rw [h9]
  clear h9 S9
  refine fV.to (pc' := 8) (L' := [(0, .int x), (1, .int y)]) (st' := [.int (fB (decide (0 ≤ x ∧ x ≤ 1000)))]) (S' := S) rfl rfl rfl rfl ?_
  refine fV.if_eq bX7_isPoint_8 (fun c8 => ?_) (fun c8 => ?_)
  · refine fV.run iX7_isPoint_26_1 oX7_isPoint_26_1 (pc' := 27) (L' := [(0, .int x), (1, .int y)]) (st' := [.int 0]) (S' := S) rfl trivial ?_
    exact fV.zret rfl dX7_isPoint_27 (by decide) ⟨fBf (by grind [fB]), rfl⟩
  · refine fV.run iX7_isPoint_11_3 oX7_isPoint_11_3 (pc' := 16) (L' := [(0, .int x), (1, .int y)]) (st' := [.int 1000, .int 0, .int y]) (S' := S) rfl trivial ?_
    refine fV.callS (M2 := mX7_isWithin) (d := d) (av := [.int y, .int 0, .int 1000]) (rest := []) kX7_isWithin dX7_isPoint_16 lX7_74 rfl rfl (Nat.le_of_ble_eq_true rfl) (fRoom (by decide)) ⟨Nat.le_refl _, Nat.le_refl _⟩ (qX7_isWithin _ _ _) ?_
    rintro _ S9 ⟨rfl, h9⟩
    rw [h9]
    clear h9 S9
    refine fV.to (pc' := 19) (L' := [(0, .int x), (1, .int y)]) (st' := [.int (fB (decide (0 ≤ y ∧ y ≤ 1000)))]) (S' := S) rfl rfl rfl rfl ?_
    refine fV.if_eq bX7_isPoint_19 (fun c19 => ?_) (fun c19 => ?_)
    · refine fV.run iX7_isPoint_26_1 oX7_isPoint_26_1 (pc' := 27) (L' := [(0, .int x), (1, .int y)]) (st' := [.int 0]) (S' := S) rfl trivial ?_
      exact fV.zret rfl dX7_isPoint_27 (by decide) ⟨fBf (by grind [fB]), rfl⟩
    · refine fV.run iX7_isPoint_22_2 oX7_isPoint_22_2 (pc' := 27) (L' := [(0, .int x), (1, .int y)]) (st' := [.int 1]) (S' := S) rfl trivial ?_
      exact fV.zret rfl dX7_isPoint_27 (by decide) ⟨fBt (by grind [fB]), rfl⟩
def iX2_has_0_1 : List Instr := [.iload_n 1]
theorem oX2_has_0_1 : fOkB cX2_has 0 iX2_has_0_1 = true := by decide +kernel
theorem bX2_has_1 : fBk cX2_has 1 (.ifCond .lt) 16 := ⟨15, by decide +kernel, by decide⟩
def iX2_has_16_1 : List Instr := [.iconst 0]
theorem oX2_has_16_1 : fOkB cX2_has 16 iX2_has_16_1 = true := by decide +kernel
theorem dX2_has_17 : decode cX2_has 17 = .ok (.ireturn, 1) := by decide +kernel
def iX2_has_4_3 : List Instr := [.iload_n 1, .aload_n 0, .getfield 9]
theorem oX2_has_4_3 : fOkB cX2_has 4 iX2_has_4_3 = true := by decide +kernel
theorem bX2_has_9 : fBk cX2_has 9 (.if_icmp .ge) 16 := ⟨7, by decide +kernel, by decide⟩
def iX2_has_12_2 : List Instr := [.iconst 1, .goto 4]
theorem oX2_has_12_2 : fOkB cX2_has 12 iX2_has_12_2 = true := by decide +kernel
set_option maxRecDepth 100000 in
theorem qX2_has_11 {G : fG} {d : Nat} {S : fS} (x : Int32)  : fCtr G (d) mX2_has [.ref 11, .int x] S (fun r S' => r = some (.int (fB (decide (0 ≤ x ∧ x < gI S 11 2)))) ∧ S' = S) := by
  refine fCtr.of bXX2_has (Nat.le_of_ble_eq_true rfl) rfl ?_
  refine fV.run iX2_has_0_1 oX2_has_0_1 (pc' := 1) (L' := [(0, .ref 11), (1, .int x)]) (st' := [.int x]) (S' := S) rfl trivial ?_
  refine fV.if_lt bX2_has_1 (fun c1 => ?_) (fun c1 => ?_)
  · refine fV.run iX2_has_16_1 oX2_has_16_1 (pc' := 17) (L' := [(0, .ref 11), (1, .int x)]) (st' := [.int 0]) (S' := S) rfl trivial ?_
    exact fV.zret rfl dX2_has_17 (by decide) ⟨fBf (by grind [fB]), rfl⟩
  · refine fV.run iX2_has_4_3 oX2_has_4_3 (pc' := 9) (L' := [(0, .ref 11), (1, .int x)]) (st' := [.int (gI S 11 2), .int x]) (S' := S) rfl trivial ?_
    refine fV.icmp_ge bX2_has_9 (fun c9 => ?_) (fun c9 => ?_)
    · refine fV.run iX2_has_16_1 oX2_has_16_1 (pc' := 17) (L' := [(0, .ref 11), (1, .int x)]) (st' := [.int 0]) (S' := S) rfl trivial ?_
      exact fV.zret rfl dX2_has_17 (by decide) ⟨fBf (by grind [fB]), rfl⟩
    · refine fV.run iX2_has_12_2 oX2_has_12_2 (pc' := 17) (L' := [(0, .ref 11), (1, .int x)]) (st' := [.int 1]) (S' := S) rfl trivial ?_
      exact fV.zret rfl dX2_has_17 (by decide) ⟨fBt (by grind [fB]), rfl⟩
set_option maxRecDepth 100000 in
theorem qX2_has_14 {G : fG} {d : Nat} {S : fS} (x : Int32)  : fCtr G (d) mX2_has [.ref 14, .int x] S (fun r S' => r = some (.int (fB (decide (0 ≤ x ∧ x < gI S 14 2)))) ∧ S' = S) := by
  refine fCtr.of bXX2_has (Nat.le_of_ble_eq_true rfl) rfl ?_
  refine fV.run iX2_has_0_1 oX2_has_0_1 (pc' := 1) (L' := [(0, .ref 14), (1, .int x)]) (st' := [.int x]) (S' := S) rfl trivial ?_
  refine fV.if_lt bX2_has_1 (fun c1 => ?_) (fun c1 => ?_)
  · refine fV.run iX2_has_16_1 oX2_has_16_1 (pc' := 17) (L' := [(0, .ref 14), (1, .int x)]) (st' := [.int 0]) (S' := S) rfl trivial ?_
    exact fV.zret rfl dX2_has_17 (by decide) ⟨fBf (by grind [fB]), rfl⟩
  · refine fV.run iX2_has_4_3 oX2_has_4_3 (pc' := 9) (L' := [(0, .ref 14), (1, .int x)]) (st' := [.int (gI S 14 2), .int x]) (S' := S) rfl trivial ?_
    refine fV.icmp_ge bX2_has_9 (fun c9 => ?_) (fun c9 => ?_)
    · refine fV.run iX2_has_16_1 oX2_has_16_1 (pc' := 17) (L' := [(0, .ref 14), (1, .int x)]) (st' := [.int 0]) (S' := S) rfl trivial ?_
      exact fV.zret rfl dX2_has_17 (by decide) ⟨fBf (by grind [fB]), rfl⟩
    · refine fV.run iX2_has_12_2 oX2_has_12_2 (pc' := 17) (L' := [(0, .ref 14), (1, .int x)]) (st' := [.int 1]) (S' := S) rfl trivial ?_
      exact fV.zret rfl dX2_has_17 (by decide) ⟨fBt (by grind [fB]), rfl⟩
def iX4_has_0_1 : List Instr := [.iload_n 1]
theorem oX4_has_0_1 : fOkB cX4_has 0 iX4_has_0_1 = true := by decide +kernel
theorem bX4_has_1 : fBk cX4_has 1 (.ifCond .lt) 16 := ⟨15, by decide +kernel, by decide⟩
def iX4_has_16_1 : List Instr := [.iconst 0]
theorem oX4_has_16_1 : fOkB cX4_has 16 iX4_has_16_1 = true := by decide +kernel
theorem dX4_has_17 : decode cX4_has 17 = .ok (.ireturn, 1) := by decide +kernel
def iX4_has_4_3 : List Instr := [.iload_n 1, .aload_n 0, .getfield 18]
theorem oX4_has_4_3 : fOkB cX4_has 4 iX4_has_4_3 = true := by decide +kernel
theorem bX4_has_9 : fBk cX4_has 9 (.if_icmp .ge) 16 := ⟨7, by decide +kernel, by decide⟩
def iX4_has_12_2 : List Instr := [.iconst 1, .goto 4]
theorem oX4_has_12_2 : fOkB cX4_has 12 iX4_has_12_2 = true := by decide +kernel
set_option maxRecDepth 100000 in
theorem qX4_has_1 {G : fG} {d : Nat} {S : fS} (x : Int32)  : fCtr G (d) mX4_has [.ref 1, .int x] S (fun r S' => r = some (.int (fB (decide (0 ≤ x ∧ x < gI S 1 2)))) ∧ S' = S) := by
  refine fCtr.of bXX4_has (Nat.le_of_ble_eq_true rfl) rfl ?_
  refine fV.run iX4_has_0_1 oX4_has_0_1 (pc' := 1) (L' := [(0, .ref 1), (1, .int x)]) (st' := [.int x]) (S' := S) rfl trivial ?_
  refine fV.if_lt bX4_has_1 (fun c1 => ?_) (fun c1 => ?_)
  · refine fV.run iX4_has_16_1 oX4_has_16_1 (pc' := 17) (L' := [(0, .ref 1), (1, .int x)]) (st' := [.int 0]) (S' := S) rfl trivial ?_
    exact fV.zret rfl dX4_has_17 (by decide) ⟨fBf (by grind [fB]), rfl⟩
  · refine fV.run iX4_has_4_3 oX4_has_4_3 (pc' := 9) (L' := [(0, .ref 1), (1, .int x)]) (st' := [.int (gI S 1 2), .int x]) (S' := S) rfl trivial ?_
    refine fV.icmp_ge bX4_has_9 (fun c9 => ?_) (fun c9 => ?_)
    · refine fV.run iX4_has_16_1 oX4_has_16_1 (pc' := 17) (L' := [(0, .ref 1), (1, .int x)]) (st' := [.int 0]) (S' := S) rfl trivial ?_
      exact fV.zret rfl dX4_has_17 (by decide) ⟨fBf (by grind [fB]), rfl⟩
    · refine fV.run iX4_has_12_2 oX4_has_12_2 (pc' := 17) (L' := [(0, .ref 1), (1, .int x)]) (st' := [.int 1]) (S' := S) rfl trivial ?_
      exact fV.zret rfl dX4_has_17 (by decide) ⟨fBt (by grind [fB]), rfl⟩
def iX6_has_0_1 : List Instr := [.iload_n 1]
theorem oX6_has_0_1 : fOkB cX6_has 0 iX6_has_0_1 = true := by decide +kernel
theorem bX6_has_1 : fBk cX6_has 1 (.ifCond .lt) 16 := ⟨15, by decide +kernel, by decide⟩
def iX6_has_16_1 : List Instr := [.iconst 0]
theorem oX6_has_16_1 : fOkB cX6_has 16 iX6_has_16_1 = true := by decide +kernel
theorem dX6_has_17 : decode cX6_has 17 = .ok (.ireturn, 1) := by decide +kernel
def iX6_has_4_3 : List Instr := [.iload_n 1, .aload_n 0, .getfield 30]
theorem oX6_has_4_3 : fOkB cX6_has 4 iX6_has_4_3 = true := by decide +kernel
theorem bX6_has_9 : fBk cX6_has 9 (.if_icmp .ge) 16 := ⟨7, by decide +kernel, by decide⟩
def iX6_has_12_2 : List Instr := [.iconst 1, .goto 4]
theorem oX6_has_12_2 : fOkB cX6_has 12 iX6_has_12_2 = true := by decide +kernel
set_option maxRecDepth 100000 in
theorem qX6_has_4 {G : fG} {d : Nat} {S : fS} (x : Int32)  : fCtr G (d) mX6_has [.ref 4, .int x] S (fun r S' => r = some (.int (fB (decide (0 ≤ x ∧ x < gI S 4 6)))) ∧ S' = S) := by
  refine fCtr.of bXX6_has (Nat.le_of_ble_eq_true rfl) rfl ?_
  refine fV.run iX6_has_0_1 oX6_has_0_1 (pc' := 1) (L' := [(0, .ref 4), (1, .int x)]) (st' := [.int x]) (S' := S) rfl trivial ?_
  refine fV.if_lt bX6_has_1 (fun c1 => ?_) (fun c1 => ?_)
  · refine fV.run iX6_has_16_1 oX6_has_16_1 (pc' := 17) (L' := [(0, .ref 4), (1, .int x)]) (st' := [.int 0]) (S' := S) rfl trivial ?_
    exact fV.zret rfl dX6_has_17 (by decide) ⟨fBf (by grind [fB]), rfl⟩
  · refine fV.run iX6_has_4_3 oX6_has_4_3 (pc' := 9) (L' := [(0, .ref 4), (1, .int x)]) (st' := [.int (gI S 4 6), .int x]) (S' := S) rfl trivial ?_
    refine fV.icmp_ge bX6_has_9 (fun c9 => ?_) (fun c9 => ?_)
    · refine fV.run iX6_has_16_1 oX6_has_16_1 (pc' := 17) (L' := [(0, .ref 4), (1, .int x)]) (st' := [.int 0]) (S' := S) rfl trivial ?_
      exact fV.zret rfl dX6_has_17 (by decide) ⟨fBf (by grind [fB]), rfl⟩
    · refine fV.run iX6_has_12_2 oX6_has_12_2 (pc' := 17) (L' := [(0, .ref 4), (1, .int x)]) (st' := [.int 1]) (S' := S) rfl trivial ?_
      exact fV.zret rfl dX6_has_17 (by decide) ⟨fBt (by grind [fB]), rfl⟩
def iX7_areThere_0_3 : List Instr := [.aload_n 0, .getfield 28, .iload_n 1]
theorem oX7_areThere_0_3 : fOkB cX7_areThere 0 iX7_areThere_0_3 = true := by decide +kernel
set_option maxRecDepth 100000 in
theorem lX7_101 : Cond.methodLink RX7 101 yX2_has ∈ fTB := fTB_at 373 rfl rfl
theorem dX7_areThere_5 : decode cX7_areThere 5 = .ok (.invokevirtual 101, 3) := by decide +kernel
theorem bX7_areThere_8 : fBk cX7_areThere 8 (.ifCond .eq) 26 := ⟨18, by decide +kernel, by decide⟩
def iX7_areThere_26_1 : List Instr := [.iconst 0]
theorem oX7_areThere_26_1 : fOkB cX7_areThere 26 iX7_areThere_26_1 = true := by decide +kernel
theorem dX7_areThere_27 : decode cX7_areThere 27 = .ok (.ireturn, 1) := by decide +kernel
def iX7_areThere_11_3 : List Instr := [.aload_n 0, .getfield 32, .iload_n 2]
theorem oX7_areThere_11_3 : fOkB cX7_areThere 11 iX7_areThere_11_3 = true := by decide +kernel
theorem dX7_areThere_16 : decode cX7_areThere 16 = .ok (.invokevirtual 101, 3) := by decide +kernel
theorem bX7_areThere_19 : fBk cX7_areThere 19 (.ifCond .eq) 26 := ⟨7, by decide +kernel, by decide⟩
def iX7_areThere_22_2 : List Instr := [.iconst 1, .goto 4]
theorem oX7_areThere_22_2 : fOkB cX7_areThere 22 iX7_areThere_22_2 = true := by decide +kernel
set_option maxRecDepth 100000 in
theorem qX7_areThere {G : fG} {d : Nat} {S : fS} (x y : Int32)  : fCtr G (d + 1) mX7_areThere [.ref 0, .int x, .int y] S (fun r S' => r = some (.int (fB (decide ((0 ≤ x ∧ x < gI S 11 2) ∧ (0 ≤ y ∧ y < gI S 14 2))))) ∧ S' = S) := by
  refine fCtr.of bXX7_areThere (Nat.le_of_ble_eq_true rfl) rfl ?_
  refine fV.run iX7_areThere_0_3 oX7_areThere_0_3 (pc' := 5) (L' := [(0, .ref 0), (1, .int x), (2, .int y)]) (st' := [.int x, .ref 11]) (S' := S) rfl trivial ?_
  refine fV.callV (M2 := mX2_has) (d := d) (o := 11) (av := [.int x]) (rest := []) kX2_has dX7_areThere_5 lX7_101 rfl rfl rfl (Nat.le_of_ble_eq_true rfl) (fRoom (by decide)) ⟨Nat.le_refl _, Nat.le_refl _⟩ (qX2_has_11 _) ?_
  rintro _ S9 ⟨rfl, h9⟩
  rw [h9]
  clear h9 S9
  refine fV.to (pc' := 8) (L' := [(0, .ref 0), (1, .int x), (2, .int y)]) (st' := [.int (fB (decide (0 ≤ x ∧ x < (gI S 11 2))))]) (S' := S) rfl rfl rfl rfl ?_
  refine fV.if_eq bX7_areThere_8 (fun c8 => ?_) (fun c8 => ?_)
  · refine fV.run iX7_areThere_26_1 oX7_areThere_26_1 (pc' := 27) (L' := [(0, .ref 0), (1, .int x), (2, .int y)]) (st' := [.int 0]) (S' := S) rfl trivial ?_
    exact fV.zret rfl dX7_areThere_27 (by decide) ⟨fBf (by grind [fB]), rfl⟩
  · refine fV.run iX7_areThere_11_3 oX7_areThere_11_3 (pc' := 16) (L' := [(0, .ref 0), (1, .int x), (2, .int y)]) (st' := [.int y, .ref 14]) (S' := S) rfl trivial ?_
    refine fV.callV (M2 := mX2_has) (d := d) (o := 14) (av := [.int y]) (rest := []) kX2_has dX7_areThere_16 lX7_101 rfl rfl rfl (Nat.le_of_ble_eq_true rfl) (fRoom (by decide)) ⟨Nat.le_refl _, Nat.le_refl _⟩ (qX2_has_14 _) ?_
    rintro _ S9 ⟨rfl, h9⟩
    rw [h9]
    clear h9 S9
    refine fV.to (pc' := 19) (L' := [(0, .ref 0), (1, .int x), (2, .int y)]) (st' := [.int (fB (decide (0 ≤ y ∧ y < (gI S 14 2))))]) (S' := S) rfl rfl rfl rfl ?_
    refine fV.if_eq bX7_areThere_19 (fun c19 => ?_) (fun c19 => ?_)
    · refine fV.run iX7_areThere_26_1 oX7_areThere_26_1 (pc' := 27) (L' := [(0, .ref 0), (1, .int x), (2, .int y)]) (st' := [.int 0]) (S' := S) rfl trivial ?_
      exact fV.zret rfl dX7_areThere_27 (by decide) ⟨fBf (by grind [fB]), rfl⟩
    · refine fV.run iX7_areThere_22_2 oX7_areThere_22_2 (pc' := 27) (L' := [(0, .ref 0), (1, .int x), (2, .int y)]) (st' := [.int 1]) (S' := S) rfl trivial ?_
      exact fV.zret rfl dX7_areThere_27 (by decide) ⟨fBt (by grind [fB]), rfl⟩
def iX7_isWallOrNone_0_2 : List Instr := [.iload_n 1, .iconst (-1)]
theorem oX7_isWallOrNone_0_2 : fOkB cX7_isWallOrNone 0 iX7_isWallOrNone_0_2 = true := by decide +kernel
theorem bX7_isWallOrNone_2 : fBk cX7_isWallOrNone 2 (.if_icmp .eq) 16 := ⟨14, by decide +kernel, by decide⟩
def iX7_isWallOrNone_16_2 : List Instr := [.iconst 1, .goto 4]
theorem oX7_isWallOrNone_16_2 : fOkB cX7_isWallOrNone 16 iX7_isWallOrNone_16_2 = true := by decide +kernel
theorem dX7_isWallOrNone_21 : decode cX7_isWallOrNone 21 = .ok (.ireturn, 1) := by decide +kernel
def iX7_isWallOrNone_5_3 : List Instr := [.aload_n 0, .getfield 19, .iload_n 1]
theorem oX7_isWallOrNone_5_3 : fOkB cX7_isWallOrNone 5 iX7_isWallOrNone_5_3 = true := by decide +kernel
set_option maxRecDepth 100000 in
theorem lX7_93 : Cond.methodLink RX7 93 yX6_has ∈ fTB := fTB_at 353 rfl rfl
theorem dX7_isWallOrNone_10 : decode cX7_isWallOrNone 10 = .ok (.invokevirtual 93, 3) := by decide +kernel
theorem bX7_isWallOrNone_13 : fBk cX7_isWallOrNone 13 (.ifCond .eq) 20 := ⟨7, by decide +kernel, by decide⟩
def iX7_isWallOrNone_20_1 : List Instr := [.iconst 0]
theorem oX7_isWallOrNone_20_1 : fOkB cX7_isWallOrNone 20 iX7_isWallOrNone_20_1 = true := by decide +kernel
set_option maxRecDepth 100000 in
theorem qX7_isWallOrNone {G : fG} {d : Nat} {S : fS} (x : Int32)  : fCtr G (d + 1) mX7_isWallOrNone [.ref 0, .int x] S (fun r S' => r = some (.int (fB (decide (x = -1 ∨ (0 ≤ x ∧ x < gI S 4 6))))) ∧ S' = S) := by
  refine fCtr.of bXX7_isWallOrNone (Nat.le_of_ble_eq_true rfl) rfl ?_
  refine fV.run iX7_isWallOrNone_0_2 oX7_isWallOrNone_0_2 (pc' := 2) (L' := [(0, .ref 0), (1, .int x)]) (st' := [.int (-1), .int x]) (S' := S) rfl trivial ?_
  refine fV.icmp_eq bX7_isWallOrNone_2 (fun c2 => ?_) (fun c2 => ?_)
  · refine fV.run iX7_isWallOrNone_16_2 oX7_isWallOrNone_16_2 (pc' := 21) (L' := [(0, .ref 0), (1, .int x)]) (st' := [.int 1]) (S' := S) rfl trivial ?_
    exact fV.zret rfl dX7_isWallOrNone_21 (by decide) ⟨fBt (by grind [fB]), rfl⟩
  · refine fV.run iX7_isWallOrNone_5_3 oX7_isWallOrNone_5_3 (pc' := 10) (L' := [(0, .ref 0), (1, .int x)]) (st' := [.int x, .ref 4]) (S' := S) rfl trivial ?_
    refine fV.callV (M2 := mX6_has) (d := d) (o := 4) (av := [.int x]) (rest := []) kX6_has dX7_isWallOrNone_10 lX7_93 rfl rfl rfl (Nat.le_of_ble_eq_true rfl) (fRoom (by decide)) ⟨Nat.le_refl _, Nat.le_refl _⟩ (qX6_has_4 _) ?_
    rintro _ S9 ⟨rfl, h9⟩
    rw [h9]
    clear h9 S9
    refine fV.to (pc' := 13) (L' := [(0, .ref 0), (1, .int x)]) (st' := [.int (fB (decide (0 ≤ x ∧ x < (gI S 4 6))))]) (S' := S) rfl rfl rfl rfl ?_
    refine fV.if_eq bX7_isWallOrNone_13 (fun c13 => ?_) (fun c13 => ?_)
    · refine fV.run iX7_isWallOrNone_20_1 oX7_isWallOrNone_20_1 (pc' := 21) (L' := [(0, .ref 0), (1, .int x)]) (st' := [.int 0]) (S' := S) rfl trivial ?_
      exact fV.zret rfl dX7_isWallOrNone_21 (by decide) ⟨fBf (by grind [fB]), rfl⟩
    · refine fV.run iX7_isWallOrNone_16_2 oX7_isWallOrNone_16_2 (pc' := 21) (L' := [(0, .ref 0), (1, .int x)]) (st' := [.int 1]) (S' := S) rfl trivial ?_
      exact fV.zret rfl dX7_isWallOrNone_21 (by decide) ⟨fBt (by grind [fB]), rfl⟩
def iX8_in_0_3 : List Instr := [.lload_n 0, .lload_n 2, .lcmp]
theorem oX8_in_0_3 : fOkB cX8_in 0 iX8_in_0_3 = true := by decide +kernel
theorem bX8_in_3 : fBk cX8_in 3 (.ifCond .lt) 17 := ⟨14, by decide +kernel, by decide⟩
def iX8_in_17_1 : List Instr := [.iconst 0]
theorem oX8_in_17_1 : fOkB cX8_in 17 iX8_in_17_1 = true := by decide +kernel
theorem dX8_in_18 : decode cX8_in 18 = .ok (.ireturn, 1) := by decide +kernel
def iX8_in_6_3 : List Instr := [.lload_n 0, .lload 4, .lcmp]
theorem oX8_in_6_3 : fOkB cX8_in 6 iX8_in_6_3 = true := by decide +kernel
theorem bX8_in_10 : fBk cX8_in 10 (.ifCond .gt) 17 := ⟨7, by decide +kernel, by decide⟩
def iX8_in_13_2 : List Instr := [.iconst 1, .goto 4]
theorem oX8_in_13_2 : fOkB cX8_in 13 iX8_in_13_2 = true := by decide +kernel
set_option maxRecDepth 100000 in
theorem qX8_in {G : fG} {d : Nat} {S : fS} (v a b : Int64)  : fCtr G (d) mX8_in [.long v, .long a, .long b] S (fun r S' => r = some (.int (fB (decide (a ≤ v ∧ v ≤ b)))) ∧ S' = S) := by
  refine fCtr.of bXX8_in (Nat.le_of_ble_eq_true rfl) rfl ?_
  refine fV.run iX8_in_0_3 oX8_in_0_3 (pc' := 3) (L' := [(0, .long v), (2, .long a), (4, .long b)]) (st' := [.int (lg_cmp v a)]) (S' := S) rfl trivial ?_
  refine fV.lif_lt bX8_in_3 (fun c3 => ?_) (fun c3 => ?_)
  · refine fV.run iX8_in_17_1 oX8_in_17_1 (pc' := 18) (L' := [(0, .long v), (2, .long a), (4, .long b)]) (st' := [.int 0]) (S' := S) rfl trivial ?_
    exact fV.zret rfl dX8_in_18 (by decide) ⟨fBf (by grind [fB]), rfl⟩
  · refine fV.run iX8_in_6_3 oX8_in_6_3 (pc' := 10) (L' := [(0, .long v), (2, .long a), (4, .long b)]) (st' := [.int (lg_cmp v b)]) (S' := S) rfl trivial ?_
    refine fV.lif_gt bX8_in_10 (fun c10 => ?_) (fun c10 => ?_)
    · refine fV.run iX8_in_17_1 oX8_in_17_1 (pc' := 18) (L' := [(0, .long v), (2, .long a), (4, .long b)]) (st' := [.int 0]) (S' := S) rfl trivial ?_
      exact fV.zret rfl dX8_in_18 (by decide) ⟨fBf (by grind [fB]), rfl⟩
    · refine fV.run iX8_in_13_2 oX8_in_13_2 (pc' := 18) (L' := [(0, .long v), (2, .long a), (4, .long b)]) (st' := [.int 1]) (S' := S) rfl trivial ?_
      exact fV.zret rfl dX8_in_18 (by decide) ⟨fBt (by grind [fB]), rfl⟩

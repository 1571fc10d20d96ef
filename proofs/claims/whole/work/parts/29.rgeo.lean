/-! the reference's geometry: a leg by turn and shift -/
def axN (en : Nat → Int32) (w : Nat) : Nat := if en (4 * w) = en (4 * w + 2) then 0 else 1
theorem axN_lt (en : Nat → Int32) (w : Nat) : axN en w < 2 := by unfold axN; split <;> omega
theorem axI_N (en : Nat → Int32) (w : Nat) : hAxI en w = nI (axN en w) := by unfold hAxI axN; split <;> rfl
theorem axO_N (en : Nat → Int32) (w : Nat) : 1 - hAxI en w = nI (1 - axN en w) := by unfold hAxI axN; split <;> rfl
theorem n4 {w j : Nat} : 4 * nI w + nI j = nI (4 * w + j) := by simp [nI, Int32.ofNat_mul, Int32.ofNat_add]
theorem n42 {w j : Nat} : 4 * nI w + 2 + nI j = nI (4 * w + 2 + j) := by simp [nI, Int32.ofNat_mul, Int32.ofNat_add]
theorem n2 {w j : Nat} : 2 * nI w + nI j = nI (2 * w + j) := by simp [nI, Int32.ofNat_mul, Int32.ofNat_add]
theorem ixL {en : Nat → Int32} {w : Nat} (hw : w < 16) : en (4 * nI w + hAxI en w).toNatClampNeg = hLine en w ∧ vp_in (4 * nI w + hAxI en w) 64 := by
  have := axN_lt en w
  rw [axI_N, n4, nI_clamp (by omega)]
  refine ⟨?_, vp_in_nI (by omega) (by decide)⟩
  unfold axN hLine
  split <;> rfl
theorem ixM {en : Nat → Int32} {w : Nat} (hw : w < 16) : (en (4 * nI w + (1 - hAxI en w)).toNatClampNeg = (if en (4 * w) = en (4 * w + 2) then en (4 * w + 1) else en (4 * w)) ∧ vp_in (4 * nI w + (1 - hAxI en w)) 64) ∧ en (4 * nI w + 2 + (1 - hAxI en w)).toNatClampNeg = (if en (4 * w) = en (4 * w + 2) then en (4 * w + 3) else en (4 * w + 2)) ∧ vp_in (4 * nI w + 2 + (1 - hAxI en w)) 64 := by
  have := axN_lt en w
  rw [axO_N, n4, n42, nI_clamp (by omega), nI_clamp (by omega)]
  refine ⟨⟨?_, vp_in_nI (by omega) (by decide)⟩, ?_, vp_in_nI (by omega) (by decide)⟩
  · unfold axN; split <;> rfl
  · unfold axN; split <;> rfl
/-- the place of a leg at a fraction; where it crosses a wall's line -/
def rP (S : fS) (m x : Nat) (n q : Int64) : Int64 := gB S 47 (2 * m + x) * (gB S 45 x * q + n * gB S 46 x) + gB S 48 (2 * m + x) * q
def rU (S : fS) (m w : Nat) : Int64 := gB S 47 (2 * m + axN (gA S 38) w) * ((hLine (gA S 38) w).toInt64 - gB S 48 (2 * m + axN (gA S 38) w))
def rN (S : fS) (m w : Nat) : Int64 := if gB S 46 (axN (gA S 38) w) < 0 then gB S 45 (axN (gA S 38) w) - rU S m w else rU S m w - gB S 45 (axN (gA S 38) w)
def rD (S : fS) (w : Nat) : Int64 := if gB S 46 (axN (gA S 38) w) < 0 then -gB S 46 (axN (gA S 38) w) else gB S 46 (axN (gA S 38) w)
def sX (S : fS) (m w : Nat) : fS := wJ (wJ S 35 23 (rN S m w)) 35 24 (rD S w)
def rOn (S : fS) (m w : Nat) (n q : Int64) : Prop := (hLow (gA S 38) w).toInt64 * q ≤ rP S m (1 - axN (gA S 38) w) n q ∧ rP S m (1 - axN (gA S 38) w) n q ≤ (hHigh (gA S 38) w).toInt64 * q
theorem low_1 {en : Nat → Int32} {w : Nat} (h : ¬ (if en (4 * w) = en (4 * w + 2) then en (4 * w + 3) else en (4 * w + 2)) ≤ (if en (4 * w) = en (4 * w + 2) then en (4 * w + 1) else en (4 * w))) : (if en (4 * w) = en (4 * w + 2) then en (4 * w + 1) else en (4 * w)) = hLow en w := by
  unfold hLow
  split
  · rename_i e; rw [if_pos e, if_pos e] at h; rw [if_neg (by grind)]
  · rename_i e; rw [if_neg e, if_neg e] at h; rw [if_neg (by grind)]
theorem low_2 {en : Nat → Int32} {w : Nat} (h : (if en (4 * w) = en (4 * w + 2) then en (4 * w + 3) else en (4 * w + 2)) ≤ (if en (4 * w) = en (4 * w + 2) then en (4 * w + 1) else en (4 * w))) : (if en (4 * w) = en (4 * w + 2) then en (4 * w + 3) else en (4 * w + 2)) = hLow en w := by
  unfold hLow
  split
  · rename_i e; rw [if_pos e, if_pos e] at h; split <;> grind
  · rename_i e; rw [if_neg e, if_neg e] at h; split <;> grind
def iX8_axisOf_0_6 : List Instr := [.aload_n 0, .getfield 16, .iconst 4, .iload_n 1, .imul, .iaload]
theorem oX8_axisOf_0_6 : fOkB cX8_axisOf 0 iX8_axisOf_0_6 = true := by decide +kernel
def iX8_axisOf_8_8 : List Instr := [.aload_n 0, .getfield 16, .iconst 4, .iload_n 1, .imul, .iconst 2, .iadd, .iaload]
theorem oX8_axisOf_8_8 : fOkB cX8_axisOf 8 iX8_axisOf_8_8 = true := by decide +kernel
theorem bX8_axisOf_18 : fBk cX8_axisOf 18 (.if_icmp .ne) 25 := ⟨7, by decide +kernel, by decide⟩
def iX8_axisOf_25_1 : List Instr := [.iconst 1]
theorem oX8_axisOf_25_1 : fOkB cX8_axisOf 25 iX8_axisOf_25_1 = true := by decide +kernel
theorem dX8_axisOf_26 : decode cX8_axisOf 26 = .ok (.ireturn, 1) := by decide +kernel
def iX8_axisOf_21_2 : List Instr := [.iconst 0, .goto 4]
theorem oX8_axisOf_21_2 : fOkB cX8_axisOf 21 iX8_axisOf_21_2 = true := by decide +kernel
set_option maxRecDepth 100000 in
theorem qX8_axis {G : fG} {d : Nat} {S : fS} {w : Nat} (hw : w < 16)  : fCtr G (d) mX8_axisOf [.ref 35, .int (nI w)] S (fun r S' => r = some (.int (hAxI (gA S 38) w)) ∧ S' = S) := by
  refine fCtr.of bXX8_axisOf (Nat.le_of_ble_eq_true rfl) rfl ?_
  refine fV.run iX8_axisOf_0_6 oX8_axisOf_0_6 (pc' := 8) (L' := [(0, .ref 35), (1, .int (nI w))]) (st' := [.int (gA S 38 (4 * (nI w)).toNatClampNeg)]) (S' := S) (P := vp_in (4 * (nI w)) 64 ∧ True) rfl ⟨(vin4 hw).1, trivial⟩ ?_
  refine fV.to (L' := [(0, .ref 35), (1, .int (nI w))]) (st' := [.int (gA S 38 (4 * w))]) rfl rfl (by rw [show (gA S 38 (4 * (nI w)).toNatClampNeg : Int32) = gA S 38 (4 * w) from by rw [(cl4 (by omega)).1]]) rfl ?_
  refine fV.run iX8_axisOf_8_8 oX8_axisOf_8_8 (pc' := 18) (L' := [(0, .ref 35), (1, .int (nI w))]) (st' := [.int (gA S 38 ((4 * (nI w)) + 2).toNatClampNeg), .int (gA S 38 (4 * w))]) (S' := S) (P := vp_in ((4 * (nI w)) + 2) 64 ∧ True) rfl ⟨(vin4 hw).2.2.1, trivial⟩ ?_
  refine fV.to (L' := [(0, .ref 35), (1, .int (nI w))]) (st' := [.int (gA S 38 (4 * w + 2)), .int (gA S 38 (4 * w))]) rfl rfl (by rw [show (gA S 38 ((4 * (nI w)) + 2).toNatClampNeg : Int32) = gA S 38 (4 * w + 2) from by rw [(cl4 (by omega)).2.2.1]]) rfl ?_
  refine fV.icmp_ne bX8_axisOf_18 (fun c18 => ?_) (fun c18 => ?_)
  · refine fV.run iX8_axisOf_25_1 oX8_axisOf_25_1 (pc' := 26) (L' := [(0, .ref 35), (1, .int (nI w))]) (st' := [.int 1]) (S' := S) rfl trivial ?_
    exact fV.iret rfl dX8_axisOf_26 ⟨by unfold hAxI; rw [if_neg c18], rfl⟩
  · refine fV.run iX8_axisOf_21_2 oX8_axisOf_21_2 (pc' := 26) (L' := [(0, .ref 35), (1, .int (nI w))]) (st' := [.int 0]) (S' := S) rfl trivial ?_
    exact fV.iret rfl dX8_axisOf_26 ⟨by unfold hAxI; rw [if_pos c18], rfl⟩
def iX8_lineOf_0_7 : List Instr := [.aload_n 0, .getfield 16, .iconst 4, .iload_n 1, .imul, .aload_n 0, .iload_n 1]
theorem oX8_lineOf_0_7 : fOkB cX8_lineOf 0 iX8_lineOf_0_7 = true := by decide +kernel
set_option maxRecDepth 100000 in
theorem lX8_136 : Cond.methodLink RX8 136 yX8_axisOf ∈ fTB := fTB_at 817 rfl rfl
theorem dX8_lineOf_9 : decode cX8_lineOf 9 = .ok (.invokevirtual 136, 3) := by decide +kernel
def iX8_lineOf_12_2 : List Instr := [.iadd, .iaload]
theorem oX8_lineOf_12_2 : fOkB cX8_lineOf 12 iX8_lineOf_12_2 = true := by decide +kernel
theorem dX8_lineOf_14 : decode cX8_lineOf 14 = .ok (.ireturn, 1) := by decide +kernel
set_option maxRecDepth 100000 in
theorem qX8_lineOf {G : fG} {d : Nat} {S : fS} {w : Nat} (hw : w < 16)  : fCtr G (d + 1) mX8_lineOf [.ref 35, .int (nI w)] S (fun r S' => r = some (.int (hLine (gA S 38) w)) ∧ S' = S) := by
  refine fCtr.of bXX8_lineOf (Nat.le_of_ble_eq_true rfl) rfl ?_
  refine fV.run iX8_lineOf_0_7 oX8_lineOf_0_7 (pc' := 9) (L' := [(0, .ref 35), (1, .int (nI w))]) (st' := [.int (nI w), .ref 35, .int (4 * (nI w)), .ref 38]) (S' := S) rfl trivial ?_
  refine fV.callV (M2 := mX8_axisOf) (d := d) (o := 35) (av := [.int (nI w)]) (rest := [.int (4 * (nI w)), .ref 38]) kX8_axisOf dX8_lineOf_9 lX8_136 rfl rfl rfl (Nat.le_of_ble_eq_true rfl) (fRoom (by decide)) ⟨Nat.le_refl _, Nat.le_refl _⟩ (qX8_axis (S := S) hw) ?_
  rintro _ S9 ⟨rfl, h9⟩
  rw [h9]
  clear h9 S9
  refine fV.to (pc' := 12) (L' := [(0, .ref 35), (1, .int (nI w))]) (st' := [.int (hAxI (gA S 38) w), .int (4 * (nI w)), .ref 38]) (S' := S) rfl rfl rfl rfl ?_
  refine fV.run iX8_lineOf_12_2 oX8_lineOf_12_2 (pc' := 14) (L' := [(0, .ref 35), (1, .int (nI w))]) (st' := [.int (gA S 38 ((4 * (nI w)) + (hAxI (gA S 38) w)).toNatClampNeg)]) (S' := S) (P := vp_in ((4 * (nI w)) + (hAxI (gA S 38) w)) 64 ∧ True) rfl ⟨(ixL (en := gA S 38) hw).2, trivial⟩ ?_
  exact fV.iret rfl dX8_lineOf_14 ⟨by rw [(ixL (en := gA S 38) hw).1], rfl⟩
def iX8_lowOf_0_3 : List Instr := [.iconst 1, .aload_n 0, .iload_n 1]
theorem oX8_lowOf_0_3 : fOkB cX8_lowOf 0 iX8_lowOf_0_3 = true := by decide +kernel
theorem dX8_lowOf_3 : decode cX8_lowOf 3 = .ok (.invokevirtual 136, 3) := by decide +kernel
def iX8_lowOf_6_20 : List Instr := [.isub, .istore_n 2, .aload_n 0, .getfield 16, .iconst 4, .iload_n 1, .imul, .iload_n 2, .iadd, .iaload, .aload_n 0, .getfield 16, .iconst 4, .iload_n 1, .imul, .iconst 2, .iadd, .iload_n 2, .iadd, .iaload]
theorem oX8_lowOf_6_20 : fOkB cX8_lowOf 6 iX8_lowOf_6_20 = true := by decide +kernel
theorem bX8_lowOf_30 : fBk cX8_lowOf 30 (.if_icmp .ge) 46 := ⟨16, by decide +kernel, by decide⟩
def iX8_lowOf_46_10 : List Instr := [.aload_n 0, .getfield 16, .iconst 4, .iload_n 1, .imul, .iconst 2, .iadd, .iload_n 2, .iadd, .iaload]
theorem oX8_lowOf_46_10 : fOkB cX8_lowOf 46 iX8_lowOf_46_10 = true := by decide +kernel
theorem dX8_lowOf_58 : decode cX8_lowOf 58 = .ok (.ireturn, 1) := by decide +kernel
def iX8_lowOf_33_9 : List Instr := [.aload_n 0, .getfield 16, .iconst 4, .iload_n 1, .imul, .iload_n 2, .iadd, .iaload, .goto 15]
theorem oX8_lowOf_33_9 : fOkB cX8_lowOf 33 iX8_lowOf_33_9 = true := by decide +kernel
set_option maxRecDepth 100000 in
theorem qX8_lowOf {G : fG} {d : Nat} {S : fS} {w : Nat} (hw : w < 16)  : fCtr G (d + 1) mX8_lowOf [.ref 35, .int (nI w)] S (fun r S' => r = some (.int (hLow (gA S 38) w)) ∧ S' = S) := by
  refine fCtr.of bXX8_lowOf (Nat.le_of_ble_eq_true rfl) rfl ?_
  refine fV.run iX8_lowOf_0_3 oX8_lowOf_0_3 (pc' := 3) (L' := [(0, .ref 35), (1, .int (nI w))]) (st' := [.int (nI w), .ref 35, .int 1]) (S' := S) rfl trivial ?_
  refine fV.callV (M2 := mX8_axisOf) (d := d) (o := 35) (av := [.int (nI w)]) (rest := [.int 1]) kX8_axisOf dX8_lowOf_3 lX8_136 rfl rfl rfl (Nat.le_of_ble_eq_true rfl) (fRoom (by decide)) ⟨Nat.le_refl _, Nat.le_refl _⟩ (qX8_axis (S := S) hw) ?_
  rintro _ S9 ⟨rfl, h9⟩
  rw [h9]
  clear h9 S9
  refine fV.to (pc' := 6) (L' := [(0, .ref 35), (1, .int (nI w))]) (st' := [.int (hAxI (gA S 38) w), .int 1]) (S' := S) rfl rfl rfl rfl ?_
  refine fV.run iX8_lowOf_6_20 oX8_lowOf_6_20 (pc' := 30) (L' := [(0, .ref 35), (1, .int (nI w)), (2, .int (1 - (hAxI (gA S 38) w)))]) (st' := [.int (gA S 38 (((4 * (nI w)) + 2) + (1 - (hAxI (gA S 38) w))).toNatClampNeg), .int (gA S 38 ((4 * (nI w)) + (1 - (hAxI (gA S 38) w))).toNatClampNeg)]) (S' := S) (P := vp_in ((4 * (nI w)) + (1 - (hAxI (gA S 38) w))) 64 ∧ vp_in (((4 * (nI w)) + 2) + (1 - (hAxI (gA S 38) w))) 64 ∧ True) rfl ⟨(ixM (en := gA S 38) hw).1.2, (ixM (en := gA S 38) hw).2.2, trivial⟩ ?_
  refine fV.icmp_ge bX8_lowOf_30 (fun c30 => ?_) (fun c30 => ?_)
  · refine fV.run iX8_lowOf_46_10 oX8_lowOf_46_10 (pc' := 58) (L' := [(0, .ref 35), (1, .int (nI w)), (2, .int (1 - (hAxI (gA S 38) w)))]) (st' := [.int (gA S 38 (((4 * (nI w)) + 2) + (1 - (hAxI (gA S 38) w))).toNatClampNeg)]) (S' := S) (P := vp_in (((4 * (nI w)) + 2) + (1 - (hAxI (gA S 38) w))) 64 ∧ True) rfl ⟨(ixM (en := gA S 38) hw).2.2, trivial⟩ ?_
    exact fV.iret rfl dX8_lowOf_58 ⟨by rw [(ixM (en := gA S 38) hw).2.1]; rw [(ixM (en := gA S 38) hw).1.1, (ixM (en := gA S 38) hw).2.1] at c30; exact congrArg (fun z => some (Value.int z)) (low_2 c30), rfl⟩
  · refine fV.run iX8_lowOf_33_9 oX8_lowOf_33_9 (pc' := 58) (L' := [(0, .ref 35), (1, .int (nI w)), (2, .int (1 - (hAxI (gA S 38) w)))]) (st' := [.int (gA S 38 ((4 * (nI w)) + (1 - (hAxI (gA S 38) w))).toNatClampNeg)]) (S' := S) (P := vp_in ((4 * (nI w)) + (1 - (hAxI (gA S 38) w))) 64 ∧ True) rfl ⟨(ixM (en := gA S 38) hw).1.2, trivial⟩ ?_
    exact fV.iret rfl dX8_lowOf_58 ⟨by rw [(ixM (en := gA S 38) hw).1.1]; rw [(ixM (en := gA S 38) hw).1.1, (ixM (en := gA S 38) hw).2.1] at c30; exact congrArg (fun z => some (Value.int z)) (low_1 c30), rfl⟩
def iX8_highOf_0_2 : List Instr := [.aload_n 0, .iload_n 1]
theorem oX8_highOf_0_2 : fOkB cX8_highOf 0 iX8_highOf_0_2 = true := by decide +kernel
set_option maxRecDepth 100000 in
theorem lX8_139 : Cond.methodLink RX8 139 yX8_lowOf ∈ fTB := fTB_at 838 rfl rfl
theorem dX8_highOf_2 : decode cX8_highOf 2 = .ok (.invokevirtual 139, 3) := by decide +kernel
def iX8_highOf_5_2 : List Instr := [.aload_n 0, .iload_n 1]
theorem oX8_highOf_5_2 : fOkB cX8_highOf 5 iX8_highOf_5_2 = true := by decide +kernel
theorem dX8_highOf_7 : decode cX8_highOf 7 = .ok (.invokevirtual 123, 3) := by decide +kernel
def iX8_highOf_10_1 : List Instr := [.iadd]
theorem oX8_highOf_10_1 : fOkB cX8_highOf 10 iX8_highOf_10_1 = true := by decide +kernel
theorem dX8_highOf_11 : decode cX8_highOf 11 = .ok (.ireturn, 1) := by decide +kernel
set_option maxRecDepth 100000 in
theorem qX8_highOf {G : fG} {d : Nat} {S : fS} {a b c e w : Nat} (H : hOk (hD S) a b c e) (hwb : w < b)  : fCtr G (d + 2) mX8_highOf [.ref 35, .int (nI w)] S (fun r S' => r = some (.int (hHigh (gA S 38) w)) ∧ S' = S) := by
  refine fCtr.of bXX8_highOf (Nat.le_of_ble_eq_true rfl) rfl ?_
  have hw : w < 16 := by have := H.2.1.2.1; omega
  refine fV.run iX8_highOf_0_2 oX8_highOf_0_2 (pc' := 2) (L' := [(0, .ref 35), (1, .int (nI w))]) (st' := [.int (nI w), .ref 35]) (S' := S) rfl trivial ?_
  refine fV.callV (M2 := mX8_lowOf) (d := d + 1) (o := 35) (av := [.int (nI w)]) (rest := []) kX8_lowOf dX8_highOf_2 lX8_139 rfl rfl rfl (Nat.le_of_ble_eq_true rfl) (fRoom (by decide)) ⟨Nat.le_refl _, Nat.le_refl _⟩ (qX8_lowOf (S := S) hw) ?_
  rintro _ S9 ⟨rfl, h9⟩
  rw [h9]
  clear h9 S9
  refine fV.to (pc' := 5) (L' := [(0, .ref 35), (1, .int (nI w))]) (st' := [.int (hLow (gA S 38) w)]) (S' := S) rfl rfl rfl rfl ?_
  refine fV.run iX8_highOf_5_2 oX8_highOf_5_2 (pc' := 7) (L' := [(0, .ref 35), (1, .int (nI w))]) (st' := [.int (nI w), .ref 35, .int (hLow (gA S 38) w)]) (S' := S) rfl trivial ?_
  refine fV.callV (M2 := mX8_lengthOf) (d := d + 1) (o := 35) (av := [.int (nI w)]) (rest := [.int (hLow (gA S 38) w)]) kX8_lengthOf dX8_highOf_7 lX8_123 rfl rfl rfl (Nat.le_of_ble_eq_true rfl) (fRoom (by decide)) ⟨Nat.le_refl _, Nat.le_refl _⟩ (qX8_len H hwb) ?_
  rintro _ S9 ⟨rfl, h9⟩
  rw [h9]
  clear h9 S9
  refine fV.to (pc' := 10) (L' := [(0, .ref 35), (1, .int (nI w))]) (st' := [.int (hLen (gA S 38) w), .int (hLow (gA S 38) w)]) (S' := S) rfl rfl rfl rfl ?_
  refine fV.run iX8_highOf_10_1 oX8_highOf_10_1 (pc' := 11) (L' := [(0, .ref 35), (1, .int (nI w))]) (st' := [.int ((hLow (gA S 38) w) + (hLen (gA S 38) w))]) (S' := S) rfl trivial ?_
  exact fV.iret rfl dX8_highOf_11 ⟨by rw [show hLow (gA S 38) w + hLen (gA S 38) w = hHigh (gA S 38) w by unfold hLen; grind], rfl⟩
def iX8_placeAt_0_33 : List Instr := [.aload_n 0, .getfield 51, .iconst 2, .iload_n 1, .imul, .iload_n 2, .iadd, .laload, .aload_n 0, .getfield 44, .iload_n 2, .laload, .lload 5, .lmul, .lload_n 3, .aload_n 0, .getfield 48, .iload_n 2, .laload, .lmul, .ladd, .lmul, .aload_n 0, .getfield 54, .iconst 2, .iload_n 1, .imul, .iload_n 2, .iadd, .laload, .lload 5, .lmul, .ladd]
theorem oX8_placeAt_0_33 : fOkB cX8_placeAt 0 iX8_placeAt_0_33 = true := by decide +kernel
theorem dX8_placeAt_43 : decode cX8_placeAt 43 = .ok (.lreturn, 1) := by decide +kernel
set_option maxRecDepth 100000 in
theorem qX8_place0 {G : fG} {d : Nat} {S : fS} {m x : Nat} (n q : Int64) (hm : m ≤ 3) (hx : x < 2)  : fCtr G (d) mX8_placeAt [.ref 35, .int (nI m), .int (nI x), .long n, .long q] S (fun r S' => r = some (.long (rP S m x n q)) ∧ S' = S) := by
  refine fCtr.of bXX8_placeAt (Nat.le_of_ble_eq_true rfl) rfl ?_
  refine fV.run iX8_placeAt_0_33 oX8_placeAt_0_33 (pc' := 43) (L' := [(0, .ref 35), (1, .int (nI m)), (2, .int (nI x)), (3, .long n), (5, .long q)]) (st' := [.long (((gB S 47 ((2 * (nI m)) + (nI x)).toNatClampNeg) * (((gB S 45 (nI x).toNatClampNeg) * q) + (n * (gB S 46 (nI x).toNatClampNeg)))) + ((gB S 48 ((2 * (nI m)) + (nI x)).toNatClampNeg) * q))]) (S' := S) (P := vp_in ((2 * (nI m)) + (nI x)) 8 ∧ vp_in (nI x) 2 ∧ vp_in (nI x) 2 ∧ vp_in ((2 * (nI m)) + (nI x)) 8 ∧ True) rfl ⟨(vinN (w := 2 * m + x) (by omega) (by decide) n2), (vp_in_nI hx (by decide)), (vp_in_nI hx (by decide)), (vinN (w := 2 * m + x) (by omega) (by decide) n2), trivial⟩ ?_
  exact fV.lret rfl dX8_placeAt_43 ⟨by rw [n2, nI_clamp (by omega), nI_clamp (by omega)]; rfl, rfl⟩
theorem qX8_place {G : fG} {d : Nat} {S : fS} {m x : Nat} {z : Int32} (n q : Int64) (hm : m ≤ 3) (hx : x < 2) (hz : z = nI x) : fCtr G d mX8_placeAt [.ref 35, .int (nI m), .int z, .long n, .long q] S (fun r S' => r = some (.long (rP S m x n q)) ∧ S' = S) := by
  subst hz; exact qX8_place0 n q hm hx
def iX8_cross_0_2 : List Instr := [.aload_n 0, .iload_n 2]
theorem oX8_cross_0_2 : fOkB cX8_cross 0 iX8_cross_0_2 = true := by decide +kernel
theorem dX8_cross_2 : decode cX8_cross 2 = .ok (.invokevirtual 136, 3) := by decide +kernel
def iX8_cross_5_9 : List Instr := [.istore_n 3, .aload_n 0, .getfield 51, .iconst 2, .iload_n 1, .imul, .iload_n 3, .iadd, .laload]
theorem oX8_cross_5_9 : fOkB cX8_cross 5 iX8_cross_5_9 = true := by decide +kernel
def iX8_cross_16_2 : List Instr := [.aload_n 0, .iload_n 2]
theorem oX8_cross_16_2 : fOkB cX8_cross 16 iX8_cross_16_2 = true := by decide +kernel
set_option maxRecDepth 100000 in
theorem lX8_142 : Cond.methodLink RX8 142 yX8_lineOf ∈ fTB := fTB_at 822 rfl rfl
theorem dX8_cross_18 : decode cX8_cross 18 = .ok (.invokevirtual 142, 3) := by decide +kernel
def iX8_cross_21_9 : List Instr := [.i2l, .aload_n 0, .getfield 54, .iconst 2, .iload_n 1, .imul, .iload_n 3, .iadd, .laload]
theorem oX8_cross_21_9 : fOkB cX8_cross 21 iX8_cross_21_9 = true := by decide +kernel
def iX8_cross_32_8 : List Instr := [.lsub, .lmul, .lstore 4, .aload_n 0, .aload_n 0, .getfield 48, .iload_n 3, .laload]
theorem oX8_cross_32_8 : fOkB cX8_cross 32 iX8_cross_32_8 = true := by decide +kernel
def iX8_cross_43_2 : List Instr := [.lconst 0, .lcmp]
theorem oX8_cross_43_2 : fOkB cX8_cross 43 iX8_cross_43_2 = true := by decide +kernel
theorem bX8_cross_45 : fBk cX8_cross 45 (.ifCond .ge) 60 := ⟨15, by decide +kernel, by decide⟩
def iX8_cross_60_5 : List Instr := [.lload 4, .aload_n 0, .getfield 44, .iload_n 3, .laload]
theorem oX8_cross_60_5 : fOkB cX8_cross 60 iX8_cross_60_5 = true := by decide +kernel
def iX8_cross_68_7 : List Instr := [.lsub, .putfield 145, .aload_n 0, .aload_n 0, .getfield 48, .iload_n 3, .laload]
theorem oX8_cross_68_7 : fOkB cX8_cross 68 iX8_cross_68_7 = true := by decide +kernel
def iX8_cross_79_2 : List Instr := [.lconst 0, .lcmp]
theorem oX8_cross_79_2 : fOkB cX8_cross 79 iX8_cross_79_2 = true := by decide +kernel
theorem bX8_cross_81 : fBk cX8_cross 81 (.ifCond .ge) 94 := ⟨13, by decide +kernel, by decide⟩
def iX8_cross_94_4 : List Instr := [.aload_n 0, .getfield 48, .iload_n 3, .laload]
theorem oX8_cross_94_4 : fOkB cX8_cross 94 iX8_cross_94_4 = true := by decide +kernel
def iX8_cross_100_5 : List Instr := [.putfield 149, .aload_n 0, .getfield 149, .lconst 0, .lcmp]
theorem oX8_cross_100_5 : fOkB cX8_cross 100 iX8_cross_100_5 = true := by decide +kernel
theorem bX8_cross_109 : fBk cX8_cross 109 (.ifCond .le) 116 := ⟨7, by decide +kernel, by decide⟩
def iX8_cross_116_1 : List Instr := [.iconst 0]
theorem oX8_cross_116_1 : fOkB cX8_cross 116 iX8_cross_116_1 = true := by decide +kernel
theorem dX8_cross_117 : decode cX8_cross 117 = .ok (.ireturn, 1) := by decide +kernel
def iX8_cross_112_2 : List Instr := [.iconst 1, .goto 4]
theorem oX8_cross_112_2 : fOkB cX8_cross 112 iX8_cross_112_2 = true := by decide +kernel
def iX8_cross_48_4 : List Instr := [.aload_n 0, .getfield 44, .iload_n 3, .laload]
theorem oX8_cross_48_4 : fOkB cX8_cross 48 iX8_cross_48_4 = true := by decide +kernel
def iX8_cross_54_9 : List Instr := [.lload 4, .lsub, .goto 12, .putfield 145, .aload_n 0, .aload_n 0, .getfield 48, .iload_n 3, .laload]
theorem oX8_cross_54_9 : fOkB cX8_cross 54 iX8_cross_54_9 = true := by decide +kernel
def iX8_cross_84_4 : List Instr := [.aload_n 0, .getfield 48, .iload_n 3, .laload]
theorem oX8_cross_84_4 : fOkB cX8_cross 84 iX8_cross_84_4 = true := by decide +kernel
def iX8_cross_90_2 : List Instr := [.lneg, .goto 9]
theorem oX8_cross_90_2 : fOkB cX8_cross 90 iX8_cross_90_2 = true := by decide +kernel
set_option maxRecDepth 100000 in
theorem qX8_cross {G : fG} {d : Nat} {S : fS} {m w : Nat} (hw : w < 16) (hm : m ≤ 3)  : fCtr G (d + 2) mX8_cross [.ref 35, .int (nI m), .int (nI w)] S (fun r S' => r = some (.int (fB (decide (0 < rD S w)))) ∧ S' = sX S m w) := by
  refine fCtr.of bXX8_cross (Nat.le_of_ble_eq_true rfl) rfl ?_
  refine fV.run iX8_cross_0_2 oX8_cross_0_2 (pc' := 2) (L' := [(0, .ref 35), (1, .int (nI m)), (2, .int (nI w))]) (st' := [.int (nI w), .ref 35]) (S' := S) rfl trivial ?_
  refine fV.callV (M2 := mX8_axisOf) (d := d + 1) (o := 35) (av := [.int (nI w)]) (rest := []) kX8_axisOf dX8_cross_2 lX8_136 rfl rfl rfl (Nat.le_of_ble_eq_true rfl) (fRoom (by decide)) ⟨Nat.le_refl _, Nat.le_refl _⟩ (qX8_axis (S := S) hw) ?_
  rintro _ S9 ⟨rfl, h9⟩
  rw [h9]
  clear h9 S9
  refine fV.to (pc' := 5) (L' := [(0, .ref 35), (1, .int (nI m)), (2, .int (nI w))]) (st' := [.int (hAxI (gA S 38) w)]) (S' := S) rfl rfl rfl rfl ?_
  refine fV.run iX8_cross_5_9 oX8_cross_5_9 (pc' := 16) (L' := [(0, .ref 35), (1, .int (nI m)), (2, .int (nI w)), (3, .int (hAxI (gA S 38) w))]) (st' := [.long (gB S 47 ((2 * (nI m)) + (hAxI (gA S 38) w)).toNatClampNeg)]) (S' := S) (P := vp_in ((2 * (nI m)) + (hAxI (gA S 38) w)) 8 ∧ True) rfl ⟨(by rw [axI_N]; first | exact vp_in_nI (axN_lt (gA S 38) w) (by decide) | exact vinN (w := 2 * m + axN (gA S 38) w) (by have := axN_lt (gA S 38) w; omega) (by decide) n2), trivial⟩ ?_
  refine fV.to (L' := [(0, .ref 35), (1, .int (nI m)), (2, .int (nI w)), (3, .int (hAxI (gA S 38) w))]) (st' := [.long (gB S 47 (2 * m + axN (gA S 38) w))]) rfl rfl (by rw [show (gB S 47 ((2 * (nI m)) + (hAxI (gA S 38) w)).toNatClampNeg : Int64) = gB S 47 (2 * m + axN (gA S 38) w) from by rw [axI_N]; first | rw [n2, nI_clamp (by have := axN_lt (gA S 38) w; omega)] | rw [nI_clamp (by have := axN_lt (gA S 38) w; omega)]]) rfl ?_
  refine fV.run iX8_cross_16_2 oX8_cross_16_2 (pc' := 18) (L' := [(0, .ref 35), (1, .int (nI m)), (2, .int (nI w)), (3, .int (hAxI (gA S 38) w))]) (st' := [.int (nI w), .ref 35, .long (gB S 47 (2 * m + axN (gA S 38) w))]) (S' := S) rfl trivial ?_
  refine fV.callV (M2 := mX8_lineOf) (d := d + 1) (o := 35) (av := [.int (nI w)]) (rest := [.long (gB S 47 (2 * m + axN (gA S 38) w))]) kX8_lineOf dX8_cross_18 lX8_142 rfl rfl rfl (Nat.le_of_ble_eq_true rfl) (fRoom (by decide)) ⟨Nat.le_refl _, Nat.le_refl _⟩ (qX8_lineOf (S := S) hw) ?_
  rintro _ S9 ⟨rfl, h9⟩
  rw [h9]
  clear h9 S9
  refine fV.to (pc' := 21) (L' := [(0, .ref 35), (1, .int (nI m)), (2, .int (nI w)), (3, .int (hAxI (gA S 38) w))]) (st' := [.int (hLine (gA S 38) w), .long (gB S 47 (2 * m + axN (gA S 38) w))]) (S' := S) rfl rfl rfl rfl ?_
  refine fV.run iX8_cross_21_9 oX8_cross_21_9 (pc' := 32) (L' := [(0, .ref 35), (1, .int (nI m)), (2, .int (nI w)), (3, .int (hAxI (gA S 38) w))]) (st' := [.long (gB S 48 ((2 * (nI m)) + (hAxI (gA S 38) w)).toNatClampNeg), .long (Int32.toInt64 (hLine (gA S 38) w)), .long (gB S 47 (2 * m + axN (gA S 38) w))]) (S' := S) (P := vp_in ((2 * (nI m)) + (hAxI (gA S 38) w)) 8 ∧ True) rfl ⟨(by rw [axI_N]; first | exact vp_in_nI (axN_lt (gA S 38) w) (by decide) | exact vinN (w := 2 * m + axN (gA S 38) w) (by have := axN_lt (gA S 38) w; omega) (by decide) n2), trivial⟩ ?_
  refine fV.to (L' := [(0, .ref 35), (1, .int (nI m)), (2, .int (nI w)), (3, .int (hAxI (gA S 38) w))]) (st' := [.long (gB S 48 (2 * m + axN (gA S 38) w)), .long (Int32.toInt64 (hLine (gA S 38) w)), .long (gB S 47 (2 * m + axN (gA S 38) w))]) rfl rfl (by rw [show (gB S 48 ((2 * (nI m)) + (hAxI (gA S 38) w)).toNatClampNeg : Int64) = gB S 48 (2 * m + axN (gA S 38) w) from by rw [axI_N]; first | rw [n2, nI_clamp (by have := axN_lt (gA S 38) w; omega)] | rw [nI_clamp (by have := axN_lt (gA S 38) w; omega)]]) rfl ?_
  refine fV.run iX8_cross_32_8 oX8_cross_32_8 (pc' := 43) (L' := [(0, .ref 35), (1, .int (nI m)), (2, .int (nI w)), (3, .int (hAxI (gA S 38) w)), (4, .long ((gB S 47 (2 * m + axN (gA S 38) w)) * ((Int32.toInt64 (hLine (gA S 38) w)) - (gB S 48 (2 * m + axN (gA S 38) w)))))]) (st' := [.long (gB S 46 (hAxI (gA S 38) w).toNatClampNeg), .ref 35]) (S' := S) (P := vp_in (hAxI (gA S 38) w) 2 ∧ True) rfl ⟨(by rw [axI_N]; first | exact vp_in_nI (axN_lt (gA S 38) w) (by decide) | exact vinN (w := 2 * m + axN (gA S 38) w) (by have := axN_lt (gA S 38) w; omega) (by decide) n2), trivial⟩ ?_
  refine fV.to (L' := [(0, .ref 35), (1, .int (nI m)), (2, .int (nI w)), (3, .int (hAxI (gA S 38) w)), (4, .long ((gB S 47 (2 * m + axN (gA S 38) w)) * ((Int32.toInt64 (hLine (gA S 38) w)) - (gB S 48 (2 * m + axN (gA S 38) w)))))]) (st' := [.long (gB S 46 (axN (gA S 38) w)), .ref 35]) rfl rfl (by rw [show (gB S 46 (hAxI (gA S 38) w).toNatClampNeg : Int64) = gB S 46 (axN (gA S 38) w) from by rw [axI_N]; first | rw [n2, nI_clamp (by have := axN_lt (gA S 38) w; omega)] | rw [nI_clamp (by have := axN_lt (gA S 38) w; omega)]]) rfl ?_
  refine fV.run iX8_cross_43_2 oX8_cross_43_2 (pc' := 45) (L' := [(0, .ref 35), (1, .int (nI m)), (2, .int (nI w)), (3, .int (hAxI (gA S 38) w)), (4, .long ((gB S 47 (2 * m + axN (gA S 38) w)) * ((Int32.toInt64 (hLine (gA S 38) w)) - (gB S 48 (2 * m + axN (gA S 38) w)))))]) (st' := [.int (lg_cmp (gB S 46 (axN (gA S 38) w)) 0), .ref 35]) (S' := S) rfl trivial ?_
  refine fV.lif_ge bX8_cross_45 (fun c45 => ?_) (fun c45 => ?_)
  · refine fV.run iX8_cross_60_5 oX8_cross_60_5 (pc' := 68) (L' := [(0, .ref 35), (1, .int (nI m)), (2, .int (nI w)), (3, .int (hAxI (gA S 38) w)), (4, .long ((gB S 47 (2 * m + axN (gA S 38) w)) * ((Int32.toInt64 (hLine (gA S 38) w)) - (gB S 48 (2 * m + axN (gA S 38) w)))))]) (st' := [.long (gB S 45 (hAxI (gA S 38) w).toNatClampNeg), .long ((gB S 47 (2 * m + axN (gA S 38) w)) * ((Int32.toInt64 (hLine (gA S 38) w)) - (gB S 48 (2 * m + axN (gA S 38) w)))), .ref 35]) (S' := S) (P := vp_in (hAxI (gA S 38) w) 2 ∧ True) rfl ⟨(by rw [axI_N]; first | exact vp_in_nI (axN_lt (gA S 38) w) (by decide) | exact vinN (w := 2 * m + axN (gA S 38) w) (by have := axN_lt (gA S 38) w; omega) (by decide) n2), trivial⟩ ?_
    refine fV.to (L' := [(0, .ref 35), (1, .int (nI m)), (2, .int (nI w)), (3, .int (hAxI (gA S 38) w)), (4, .long ((gB S 47 (2 * m + axN (gA S 38) w)) * ((Int32.toInt64 (hLine (gA S 38) w)) - (gB S 48 (2 * m + axN (gA S 38) w)))))]) (st' := [.long (gB S 45 (axN (gA S 38) w)), .long ((gB S 47 (2 * m + axN (gA S 38) w)) * ((Int32.toInt64 (hLine (gA S 38) w)) - (gB S 48 (2 * m + axN (gA S 38) w)))), .ref 35]) rfl rfl (by rw [show (gB S 45 (hAxI (gA S 38) w).toNatClampNeg : Int64) = gB S 45 (axN (gA S 38) w) from by rw [axI_N]; first | rw [n2, nI_clamp (by have := axN_lt (gA S 38) w; omega)] | rw [nI_clamp (by have := axN_lt (gA S 38) w; omega)]]) rfl ?_
    refine fV.run iX8_cross_68_7 oX8_cross_68_7 (pc' := 79) (L' := [(0, .ref 35), (1, .int (nI m)), (2, .int (nI w)), (3, .int (hAxI (gA S 38) w)), (4, .long ((gB S 47 (2 * m + axN (gA S 38) w)) * ((Int32.toInt64 (hLine (gA S 38) w)) - (gB S 48 (2 * m + axN (gA S 38) w)))))]) (st' := [.long (gB S 46 (hAxI (gA S 38) w).toNatClampNeg), .ref 35]) (S' := (wJ S 35 23 (((gB S 47 (2 * m + axN (gA S 38) w)) * ((Int32.toInt64 (hLine (gA S 38) w)) - (gB S 48 (2 * m + axN (gA S 38) w)))) - (gB S 45 (axN (gA S 38) w))))) (P := vp_in (hAxI (gA S 38) w) 2 ∧ True) rfl ⟨(by rw [axI_N]; first | exact vp_in_nI (axN_lt (gA S 38) w) (by decide) | exact vinN (w := 2 * m + axN (gA S 38) w) (by have := axN_lt (gA S 38) w; omega) (by decide) n2), trivial⟩ ?_
    refine fV.to (L' := [(0, .ref 35), (1, .int (nI m)), (2, .int (nI w)), (3, .int (hAxI (gA S 38) w)), (4, .long ((gB S 47 (2 * m + axN (gA S 38) w)) * ((Int32.toInt64 (hLine (gA S 38) w)) - (gB S 48 (2 * m + axN (gA S 38) w)))))]) (st' := [.long (gB S 46 (axN (gA S 38) w)), .ref 35]) rfl rfl (by rw [show (gB S 46 (hAxI (gA S 38) w).toNatClampNeg : Int64) = gB S 46 (axN (gA S 38) w) from by rw [axI_N]; first | rw [n2, nI_clamp (by have := axN_lt (gA S 38) w; omega)] | rw [nI_clamp (by have := axN_lt (gA S 38) w; omega)]]) rfl ?_
    refine fV.run iX8_cross_79_2 oX8_cross_79_2 (pc' := 81) (L' := [(0, .ref 35), (1, .int (nI m)), (2, .int (nI w)), (3, .int (hAxI (gA S 38) w)), (4, .long ((gB S 47 (2 * m + axN (gA S 38) w)) * ((Int32.toInt64 (hLine (gA S 38) w)) - (gB S 48 (2 * m + axN (gA S 38) w)))))]) (st' := [.int (lg_cmp (gB S 46 (axN (gA S 38) w)) 0), .ref 35]) (S' := (wJ S 35 23 (((gB S 47 (2 * m + axN (gA S 38) w)) * ((Int32.toInt64 (hLine (gA S 38) w)) - (gB S 48 (2 * m + axN (gA S 38) w)))) - (gB S 45 (axN (gA S 38) w))))) rfl trivial ?_
    refine fV.lif_ge bX8_cross_81 (fun c81 => ?_) (fun c81 => ?_)
    · refine fV.run iX8_cross_94_4 oX8_cross_94_4 (pc' := 100) (L' := [(0, .ref 35), (1, .int (nI m)), (2, .int (nI w)), (3, .int (hAxI (gA S 38) w)), (4, .long ((gB S 47 (2 * m + axN (gA S 38) w)) * ((Int32.toInt64 (hLine (gA S 38) w)) - (gB S 48 (2 * m + axN (gA S 38) w)))))]) (st' := [.long (gB S 46 (hAxI (gA S 38) w).toNatClampNeg), .ref 35]) (S' := (wJ S 35 23 (((gB S 47 (2 * m + axN (gA S 38) w)) * ((Int32.toInt64 (hLine (gA S 38) w)) - (gB S 48 (2 * m + axN (gA S 38) w)))) - (gB S 45 (axN (gA S 38) w))))) (P := vp_in (hAxI (gA S 38) w) 2 ∧ True) rfl ⟨(by rw [axI_N]; first | exact vp_in_nI (axN_lt (gA S 38) w) (by decide) | exact vinN (w := 2 * m + axN (gA S 38) w) (by have := axN_lt (gA S 38) w; omega) (by decide) n2), trivial⟩ ?_
      refine fV.to (L' := [(0, .ref 35), (1, .int (nI m)), (2, .int (nI w)), (3, .int (hAxI (gA S 38) w)), (4, .long ((gB S 47 (2 * m + axN (gA S 38) w)) * ((Int32.toInt64 (hLine (gA S 38) w)) - (gB S 48 (2 * m + axN (gA S 38) w)))))]) (st' := [.long (gB S 46 (axN (gA S 38) w)), .ref 35]) rfl rfl (by rw [show (gB S 46 (hAxI (gA S 38) w).toNatClampNeg : Int64) = gB S 46 (axN (gA S 38) w) from by rw [axI_N]; first | rw [n2, nI_clamp (by have := axN_lt (gA S 38) w; omega)] | rw [nI_clamp (by have := axN_lt (gA S 38) w; omega)]]) rfl ?_
      refine fV.run iX8_cross_100_5 oX8_cross_100_5 (pc' := 109) (L' := [(0, .ref 35), (1, .int (nI m)), (2, .int (nI w)), (3, .int (hAxI (gA S 38) w)), (4, .long ((gB S 47 (2 * m + axN (gA S 38) w)) * ((Int32.toInt64 (hLine (gA S 38) w)) - (gB S 48 (2 * m + axN (gA S 38) w)))))]) (st' := [.int (lg_cmp (gB S 46 (axN (gA S 38) w)) 0)]) (S' := (wJ (wJ S 35 23 (((gB S 47 (2 * m + axN (gA S 38) w)) * ((Int32.toInt64 (hLine (gA S 38) w)) - (gB S 48 (2 * m + axN (gA S 38) w)))) - (gB S 45 (axN (gA S 38) w)))) 35 24 (gB S 46 (axN (gA S 38) w)))) rfl trivial ?_
      refine fV.lif_le bX8_cross_109 (fun c109 => ?_) (fun c109 => ?_)
      · refine fV.run iX8_cross_116_1 oX8_cross_116_1 (pc' := 117) (L' := [(0, .ref 35), (1, .int (nI m)), (2, .int (nI w)), (3, .int (hAxI (gA S 38) w)), (4, .long ((gB S 47 (2 * m + axN (gA S 38) w)) * ((Int32.toInt64 (hLine (gA S 38) w)) - (gB S 48 (2 * m + axN (gA S 38) w)))))]) (st' := [.int 0]) (S' := (wJ (wJ S 35 23 (((gB S 47 (2 * m + axN (gA S 38) w)) * ((Int32.toInt64 (hLine (gA S 38) w)) - (gB S 48 (2 * m + axN (gA S 38) w)))) - (gB S 45 (axN (gA S 38) w)))) 35 24 (gB S 46 (axN (gA S 38) w)))) rfl trivial ?_
        exact fV.zret rfl dX8_cross_117 (by decide) ⟨fBf (by unfold rD; rw [if_neg (show ¬ gB S 46 (axN (gA S 38) w) < 0 by grind)]; grind), by unfold sX rN rD; rw [if_neg (show ¬ gB S 46 (axN (gA S 38) w) < 0 by grind), if_neg (show ¬ gB S 46 (axN (gA S 38) w) < 0 by grind)]; rfl⟩
      · refine fV.run iX8_cross_112_2 oX8_cross_112_2 (pc' := 117) (L' := [(0, .ref 35), (1, .int (nI m)), (2, .int (nI w)), (3, .int (hAxI (gA S 38) w)), (4, .long ((gB S 47 (2 * m + axN (gA S 38) w)) * ((Int32.toInt64 (hLine (gA S 38) w)) - (gB S 48 (2 * m + axN (gA S 38) w)))))]) (st' := [.int 1]) (S' := (wJ (wJ S 35 23 (((gB S 47 (2 * m + axN (gA S 38) w)) * ((Int32.toInt64 (hLine (gA S 38) w)) - (gB S 48 (2 * m + axN (gA S 38) w)))) - (gB S 45 (axN (gA S 38) w)))) 35 24 (gB S 46 (axN (gA S 38) w)))) rfl trivial ?_
        exact fV.zret rfl dX8_cross_117 (by decide) ⟨fBt (by unfold rD; rw [if_neg (show ¬ gB S 46 (axN (gA S 38) w) < 0 by grind)]; grind), by unfold sX rN rD; rw [if_neg (show ¬ gB S 46 (axN (gA S 38) w) < 0 by grind), if_neg (show ¬ gB S 46 (axN (gA S 38) w) < 0 by grind)]; rfl⟩
    · exact absurd c81 (by grind)
  · refine fV.run iX8_cross_48_4 oX8_cross_48_4 (pc' := 54) (L' := [(0, .ref 35), (1, .int (nI m)), (2, .int (nI w)), (3, .int (hAxI (gA S 38) w)), (4, .long ((gB S 47 (2 * m + axN (gA S 38) w)) * ((Int32.toInt64 (hLine (gA S 38) w)) - (gB S 48 (2 * m + axN (gA S 38) w)))))]) (st' := [.long (gB S 45 (hAxI (gA S 38) w).toNatClampNeg), .ref 35]) (S' := S) (P := vp_in (hAxI (gA S 38) w) 2 ∧ True) rfl ⟨(by rw [axI_N]; first | exact vp_in_nI (axN_lt (gA S 38) w) (by decide) | exact vinN (w := 2 * m + axN (gA S 38) w) (by have := axN_lt (gA S 38) w; omega) (by decide) n2), trivial⟩ ?_
    refine fV.to (L' := [(0, .ref 35), (1, .int (nI m)), (2, .int (nI w)), (3, .int (hAxI (gA S 38) w)), (4, .long ((gB S 47 (2 * m + axN (gA S 38) w)) * ((Int32.toInt64 (hLine (gA S 38) w)) - (gB S 48 (2 * m + axN (gA S 38) w)))))]) (st' := [.long (gB S 45 (axN (gA S 38) w)), .ref 35]) rfl rfl (by rw [show (gB S 45 (hAxI (gA S 38) w).toNatClampNeg : Int64) = gB S 45 (axN (gA S 38) w) from by rw [axI_N]; first | rw [n2, nI_clamp (by have := axN_lt (gA S 38) w; omega)] | rw [nI_clamp (by have := axN_lt (gA S 38) w; omega)]]) rfl ?_
    refine fV.run iX8_cross_54_9 oX8_cross_54_9 (pc' := 79) (L' := [(0, .ref 35), (1, .int (nI m)), (2, .int (nI w)), (3, .int (hAxI (gA S 38) w)), (4, .long ((gB S 47 (2 * m + axN (gA S 38) w)) * ((Int32.toInt64 (hLine (gA S 38) w)) - (gB S 48 (2 * m + axN (gA S 38) w)))))]) (st' := [.long (gB S 46 (hAxI (gA S 38) w).toNatClampNeg), .ref 35]) (S' := (wJ S 35 23 ((gB S 45 (axN (gA S 38) w)) - ((gB S 47 (2 * m + axN (gA S 38) w)) * ((Int32.toInt64 (hLine (gA S 38) w)) - (gB S 48 (2 * m + axN (gA S 38) w))))))) (P := vp_in (hAxI (gA S 38) w) 2 ∧ True) rfl ⟨(by rw [axI_N]; first | exact vp_in_nI (axN_lt (gA S 38) w) (by decide) | exact vinN (w := 2 * m + axN (gA S 38) w) (by have := axN_lt (gA S 38) w; omega) (by decide) n2), trivial⟩ ?_
    refine fV.to (L' := [(0, .ref 35), (1, .int (nI m)), (2, .int (nI w)), (3, .int (hAxI (gA S 38) w)), (4, .long ((gB S 47 (2 * m + axN (gA S 38) w)) * ((Int32.toInt64 (hLine (gA S 38) w)) - (gB S 48 (2 * m + axN (gA S 38) w)))))]) (st' := [.long (gB S 46 (axN (gA S 38) w)), .ref 35]) rfl rfl (by rw [show (gB S 46 (hAxI (gA S 38) w).toNatClampNeg : Int64) = gB S 46 (axN (gA S 38) w) from by rw [axI_N]; first | rw [n2, nI_clamp (by have := axN_lt (gA S 38) w; omega)] | rw [nI_clamp (by have := axN_lt (gA S 38) w; omega)]]) rfl ?_
    refine fV.run iX8_cross_79_2 oX8_cross_79_2 (pc' := 81) (L' := [(0, .ref 35), (1, .int (nI m)), (2, .int (nI w)), (3, .int (hAxI (gA S 38) w)), (4, .long ((gB S 47 (2 * m + axN (gA S 38) w)) * ((Int32.toInt64 (hLine (gA S 38) w)) - (gB S 48 (2 * m + axN (gA S 38) w)))))]) (st' := [.int (lg_cmp (gB S 46 (axN (gA S 38) w)) 0), .ref 35]) (S' := (wJ S 35 23 ((gB S 45 (axN (gA S 38) w)) - ((gB S 47 (2 * m + axN (gA S 38) w)) * ((Int32.toInt64 (hLine (gA S 38) w)) - (gB S 48 (2 * m + axN (gA S 38) w))))))) rfl trivial ?_
    refine fV.lif_ge bX8_cross_81 (fun c81 => ?_) (fun c81 => ?_)
    · exact absurd c81 (by grind)
    · refine fV.run iX8_cross_84_4 oX8_cross_84_4 (pc' := 90) (L' := [(0, .ref 35), (1, .int (nI m)), (2, .int (nI w)), (3, .int (hAxI (gA S 38) w)), (4, .long ((gB S 47 (2 * m + axN (gA S 38) w)) * ((Int32.toInt64 (hLine (gA S 38) w)) - (gB S 48 (2 * m + axN (gA S 38) w)))))]) (st' := [.long (gB S 46 (hAxI (gA S 38) w).toNatClampNeg), .ref 35]) (S' := (wJ S 35 23 ((gB S 45 (axN (gA S 38) w)) - ((gB S 47 (2 * m + axN (gA S 38) w)) * ((Int32.toInt64 (hLine (gA S 38) w)) - (gB S 48 (2 * m + axN (gA S 38) w))))))) (P := vp_in (hAxI (gA S 38) w) 2 ∧ True) rfl ⟨(by rw [axI_N]; first | exact vp_in_nI (axN_lt (gA S 38) w) (by decide) | exact vinN (w := 2 * m + axN (gA S 38) w) (by have := axN_lt (gA S 38) w; omega) (by decide) n2), trivial⟩ ?_
      refine fV.to (L' := [(0, .ref 35), (1, .int (nI m)), (2, .int (nI w)), (3, .int (hAxI (gA S 38) w)), (4, .long ((gB S 47 (2 * m + axN (gA S 38) w)) * ((Int32.toInt64 (hLine (gA S 38) w)) - (gB S 48 (2 * m + axN (gA S 38) w)))))]) (st' := [.long (gB S 46 (axN (gA S 38) w)), .ref 35]) rfl rfl (by rw [show (gB S 46 (hAxI (gA S 38) w).toNatClampNeg : Int64) = gB S 46 (axN (gA S 38) w) from by rw [axI_N]; first | rw [n2, nI_clamp (by have := axN_lt (gA S 38) w; omega)] | rw [nI_clamp (by have := axN_lt (gA S 38) w; omega)]]) rfl ?_
      refine fV.run iX8_cross_90_2 oX8_cross_90_2 (pc' := 100) (L' := [(0, .ref 35), (1, .int (nI m)), (2, .int (nI w)), (3, .int (hAxI (gA S 38) w)), (4, .long ((gB S 47 (2 * m + axN (gA S 38) w)) * ((Int32.toInt64 (hLine (gA S 38) w)) - (gB S 48 (2 * m + axN (gA S 38) w)))))]) (st' := [.long (-(gB S 46 (axN (gA S 38) w))), .ref 35]) (S' := (wJ S 35 23 ((gB S 45 (axN (gA S 38) w)) - ((gB S 47 (2 * m + axN (gA S 38) w)) * ((Int32.toInt64 (hLine (gA S 38) w)) - (gB S 48 (2 * m + axN (gA S 38) w))))))) rfl trivial ?_
      refine fV.to (L' := [(0, .ref 35), (1, .int (nI m)), (2, .int (nI w)), (3, .int (hAxI (gA S 38) w)), (4, .long ((gB S 47 (2 * m + axN (gA S 38) w)) * ((Int32.toInt64 (hLine (gA S 38) w)) - (gB S 48 (2 * m + axN (gA S 38) w)))))]) (st' := [.long (-(gB S 46 (axN (gA S 38) w))), .ref 35]) rfl rfl rfl rfl ?_
      refine fV.run iX8_cross_100_5 oX8_cross_100_5 (pc' := 109) (L' := [(0, .ref 35), (1, .int (nI m)), (2, .int (nI w)), (3, .int (hAxI (gA S 38) w)), (4, .long ((gB S 47 (2 * m + axN (gA S 38) w)) * ((Int32.toInt64 (hLine (gA S 38) w)) - (gB S 48 (2 * m + axN (gA S 38) w)))))]) (st' := [.int (lg_cmp (-(gB S 46 (axN (gA S 38) w))) 0)]) (S' := (wJ (wJ S 35 23 ((gB S 45 (axN (gA S 38) w)) - ((gB S 47 (2 * m + axN (gA S 38) w)) * ((Int32.toInt64 (hLine (gA S 38) w)) - (gB S 48 (2 * m + axN (gA S 38) w)))))) 35 24 (-(gB S 46 (axN (gA S 38) w))))) rfl trivial ?_
      refine fV.lif_le bX8_cross_109 (fun c109 => ?_) (fun c109 => ?_)
      · refine fV.run iX8_cross_116_1 oX8_cross_116_1 (pc' := 117) (L' := [(0, .ref 35), (1, .int (nI m)), (2, .int (nI w)), (3, .int (hAxI (gA S 38) w)), (4, .long ((gB S 47 (2 * m + axN (gA S 38) w)) * ((Int32.toInt64 (hLine (gA S 38) w)) - (gB S 48 (2 * m + axN (gA S 38) w)))))]) (st' := [.int 0]) (S' := (wJ (wJ S 35 23 ((gB S 45 (axN (gA S 38) w)) - ((gB S 47 (2 * m + axN (gA S 38) w)) * ((Int32.toInt64 (hLine (gA S 38) w)) - (gB S 48 (2 * m + axN (gA S 38) w)))))) 35 24 (-(gB S 46 (axN (gA S 38) w))))) rfl trivial ?_
        exact fV.zret rfl dX8_cross_117 (by decide) ⟨fBf (by unfold rD; rw [if_pos (show gB S 46 (axN (gA S 38) w) < 0 by grind)]; grind), by unfold sX rN rD; rw [if_pos (show gB S 46 (axN (gA S 38) w) < 0 by grind), if_pos (show gB S 46 (axN (gA S 38) w) < 0 by grind)]; rfl⟩
      · refine fV.run iX8_cross_112_2 oX8_cross_112_2 (pc' := 117) (L' := [(0, .ref 35), (1, .int (nI m)), (2, .int (nI w)), (3, .int (hAxI (gA S 38) w)), (4, .long ((gB S 47 (2 * m + axN (gA S 38) w)) * ((Int32.toInt64 (hLine (gA S 38) w)) - (gB S 48 (2 * m + axN (gA S 38) w)))))]) (st' := [.int 1]) (S' := (wJ (wJ S 35 23 ((gB S 45 (axN (gA S 38) w)) - ((gB S 47 (2 * m + axN (gA S 38) w)) * ((Int32.toInt64 (hLine (gA S 38) w)) - (gB S 48 (2 * m + axN (gA S 38) w)))))) 35 24 (-(gB S 46 (axN (gA S 38) w))))) rfl trivial ?_
        exact fV.zret rfl dX8_cross_117 (by decide) ⟨fBt (by unfold rD; rw [if_pos (show gB S 46 (axN (gA S 38) w) < 0 by grind)]; grind), by unfold sX rN rD; rw [if_pos (show gB S 46 (axN (gA S 38) w) < 0 by grind), if_pos (show gB S 46 (axN (gA S 38) w) < 0 by grind)]; rfl⟩
def iX8_isOnAt_0_5 : List Instr := [.aload_n 0, .iload_n 1, .iconst 1, .aload_n 0, .iload_n 2]
theorem oX8_isOnAt_0_5 : fOkB cX8_isOnAt 0 iX8_isOnAt_0_5 = true := by decide +kernel
theorem dX8_isOnAt_5 : decode cX8_isOnAt 5 = .ok (.invokevirtual 136, 3) := by decide +kernel
def iX8_isOnAt_8_3 : List Instr := [.isub, .lload_n 3, .lload 5]
theorem oX8_isOnAt_8_3 : fOkB cX8_isOnAt 8 iX8_isOnAt_8_3 = true := by decide +kernel
set_option maxRecDepth 100000 in
theorem lX8_152 : Cond.methodLink RX8 152 yX8_placeAt ∈ fTB := fTB_at 834 rfl rfl
theorem dX8_isOnAt_12 : decode cX8_isOnAt 12 = .ok (.invokevirtual 152, 3) := by decide +kernel
def iX8_isOnAt_15_4 : List Instr := [.lstore 7, .lload 7, .aload_n 0, .iload_n 2]
theorem oX8_isOnAt_15_4 : fOkB cX8_isOnAt 15 iX8_isOnAt_15_4 = true := by decide +kernel
theorem dX8_isOnAt_21 : decode cX8_isOnAt 21 = .ok (.invokevirtual 139, 3) := by decide +kernel
def iX8_isOnAt_24_4 : List Instr := [.i2l, .lload 5, .lmul, .lcmp]
theorem oX8_isOnAt_24_4 : fOkB cX8_isOnAt 24 iX8_isOnAt_24_4 = true := by decide +kernel
theorem bX8_isOnAt_29 : fBk cX8_isOnAt 29 (.ifCond .lt) 51 := ⟨22, by decide +kernel, by decide⟩
def iX8_isOnAt_51_1 : List Instr := [.iconst 0]
theorem oX8_isOnAt_51_1 : fOkB cX8_isOnAt 51 iX8_isOnAt_51_1 = true := by decide +kernel
theorem dX8_isOnAt_52 : decode cX8_isOnAt 52 = .ok (.ireturn, 1) := by decide +kernel
def iX8_isOnAt_32_3 : List Instr := [.lload 7, .aload_n 0, .iload_n 2]
theorem oX8_isOnAt_32_3 : fOkB cX8_isOnAt 32 iX8_isOnAt_32_3 = true := by decide +kernel
set_option maxRecDepth 100000 in
theorem lX8_156 : Cond.methodLink RX8 156 yX8_highOf ∈ fTB := fTB_at 842 rfl rfl
theorem dX8_isOnAt_36 : decode cX8_isOnAt 36 = .ok (.invokevirtual 156, 3) := by decide +kernel
def iX8_isOnAt_39_4 : List Instr := [.i2l, .lload 5, .lmul, .lcmp]
theorem oX8_isOnAt_39_4 : fOkB cX8_isOnAt 39 iX8_isOnAt_39_4 = true := by decide +kernel
theorem bX8_isOnAt_44 : fBk cX8_isOnAt 44 (.ifCond .gt) 51 := ⟨7, by decide +kernel, by decide⟩
def iX8_isOnAt_47_2 : List Instr := [.iconst 1, .goto 4]
theorem oX8_isOnAt_47_2 : fOkB cX8_isOnAt 47 iX8_isOnAt_47_2 = true := by decide +kernel
set_option maxRecDepth 100000 in
theorem qX8_onAt {G : fG} {d : Nat} {S : fS} {a b c e m w : Nat} (n q : Int64) (H : hOk (hD S) a b c e) (hwb : w < b) (hm : m ≤ 3)  : fCtr G (d + 3) mX8_isOnAt [.ref 35, .int (nI m), .int (nI w), .long n, .long q] S (fun r S' => (rOn S m w n q ∧ r = some (.int 1) ∧ S' = S) ∨ (¬ rOn S m w n q ∧ r = some (.int 0) ∧ S' = S)) := by
  refine fCtr.of bXX8_isOnAt (Nat.le_of_ble_eq_true rfl) rfl ?_
  have hw : w < 16 := by have := H.2.1.2.1; omega
  refine fV.run iX8_isOnAt_0_5 oX8_isOnAt_0_5 (pc' := 5) (L' := [(0, .ref 35), (1, .int (nI m)), (2, .int (nI w)), (3, .long n), (5, .long q)]) (st' := [.int (nI w), .ref 35, .int 1, .int (nI m), .ref 35]) (S' := S) rfl trivial ?_
  refine fV.callV (M2 := mX8_axisOf) (d := d + 2) (o := 35) (av := [.int (nI w)]) (rest := [.int 1, .int (nI m), .ref 35]) kX8_axisOf dX8_isOnAt_5 lX8_136 rfl rfl rfl (Nat.le_of_ble_eq_true rfl) (fRoom (by decide)) ⟨Nat.le_refl _, Nat.le_refl _⟩ (qX8_axis (S := S) hw) ?_
  rintro _ S9 ⟨rfl, h9⟩
  rw [h9]
  clear h9 S9
  refine fV.to (pc' := 8) (L' := [(0, .ref 35), (1, .int (nI m)), (2, .int (nI w)), (3, .long n), (5, .long q)]) (st' := [.int (hAxI (gA S 38) w), .int 1, .int (nI m), .ref 35]) (S' := S) rfl rfl rfl rfl ?_
  refine fV.run iX8_isOnAt_8_3 oX8_isOnAt_8_3 (pc' := 12) (L' := [(0, .ref 35), (1, .int (nI m)), (2, .int (nI w)), (3, .long n), (5, .long q)]) (st' := [.long q, .long n, .int (1 - (hAxI (gA S 38) w)), .int (nI m), .ref 35]) (S' := S) rfl trivial ?_
  refine fV.callV (M2 := mX8_placeAt) (d := d + 2) (o := 35) (av := [.int (nI m), .int (1 - (hAxI (gA S 38) w)), .long n, .long q]) (rest := []) kX8_placeAt dX8_isOnAt_12 lX8_152 rfl rfl rfl (Nat.le_of_ble_eq_true rfl) (fRoom (by decide)) ⟨Nat.le_refl _, Nat.le_refl _⟩ (qX8_place (S := S) (m := m) (x := 1 - axN (gA S 38) w) _ _ hm (by omega) (axO_N _ _)) ?_
  rintro _ S9 ⟨rfl, h9⟩
  rw [h9]
  clear h9 S9
  refine fV.to (pc' := 15) (L' := [(0, .ref 35), (1, .int (nI m)), (2, .int (nI w)), (3, .long n), (5, .long q)]) (st' := [.long (rP S m (1 - axN (gA S 38) w) n q)]) (S' := S) rfl rfl rfl rfl ?_
  refine fV.run iX8_isOnAt_15_4 oX8_isOnAt_15_4 (pc' := 21) (L' := [(0, .ref 35), (1, .int (nI m)), (2, .int (nI w)), (3, .long n), (5, .long q), (7, .long (rP S m (1 - axN (gA S 38) w) n q))]) (st' := [.int (nI w), .ref 35, .long (rP S m (1 - axN (gA S 38) w) n q)]) (S' := S) rfl trivial ?_
  refine fV.callV (M2 := mX8_lowOf) (d := d + 2) (o := 35) (av := [.int (nI w)]) (rest := [.long (rP S m (1 - axN (gA S 38) w) n q)]) kX8_lowOf dX8_isOnAt_21 lX8_139 rfl rfl rfl (Nat.le_of_ble_eq_true rfl) (fRoom (by decide)) ⟨Nat.le_refl _, Nat.le_refl _⟩ (qX8_lowOf (S := S) hw) ?_
  rintro _ S9 ⟨rfl, h9⟩
  rw [h9]
  clear h9 S9
  refine fV.to (pc' := 24) (L' := [(0, .ref 35), (1, .int (nI m)), (2, .int (nI w)), (3, .long n), (5, .long q), (7, .long (rP S m (1 - axN (gA S 38) w) n q))]) (st' := [.int (hLow (gA S 38) w), .long (rP S m (1 - axN (gA S 38) w) n q)]) (S' := S) rfl rfl rfl rfl ?_
  refine fV.run iX8_isOnAt_24_4 oX8_isOnAt_24_4 (pc' := 29) (L' := [(0, .ref 35), (1, .int (nI m)), (2, .int (nI w)), (3, .long n), (5, .long q), (7, .long (rP S m (1 - axN (gA S 38) w) n q))]) (st' := [.int (lg_cmp (rP S m (1 - axN (gA S 38) w) n q) ((Int32.toInt64 (hLow (gA S 38) w)) * q))]) (S' := S) rfl trivial ?_
  refine fV.lif_lt bX8_isOnAt_29 (fun c29 => ?_) (fun c29 => ?_)
  · refine fV.run iX8_isOnAt_51_1 oX8_isOnAt_51_1 (pc' := 52) (L' := [(0, .ref 35), (1, .int (nI m)), (2, .int (nI w)), (3, .long n), (5, .long q), (7, .long (rP S m (1 - axN (gA S 38) w) n q))]) (st' := [.int 0]) (S' := S) rfl trivial ?_
    exact fV.zret rfl dX8_isOnAt_52 (by decide) (Or.inr ⟨by unfold rOn; grind, rfl, rfl⟩)
  · refine fV.run iX8_isOnAt_32_3 oX8_isOnAt_32_3 (pc' := 36) (L' := [(0, .ref 35), (1, .int (nI m)), (2, .int (nI w)), (3, .long n), (5, .long q), (7, .long (rP S m (1 - axN (gA S 38) w) n q))]) (st' := [.int (nI w), .ref 35, .long (rP S m (1 - axN (gA S 38) w) n q)]) (S' := S) rfl trivial ?_
    refine fV.callV (M2 := mX8_highOf) (d := d + 2) (o := 35) (av := [.int (nI w)]) (rest := [.long (rP S m (1 - axN (gA S 38) w) n q)]) kX8_highOf dX8_isOnAt_36 lX8_156 rfl rfl rfl (Nat.le_of_ble_eq_true rfl) (fRoom (by decide)) ⟨Nat.le_refl _, Nat.le_refl _⟩ (qX8_highOf (S := S) H hwb) ?_
    rintro _ S9 ⟨rfl, h9⟩
    rw [h9]
    clear h9 S9
    refine fV.to (pc' := 39) (L' := [(0, .ref 35), (1, .int (nI m)), (2, .int (nI w)), (3, .long n), (5, .long q), (7, .long (rP S m (1 - axN (gA S 38) w) n q))]) (st' := [.int (hHigh (gA S 38) w), .long (rP S m (1 - axN (gA S 38) w) n q)]) (S' := S) rfl rfl rfl rfl ?_
    refine fV.run iX8_isOnAt_39_4 oX8_isOnAt_39_4 (pc' := 44) (L' := [(0, .ref 35), (1, .int (nI m)), (2, .int (nI w)), (3, .long n), (5, .long q), (7, .long (rP S m (1 - axN (gA S 38) w) n q))]) (st' := [.int (lg_cmp (rP S m (1 - axN (gA S 38) w) n q) ((Int32.toInt64 (hHigh (gA S 38) w)) * q))]) (S' := S) rfl trivial ?_
    refine fV.lif_gt bX8_isOnAt_44 (fun c44 => ?_) (fun c44 => ?_)
    · refine fV.run iX8_isOnAt_51_1 oX8_isOnAt_51_1 (pc' := 52) (L' := [(0, .ref 35), (1, .int (nI m)), (2, .int (nI w)), (3, .long n), (5, .long q), (7, .long (rP S m (1 - axN (gA S 38) w) n q))]) (st' := [.int 0]) (S' := S) rfl trivial ?_
      exact fV.zret rfl dX8_isOnAt_52 (by decide) (Or.inr ⟨by unfold rOn; grind, rfl, rfl⟩)
    · refine fV.run iX8_isOnAt_47_2 oX8_isOnAt_47_2 (pc' := 52) (L' := [(0, .ref 35), (1, .int (nI m)), (2, .int (nI w)), (3, .long n), (5, .long q), (7, .long (rP S m (1 - axN (gA S 38) w) n q))]) (st' := [.int 1]) (S' := S) rfl trivial ?_
      exact fV.zret rfl dX8_isOnAt_52 (by decide) (Or.inl ⟨⟨Int64.not_lt.mp c29, Int64.not_lt.mp c44⟩, rfl, rfl⟩)
/-- a leg of the reference (turn, shift) is the leg from E to I -/
def lgOk (S : fS) (m : Nat) (E I : zP) : Prop := (∀ x, x < 2 → gB S 47 (2 * m + x) = 1 ∨ gB S 47 (2 * m + x) = -1) ∧ (E.1.toInt64 = gB S 47 (2 * m) * gB S 45 0 + gB S 48 (2 * m) ∧ I.1.toInt64 = gB S 47 (2 * m) * (gB S 45 0 + gB S 46 0) + gB S 48 (2 * m)) ∧ (E.2.toInt64 = gB S 47 (2 * m + 1) * gB S 45 1 + gB S 48 (2 * m + 1) ∧ I.2.toInt64 = gB S 47 (2 * m + 1) * (gB S 45 1 + gB S 46 1) + gB S 48 (2 * m + 1)) ∧ ((-10000 ≤ E.1.toInt ∧ E.1.toInt ≤ 10000) ∧ (-10000 ≤ E.2.toInt ∧ E.2.toInt ≤ 10000)) ∧ ((-10000 ≤ I.1.toInt ∧ I.1.toInt ≤ 10000) ∧ (-10000 ≤ I.2.toInt ∧ I.2.toInt ≤ 10000))
theorem w_sub {x y : Int32} (h1 : -10000 ≤ x.toInt) (h2 : x.toInt ≤ 10000) (h3 : -10000 ≤ y.toInt) (h4 : y.toInt ≤ 10000) : (x - y).toInt64 = x.toInt64 - y.toInt64 ∧ -20000 ≤ (x - y).toInt64 ∧ (x - y).toInt64 ≤ 20000 := by
  have e : (x - y).toInt64.toInt = x.toInt - y.toInt := by rw [Int32.toInt_toInt64, i_sub (by omega) (by omega)]
  have t1 : (20000 : Int64).toInt = 20000 := by decide
  have t2 : (-20000 : Int64).toInt = -20000 := by decide
  refine ⟨?_, ?_, ?_⟩
  · apply Int64.toInt_inj.mp
    rw [e, j_sub (by rw [Int32.toInt_toInt64, Int32.toInt_toInt64]; omega) (by rw [Int32.toInt_toInt64, Int32.toInt_toInt64]; omega), Int32.toInt_toInt64, Int32.toInt_toInt64]
  · rw [Int64.le_iff_toInt_le, e, t2]; omega
  · rw [Int64.le_iff_toInt_le, e, t1]; omega
/-- the leg on a wall's axis, and on the other one -/
theorem lgOk.s {S : fS} {m w : Nat} {E I : zP} (h : lgOk S m E I) : (gB S 47 (2 * m + axN (gA S 38) w) = 1 ∨ gB S 47 (2 * m + axN (gA S 38) w) = -1) ∧ (zS (gA S 38) w E).toInt64 = gB S 47 (2 * m + axN (gA S 38) w) * gB S 45 (axN (gA S 38) w) + gB S 48 (2 * m + axN (gA S 38) w) ∧ (zS (gA S 38) w I).toInt64 = gB S 47 (2 * m + axN (gA S 38) w) * (gB S 45 (axN (gA S 38) w) + gB S 46 (axN (gA S 38) w)) + gB S 48 (2 * m + axN (gA S 38) w) ∧ (-10000 ≤ (zS (gA S 38) w E).toInt ∧ (zS (gA S 38) w E).toInt ≤ 10000) ∧ (-10000 ≤ (zS (gA S 38) w I).toInt ∧ (zS (gA S 38) w I).toInt ≤ 10000) := by
  obtain ⟨h1, h2, h3, h4, h5⟩ := h
  refine ⟨h1 _ (axN_lt _ _), ?_⟩
  unfold zS axN
  split
  · exact ⟨h2.1, h2.2, h4.1, h5.1⟩
  · exact ⟨h3.1, h3.2, h4.2, h5.2⟩
theorem lgOk.o {S : fS} {m w : Nat} {E I : zP} (h : lgOk S m E I) : (zO (gA S 38) w E).toInt64 = gB S 47 (2 * m + (1 - axN (gA S 38) w)) * gB S 45 (1 - axN (gA S 38) w) + gB S 48 (2 * m + (1 - axN (gA S 38) w)) ∧ (zO (gA S 38) w I).toInt64 = gB S 47 (2 * m + (1 - axN (gA S 38) w)) * (gB S 45 (1 - axN (gA S 38) w) + gB S 46 (1 - axN (gA S 38) w)) + gB S 48 (2 * m + (1 - axN (gA S 38) w)) := by
  obtain ⟨h1, h2, h3, h4, h5⟩ := h
  unfold zO axN
  split
  · exact h3
  · exact h2
theorem rP_o {S : fS} {m w : Nat} {E I : zP} (h : lgOk S m E I) (n q : Int64) : rP S m (1 - axN (gA S 38) w) n q = zPl (gA S 38) w E I n q := by
  obtain ⟨h1, h2⟩ := h.o (w := w)
  unfold rP zPl
  rw [h1, h2]
  grind
theorem rOn_iff {S : fS} {m w : Nat} {E I : zP} (h : lgOk S m E I) (n q : Int64) : rOn S m w n q ↔ zOn (gA S 38) w E I n q := by
  unfold rOn zOn
  rw [rP_o h]
theorem r_wy {S : fS} {m w : Nat} {E I : zP} (h : lgOk S m E I) : zWy (gA S 38) w E I = gB S 47 (2 * m + axN (gA S 38) w) * gB S 46 (axN (gA S 38) w) ∧ -20000 ≤ zWy (gA S 38) w E I ∧ zWy (gA S 38) w E I ≤ 20000 := by
  obtain ⟨h1, h2, h3, h4, h5⟩ := h.s (w := w)
  obtain ⟨q1, q2, q3⟩ := w_sub h5.1 h5.2 h4.1 h4.2
  refine ⟨?_, q2, q3⟩
  unfold zWy
  rw [q1, h2, h3]
  grind
theorem r_tw {S : fS} {m w : Nat} {E I : zP} (h : lgOk S m E I) (hl : -10000 ≤ (hLine (gA S 38) w).toInt ∧ (hLine (gA S 38) w).toInt ≤ 10000) : zTw (gA S 38) w E = (hLine (gA S 38) w).toInt64 - (gB S 47 (2 * m + axN (gA S 38) w) * gB S 45 (axN (gA S 38) w) + gB S 48 (2 * m + axN (gA S 38) w)) := by
  obtain ⟨h1, h2, h3, h4, h5⟩ := h.s (w := w)
  unfold zTw
  rw [(w_sub hl.1 hl.2 h4.1 h4.2).1, h2]
theorem r_cross {S : fS} {m w : Nat} {E I : zP} (h : lgOk S m E I) (hl : -10000 ≤ (hLine (gA S 38) w).toInt ∧ (hLine (gA S 38) w).toInt ≤ 10000) : rD S w = zWh (gA S 38) w E I ∧ (¬ zWy (gA S 38) w E I = 0 → rN S m w = zPt (gA S 38) w E I) ∧ (0 < rD S w ↔ ¬ zWh (gA S 38) w E I = 0) ∧ (zWh (gA S 38) w E I = 0 ↔ zWy (gA S 38) w E I = 0) := by
  obtain ⟨e1, b1, b2⟩ := r_wy (w := w) h
  have e2 := r_tw (w := w) h hl
  obtain ⟨h1, -⟩ := h.s (w := w)
  unfold rD zWh rN zPt rU
  rw [e2]
  generalize zWy (gA S 38) w E I = y at *
  generalize gB S 47 (2 * m + axN (gA S 38) w) = T at *
  generalize gB S 46 (axN (gA S 38) w) = v at *
  generalize gB S 45 (axN (gA S 38) w) = s0 at *
  generalize gB S 48 (2 * m + axN (gA S 38) w) = F at *
  generalize (hLine (gA S 38) w).toInt64 = L at *
  rcases h1 with rfl | rfl
  · have e3 : y = v := by grind
    subst e3
    by_cases c1 : y < 0
    · rw [if_pos c1, if_pos c1, if_pos c1, if_neg (show ¬ 0 < y by grind)]
      exact ⟨rfl, fun _ => by grind, by grind, by grind⟩
    · rw [if_neg c1, if_neg c1, if_neg c1]
      by_cases c2 : 0 < y
      · rw [if_pos c2]; exact ⟨rfl, fun _ => by grind, by grind, by grind⟩
      · rw [if_neg c2]
        obtain rfl : y = 0 := by grind
        exact ⟨by decide, fun z => absurd rfl z, by decide, by decide⟩
  · have e3 : v = -y := by grind
    subst e3
    by_cases c1 : y < 0
    · rw [if_neg (show ¬ -y < 0 by grind), if_neg (show ¬ -y < 0 by grind), if_pos c1, if_neg (show ¬ 0 < y by grind)]
      exact ⟨rfl, fun _ => by grind, by grind, by grind⟩
    · by_cases c2 : 0 < y
      · rw [if_pos (show -y < 0 by grind), if_pos (show -y < 0 by grind), if_neg c1, if_pos c2]
        exact ⟨by grind, fun _ => by grind, by grind, by grind⟩
      · obtain rfl : y = 0 := by grind
        exact ⟨by decide, fun z => absurd rfl z, by decide, by decide⟩

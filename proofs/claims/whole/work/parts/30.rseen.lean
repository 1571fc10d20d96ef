/-! the reference: meetings, and whether a row is seen -/
theorem r_cy {S : fS} {m w : Nat} {E I : zP} (h : lgOk S m E I) (hl : -10000 ≤ (hLine (gA S 38) w).toInt ∧ (hLine (gA S 38) w).toInt ≤ 10000) (c : ¬ fB (decide (0 < rD S w)) = 0) : ¬ zWy (gA S 38) w E I = 0 := by
  obtain ⟨q1, q2, q3, q4⟩ := r_cross h hl
  rw [fBd1] at c
  exact fun z => q3.mp c (q4.mpr z)
theorem r_c0 {S : fS} {m w : Nat} {E I : zP} (h : lgOk S m E I) (hl : -10000 ≤ (hLine (gA S 38) w).toInt ∧ (hLine (gA S 38) w).toInt ≤ 10000) (c : fB (decide (0 < rD S w)) = 0) : zWy (gA S 38) w E I = 0 := by
  obtain ⟨q1, q2, q3, q4⟩ := r_cross h hl
  rw [fBd0] at c
  exact q4.mp (Classical.byContradiction fun z => c (q3.mpr z))
theorem r_at0 {S : fS} {m w : Nat} {E I : zP} (h : lgOk S m E I) (hl : -10000 ≤ (hLine (gA S 38) w).toInt ∧ (hLine (gA S 38) w).toInt ≤ 10000) : rP S m (axN (gA S 38) w) 0 1 = (hLine (gA S 38) w).toInt64 ↔ zTw (gA S 38) w E = 0 := by
  rw [r_tw h hl]
  unfold rP
  generalize gB S 47 (2 * m + axN (gA S 38) w) = T
  generalize gB S 46 (axN (gA S 38) w) = v
  generalize gB S 45 (axN (gA S 38) w) = s0
  generalize gB S 48 (2 * m + axN (gA S 38) w) = F
  generalize (hLine (gA S 38) w).toInt64 = L
  constructor
  · intro z; rw [← z]; grind
  · intro z
    have : L = T * s0 + F := by grind
    rw [this]; grind
def rtL (S : fS) (w : Nat) : Prop := -10000 ≤ (hLine (gA S 38) w).toInt ∧ (hLine (gA S 38) w).toInt ≤ 10000
theorem hOk.rl {S : fS} {a b c e w : Nat} (H : hOk (hD S) a b c e) (hw : w < b) : rtL S w := by
  obtain ⟨h1, h2⟩ := line_bd H hw
  exact ⟨by show -10000 ≤ (hLine (hD S).2.1.2.1 w).toInt; omega, by show (hLine (hD S).2.1.2.1 w).toInt ≤ 10000; omega⟩
def iX8_meets_0_4 : List Instr := [.aload_n 0, .getfield 57, .iload_n 1, .laload]
theorem oX8_meets_0_4 : fOkB cX8_meets 0 iX8_meets_0_4 = true := by decide +kernel
def iX8_meets_6_5 : List Instr := [.lstore_n 3, .aload_n 0, .getfield 60, .iload_n 1, .laload]
theorem oX8_meets_6_5 : fOkB cX8_meets 6 iX8_meets_6_5 = true := by decide +kernel
def iX8_meets_13_7 : List Instr := [.lstore 5, .aload_n 0, .getfield 57, .iload_n 1, .iconst 1, .iadd, .laload]
theorem oX8_meets_13_7 : fOkB cX8_meets 13 iX8_meets_13_7 = true := by decide +kernel
def iX8_meets_23_7 : List Instr := [.lstore 7, .aload_n 0, .getfield 60, .iload_n 1, .iconst 1, .iadd, .laload]
theorem oX8_meets_23_7 : fOkB cX8_meets 23 iX8_meets_23_7 = true := by decide +kernel
def iX8_meets_33_4 : List Instr := [.lstore 9, .aload_n 0, .iload_n 1, .iload_n 2]
theorem oX8_meets_33_4 : fOkB cX8_meets 33 iX8_meets_33_4 = true := by decide +kernel
set_option maxRecDepth 100000 in
theorem lX8_164 : Cond.methodLink RX8 164 yX8_cross ∈ fTB := fTB_at 826 rfl rfl
theorem dX8_meets_38 : decode cX8_meets 38 = .ok (.invokevirtual 164, 3) := by decide +kernel
theorem bX8_meets_41 : fBk cX8_meets 41 (.ifCond .eq) 114 := ⟨73, by decide +kernel, by decide⟩
def iX8_meets_114_2 : List Instr := [.aload_n 0, .iload_n 2]
theorem oX8_meets_114_2 : fOkB cX8_meets 114 iX8_meets_114_2 = true := by decide +kernel
theorem dX8_meets_116 : decode cX8_meets 116 = .ok (.invokevirtual 136, 3) := by decide +kernel
def iX8_meets_119_6 : List Instr := [.istore 11, .aload_n 0, .iload_n 1, .iload 11, .lconst 0, .lconst 1]
theorem oX8_meets_119_6 : fOkB cX8_meets 119 iX8_meets_119_6 = true := by decide +kernel
theorem dX8_meets_127 : decode cX8_meets 127 = .ok (.invokevirtual 152, 3) := by decide +kernel
def iX8_meets_130_2 : List Instr := [.aload_n 0, .iload_n 2]
theorem oX8_meets_130_2 : fOkB cX8_meets 130 iX8_meets_130_2 = true := by decide +kernel
theorem dX8_meets_132 : decode cX8_meets 132 = .ok (.invokevirtual 142, 3) := by decide +kernel
def iX8_meets_135_2 : List Instr := [.i2l, .lcmp]
theorem oX8_meets_135_2 : fOkB cX8_meets 135 iX8_meets_135_2 = true := by decide +kernel
theorem bX8_meets_137 : fBk cX8_meets 137 (.ifCond .eq) 142 := ⟨5, by decide +kernel, by decide⟩
def iX8_meets_142_7 : List Instr := [.aload_n 0, .iload_n 1, .iconst 1, .iload 11, .isub, .lload_n 3, .lload 5]
theorem oX8_meets_142_7 : fOkB cX8_meets 142 iX8_meets_142_7 = true := by decide +kernel
theorem dX8_meets_151 : decode cX8_meets 151 = .ok (.invokevirtual 152, 3) := by decide +kernel
def iX8_meets_154_8 : List Instr := [.lstore 12, .aload_n 0, .iload_n 1, .iconst 1, .iload 11, .isub, .lload 7, .lload 9]
theorem oX8_meets_154_8 : fOkB cX8_meets 154 iX8_meets_154_8 = true := by decide +kernel
theorem dX8_meets_166 : decode cX8_meets 166 = .ok (.invokevirtual 152, 3) := by decide +kernel
def iX8_meets_169_4 : List Instr := [.lstore 14, .lload 12, .aload_n 0, .iload_n 2]
theorem oX8_meets_169_4 : fOkB cX8_meets 169 iX8_meets_169_4 = true := by decide +kernel
theorem dX8_meets_175 : decode cX8_meets 175 = .ok (.invokevirtual 139, 3) := by decide +kernel
def iX8_meets_178_4 : List Instr := [.i2l, .lload 5, .lmul, .lcmp]
theorem oX8_meets_178_4 : fOkB cX8_meets 178 iX8_meets_178_4 = true := by decide +kernel
theorem bX8_meets_183 : fBk cX8_meets 183 (.ifCond .ge) 205 := ⟨22, by decide +kernel, by decide⟩
def iX8_meets_205_5 : List Instr := [.iconst 0, .istore 16, .lload 12, .aload_n 0, .iload_n 2]
theorem oX8_meets_205_5 : fOkB cX8_meets 205 iX8_meets_205_5 = true := by decide +kernel
theorem dX8_meets_212 : decode cX8_meets 212 = .ok (.invokevirtual 156, 3) := by decide +kernel
def iX8_meets_215_4 : List Instr := [.i2l, .lload 5, .lmul, .lcmp]
theorem oX8_meets_215_4 : fOkB cX8_meets 215 iX8_meets_215_4 = true := by decide +kernel
theorem bX8_meets_220 : fBk cX8_meets 220 (.ifCond .le) 242 := ⟨22, by decide +kernel, by decide⟩
def iX8_meets_242_3 : List Instr := [.iconst 0, .istore 17, .iload 16]
theorem oX8_meets_242_3 : fOkB cX8_meets 242 iX8_meets_242_3 = true := by decide +kernel
theorem bX8_meets_247 : fBk cX8_meets 247 (.ifCond .ne) 259 := ⟨12, by decide +kernel, by decide⟩
def iX8_meets_250_1 : List Instr := [.iload 17]
theorem oX8_meets_250_1 : fOkB cX8_meets 250 iX8_meets_250_1 = true := by decide +kernel
theorem bX8_meets_252 : fBk cX8_meets 252 (.ifCond .ne) 259 := ⟨7, by decide +kernel, by decide⟩
def iX8_meets_255_2 : List Instr := [.iconst 1, .goto 4]
theorem oX8_meets_255_2 : fOkB cX8_meets 255 iX8_meets_255_2 = true := by decide +kernel
theorem dX8_meets_260 : decode cX8_meets 260 = .ok (.ireturn, 1) := by decide +kernel
def iX8_meets_223_3 : List Instr := [.lload 14, .aload_n 0, .iload_n 2]
theorem oX8_meets_223_3 : fOkB cX8_meets 223 iX8_meets_223_3 = true := by decide +kernel
theorem dX8_meets_227 : decode cX8_meets 227 = .ok (.invokevirtual 156, 3) := by decide +kernel
def iX8_meets_230_4 : List Instr := [.i2l, .lload 9, .lmul, .lcmp]
theorem oX8_meets_230_4 : fOkB cX8_meets 230 iX8_meets_230_4 = true := by decide +kernel
theorem bX8_meets_235 : fBk cX8_meets 235 (.ifCond .le) 242 := ⟨7, by decide +kernel, by decide⟩
def iX8_meets_238_4 : List Instr := [.iconst 1, .goto 4, .istore 17, .iload 16]
theorem oX8_meets_238_4 : fOkB cX8_meets 238 iX8_meets_238_4 = true := by decide +kernel
def iX8_meets_259_1 : List Instr := [.iconst 0]
theorem oX8_meets_259_1 : fOkB cX8_meets 259 iX8_meets_259_1 = true := by decide +kernel
def iX8_meets_186_3 : List Instr := [.lload 14, .aload_n 0, .iload_n 2]
theorem oX8_meets_186_3 : fOkB cX8_meets 186 iX8_meets_186_3 = true := by decide +kernel
theorem dX8_meets_190 : decode cX8_meets 190 = .ok (.invokevirtual 139, 3) := by decide +kernel
def iX8_meets_193_4 : List Instr := [.i2l, .lload 9, .lmul, .lcmp]
theorem oX8_meets_193_4 : fOkB cX8_meets 193 iX8_meets_193_4 = true := by decide +kernel
theorem bX8_meets_198 : fBk cX8_meets 198 (.ifCond .ge) 205 := ⟨7, by decide +kernel, by decide⟩
def iX8_meets_201_6 : List Instr := [.iconst 1, .goto 4, .istore 16, .lload 12, .aload_n 0, .iload_n 2]
theorem oX8_meets_201_6 : fOkB cX8_meets 201 iX8_meets_201_6 = true := by decide +kernel
def iX8_meets_140_1 : List Instr := [.iconst 0]
theorem oX8_meets_140_1 : fOkB cX8_meets 140 iX8_meets_140_1 = true := by decide +kernel
theorem dX8_meets_141 : decode cX8_meets 141 = .ok (.ireturn, 1) := by decide +kernel
def iX8_meets_44_2 : List Instr := [.aload_n 0, .getfield 145]
theorem oX8_meets_44_2 : fOkB cX8_meets 44 iX8_meets_44_2 = true := by decide +kernel
def iX8_meets_48_5 : List Instr := [.lload 5, .lmul, .lload_n 3, .aload_n 0, .getfield 149]
theorem oX8_meets_48_5 : fOkB cX8_meets 48 iX8_meets_48_5 = true := by decide +kernel
def iX8_meets_56_2 : List Instr := [.lmul, .lcmp]
theorem oX8_meets_56_2 : fOkB cX8_meets 56 iX8_meets_56_2 = true := by decide +kernel
theorem bX8_meets_58 : fBk cX8_meets 58 (.ifCond .lt) 83 := ⟨25, by decide +kernel, by decide⟩
def iX8_meets_83_3 : List Instr := [.iconst 0, .istore 11, .iload 11]
theorem oX8_meets_83_3 : fOkB cX8_meets 83 iX8_meets_83_3 = true := by decide +kernel
theorem bX8_meets_88 : fBk cX8_meets 88 (.ifCond .eq) 112 := ⟨24, by decide +kernel, by decide⟩
def iX8_meets_112_1 : List Instr := [.iconst 0]
theorem oX8_meets_112_1 : fOkB cX8_meets 112 iX8_meets_112_1 = true := by decide +kernel
theorem dX8_meets_113 : decode cX8_meets 113 = .ok (.ireturn, 1) := by decide +kernel
def iX8_meets_61_2 : List Instr := [.aload_n 0, .getfield 145]
theorem oX8_meets_61_2 : fOkB cX8_meets 61 iX8_meets_61_2 = true := by decide +kernel
def iX8_meets_65_5 : List Instr := [.lload 9, .lmul, .lload 7, .aload_n 0, .getfield 149]
theorem oX8_meets_65_5 : fOkB cX8_meets 65 iX8_meets_65_5 = true := by decide +kernel
def iX8_meets_74_2 : List Instr := [.lmul, .lcmp]
theorem oX8_meets_74_2 : fOkB cX8_meets 74 iX8_meets_74_2 = true := by decide +kernel
theorem bX8_meets_76 : fBk cX8_meets 76 (.ifCond .gt) 83 := ⟨7, by decide +kernel, by decide⟩
def iX8_meets_79_4 : List Instr := [.iconst 1, .goto 4, .istore 11, .iload 11]
theorem oX8_meets_79_4 : fOkB cX8_meets 79 iX8_meets_79_4 = true := by decide +kernel
def iX8_meets_91_5 : List Instr := [.aload_n 0, .iload_n 1, .iload_n 2, .aload_n 0, .getfield 145]
theorem oX8_meets_91_5 : fOkB cX8_meets 91 iX8_meets_91_5 = true := by decide +kernel
def iX8_meets_98_2 : List Instr := [.aload_n 0, .getfield 149]
theorem oX8_meets_98_2 : fOkB cX8_meets 98 iX8_meets_98_2 = true := by decide +kernel
set_option maxRecDepth 100000 in
theorem lX8_167 : Cond.methodLink RX8 167 yX8_isOnAt ∈ fTB := fTB_at 830 rfl rfl
theorem dX8_meets_102 : decode cX8_meets 102 = .ok (.invokevirtual 167, 3) := by decide +kernel
theorem bX8_meets_105 : fBk cX8_meets 105 (.ifCond .eq) 112 := ⟨7, by decide +kernel, by decide⟩
def iX8_meets_108_2 : List Instr := [.iconst 1, .goto 4]
theorem oX8_meets_108_2 : fOkB cX8_meets 108 iX8_meets_108_2 = true := by decide +kernel
set_option maxRecDepth 100000 in
theorem qX8_meets {G : fG} {d : Nat} {S : fS} {a b c e m w : Nat} {E I : zP} (H : hOk (hD S) a b c e) (hwb : w < b) (hm : m ≤ 3) (L : lgOk S m E I)  : fCtr G (d + 4) mX8_meets [.ref 35, .int (nI m), .int (nI w)] S (fun r S' => (zM (gA S 38) w E I (gB S 49 m) (gB S 50 m) (gB S 49 (m + 1)) (gB S 50 (m + 1)) ∧ r = some (.int 1) ∧ S' = sX S m w) ∨ (¬ zM (gA S 38) w E I (gB S 49 m) (gB S 50 m) (gB S 49 (m + 1)) (gB S 50 (m + 1)) ∧ r = some (.int 0) ∧ S' = sX S m w)) := by
  refine fCtr.of bXX8_meets (Nat.le_of_ble_eq_true rfl) rfl ?_
  have hw : w < 16 := by have := H.2.1.2.1; omega
  have hl := H.rl hwb
  refine fV.run iX8_meets_0_4 oX8_meets_0_4 (pc' := 6) (L' := [(0, .ref 35), (1, .int (nI m)), (2, .int (nI w))]) (st' := [.long (gB S 49 (nI m).toNatClampNeg)]) (S' := S) (P := vp_in (nI m) 5 ∧ True) rfl ⟨(vj (by omega) (by omega)).1, trivial⟩ ?_
  refine fV.to (L' := [(0, .ref 35), (1, .int (nI m)), (2, .int (nI w))]) (st' := [.long (gB S 49 m)]) rfl rfl (by rw [show (gB S 49 (nI m).toNatClampNeg : Int64) = gB S 49 m from by rw [(cj (j := m) (by omega)).1]]) rfl ?_
  refine fV.run iX8_meets_6_5 oX8_meets_6_5 (pc' := 13) (L' := [(0, .ref 35), (1, .int (nI m)), (2, .int (nI w)), (3, .long (gB S 49 m))]) (st' := [.long (gB S 50 (nI m).toNatClampNeg)]) (S' := S) (P := vp_in (nI m) 5 ∧ True) rfl ⟨(vj (by omega) (by omega)).1, trivial⟩ ?_
  refine fV.to (L' := [(0, .ref 35), (1, .int (nI m)), (2, .int (nI w)), (3, .long (gB S 49 m))]) (st' := [.long (gB S 50 m)]) rfl rfl (by rw [show (gB S 50 (nI m).toNatClampNeg : Int64) = gB S 50 m from by rw [(cj (j := m) (by omega)).1]]) rfl ?_
  refine fV.run iX8_meets_13_7 oX8_meets_13_7 (pc' := 23) (L' := [(0, .ref 35), (1, .int (nI m)), (2, .int (nI w)), (3, .long (gB S 49 m)), (5, .long (gB S 50 m))]) (st' := [.long (gB S 49 ((nI m) + 1).toNatClampNeg)]) (S' := S) (P := vp_in ((nI m) + 1) 5 ∧ True) rfl ⟨(vj (by omega) (by omega)).2, trivial⟩ ?_
  refine fV.to (L' := [(0, .ref 35), (1, .int (nI m)), (2, .int (nI w)), (3, .long (gB S 49 m)), (5, .long (gB S 50 m))]) (st' := [.long (gB S 49 (m + 1))]) rfl rfl (by rw [show (gB S 49 ((nI m) + 1).toNatClampNeg : Int64) = gB S 49 (m + 1) from by rw [(cj (j := m) (by omega)).2]]) rfl ?_
  refine fV.run iX8_meets_23_7 oX8_meets_23_7 (pc' := 33) (L' := [(0, .ref 35), (1, .int (nI m)), (2, .int (nI w)), (3, .long (gB S 49 m)), (5, .long (gB S 50 m)), (7, .long (gB S 49 (m + 1)))]) (st' := [.long (gB S 50 ((nI m) + 1).toNatClampNeg)]) (S' := S) (P := vp_in ((nI m) + 1) 5 ∧ True) rfl ⟨(vj (by omega) (by omega)).2, trivial⟩ ?_
  refine fV.to (L' := [(0, .ref 35), (1, .int (nI m)), (2, .int (nI w)), (3, .long (gB S 49 m)), (5, .long (gB S 50 m)), (7, .long (gB S 49 (m + 1)))]) (st' := [.long (gB S 50 (m + 1))]) rfl rfl (by rw [show (gB S 50 ((nI m) + 1).toNatClampNeg : Int64) = gB S 50 (m + 1) from by rw [(cj (j := m) (by omega)).2]]) rfl ?_
  refine fV.run iX8_meets_33_4 oX8_meets_33_4 (pc' := 38) (L' := [(0, .ref 35), (1, .int (nI m)), (2, .int (nI w)), (3, .long (gB S 49 m)), (5, .long (gB S 50 m)), (7, .long (gB S 49 (m + 1))), (9, .long (gB S 50 (m + 1)))]) (st' := [.int (nI w), .int (nI m), .ref 35]) (S' := S) rfl trivial ?_
  refine fV.callV (M2 := mX8_cross) (d := d + 3) (o := 35) (av := [.int (nI m), .int (nI w)]) (rest := []) kX8_cross dX8_meets_38 lX8_164 rfl rfl rfl (Nat.le_of_ble_eq_true rfl) (fRoom (by decide)) ⟨Nat.le_refl _, Nat.le_refl _⟩ (qX8_cross (S := S) (m := m) (w := w) hw hm) ?_
  rintro _ S9 ⟨rfl, h9⟩
  rw [h9]
  clear h9 S9
  refine fV.to (pc' := 41) (L' := [(0, .ref 35), (1, .int (nI m)), (2, .int (nI w)), (3, .long (gB S 49 m)), (5, .long (gB S 50 m)), (7, .long (gB S 49 (m + 1))), (9, .long (gB S 50 (m + 1)))]) (st' := [.int (fB (decide (0 < rD S w)))]) (S' := (wJ (wJ S 35 23 (rN S m w)) 35 24 (rD S w))) rfl rfl rfl rfl ?_
  refine fV.if_eq bX8_meets_41 (fun c41 => ?_) (fun c41 => ?_)
  · refine fV.run iX8_meets_114_2 oX8_meets_114_2 (pc' := 116) (L' := [(0, .ref 35), (1, .int (nI m)), (2, .int (nI w)), (3, .long (gB S 49 m)), (5, .long (gB S 50 m)), (7, .long (gB S 49 (m + 1))), (9, .long (gB S 50 (m + 1)))]) (st' := [.int (nI w), .ref 35]) (S' := (wJ (wJ S 35 23 (rN S m w)) 35 24 (rD S w))) rfl trivial ?_
    refine fV.callV (M2 := mX8_axisOf) (d := d + 3) (o := 35) (av := [.int (nI w)]) (rest := []) kX8_axisOf dX8_meets_116 lX8_136 rfl rfl rfl (Nat.le_of_ble_eq_true rfl) (fRoom (by decide)) ⟨Nat.le_refl _, Nat.le_refl _⟩ (qX8_axis (S := (wJ (wJ S 35 23 (rN S m w)) 35 24 (rD S w))) hw) ?_
    rintro _ S9 ⟨rfl, h9⟩
    rw [h9]
    clear h9 S9
    refine fV.to (pc' := 119) (L' := [(0, .ref 35), (1, .int (nI m)), (2, .int (nI w)), (3, .long (gB S 49 m)), (5, .long (gB S 50 m)), (7, .long (gB S 49 (m + 1))), (9, .long (gB S 50 (m + 1)))]) (st' := [.int (hAxI (gA S 38) w)]) (S' := (wJ (wJ S 35 23 (rN S m w)) 35 24 (rD S w))) rfl rfl rfl rfl ?_
    refine fV.run iX8_meets_119_6 oX8_meets_119_6 (pc' := 127) (L' := [(0, .ref 35), (1, .int (nI m)), (2, .int (nI w)), (3, .long (gB S 49 m)), (5, .long (gB S 50 m)), (7, .long (gB S 49 (m + 1))), (9, .long (gB S 50 (m + 1))), (11, .int (hAxI (gA S 38) w))]) (st' := [.long 1, .long 0, .int (hAxI (gA S 38) w), .int (nI m), .ref 35]) (S' := (wJ (wJ S 35 23 (rN S m w)) 35 24 (rD S w))) rfl trivial ?_
    refine fV.callV (M2 := mX8_placeAt) (d := d + 3) (o := 35) (av := [.int (nI m), .int (hAxI (gA S 38) w), .long 0, .long 1]) (rest := []) kX8_placeAt dX8_meets_127 lX8_152 rfl rfl rfl (Nat.le_of_ble_eq_true rfl) (fRoom (by decide)) ⟨Nat.le_refl _, Nat.le_refl _⟩ (qX8_place (S := (wJ (wJ S 35 23 (rN S m w)) 35 24 (rD S w))) (m := m) (x := axN (gA S 38) w) _ _ hm (axN_lt _ _) (axI_N _ _)) ?_
    rintro _ S9 ⟨rfl, h9⟩
    rw [h9]
    clear h9 S9
    refine fV.to (pc' := 130) (L' := [(0, .ref 35), (1, .int (nI m)), (2, .int (nI w)), (3, .long (gB S 49 m)), (5, .long (gB S 50 m)), (7, .long (gB S 49 (m + 1))), (9, .long (gB S 50 (m + 1))), (11, .int (hAxI (gA S 38) w))]) (st' := [.long (rP S m (axN (gA S 38) w) 0 1)]) (S' := (wJ (wJ S 35 23 (rN S m w)) 35 24 (rD S w))) rfl rfl rfl rfl ?_
    refine fV.run iX8_meets_130_2 oX8_meets_130_2 (pc' := 132) (L' := [(0, .ref 35), (1, .int (nI m)), (2, .int (nI w)), (3, .long (gB S 49 m)), (5, .long (gB S 50 m)), (7, .long (gB S 49 (m + 1))), (9, .long (gB S 50 (m + 1))), (11, .int (hAxI (gA S 38) w))]) (st' := [.int (nI w), .ref 35, .long (rP S m (axN (gA S 38) w) 0 1)]) (S' := (wJ (wJ S 35 23 (rN S m w)) 35 24 (rD S w))) rfl trivial ?_
    refine fV.callV (M2 := mX8_lineOf) (d := d + 3) (o := 35) (av := [.int (nI w)]) (rest := [.long (rP S m (axN (gA S 38) w) 0 1)]) kX8_lineOf dX8_meets_132 lX8_142 rfl rfl rfl (Nat.le_of_ble_eq_true rfl) (fRoom (by decide)) ⟨Nat.le_refl _, Nat.le_refl _⟩ (qX8_lineOf (S := (wJ (wJ S 35 23 (rN S m w)) 35 24 (rD S w))) hw) ?_
    rintro _ S9 ⟨rfl, h9⟩
    rw [h9]
    clear h9 S9
    refine fV.to (pc' := 135) (L' := [(0, .ref 35), (1, .int (nI m)), (2, .int (nI w)), (3, .long (gB S 49 m)), (5, .long (gB S 50 m)), (7, .long (gB S 49 (m + 1))), (9, .long (gB S 50 (m + 1))), (11, .int (hAxI (gA S 38) w))]) (st' := [.int (hLine (gA S 38) w), .long (rP S m (axN (gA S 38) w) 0 1)]) (S' := (wJ (wJ S 35 23 (rN S m w)) 35 24 (rD S w))) rfl rfl rfl rfl ?_
    refine fV.run iX8_meets_135_2 oX8_meets_135_2 (pc' := 137) (L' := [(0, .ref 35), (1, .int (nI m)), (2, .int (nI w)), (3, .long (gB S 49 m)), (5, .long (gB S 50 m)), (7, .long (gB S 49 (m + 1))), (9, .long (gB S 50 (m + 1))), (11, .int (hAxI (gA S 38) w))]) (st' := [.int (lg_cmp (rP S m (axN (gA S 38) w) 0 1) (Int32.toInt64 (hLine (gA S 38) w)))]) (S' := (wJ (wJ S 35 23 (rN S m w)) 35 24 (rD S w))) rfl trivial ?_
    refine fV.lif_eq bX8_meets_137 (fun c137 => ?_) (fun c137 => ?_)
    · refine fV.run iX8_meets_142_7 oX8_meets_142_7 (pc' := 151) (L' := [(0, .ref 35), (1, .int (nI m)), (2, .int (nI w)), (3, .long (gB S 49 m)), (5, .long (gB S 50 m)), (7, .long (gB S 49 (m + 1))), (9, .long (gB S 50 (m + 1))), (11, .int (hAxI (gA S 38) w))]) (st' := [.long (gB S 50 m), .long (gB S 49 m), .int (1 - (hAxI (gA S 38) w)), .int (nI m), .ref 35]) (S' := (wJ (wJ S 35 23 (rN S m w)) 35 24 (rD S w))) rfl trivial ?_
      refine fV.callV (M2 := mX8_placeAt) (d := d + 3) (o := 35) (av := [.int (nI m), .int (1 - (hAxI (gA S 38) w)), .long (gB S 49 m), .long (gB S 50 m)]) (rest := []) kX8_placeAt dX8_meets_151 lX8_152 rfl rfl rfl (Nat.le_of_ble_eq_true rfl) (fRoom (by decide)) ⟨Nat.le_refl _, Nat.le_refl _⟩ (qX8_place (S := (wJ (wJ S 35 23 (rN S m w)) 35 24 (rD S w))) (m := m) (x := 1 - axN (gA S 38) w) _ _ hm (by omega) (axO_N _ _)) ?_
      rintro _ S9 ⟨rfl, h9⟩
      rw [h9]
      clear h9 S9
      refine fV.to (pc' := 154) (L' := [(0, .ref 35), (1, .int (nI m)), (2, .int (nI w)), (3, .long (gB S 49 m)), (5, .long (gB S 50 m)), (7, .long (gB S 49 (m + 1))), (9, .long (gB S 50 (m + 1))), (11, .int (hAxI (gA S 38) w))]) (st' := [.long (rP S m (1 - axN (gA S 38) w) (gB S 49 m) (gB S 50 m))]) (S' := (wJ (wJ S 35 23 (rN S m w)) 35 24 (rD S w))) rfl rfl rfl rfl ?_
      refine fV.to (L' := [(0, .ref 35), (1, .int (nI m)), (2, .int (nI w)), (3, .long (gB S 49 m)), (5, .long (gB S 50 m)), (7, .long (gB S 49 (m + 1))), (9, .long (gB S 50 (m + 1))), (11, .int (hAxI (gA S 38) w))]) (st' := [.long (zPl (gA S 38) w E I (gB S 49 m) (gB S 50 m))]) rfl rfl (by rw [show (rP S m (1 - axN (gA S 38) w) (gB S 49 m) (gB S 50 m) : Int64) = zPl (gA S 38) w E I (gB S 49 m) (gB S 50 m) from rP_o L _ _]) rfl ?_
      refine fV.run iX8_meets_154_8 oX8_meets_154_8 (pc' := 166) (L' := [(0, .ref 35), (1, .int (nI m)), (2, .int (nI w)), (3, .long (gB S 49 m)), (5, .long (gB S 50 m)), (7, .long (gB S 49 (m + 1))), (9, .long (gB S 50 (m + 1))), (11, .int (hAxI (gA S 38) w)), (12, .long (zPl (gA S 38) w E I (gB S 49 m) (gB S 50 m)))]) (st' := [.long (gB S 50 (m + 1)), .long (gB S 49 (m + 1)), .int (1 - (hAxI (gA S 38) w)), .int (nI m), .ref 35]) (S' := (wJ (wJ S 35 23 (rN S m w)) 35 24 (rD S w))) rfl trivial ?_
      refine fV.callV (M2 := mX8_placeAt) (d := d + 3) (o := 35) (av := [.int (nI m), .int (1 - (hAxI (gA S 38) w)), .long (gB S 49 (m + 1)), .long (gB S 50 (m + 1))]) (rest := []) kX8_placeAt dX8_meets_166 lX8_152 rfl rfl rfl (Nat.le_of_ble_eq_true rfl) (fRoom (by decide)) ⟨Nat.le_refl _, Nat.le_refl _⟩ (qX8_place (S := (wJ (wJ S 35 23 (rN S m w)) 35 24 (rD S w))) (m := m) (x := 1 - axN (gA S 38) w) _ _ hm (by omega) (axO_N _ _)) ?_
      rintro _ S9 ⟨rfl, h9⟩
      rw [h9]
      clear h9 S9
      refine fV.to (pc' := 169) (L' := [(0, .ref 35), (1, .int (nI m)), (2, .int (nI w)), (3, .long (gB S 49 m)), (5, .long (gB S 50 m)), (7, .long (gB S 49 (m + 1))), (9, .long (gB S 50 (m + 1))), (11, .int (hAxI (gA S 38) w)), (12, .long (zPl (gA S 38) w E I (gB S 49 m) (gB S 50 m)))]) (st' := [.long (rP S m (1 - axN (gA S 38) w) (gB S 49 (m + 1)) (gB S 50 (m + 1)))]) (S' := (wJ (wJ S 35 23 (rN S m w)) 35 24 (rD S w))) rfl rfl rfl rfl ?_
      refine fV.to (L' := [(0, .ref 35), (1, .int (nI m)), (2, .int (nI w)), (3, .long (gB S 49 m)), (5, .long (gB S 50 m)), (7, .long (gB S 49 (m + 1))), (9, .long (gB S 50 (m + 1))), (11, .int (hAxI (gA S 38) w)), (12, .long (zPl (gA S 38) w E I (gB S 49 m) (gB S 50 m)))]) (st' := [.long (zPl (gA S 38) w E I (gB S 49 (m + 1)) (gB S 50 (m + 1)))]) rfl rfl (by rw [show (rP S m (1 - axN (gA S 38) w) (gB S 49 (m + 1)) (gB S 50 (m + 1)) : Int64) = zPl (gA S 38) w E I (gB S 49 (m + 1)) (gB S 50 (m + 1)) from rP_o L _ _]) rfl ?_
      refine fV.run iX8_meets_169_4 oX8_meets_169_4 (pc' := 175) (L' := [(0, .ref 35), (1, .int (nI m)), (2, .int (nI w)), (3, .long (gB S 49 m)), (5, .long (gB S 50 m)), (7, .long (gB S 49 (m + 1))), (9, .long (gB S 50 (m + 1))), (11, .int (hAxI (gA S 38) w)), (12, .long (zPl (gA S 38) w E I (gB S 49 m) (gB S 50 m))), (14, .long (zPl (gA S 38) w E I (gB S 49 (m + 1)) (gB S 50 (m + 1))))]) (st' := [.int (nI w), .ref 35, .long (zPl (gA S 38) w E I (gB S 49 m) (gB S 50 m))]) (S' := (wJ (wJ S 35 23 (rN S m w)) 35 24 (rD S w))) rfl trivial ?_
      refine fV.callV (M2 := mX8_lowOf) (d := d + 3) (o := 35) (av := [.int (nI w)]) (rest := [.long (zPl (gA S 38) w E I (gB S 49 m) (gB S 50 m))]) kX8_lowOf dX8_meets_175 lX8_139 rfl rfl rfl (Nat.le_of_ble_eq_true rfl) (fRoom (by decide)) ⟨Nat.le_refl _, Nat.le_refl _⟩ (qX8_lowOf (S := (wJ (wJ S 35 23 (rN S m w)) 35 24 (rD S w))) hw) ?_
      rintro _ S9 ⟨rfl, h9⟩
      rw [h9]
      clear h9 S9
      refine fV.to (pc' := 178) (L' := [(0, .ref 35), (1, .int (nI m)), (2, .int (nI w)), (3, .long (gB S 49 m)), (5, .long (gB S 50 m)), (7, .long (gB S 49 (m + 1))), (9, .long (gB S 50 (m + 1))), (11, .int (hAxI (gA S 38) w)), (12, .long (zPl (gA S 38) w E I (gB S 49 m) (gB S 50 m))), (14, .long (zPl (gA S 38) w E I (gB S 49 (m + 1)) (gB S 50 (m + 1))))]) (st' := [.int (hLow (gA S 38) w), .long (zPl (gA S 38) w E I (gB S 49 m) (gB S 50 m))]) (S' := (wJ (wJ S 35 23 (rN S m w)) 35 24 (rD S w))) rfl rfl rfl rfl ?_
      refine fV.run iX8_meets_178_4 oX8_meets_178_4 (pc' := 183) (L' := [(0, .ref 35), (1, .int (nI m)), (2, .int (nI w)), (3, .long (gB S 49 m)), (5, .long (gB S 50 m)), (7, .long (gB S 49 (m + 1))), (9, .long (gB S 50 (m + 1))), (11, .int (hAxI (gA S 38) w)), (12, .long (zPl (gA S 38) w E I (gB S 49 m) (gB S 50 m))), (14, .long (zPl (gA S 38) w E I (gB S 49 (m + 1)) (gB S 50 (m + 1))))]) (st' := [.int (lg_cmp (zPl (gA S 38) w E I (gB S 49 m) (gB S 50 m)) ((Int32.toInt64 (hLow (gA S 38) w)) * (gB S 50 m)))]) (S' := (wJ (wJ S 35 23 (rN S m w)) 35 24 (rD S w))) rfl trivial ?_
      refine fV.lif_ge bX8_meets_183 (fun c183 => ?_) (fun c183 => ?_)
      · refine fV.run iX8_meets_205_5 oX8_meets_205_5 (pc' := 212) (L' := [(0, .ref 35), (1, .int (nI m)), (2, .int (nI w)), (3, .long (gB S 49 m)), (5, .long (gB S 50 m)), (7, .long (gB S 49 (m + 1))), (9, .long (gB S 50 (m + 1))), (11, .int (hAxI (gA S 38) w)), (12, .long (zPl (gA S 38) w E I (gB S 49 m) (gB S 50 m))), (14, .long (zPl (gA S 38) w E I (gB S 49 (m + 1)) (gB S 50 (m + 1)))), (16, .int 0)]) (st' := [.int (nI w), .ref 35, .long (zPl (gA S 38) w E I (gB S 49 m) (gB S 50 m))]) (S' := (wJ (wJ S 35 23 (rN S m w)) 35 24 (rD S w))) rfl trivial ?_
        refine fV.callV (M2 := mX8_highOf) (d := d + 3) (o := 35) (av := [.int (nI w)]) (rest := [.long (zPl (gA S 38) w E I (gB S 49 m) (gB S 50 m))]) kX8_highOf dX8_meets_212 lX8_156 rfl rfl rfl (Nat.le_of_ble_eq_true rfl) (fRoom (by decide)) ⟨Nat.le_refl _, Nat.le_refl _⟩ (qX8_highOf (S := (wJ (wJ S 35 23 (rN S m w)) 35 24 (rD S w))) H hwb) ?_
        rintro _ S9 ⟨rfl, h9⟩
        rw [h9]
        clear h9 S9
        refine fV.to (pc' := 215) (L' := [(0, .ref 35), (1, .int (nI m)), (2, .int (nI w)), (3, .long (gB S 49 m)), (5, .long (gB S 50 m)), (7, .long (gB S 49 (m + 1))), (9, .long (gB S 50 (m + 1))), (11, .int (hAxI (gA S 38) w)), (12, .long (zPl (gA S 38) w E I (gB S 49 m) (gB S 50 m))), (14, .long (zPl (gA S 38) w E I (gB S 49 (m + 1)) (gB S 50 (m + 1)))), (16, .int 0)]) (st' := [.int (hHigh (gA S 38) w), .long (zPl (gA S 38) w E I (gB S 49 m) (gB S 50 m))]) (S' := (wJ (wJ S 35 23 (rN S m w)) 35 24 (rD S w))) rfl rfl rfl rfl ?_
        refine fV.run iX8_meets_215_4 oX8_meets_215_4 (pc' := 220) (L' := [(0, .ref 35), (1, .int (nI m)), (2, .int (nI w)), (3, .long (gB S 49 m)), (5, .long (gB S 50 m)), (7, .long (gB S 49 (m + 1))), (9, .long (gB S 50 (m + 1))), (11, .int (hAxI (gA S 38) w)), (12, .long (zPl (gA S 38) w E I (gB S 49 m) (gB S 50 m))), (14, .long (zPl (gA S 38) w E I (gB S 49 (m + 1)) (gB S 50 (m + 1)))), (16, .int 0)]) (st' := [.int (lg_cmp (zPl (gA S 38) w E I (gB S 49 m) (gB S 50 m)) ((Int32.toInt64 (hHigh (gA S 38) w)) * (gB S 50 m)))]) (S' := (wJ (wJ S 35 23 (rN S m w)) 35 24 (rD S w))) rfl trivial ?_
        refine fV.lif_le bX8_meets_220 (fun c220 => ?_) (fun c220 => ?_)
        · refine fV.run iX8_meets_242_3 oX8_meets_242_3 (pc' := 247) (L' := [(0, .ref 35), (1, .int (nI m)), (2, .int (nI w)), (3, .long (gB S 49 m)), (5, .long (gB S 50 m)), (7, .long (gB S 49 (m + 1))), (9, .long (gB S 50 (m + 1))), (11, .int (hAxI (gA S 38) w)), (12, .long (zPl (gA S 38) w E I (gB S 49 m) (gB S 50 m))), (14, .long (zPl (gA S 38) w E I (gB S 49 (m + 1)) (gB S 50 (m + 1)))), (16, .int 0), (17, .int 0)]) (st' := [.int 0]) (S' := (wJ (wJ S 35 23 (rN S m w)) 35 24 (rD S w))) rfl trivial ?_
          refine fV.if_ne bX8_meets_247 (fun c247 => ?_) (fun c247 => ?_)
          · exact absurd c247 (by decide)
          · refine fV.run iX8_meets_250_1 oX8_meets_250_1 (pc' := 252) (L' := [(0, .ref 35), (1, .int (nI m)), (2, .int (nI w)), (3, .long (gB S 49 m)), (5, .long (gB S 50 m)), (7, .long (gB S 49 (m + 1))), (9, .long (gB S 50 (m + 1))), (11, .int (hAxI (gA S 38) w)), (12, .long (zPl (gA S 38) w E I (gB S 49 m) (gB S 50 m))), (14, .long (zPl (gA S 38) w E I (gB S 49 (m + 1)) (gB S 50 (m + 1)))), (16, .int 0), (17, .int 0)]) (st' := [.int 0]) (S' := (wJ (wJ S 35 23 (rN S m w)) 35 24 (rD S w))) rfl trivial ?_
            refine fV.if_ne bX8_meets_252 (fun c252 => ?_) (fun c252 => ?_)
            · exact absurd c252 (by decide)
            · refine fV.run iX8_meets_255_2 oX8_meets_255_2 (pc' := 260) (L' := [(0, .ref 35), (1, .int (nI m)), (2, .int (nI w)), (3, .long (gB S 49 m)), (5, .long (gB S 50 m)), (7, .long (gB S 49 (m + 1))), (9, .long (gB S 50 (m + 1))), (11, .int (hAxI (gA S 38) w)), (12, .long (zPl (gA S 38) w E I (gB S 49 m) (gB S 50 m))), (14, .long (zPl (gA S 38) w E I (gB S 49 (m + 1)) (gB S 50 (m + 1)))), (16, .int 0), (17, .int 0)]) (st' := [.int 1]) (S' := (wJ (wJ S 35 23 (rN S m w)) 35 24 (rD S w))) rfl trivial ?_
              exact fV.zret rfl dX8_meets_260 (by decide) (Or.inl ⟨by first | exact Or.inr ⟨r_cy L hl c41, by grind, by grind, hz⟩ | exact Or.inl ⟨r_c0 L hl c41, (r_at0 L hl).mp c137, by unfold zOv; grind⟩, rfl, rfl⟩)
        · refine fV.run iX8_meets_223_3 oX8_meets_223_3 (pc' := 227) (L' := [(0, .ref 35), (1, .int (nI m)), (2, .int (nI w)), (3, .long (gB S 49 m)), (5, .long (gB S 50 m)), (7, .long (gB S 49 (m + 1))), (9, .long (gB S 50 (m + 1))), (11, .int (hAxI (gA S 38) w)), (12, .long (zPl (gA S 38) w E I (gB S 49 m) (gB S 50 m))), (14, .long (zPl (gA S 38) w E I (gB S 49 (m + 1)) (gB S 50 (m + 1)))), (16, .int 0)]) (st' := [.int (nI w), .ref 35, .long (zPl (gA S 38) w E I (gB S 49 (m + 1)) (gB S 50 (m + 1)))]) (S' := (wJ (wJ S 35 23 (rN S m w)) 35 24 (rD S w))) rfl trivial ?_
          refine fV.callV (M2 := mX8_highOf) (d := d + 3) (o := 35) (av := [.int (nI w)]) (rest := [.long (zPl (gA S 38) w E I (gB S 49 (m + 1)) (gB S 50 (m + 1)))]) kX8_highOf dX8_meets_227 lX8_156 rfl rfl rfl (Nat.le_of_ble_eq_true rfl) (fRoom (by decide)) ⟨Nat.le_refl _, Nat.le_refl _⟩ (qX8_highOf (S := (wJ (wJ S 35 23 (rN S m w)) 35 24 (rD S w))) H hwb) ?_
          rintro _ S9 ⟨rfl, h9⟩
          rw [h9]
          clear h9 S9
          refine fV.to (pc' := 230) (L' := [(0, .ref 35), (1, .int (nI m)), (2, .int (nI w)), (3, .long (gB S 49 m)), (5, .long (gB S 50 m)), (7, .long (gB S 49 (m + 1))), (9, .long (gB S 50 (m + 1))), (11, .int (hAxI (gA S 38) w)), (12, .long (zPl (gA S 38) w E I (gB S 49 m) (gB S 50 m))), (14, .long (zPl (gA S 38) w E I (gB S 49 (m + 1)) (gB S 50 (m + 1)))), (16, .int 0)]) (st' := [.int (hHigh (gA S 38) w), .long (zPl (gA S 38) w E I (gB S 49 (m + 1)) (gB S 50 (m + 1)))]) (S' := (wJ (wJ S 35 23 (rN S m w)) 35 24 (rD S w))) rfl rfl rfl rfl ?_
          refine fV.run iX8_meets_230_4 oX8_meets_230_4 (pc' := 235) (L' := [(0, .ref 35), (1, .int (nI m)), (2, .int (nI w)), (3, .long (gB S 49 m)), (5, .long (gB S 50 m)), (7, .long (gB S 49 (m + 1))), (9, .long (gB S 50 (m + 1))), (11, .int (hAxI (gA S 38) w)), (12, .long (zPl (gA S 38) w E I (gB S 49 m) (gB S 50 m))), (14, .long (zPl (gA S 38) w E I (gB S 49 (m + 1)) (gB S 50 (m + 1)))), (16, .int 0)]) (st' := [.int (lg_cmp (zPl (gA S 38) w E I (gB S 49 (m + 1)) (gB S 50 (m + 1))) ((Int32.toInt64 (hHigh (gA S 38) w)) * (gB S 50 (m + 1))))]) (S' := (wJ (wJ S 35 23 (rN S m w)) 35 24 (rD S w))) rfl trivial ?_
          refine fV.lif_le bX8_meets_235 (fun c235 => ?_) (fun c235 => ?_)
          · refine fV.run iX8_meets_242_3 oX8_meets_242_3 (pc' := 247) (L' := [(0, .ref 35), (1, .int (nI m)), (2, .int (nI w)), (3, .long (gB S 49 m)), (5, .long (gB S 50 m)), (7, .long (gB S 49 (m + 1))), (9, .long (gB S 50 (m + 1))), (11, .int (hAxI (gA S 38) w)), (12, .long (zPl (gA S 38) w E I (gB S 49 m) (gB S 50 m))), (14, .long (zPl (gA S 38) w E I (gB S 49 (m + 1)) (gB S 50 (m + 1)))), (16, .int 0), (17, .int 0)]) (st' := [.int 0]) (S' := (wJ (wJ S 35 23 (rN S m w)) 35 24 (rD S w))) rfl trivial ?_
            refine fV.if_ne bX8_meets_247 (fun c247 => ?_) (fun c247 => ?_)
            · exact absurd c247 (by decide)
            · refine fV.run iX8_meets_250_1 oX8_meets_250_1 (pc' := 252) (L' := [(0, .ref 35), (1, .int (nI m)), (2, .int (nI w)), (3, .long (gB S 49 m)), (5, .long (gB S 50 m)), (7, .long (gB S 49 (m + 1))), (9, .long (gB S 50 (m + 1))), (11, .int (hAxI (gA S 38) w)), (12, .long (zPl (gA S 38) w E I (gB S 49 m) (gB S 50 m))), (14, .long (zPl (gA S 38) w E I (gB S 49 (m + 1)) (gB S 50 (m + 1)))), (16, .int 0), (17, .int 0)]) (st' := [.int 0]) (S' := (wJ (wJ S 35 23 (rN S m w)) 35 24 (rD S w))) rfl trivial ?_
              refine fV.if_ne bX8_meets_252 (fun c252 => ?_) (fun c252 => ?_)
              · exact absurd c252 (by decide)
              · refine fV.run iX8_meets_255_2 oX8_meets_255_2 (pc' := 260) (L' := [(0, .ref 35), (1, .int (nI m)), (2, .int (nI w)), (3, .long (gB S 49 m)), (5, .long (gB S 50 m)), (7, .long (gB S 49 (m + 1))), (9, .long (gB S 50 (m + 1))), (11, .int (hAxI (gA S 38) w)), (12, .long (zPl (gA S 38) w E I (gB S 49 m) (gB S 50 m))), (14, .long (zPl (gA S 38) w E I (gB S 49 (m + 1)) (gB S 50 (m + 1)))), (16, .int 0), (17, .int 0)]) (st' := [.int 1]) (S' := (wJ (wJ S 35 23 (rN S m w)) 35 24 (rD S w))) rfl trivial ?_
                exact fV.zret rfl dX8_meets_260 (by decide) (Or.inl ⟨by first | exact Or.inr ⟨r_cy L hl c41, by grind, by grind, hz⟩ | exact Or.inl ⟨r_c0 L hl c41, (r_at0 L hl).mp c137, by unfold zOv; grind⟩, rfl, rfl⟩)
          · refine fV.run iX8_meets_238_4 oX8_meets_238_4 (pc' := 247) (L' := [(0, .ref 35), (1, .int (nI m)), (2, .int (nI w)), (3, .long (gB S 49 m)), (5, .long (gB S 50 m)), (7, .long (gB S 49 (m + 1))), (9, .long (gB S 50 (m + 1))), (11, .int (hAxI (gA S 38) w)), (12, .long (zPl (gA S 38) w E I (gB S 49 m) (gB S 50 m))), (14, .long (zPl (gA S 38) w E I (gB S 49 (m + 1)) (gB S 50 (m + 1)))), (16, .int 0), (17, .int 1)]) (st' := [.int 0]) (S' := (wJ (wJ S 35 23 (rN S m w)) 35 24 (rD S w))) rfl trivial ?_
            refine fV.if_ne bX8_meets_247 (fun c247 => ?_) (fun c247 => ?_)
            · exact absurd c247 (by decide)
            · refine fV.run iX8_meets_250_1 oX8_meets_250_1 (pc' := 252) (L' := [(0, .ref 35), (1, .int (nI m)), (2, .int (nI w)), (3, .long (gB S 49 m)), (5, .long (gB S 50 m)), (7, .long (gB S 49 (m + 1))), (9, .long (gB S 50 (m + 1))), (11, .int (hAxI (gA S 38) w)), (12, .long (zPl (gA S 38) w E I (gB S 49 m) (gB S 50 m))), (14, .long (zPl (gA S 38) w E I (gB S 49 (m + 1)) (gB S 50 (m + 1)))), (16, .int 0), (17, .int 1)]) (st' := [.int 1]) (S' := (wJ (wJ S 35 23 (rN S m w)) 35 24 (rD S w))) rfl trivial ?_
              refine fV.if_ne bX8_meets_252 (fun c252 => ?_) (fun c252 => ?_)
              · refine fV.run iX8_meets_259_1 oX8_meets_259_1 (pc' := 260) (L' := [(0, .ref 35), (1, .int (nI m)), (2, .int (nI w)), (3, .long (gB S 49 m)), (5, .long (gB S 50 m)), (7, .long (gB S 49 (m + 1))), (9, .long (gB S 50 (m + 1))), (11, .int (hAxI (gA S 38) w)), (12, .long (zPl (gA S 38) w E I (gB S 49 m) (gB S 50 m))), (14, .long (zPl (gA S 38) w E I (gB S 49 (m + 1)) (gB S 50 (m + 1)))), (16, .int 0), (17, .int 1)]) (st' := [.int 0]) (S' := (wJ (wJ S 35 23 (rN S m w)) 35 24 (rD S w))) rfl trivial ?_
                exact fV.zret rfl dX8_meets_260 (by decide) (Or.inr ⟨fun z => by rcases z with ⟨z1, z2, z3⟩ | ⟨z1, z2, z3, z4⟩ <;> first | exact absurd z1 (r_cy L hl c41) | exact absurd (r_c0 L hl c41) z1 | exact hz z4 | exact c137 ((r_at0 L hl).mpr z2) | (unfold zOv at z3; grind) | grind, rfl, rfl⟩)
              · exact absurd c252 (by decide)
      · refine fV.run iX8_meets_186_3 oX8_meets_186_3 (pc' := 190) (L' := [(0, .ref 35), (1, .int (nI m)), (2, .int (nI w)), (3, .long (gB S 49 m)), (5, .long (gB S 50 m)), (7, .long (gB S 49 (m + 1))), (9, .long (gB S 50 (m + 1))), (11, .int (hAxI (gA S 38) w)), (12, .long (zPl (gA S 38) w E I (gB S 49 m) (gB S 50 m))), (14, .long (zPl (gA S 38) w E I (gB S 49 (m + 1)) (gB S 50 (m + 1))))]) (st' := [.int (nI w), .ref 35, .long (zPl (gA S 38) w E I (gB S 49 (m + 1)) (gB S 50 (m + 1)))]) (S' := (wJ (wJ S 35 23 (rN S m w)) 35 24 (rD S w))) rfl trivial ?_
        refine fV.callV (M2 := mX8_lowOf) (d := d + 3) (o := 35) (av := [.int (nI w)]) (rest := [.long (zPl (gA S 38) w E I (gB S 49 (m + 1)) (gB S 50 (m + 1)))]) kX8_lowOf dX8_meets_190 lX8_139 rfl rfl rfl (Nat.le_of_ble_eq_true rfl) (fRoom (by decide)) ⟨Nat.le_refl _, Nat.le_refl _⟩ (qX8_lowOf (S := (wJ (wJ S 35 23 (rN S m w)) 35 24 (rD S w))) hw) ?_
        rintro _ S9 ⟨rfl, h9⟩
        rw [h9]
        clear h9 S9
        refine fV.to (pc' := 193) (L' := [(0, .ref 35), (1, .int (nI m)), (2, .int (nI w)), (3, .long (gB S 49 m)), (5, .long (gB S 50 m)), (7, .long (gB S 49 (m + 1))), (9, .long (gB S 50 (m + 1))), (11, .int (hAxI (gA S 38) w)), (12, .long (zPl (gA S 38) w E I (gB S 49 m) (gB S 50 m))), (14, .long (zPl (gA S 38) w E I (gB S 49 (m + 1)) (gB S 50 (m + 1))))]) (st' := [.int (hLow (gA S 38) w), .long (zPl (gA S 38) w E I (gB S 49 (m + 1)) (gB S 50 (m + 1)))]) (S' := (wJ (wJ S 35 23 (rN S m w)) 35 24 (rD S w))) rfl rfl rfl rfl ?_
        refine fV.run iX8_meets_193_4 oX8_meets_193_4 (pc' := 198) (L' := [(0, .ref 35), (1, .int (nI m)), (2, .int (nI w)), (3, .long (gB S 49 m)), (5, .long (gB S 50 m)), (7, .long (gB S 49 (m + 1))), (9, .long (gB S 50 (m + 1))), (11, .int (hAxI (gA S 38) w)), (12, .long (zPl (gA S 38) w E I (gB S 49 m) (gB S 50 m))), (14, .long (zPl (gA S 38) w E I (gB S 49 (m + 1)) (gB S 50 (m + 1))))]) (st' := [.int (lg_cmp (zPl (gA S 38) w E I (gB S 49 (m + 1)) (gB S 50 (m + 1))) ((Int32.toInt64 (hLow (gA S 38) w)) * (gB S 50 (m + 1))))]) (S' := (wJ (wJ S 35 23 (rN S m w)) 35 24 (rD S w))) rfl trivial ?_
        refine fV.lif_ge bX8_meets_198 (fun c198 => ?_) (fun c198 => ?_)
        · refine fV.run iX8_meets_205_5 oX8_meets_205_5 (pc' := 212) (L' := [(0, .ref 35), (1, .int (nI m)), (2, .int (nI w)), (3, .long (gB S 49 m)), (5, .long (gB S 50 m)), (7, .long (gB S 49 (m + 1))), (9, .long (gB S 50 (m + 1))), (11, .int (hAxI (gA S 38) w)), (12, .long (zPl (gA S 38) w E I (gB S 49 m) (gB S 50 m))), (14, .long (zPl (gA S 38) w E I (gB S 49 (m + 1)) (gB S 50 (m + 1)))), (16, .int 0)]) (st' := [.int (nI w), .ref 35, .long (zPl (gA S 38) w E I (gB S 49 m) (gB S 50 m))]) (S' := (wJ (wJ S 35 23 (rN S m w)) 35 24 (rD S w))) rfl trivial ?_
          refine fV.callV (M2 := mX8_highOf) (d := d + 3) (o := 35) (av := [.int (nI w)]) (rest := [.long (zPl (gA S 38) w E I (gB S 49 m) (gB S 50 m))]) kX8_highOf dX8_meets_212 lX8_156 rfl rfl rfl (Nat.le_of_ble_eq_true rfl) (fRoom (by decide)) ⟨Nat.le_refl _, Nat.le_refl _⟩ (qX8_highOf (S := (wJ (wJ S 35 23 (rN S m w)) 35 24 (rD S w))) H hwb) ?_
          rintro _ S9 ⟨rfl, h9⟩
          rw [h9]
          clear h9 S9
          refine fV.to (pc' := 215) (L' := [(0, .ref 35), (1, .int (nI m)), (2, .int (nI w)), (3, .long (gB S 49 m)), (5, .long (gB S 50 m)), (7, .long (gB S 49 (m + 1))), (9, .long (gB S 50 (m + 1))), (11, .int (hAxI (gA S 38) w)), (12, .long (zPl (gA S 38) w E I (gB S 49 m) (gB S 50 m))), (14, .long (zPl (gA S 38) w E I (gB S 49 (m + 1)) (gB S 50 (m + 1)))), (16, .int 0)]) (st' := [.int (hHigh (gA S 38) w), .long (zPl (gA S 38) w E I (gB S 49 m) (gB S 50 m))]) (S' := (wJ (wJ S 35 23 (rN S m w)) 35 24 (rD S w))) rfl rfl rfl rfl ?_
          refine fV.run iX8_meets_215_4 oX8_meets_215_4 (pc' := 220) (L' := [(0, .ref 35), (1, .int (nI m)), (2, .int (nI w)), (3, .long (gB S 49 m)), (5, .long (gB S 50 m)), (7, .long (gB S 49 (m + 1))), (9, .long (gB S 50 (m + 1))), (11, .int (hAxI (gA S 38) w)), (12, .long (zPl (gA S 38) w E I (gB S 49 m) (gB S 50 m))), (14, .long (zPl (gA S 38) w E I (gB S 49 (m + 1)) (gB S 50 (m + 1)))), (16, .int 0)]) (st' := [.int (lg_cmp (zPl (gA S 38) w E I (gB S 49 m) (gB S 50 m)) ((Int32.toInt64 (hHigh (gA S 38) w)) * (gB S 50 m)))]) (S' := (wJ (wJ S 35 23 (rN S m w)) 35 24 (rD S w))) rfl trivial ?_
          refine fV.lif_le bX8_meets_220 (fun c220 => ?_) (fun c220 => ?_)
          · refine fV.run iX8_meets_242_3 oX8_meets_242_3 (pc' := 247) (L' := [(0, .ref 35), (1, .int (nI m)), (2, .int (nI w)), (3, .long (gB S 49 m)), (5, .long (gB S 50 m)), (7, .long (gB S 49 (m + 1))), (9, .long (gB S 50 (m + 1))), (11, .int (hAxI (gA S 38) w)), (12, .long (zPl (gA S 38) w E I (gB S 49 m) (gB S 50 m))), (14, .long (zPl (gA S 38) w E I (gB S 49 (m + 1)) (gB S 50 (m + 1)))), (16, .int 0), (17, .int 0)]) (st' := [.int 0]) (S' := (wJ (wJ S 35 23 (rN S m w)) 35 24 (rD S w))) rfl trivial ?_
            refine fV.if_ne bX8_meets_247 (fun c247 => ?_) (fun c247 => ?_)
            · exact absurd c247 (by decide)
            · refine fV.run iX8_meets_250_1 oX8_meets_250_1 (pc' := 252) (L' := [(0, .ref 35), (1, .int (nI m)), (2, .int (nI w)), (3, .long (gB S 49 m)), (5, .long (gB S 50 m)), (7, .long (gB S 49 (m + 1))), (9, .long (gB S 50 (m + 1))), (11, .int (hAxI (gA S 38) w)), (12, .long (zPl (gA S 38) w E I (gB S 49 m) (gB S 50 m))), (14, .long (zPl (gA S 38) w E I (gB S 49 (m + 1)) (gB S 50 (m + 1)))), (16, .int 0), (17, .int 0)]) (st' := [.int 0]) (S' := (wJ (wJ S 35 23 (rN S m w)) 35 24 (rD S w))) rfl trivial ?_
              refine fV.if_ne bX8_meets_252 (fun c252 => ?_) (fun c252 => ?_)
              · exact absurd c252 (by decide)
              · refine fV.run iX8_meets_255_2 oX8_meets_255_2 (pc' := 260) (L' := [(0, .ref 35), (1, .int (nI m)), (2, .int (nI w)), (3, .long (gB S 49 m)), (5, .long (gB S 50 m)), (7, .long (gB S 49 (m + 1))), (9, .long (gB S 50 (m + 1))), (11, .int (hAxI (gA S 38) w)), (12, .long (zPl (gA S 38) w E I (gB S 49 m) (gB S 50 m))), (14, .long (zPl (gA S 38) w E I (gB S 49 (m + 1)) (gB S 50 (m + 1)))), (16, .int 0), (17, .int 0)]) (st' := [.int 1]) (S' := (wJ (wJ S 35 23 (rN S m w)) 35 24 (rD S w))) rfl trivial ?_
                exact fV.zret rfl dX8_meets_260 (by decide) (Or.inl ⟨by first | exact Or.inr ⟨r_cy L hl c41, by grind, by grind, hz⟩ | exact Or.inl ⟨r_c0 L hl c41, (r_at0 L hl).mp c137, by unfold zOv; grind⟩, rfl, rfl⟩)
          · refine fV.run iX8_meets_223_3 oX8_meets_223_3 (pc' := 227) (L' := [(0, .ref 35), (1, .int (nI m)), (2, .int (nI w)), (3, .long (gB S 49 m)), (5, .long (gB S 50 m)), (7, .long (gB S 49 (m + 1))), (9, .long (gB S 50 (m + 1))), (11, .int (hAxI (gA S 38) w)), (12, .long (zPl (gA S 38) w E I (gB S 49 m) (gB S 50 m))), (14, .long (zPl (gA S 38) w E I (gB S 49 (m + 1)) (gB S 50 (m + 1)))), (16, .int 0)]) (st' := [.int (nI w), .ref 35, .long (zPl (gA S 38) w E I (gB S 49 (m + 1)) (gB S 50 (m + 1)))]) (S' := (wJ (wJ S 35 23 (rN S m w)) 35 24 (rD S w))) rfl trivial ?_
            refine fV.callV (M2 := mX8_highOf) (d := d + 3) (o := 35) (av := [.int (nI w)]) (rest := [.long (zPl (gA S 38) w E I (gB S 49 (m + 1)) (gB S 50 (m + 1)))]) kX8_highOf dX8_meets_227 lX8_156 rfl rfl rfl (Nat.le_of_ble_eq_true rfl) (fRoom (by decide)) ⟨Nat.le_refl _, Nat.le_refl _⟩ (qX8_highOf (S := (wJ (wJ S 35 23 (rN S m w)) 35 24 (rD S w))) H hwb) ?_
            rintro _ S9 ⟨rfl, h9⟩
            rw [h9]
            clear h9 S9
            refine fV.to (pc' := 230) (L' := [(0, .ref 35), (1, .int (nI m)), (2, .int (nI w)), (3, .long (gB S 49 m)), (5, .long (gB S 50 m)), (7, .long (gB S 49 (m + 1))), (9, .long (gB S 50 (m + 1))), (11, .int (hAxI (gA S 38) w)), (12, .long (zPl (gA S 38) w E I (gB S 49 m) (gB S 50 m))), (14, .long (zPl (gA S 38) w E I (gB S 49 (m + 1)) (gB S 50 (m + 1)))), (16, .int 0)]) (st' := [.int (hHigh (gA S 38) w), .long (zPl (gA S 38) w E I (gB S 49 (m + 1)) (gB S 50 (m + 1)))]) (S' := (wJ (wJ S 35 23 (rN S m w)) 35 24 (rD S w))) rfl rfl rfl rfl ?_
            refine fV.run iX8_meets_230_4 oX8_meets_230_4 (pc' := 235) (L' := [(0, .ref 35), (1, .int (nI m)), (2, .int (nI w)), (3, .long (gB S 49 m)), (5, .long (gB S 50 m)), (7, .long (gB S 49 (m + 1))), (9, .long (gB S 50 (m + 1))), (11, .int (hAxI (gA S 38) w)), (12, .long (zPl (gA S 38) w E I (gB S 49 m) (gB S 50 m))), (14, .long (zPl (gA S 38) w E I (gB S 49 (m + 1)) (gB S 50 (m + 1)))), (16, .int 0)]) (st' := [.int (lg_cmp (zPl (gA S 38) w E I (gB S 49 (m + 1)) (gB S 50 (m + 1))) ((Int32.toInt64 (hHigh (gA S 38) w)) * (gB S 50 (m + 1))))]) (S' := (wJ (wJ S 35 23 (rN S m w)) 35 24 (rD S w))) rfl trivial ?_
            refine fV.lif_le bX8_meets_235 (fun c235 => ?_) (fun c235 => ?_)
            · refine fV.run iX8_meets_242_3 oX8_meets_242_3 (pc' := 247) (L' := [(0, .ref 35), (1, .int (nI m)), (2, .int (nI w)), (3, .long (gB S 49 m)), (5, .long (gB S 50 m)), (7, .long (gB S 49 (m + 1))), (9, .long (gB S 50 (m + 1))), (11, .int (hAxI (gA S 38) w)), (12, .long (zPl (gA S 38) w E I (gB S 49 m) (gB S 50 m))), (14, .long (zPl (gA S 38) w E I (gB S 49 (m + 1)) (gB S 50 (m + 1)))), (16, .int 0), (17, .int 0)]) (st' := [.int 0]) (S' := (wJ (wJ S 35 23 (rN S m w)) 35 24 (rD S w))) rfl trivial ?_
              refine fV.if_ne bX8_meets_247 (fun c247 => ?_) (fun c247 => ?_)
              · exact absurd c247 (by decide)
              · refine fV.run iX8_meets_250_1 oX8_meets_250_1 (pc' := 252) (L' := [(0, .ref 35), (1, .int (nI m)), (2, .int (nI w)), (3, .long (gB S 49 m)), (5, .long (gB S 50 m)), (7, .long (gB S 49 (m + 1))), (9, .long (gB S 50 (m + 1))), (11, .int (hAxI (gA S 38) w)), (12, .long (zPl (gA S 38) w E I (gB S 49 m) (gB S 50 m))), (14, .long (zPl (gA S 38) w E I (gB S 49 (m + 1)) (gB S 50 (m + 1)))), (16, .int 0), (17, .int 0)]) (st' := [.int 0]) (S' := (wJ (wJ S 35 23 (rN S m w)) 35 24 (rD S w))) rfl trivial ?_
                refine fV.if_ne bX8_meets_252 (fun c252 => ?_) (fun c252 => ?_)
                · exact absurd c252 (by decide)
                · refine fV.run iX8_meets_255_2 oX8_meets_255_2 (pc' := 260) (L' := [(0, .ref 35), (1, .int (nI m)), (2, .int (nI w)), (3, .long (gB S 49 m)), (5, .long (gB S 50 m)), (7, .long (gB S 49 (m + 1))), (9, .long (gB S 50 (m + 1))), (11, .int (hAxI (gA S 38) w)), (12, .long (zPl (gA S 38) w E I (gB S 49 m) (gB S 50 m))), (14, .long (zPl (gA S 38) w E I (gB S 49 (m + 1)) (gB S 50 (m + 1)))), (16, .int 0), (17, .int 0)]) (st' := [.int 1]) (S' := (wJ (wJ S 35 23 (rN S m w)) 35 24 (rD S w))) rfl trivial ?_
                  exact fV.zret rfl dX8_meets_260 (by decide) (Or.inl ⟨by first | exact Or.inr ⟨r_cy L hl c41, by grind, by grind, hz⟩ | exact Or.inl ⟨r_c0 L hl c41, (r_at0 L hl).mp c137, by unfold zOv; grind⟩, rfl, rfl⟩)
            · refine fV.run iX8_meets_238_4 oX8_meets_238_4 (pc' := 247) (L' := [(0, .ref 35), (1, .int (nI m)), (2, .int (nI w)), (3, .long (gB S 49 m)), (5, .long (gB S 50 m)), (7, .long (gB S 49 (m + 1))), (9, .long (gB S 50 (m + 1))), (11, .int (hAxI (gA S 38) w)), (12, .long (zPl (gA S 38) w E I (gB S 49 m) (gB S 50 m))), (14, .long (zPl (gA S 38) w E I (gB S 49 (m + 1)) (gB S 50 (m + 1)))), (16, .int 0), (17, .int 1)]) (st' := [.int 0]) (S' := (wJ (wJ S 35 23 (rN S m w)) 35 24 (rD S w))) rfl trivial ?_
              refine fV.if_ne bX8_meets_247 (fun c247 => ?_) (fun c247 => ?_)
              · exact absurd c247 (by decide)
              · refine fV.run iX8_meets_250_1 oX8_meets_250_1 (pc' := 252) (L' := [(0, .ref 35), (1, .int (nI m)), (2, .int (nI w)), (3, .long (gB S 49 m)), (5, .long (gB S 50 m)), (7, .long (gB S 49 (m + 1))), (9, .long (gB S 50 (m + 1))), (11, .int (hAxI (gA S 38) w)), (12, .long (zPl (gA S 38) w E I (gB S 49 m) (gB S 50 m))), (14, .long (zPl (gA S 38) w E I (gB S 49 (m + 1)) (gB S 50 (m + 1)))), (16, .int 0), (17, .int 1)]) (st' := [.int 1]) (S' := (wJ (wJ S 35 23 (rN S m w)) 35 24 (rD S w))) rfl trivial ?_
                refine fV.if_ne bX8_meets_252 (fun c252 => ?_) (fun c252 => ?_)
                · refine fV.run iX8_meets_259_1 oX8_meets_259_1 (pc' := 260) (L' := [(0, .ref 35), (1, .int (nI m)), (2, .int (nI w)), (3, .long (gB S 49 m)), (5, .long (gB S 50 m)), (7, .long (gB S 49 (m + 1))), (9, .long (gB S 50 (m + 1))), (11, .int (hAxI (gA S 38) w)), (12, .long (zPl (gA S 38) w E I (gB S 49 m) (gB S 50 m))), (14, .long (zPl (gA S 38) w E I (gB S 49 (m + 1)) (gB S 50 (m + 1)))), (16, .int 0), (17, .int 1)]) (st' := [.int 0]) (S' := (wJ (wJ S 35 23 (rN S m w)) 35 24 (rD S w))) rfl trivial ?_
                  exact fV.zret rfl dX8_meets_260 (by decide) (Or.inr ⟨fun z => by rcases z with ⟨z1, z2, z3⟩ | ⟨z1, z2, z3, z4⟩ <;> first | exact absurd z1 (r_cy L hl c41) | exact absurd (r_c0 L hl c41) z1 | exact hz z4 | exact c137 ((r_at0 L hl).mpr z2) | (unfold zOv at z3; grind) | grind, rfl, rfl⟩)
                · exact absurd c252 (by decide)
        · refine fV.run iX8_meets_201_6 oX8_meets_201_6 (pc' := 212) (L' := [(0, .ref 35), (1, .int (nI m)), (2, .int (nI w)), (3, .long (gB S 49 m)), (5, .long (gB S 50 m)), (7, .long (gB S 49 (m + 1))), (9, .long (gB S 50 (m + 1))), (11, .int (hAxI (gA S 38) w)), (12, .long (zPl (gA S 38) w E I (gB S 49 m) (gB S 50 m))), (14, .long (zPl (gA S 38) w E I (gB S 49 (m + 1)) (gB S 50 (m + 1)))), (16, .int 1)]) (st' := [.int (nI w), .ref 35, .long (zPl (gA S 38) w E I (gB S 49 m) (gB S 50 m))]) (S' := (wJ (wJ S 35 23 (rN S m w)) 35 24 (rD S w))) rfl trivial ?_
          refine fV.callV (M2 := mX8_highOf) (d := d + 3) (o := 35) (av := [.int (nI w)]) (rest := [.long (zPl (gA S 38) w E I (gB S 49 m) (gB S 50 m))]) kX8_highOf dX8_meets_212 lX8_156 rfl rfl rfl (Nat.le_of_ble_eq_true rfl) (fRoom (by decide)) ⟨Nat.le_refl _, Nat.le_refl _⟩ (qX8_highOf (S := (wJ (wJ S 35 23 (rN S m w)) 35 24 (rD S w))) H hwb) ?_
          rintro _ S9 ⟨rfl, h9⟩
          rw [h9]
          clear h9 S9
          refine fV.to (pc' := 215) (L' := [(0, .ref 35), (1, .int (nI m)), (2, .int (nI w)), (3, .long (gB S 49 m)), (5, .long (gB S 50 m)), (7, .long (gB S 49 (m + 1))), (9, .long (gB S 50 (m + 1))), (11, .int (hAxI (gA S 38) w)), (12, .long (zPl (gA S 38) w E I (gB S 49 m) (gB S 50 m))), (14, .long (zPl (gA S 38) w E I (gB S 49 (m + 1)) (gB S 50 (m + 1)))), (16, .int 1)]) (st' := [.int (hHigh (gA S 38) w), .long (zPl (gA S 38) w E I (gB S 49 m) (gB S 50 m))]) (S' := (wJ (wJ S 35 23 (rN S m w)) 35 24 (rD S w))) rfl rfl rfl rfl ?_
          refine fV.run iX8_meets_215_4 oX8_meets_215_4 (pc' := 220) (L' := [(0, .ref 35), (1, .int (nI m)), (2, .int (nI w)), (3, .long (gB S 49 m)), (5, .long (gB S 50 m)), (7, .long (gB S 49 (m + 1))), (9, .long (gB S 50 (m + 1))), (11, .int (hAxI (gA S 38) w)), (12, .long (zPl (gA S 38) w E I (gB S 49 m) (gB S 50 m))), (14, .long (zPl (gA S 38) w E I (gB S 49 (m + 1)) (gB S 50 (m + 1)))), (16, .int 1)]) (st' := [.int (lg_cmp (zPl (gA S 38) w E I (gB S 49 m) (gB S 50 m)) ((Int32.toInt64 (hHigh (gA S 38) w)) * (gB S 50 m)))]) (S' := (wJ (wJ S 35 23 (rN S m w)) 35 24 (rD S w))) rfl trivial ?_
          refine fV.lif_le bX8_meets_220 (fun c220 => ?_) (fun c220 => ?_)
          · refine fV.run iX8_meets_242_3 oX8_meets_242_3 (pc' := 247) (L' := [(0, .ref 35), (1, .int (nI m)), (2, .int (nI w)), (3, .long (gB S 49 m)), (5, .long (gB S 50 m)), (7, .long (gB S 49 (m + 1))), (9, .long (gB S 50 (m + 1))), (11, .int (hAxI (gA S 38) w)), (12, .long (zPl (gA S 38) w E I (gB S 49 m) (gB S 50 m))), (14, .long (zPl (gA S 38) w E I (gB S 49 (m + 1)) (gB S 50 (m + 1)))), (16, .int 1), (17, .int 0)]) (st' := [.int 1]) (S' := (wJ (wJ S 35 23 (rN S m w)) 35 24 (rD S w))) rfl trivial ?_
            refine fV.if_ne bX8_meets_247 (fun c247 => ?_) (fun c247 => ?_)
            · refine fV.run iX8_meets_259_1 oX8_meets_259_1 (pc' := 260) (L' := [(0, .ref 35), (1, .int (nI m)), (2, .int (nI w)), (3, .long (gB S 49 m)), (5, .long (gB S 50 m)), (7, .long (gB S 49 (m + 1))), (9, .long (gB S 50 (m + 1))), (11, .int (hAxI (gA S 38) w)), (12, .long (zPl (gA S 38) w E I (gB S 49 m) (gB S 50 m))), (14, .long (zPl (gA S 38) w E I (gB S 49 (m + 1)) (gB S 50 (m + 1)))), (16, .int 1), (17, .int 0)]) (st' := [.int 0]) (S' := (wJ (wJ S 35 23 (rN S m w)) 35 24 (rD S w))) rfl trivial ?_
              exact fV.zret rfl dX8_meets_260 (by decide) (Or.inr ⟨fun z => by rcases z with ⟨z1, z2, z3⟩ | ⟨z1, z2, z3, z4⟩ <;> first | exact absurd z1 (r_cy L hl c41) | exact absurd (r_c0 L hl c41) z1 | exact hz z4 | exact c137 ((r_at0 L hl).mpr z2) | (unfold zOv at z3; grind) | grind, rfl, rfl⟩)
            · exact absurd c247 (by decide)
          · refine fV.run iX8_meets_223_3 oX8_meets_223_3 (pc' := 227) (L' := [(0, .ref 35), (1, .int (nI m)), (2, .int (nI w)), (3, .long (gB S 49 m)), (5, .long (gB S 50 m)), (7, .long (gB S 49 (m + 1))), (9, .long (gB S 50 (m + 1))), (11, .int (hAxI (gA S 38) w)), (12, .long (zPl (gA S 38) w E I (gB S 49 m) (gB S 50 m))), (14, .long (zPl (gA S 38) w E I (gB S 49 (m + 1)) (gB S 50 (m + 1)))), (16, .int 1)]) (st' := [.int (nI w), .ref 35, .long (zPl (gA S 38) w E I (gB S 49 (m + 1)) (gB S 50 (m + 1)))]) (S' := (wJ (wJ S 35 23 (rN S m w)) 35 24 (rD S w))) rfl trivial ?_
            refine fV.callV (M2 := mX8_highOf) (d := d + 3) (o := 35) (av := [.int (nI w)]) (rest := [.long (zPl (gA S 38) w E I (gB S 49 (m + 1)) (gB S 50 (m + 1)))]) kX8_highOf dX8_meets_227 lX8_156 rfl rfl rfl (Nat.le_of_ble_eq_true rfl) (fRoom (by decide)) ⟨Nat.le_refl _, Nat.le_refl _⟩ (qX8_highOf (S := (wJ (wJ S 35 23 (rN S m w)) 35 24 (rD S w))) H hwb) ?_
            rintro _ S9 ⟨rfl, h9⟩
            rw [h9]
            clear h9 S9
            refine fV.to (pc' := 230) (L' := [(0, .ref 35), (1, .int (nI m)), (2, .int (nI w)), (3, .long (gB S 49 m)), (5, .long (gB S 50 m)), (7, .long (gB S 49 (m + 1))), (9, .long (gB S 50 (m + 1))), (11, .int (hAxI (gA S 38) w)), (12, .long (zPl (gA S 38) w E I (gB S 49 m) (gB S 50 m))), (14, .long (zPl (gA S 38) w E I (gB S 49 (m + 1)) (gB S 50 (m + 1)))), (16, .int 1)]) (st' := [.int (hHigh (gA S 38) w), .long (zPl (gA S 38) w E I (gB S 49 (m + 1)) (gB S 50 (m + 1)))]) (S' := (wJ (wJ S 35 23 (rN S m w)) 35 24 (rD S w))) rfl rfl rfl rfl ?_
            refine fV.run iX8_meets_230_4 oX8_meets_230_4 (pc' := 235) (L' := [(0, .ref 35), (1, .int (nI m)), (2, .int (nI w)), (3, .long (gB S 49 m)), (5, .long (gB S 50 m)), (7, .long (gB S 49 (m + 1))), (9, .long (gB S 50 (m + 1))), (11, .int (hAxI (gA S 38) w)), (12, .long (zPl (gA S 38) w E I (gB S 49 m) (gB S 50 m))), (14, .long (zPl (gA S 38) w E I (gB S 49 (m + 1)) (gB S 50 (m + 1)))), (16, .int 1)]) (st' := [.int (lg_cmp (zPl (gA S 38) w E I (gB S 49 (m + 1)) (gB S 50 (m + 1))) ((Int32.toInt64 (hHigh (gA S 38) w)) * (gB S 50 (m + 1))))]) (S' := (wJ (wJ S 35 23 (rN S m w)) 35 24 (rD S w))) rfl trivial ?_
            refine fV.lif_le bX8_meets_235 (fun c235 => ?_) (fun c235 => ?_)
            · refine fV.run iX8_meets_242_3 oX8_meets_242_3 (pc' := 247) (L' := [(0, .ref 35), (1, .int (nI m)), (2, .int (nI w)), (3, .long (gB S 49 m)), (5, .long (gB S 50 m)), (7, .long (gB S 49 (m + 1))), (9, .long (gB S 50 (m + 1))), (11, .int (hAxI (gA S 38) w)), (12, .long (zPl (gA S 38) w E I (gB S 49 m) (gB S 50 m))), (14, .long (zPl (gA S 38) w E I (gB S 49 (m + 1)) (gB S 50 (m + 1)))), (16, .int 1), (17, .int 0)]) (st' := [.int 1]) (S' := (wJ (wJ S 35 23 (rN S m w)) 35 24 (rD S w))) rfl trivial ?_
              refine fV.if_ne bX8_meets_247 (fun c247 => ?_) (fun c247 => ?_)
              · refine fV.run iX8_meets_259_1 oX8_meets_259_1 (pc' := 260) (L' := [(0, .ref 35), (1, .int (nI m)), (2, .int (nI w)), (3, .long (gB S 49 m)), (5, .long (gB S 50 m)), (7, .long (gB S 49 (m + 1))), (9, .long (gB S 50 (m + 1))), (11, .int (hAxI (gA S 38) w)), (12, .long (zPl (gA S 38) w E I (gB S 49 m) (gB S 50 m))), (14, .long (zPl (gA S 38) w E I (gB S 49 (m + 1)) (gB S 50 (m + 1)))), (16, .int 1), (17, .int 0)]) (st' := [.int 0]) (S' := (wJ (wJ S 35 23 (rN S m w)) 35 24 (rD S w))) rfl trivial ?_
                exact fV.zret rfl dX8_meets_260 (by decide) (Or.inr ⟨fun z => by rcases z with ⟨z1, z2, z3⟩ | ⟨z1, z2, z3, z4⟩ <;> first | exact absurd z1 (r_cy L hl c41) | exact absurd (r_c0 L hl c41) z1 | exact hz z4 | exact c137 ((r_at0 L hl).mpr z2) | (unfold zOv at z3; grind) | grind, rfl, rfl⟩)
              · exact absurd c247 (by decide)
            · refine fV.run iX8_meets_238_4 oX8_meets_238_4 (pc' := 247) (L' := [(0, .ref 35), (1, .int (nI m)), (2, .int (nI w)), (3, .long (gB S 49 m)), (5, .long (gB S 50 m)), (7, .long (gB S 49 (m + 1))), (9, .long (gB S 50 (m + 1))), (11, .int (hAxI (gA S 38) w)), (12, .long (zPl (gA S 38) w E I (gB S 49 m) (gB S 50 m))), (14, .long (zPl (gA S 38) w E I (gB S 49 (m + 1)) (gB S 50 (m + 1)))), (16, .int 1), (17, .int 1)]) (st' := [.int 1]) (S' := (wJ (wJ S 35 23 (rN S m w)) 35 24 (rD S w))) rfl trivial ?_
              refine fV.if_ne bX8_meets_247 (fun c247 => ?_) (fun c247 => ?_)
              · refine fV.run iX8_meets_259_1 oX8_meets_259_1 (pc' := 260) (L' := [(0, .ref 35), (1, .int (nI m)), (2, .int (nI w)), (3, .long (gB S 49 m)), (5, .long (gB S 50 m)), (7, .long (gB S 49 (m + 1))), (9, .long (gB S 50 (m + 1))), (11, .int (hAxI (gA S 38) w)), (12, .long (zPl (gA S 38) w E I (gB S 49 m) (gB S 50 m))), (14, .long (zPl (gA S 38) w E I (gB S 49 (m + 1)) (gB S 50 (m + 1)))), (16, .int 1), (17, .int 1)]) (st' := [.int 0]) (S' := (wJ (wJ S 35 23 (rN S m w)) 35 24 (rD S w))) rfl trivial ?_
                exact fV.zret rfl dX8_meets_260 (by decide) (Or.inr ⟨fun z => by rcases z with ⟨z1, z2, z3⟩ | ⟨z1, z2, z3, z4⟩ <;> first | exact absurd z1 (r_cy L hl c41) | exact absurd (r_c0 L hl c41) z1 | exact hz z4 | exact c137 ((r_at0 L hl).mpr z2) | (unfold zOv at z3; grind) | grind, rfl, rfl⟩)
              · exact absurd c247 (by decide)
    · refine fV.run iX8_meets_140_1 oX8_meets_140_1 (pc' := 141) (L' := [(0, .ref 35), (1, .int (nI m)), (2, .int (nI w)), (3, .long (gB S 49 m)), (5, .long (gB S 50 m)), (7, .long (gB S 49 (m + 1))), (9, .long (gB S 50 (m + 1))), (11, .int (hAxI (gA S 38) w))]) (st' := [.int 0]) (S' := (wJ (wJ S 35 23 (rN S m w)) 35 24 (rD S w))) rfl trivial ?_
      exact fV.zret rfl dX8_meets_141 (by decide) (Or.inr ⟨fun z => by rcases z with ⟨z1, z2, z3⟩ | ⟨z1, z2, z3, z4⟩ <;> first | exact absurd z1 (r_cy L hl c41) | exact absurd (r_c0 L hl c41) z1 | exact hz z4 | exact c137 ((r_at0 L hl).mpr z2) | (unfold zOv at z3; grind) | grind, rfl, rfl⟩)
  · refine fV.run iX8_meets_44_2 oX8_meets_44_2 (pc' := 48) (L' := [(0, .ref 35), (1, .int (nI m)), (2, .int (nI w)), (3, .long (gB S 49 m)), (5, .long (gB S 50 m)), (7, .long (gB S 49 (m + 1))), (9, .long (gB S 50 (m + 1)))]) (st' := [.long (rN S m w)]) (S' := (wJ (wJ S 35 23 (rN S m w)) 35 24 (rD S w))) rfl trivial ?_
    refine fV.to (L' := [(0, .ref 35), (1, .int (nI m)), (2, .int (nI w)), (3, .long (gB S 49 m)), (5, .long (gB S 50 m)), (7, .long (gB S 49 (m + 1))), (9, .long (gB S 50 (m + 1)))]) (st' := [.long (zPt (gA S 38) w E I)]) rfl rfl (by rw [show (rN S m w : Int64) = zPt (gA S 38) w E I from (r_cross L hl).2.1 (r_cy L hl c41)]) rfl ?_
    refine fV.run iX8_meets_48_5 oX8_meets_48_5 (pc' := 56) (L' := [(0, .ref 35), (1, .int (nI m)), (2, .int (nI w)), (3, .long (gB S 49 m)), (5, .long (gB S 50 m)), (7, .long (gB S 49 (m + 1))), (9, .long (gB S 50 (m + 1)))]) (st' := [.long (rD S w), .long (gB S 49 m), .long ((zPt (gA S 38) w E I) * (gB S 50 m))]) (S' := (wJ (wJ S 35 23 (rN S m w)) 35 24 (rD S w))) rfl trivial ?_
    refine fV.to (L' := [(0, .ref 35), (1, .int (nI m)), (2, .int (nI w)), (3, .long (gB S 49 m)), (5, .long (gB S 50 m)), (7, .long (gB S 49 (m + 1))), (9, .long (gB S 50 (m + 1)))]) (st' := [.long (zWh (gA S 38) w E I), .long (gB S 49 m), .long ((zPt (gA S 38) w E I) * (gB S 50 m))]) rfl rfl (by rw [show (rD S w : Int64) = zWh (gA S 38) w E I from (r_cross L hl).1]) rfl ?_
    refine fV.run iX8_meets_56_2 oX8_meets_56_2 (pc' := 58) (L' := [(0, .ref 35), (1, .int (nI m)), (2, .int (nI w)), (3, .long (gB S 49 m)), (5, .long (gB S 50 m)), (7, .long (gB S 49 (m + 1))), (9, .long (gB S 50 (m + 1)))]) (st' := [.int (lg_cmp ((zPt (gA S 38) w E I) * (gB S 50 m)) ((gB S 49 m) * (zWh (gA S 38) w E I)))]) (S' := (wJ (wJ S 35 23 (rN S m w)) 35 24 (rD S w))) rfl trivial ?_
    refine fV.lif_lt bX8_meets_58 (fun c58 => ?_) (fun c58 => ?_)
    · refine fV.run iX8_meets_83_3 oX8_meets_83_3 (pc' := 88) (L' := [(0, .ref 35), (1, .int (nI m)), (2, .int (nI w)), (3, .long (gB S 49 m)), (5, .long (gB S 50 m)), (7, .long (gB S 49 (m + 1))), (9, .long (gB S 50 (m + 1))), (11, .int 0)]) (st' := [.int 0]) (S' := (wJ (wJ S 35 23 (rN S m w)) 35 24 (rD S w))) rfl trivial ?_
      refine fV.if_eq bX8_meets_88 (fun c88 => ?_) (fun c88 => ?_)
      · refine fV.run iX8_meets_112_1 oX8_meets_112_1 (pc' := 113) (L' := [(0, .ref 35), (1, .int (nI m)), (2, .int (nI w)), (3, .long (gB S 49 m)), (5, .long (gB S 50 m)), (7, .long (gB S 49 (m + 1))), (9, .long (gB S 50 (m + 1))), (11, .int 0)]) (st' := [.int 0]) (S' := (wJ (wJ S 35 23 (rN S m w)) 35 24 (rD S w))) rfl trivial ?_
        exact fV.zret rfl dX8_meets_113 (by decide) (Or.inr ⟨fun z => by rcases z with ⟨z1, z2, z3⟩ | ⟨z1, z2, z3, z4⟩ <;> first | exact absurd z1 (r_cy L hl c41) | exact absurd (r_c0 L hl c41) z1 | exact hz z4 | exact c137 ((r_at0 L hl).mpr z2) | (unfold zOv at z3; grind) | grind, rfl, rfl⟩)
      · exact absurd c88 (by decide)
    · refine fV.run iX8_meets_61_2 oX8_meets_61_2 (pc' := 65) (L' := [(0, .ref 35), (1, .int (nI m)), (2, .int (nI w)), (3, .long (gB S 49 m)), (5, .long (gB S 50 m)), (7, .long (gB S 49 (m + 1))), (9, .long (gB S 50 (m + 1)))]) (st' := [.long (rN S m w)]) (S' := (wJ (wJ S 35 23 (rN S m w)) 35 24 (rD S w))) rfl trivial ?_
      refine fV.to (L' := [(0, .ref 35), (1, .int (nI m)), (2, .int (nI w)), (3, .long (gB S 49 m)), (5, .long (gB S 50 m)), (7, .long (gB S 49 (m + 1))), (9, .long (gB S 50 (m + 1)))]) (st' := [.long (zPt (gA S 38) w E I)]) rfl rfl (by rw [show (rN S m w : Int64) = zPt (gA S 38) w E I from (r_cross L hl).2.1 (r_cy L hl c41)]) rfl ?_
      refine fV.run iX8_meets_65_5 oX8_meets_65_5 (pc' := 74) (L' := [(0, .ref 35), (1, .int (nI m)), (2, .int (nI w)), (3, .long (gB S 49 m)), (5, .long (gB S 50 m)), (7, .long (gB S 49 (m + 1))), (9, .long (gB S 50 (m + 1)))]) (st' := [.long (rD S w), .long (gB S 49 (m + 1)), .long ((zPt (gA S 38) w E I) * (gB S 50 (m + 1)))]) (S' := (wJ (wJ S 35 23 (rN S m w)) 35 24 (rD S w))) rfl trivial ?_
      refine fV.to (L' := [(0, .ref 35), (1, .int (nI m)), (2, .int (nI w)), (3, .long (gB S 49 m)), (5, .long (gB S 50 m)), (7, .long (gB S 49 (m + 1))), (9, .long (gB S 50 (m + 1)))]) (st' := [.long (zWh (gA S 38) w E I), .long (gB S 49 (m + 1)), .long ((zPt (gA S 38) w E I) * (gB S 50 (m + 1)))]) rfl rfl (by rw [show (rD S w : Int64) = zWh (gA S 38) w E I from (r_cross L hl).1]) rfl ?_
      refine fV.run iX8_meets_74_2 oX8_meets_74_2 (pc' := 76) (L' := [(0, .ref 35), (1, .int (nI m)), (2, .int (nI w)), (3, .long (gB S 49 m)), (5, .long (gB S 50 m)), (7, .long (gB S 49 (m + 1))), (9, .long (gB S 50 (m + 1)))]) (st' := [.int (lg_cmp ((zPt (gA S 38) w E I) * (gB S 50 (m + 1))) ((gB S 49 (m + 1)) * (zWh (gA S 38) w E I)))]) (S' := (wJ (wJ S 35 23 (rN S m w)) 35 24 (rD S w))) rfl trivial ?_
      refine fV.lif_gt bX8_meets_76 (fun c76 => ?_) (fun c76 => ?_)
      · refine fV.run iX8_meets_83_3 oX8_meets_83_3 (pc' := 88) (L' := [(0, .ref 35), (1, .int (nI m)), (2, .int (nI w)), (3, .long (gB S 49 m)), (5, .long (gB S 50 m)), (7, .long (gB S 49 (m + 1))), (9, .long (gB S 50 (m + 1))), (11, .int 0)]) (st' := [.int 0]) (S' := (wJ (wJ S 35 23 (rN S m w)) 35 24 (rD S w))) rfl trivial ?_
        refine fV.if_eq bX8_meets_88 (fun c88 => ?_) (fun c88 => ?_)
        · refine fV.run iX8_meets_112_1 oX8_meets_112_1 (pc' := 113) (L' := [(0, .ref 35), (1, .int (nI m)), (2, .int (nI w)), (3, .long (gB S 49 m)), (5, .long (gB S 50 m)), (7, .long (gB S 49 (m + 1))), (9, .long (gB S 50 (m + 1))), (11, .int 0)]) (st' := [.int 0]) (S' := (wJ (wJ S 35 23 (rN S m w)) 35 24 (rD S w))) rfl trivial ?_
          exact fV.zret rfl dX8_meets_113 (by decide) (Or.inr ⟨fun z => by rcases z with ⟨z1, z2, z3⟩ | ⟨z1, z2, z3, z4⟩ <;> first | exact absurd z1 (r_cy L hl c41) | exact absurd (r_c0 L hl c41) z1 | exact hz z4 | exact c137 ((r_at0 L hl).mpr z2) | (unfold zOv at z3; grind) | grind, rfl, rfl⟩)
        · exact absurd c88 (by decide)
      · refine fV.run iX8_meets_79_4 oX8_meets_79_4 (pc' := 88) (L' := [(0, .ref 35), (1, .int (nI m)), (2, .int (nI w)), (3, .long (gB S 49 m)), (5, .long (gB S 50 m)), (7, .long (gB S 49 (m + 1))), (9, .long (gB S 50 (m + 1))), (11, .int 1)]) (st' := [.int 1]) (S' := (wJ (wJ S 35 23 (rN S m w)) 35 24 (rD S w))) rfl trivial ?_
        refine fV.if_eq bX8_meets_88 (fun c88 => ?_) (fun c88 => ?_)
        · exact absurd c88 (by decide)
        · refine fV.run iX8_meets_91_5 oX8_meets_91_5 (pc' := 98) (L' := [(0, .ref 35), (1, .int (nI m)), (2, .int (nI w)), (3, .long (gB S 49 m)), (5, .long (gB S 50 m)), (7, .long (gB S 49 (m + 1))), (9, .long (gB S 50 (m + 1))), (11, .int 1)]) (st' := [.long (rN S m w), .int (nI w), .int (nI m), .ref 35]) (S' := (wJ (wJ S 35 23 (rN S m w)) 35 24 (rD S w))) rfl trivial ?_
          refine fV.to (L' := [(0, .ref 35), (1, .int (nI m)), (2, .int (nI w)), (3, .long (gB S 49 m)), (5, .long (gB S 50 m)), (7, .long (gB S 49 (m + 1))), (9, .long (gB S 50 (m + 1))), (11, .int 1)]) (st' := [.long (zPt (gA S 38) w E I), .int (nI w), .int (nI m), .ref 35]) rfl rfl (by rw [show (rN S m w : Int64) = zPt (gA S 38) w E I from (r_cross L hl).2.1 (r_cy L hl c41)]) rfl ?_
          refine fV.run iX8_meets_98_2 oX8_meets_98_2 (pc' := 102) (L' := [(0, .ref 35), (1, .int (nI m)), (2, .int (nI w)), (3, .long (gB S 49 m)), (5, .long (gB S 50 m)), (7, .long (gB S 49 (m + 1))), (9, .long (gB S 50 (m + 1))), (11, .int 1)]) (st' := [.long (rD S w), .long (zPt (gA S 38) w E I), .int (nI w), .int (nI m), .ref 35]) (S' := (wJ (wJ S 35 23 (rN S m w)) 35 24 (rD S w))) rfl trivial ?_
          refine fV.to (L' := [(0, .ref 35), (1, .int (nI m)), (2, .int (nI w)), (3, .long (gB S 49 m)), (5, .long (gB S 50 m)), (7, .long (gB S 49 (m + 1))), (9, .long (gB S 50 (m + 1))), (11, .int 1)]) (st' := [.long (zWh (gA S 38) w E I), .long (zPt (gA S 38) w E I), .int (nI w), .int (nI m), .ref 35]) rfl rfl (by rw [show (rD S w : Int64) = zWh (gA S 38) w E I from (r_cross L hl).1]) rfl ?_
          refine fV.callV (M2 := mX8_isOnAt) (d := d + 3) (o := 35) (av := [.int (nI m), .int (nI w), .long (zPt (gA S 38) w E I), .long (zWh (gA S 38) w E I)]) (rest := []) kX8_isOnAt dX8_meets_102 lX8_167 rfl rfl rfl (Nat.le_of_ble_eq_true rfl) (fRoom (by decide)) ⟨Nat.le_refl _, Nat.le_refl _⟩ (qX8_onAt (S := (wJ (wJ S 35 23 (rN S m w)) 35 24 (rD S w))) (m := m) (w := w) _ _ H hwb hm) ?_
          rintro r9 S9 h9
          rcases h9 with ⟨hz, rfl, h9⟩ | ⟨hz, rfl, h9⟩
          · rw [h9]
            clear h9 S9
            have hz : zOn (gA S 38) w E I (zPt (gA S 38) w E I) (zWh (gA S 38) w E I) := (rOn_iff L _ _).mp hz
            refine fV.to (pc' := 105) (L' := [(0, .ref 35), (1, .int (nI m)), (2, .int (nI w)), (3, .long (gB S 49 m)), (5, .long (gB S 50 m)), (7, .long (gB S 49 (m + 1))), (9, .long (gB S 50 (m + 1))), (11, .int 1)]) (st' := [.int 1]) (S' := (wJ (wJ S 35 23 (rN S m w)) 35 24 (rD S w))) rfl rfl rfl rfl ?_
            refine fV.if_eq bX8_meets_105 (fun c105 => ?_) (fun c105 => ?_)
            · exact absurd c105 (by decide)
            · refine fV.run iX8_meets_108_2 oX8_meets_108_2 (pc' := 113) (L' := [(0, .ref 35), (1, .int (nI m)), (2, .int (nI w)), (3, .long (gB S 49 m)), (5, .long (gB S 50 m)), (7, .long (gB S 49 (m + 1))), (9, .long (gB S 50 (m + 1))), (11, .int 1)]) (st' := [.int 1]) (S' := (wJ (wJ S 35 23 (rN S m w)) 35 24 (rD S w))) rfl trivial ?_
              exact fV.zret rfl dX8_meets_113 (by decide) (Or.inl ⟨by first | exact Or.inr ⟨r_cy L hl c41, by grind, by grind, hz⟩ | exact Or.inl ⟨r_c0 L hl c41, (r_at0 L hl).mp c137, by unfold zOv; grind⟩, rfl, rfl⟩)
          · rw [h9]
            clear h9 S9
            have hz : ¬ zOn (gA S 38) w E I (zPt (gA S 38) w E I) (zWh (gA S 38) w E I) := fun y => hz ((rOn_iff L _ _).mpr y)
            refine fV.to (pc' := 105) (L' := [(0, .ref 35), (1, .int (nI m)), (2, .int (nI w)), (3, .long (gB S 49 m)), (5, .long (gB S 50 m)), (7, .long (gB S 49 (m + 1))), (9, .long (gB S 50 (m + 1))), (11, .int 1)]) (st' := [.int 0]) (S' := (wJ (wJ S 35 23 (rN S m w)) 35 24 (rD S w))) rfl rfl rfl rfl ?_
            refine fV.if_eq bX8_meets_105 (fun c105 => ?_) (fun c105 => ?_)
            · refine fV.run iX8_meets_112_1 oX8_meets_112_1 (pc' := 113) (L' := [(0, .ref 35), (1, .int (nI m)), (2, .int (nI w)), (3, .long (gB S 49 m)), (5, .long (gB S 50 m)), (7, .long (gB S 49 (m + 1))), (9, .long (gB S 50 (m + 1))), (11, .int 1)]) (st' := [.int 0]) (S' := (wJ (wJ S 35 23 (rN S m w)) 35 24 (rD S w))) rfl trivial ?_
              exact fV.zret rfl dX8_meets_113 (by decide) (Or.inr ⟨fun z => by rcases z with ⟨z1, z2, z3⟩ | ⟨z1, z2, z3, z4⟩ <;> first | exact absurd z1 (r_cy L hl c41) | exact absurd (r_c0 L hl c41) z1 | exact hz z4 | exact c137 ((r_at0 L hl).mpr z2) | (unfold zOv at z3; grind) | grind, rfl, rfl⟩)
            · exact absurd c105 (by decide)
def rfRow (S : fS) (b : Nat) (r : Nat → Nat) (k : Nat) : Prop := gI S 35 22 = nI k ∧ k ≤ 3 ∧ ∀ i, i < k → gA S 51 i = nI (r i) ∧ r i < b
def rfLg (S : fS) (en : Nat → Int32) (src seat : zP) (r : Nat → Nat) (k n : Nat) : Prop := ∀ i, i ≤ n → lgOk S i (eyeD en seat r k i) (imgD en src r (k - i))
def rfFr (S : fS) (en : Nat → Int32) (src seat : zP) (r : Nat → Nat) (k n : Nat) : Prop := ∀ i, i ≤ n → gB S 49 i = (frD en src seat r k i).1 ∧ gB S 50 i = (frD en src seat r k i).2
theorem rwJ_self (S : fS) (o k : Nat) : wJ S o k (gJ S o k) = S := by
  have e : ∀ f : Nat → Nat → Int64, fup f o (fup (f o) k (f o k)) = f := fun f => by
    funext x y
    unfold fup
    by_cases h : x = o
    · subst h; by_cases h2 : y = k
      · subst h2; simp
      · simp [h2]
    · simp [h]
  unfold wJ gJ
  cases Nat.blt o 35 <;> simp only [cond_true, cond_false, e]
theorem sX_c (S : fS) (a b a2 b2 : Int64) : wJ (wJ (wJ (wJ S 35 23 a) 35 24 b) 35 23 a2) 35 24 b2 = wJ (wJ S 35 23 a2) 35 24 b2 := by
  rw [wJ_comm (wJ S 35 23 a) 35 (show 24 ≠ 23 by decide), wJ_wJ, wJ_wJ]
theorem ord_1 {k m : Nat} (h : m < k) (hk : k ≤ 3) : nI k - 1 - nI m = nI (k - 1 - m) ∧ nI k - nI m = nI (k - m) := by
  have e1 : nI k - 1 = nI (k - 1) := by
    obtain ⟨i, rfl⟩ : ∃ i, k = i + 1 := ⟨k - 1, by omega⟩
    rw [nI_pred]; rfl
  rw [e1]
  exact ⟨pk_sub (by omega), pk_sub (by omega)⟩
theorem m_pos {m : Nat} (h : ¬ nI m ≤ 0) : 0 < m := Nat.pos_of_ne_zero (fun e => h (by rw [e]; decide))
theorem m_npos {m : Nat} (h : nI m ≤ 0) (hm : 0 < m) : ¬ m < 2 ^ 31 := fun h2 => nI_nle hm h2 h
theorem ord_2 {k m : Nat} (h : m ≤ k) (hk : k ≤ 3) : nI k - nI m = nI (k - m) := pk_sub h
def iX8_isSeen_12_3 : List Instr := [.iload_n 2, .aload_n 0, .getfield 89]
theorem oX8_isSeen_12_3 : fOkB cX8_isSeen 12 iX8_isSeen_12_3 = true := by decide +kernel
theorem bX8_isSeen_17 : fBk cX8_isSeen 17 (.if_icmp .ge) 91 := ⟨74, by decide +kernel, by decide⟩
def iX8_isSeen_20_3 : List Instr := [.iload_n 1, .aload_n 0, .getfield 159]
theorem oX8_isSeen_20_3 : fOkB cX8_isSeen 20 iX8_isSeen_20_3 = true := by decide +kernel
theorem bX8_isSeen_25 : fBk cX8_isSeen 25 (.if_icmp .ge) 45 := ⟨20, by decide +kernel, by decide⟩
def iX8_isSeen_45_1 : List Instr := [.iload_n 1]
theorem oX8_isSeen_45_1 : fOkB cX8_isSeen 45 iX8_isSeen_45_1 = true := by decide +kernel
theorem bX8_isSeen_46 : fBk cX8_isSeen 46 (.ifCond .le) 68 := ⟨22, by decide +kernel, by decide⟩
def iX8_isSeen_68_3 : List Instr := [.iconst 0, .istore_n 3, .iload_n 3]
theorem oX8_isSeen_68_3 : fOkB cX8_isSeen 68 iX8_isSeen_68_3 = true := by decide +kernel
theorem bX8_isSeen_71 : fBk cX8_isSeen 71 (.ifCond .ne) 85 := ⟨14, by decide +kernel, by decide⟩
def iX8_isSeen_74_3 : List Instr := [.aload_n 0, .iload_n 1, .iload_n 2]
theorem oX8_isSeen_74_3 : fOkB cX8_isSeen 74 iX8_isSeen_74_3 = true := by decide +kernel
set_option maxRecDepth 100000 in
theorem lX8_171 : Cond.methodLink RX8 171 yX8_meets ∈ fTB := fTB_at 850 rfl rfl
theorem dX8_isSeen_77 : decode cX8_isSeen 77 = .ok (.invokevirtual 171, 3) := by decide +kernel
theorem bX8_isSeen_80 : fBk cX8_isSeen 80 (.ifCond .eq) 85 := ⟨5, by decide +kernel, by decide⟩
def iX8_isSeen_83_1 : List Instr := [.iconst 0]
theorem oX8_isSeen_83_1 : fOkB cX8_isSeen 83 iX8_isSeen_83_1 = true := by decide +kernel
theorem dX8_isSeen_84 : decode cX8_isSeen 84 = .ok (.ireturn, 1) := by decide +kernel
def iX8_isSeen_85_2 : List Instr := [.iinc 2 1, .goto (-76)]
theorem oX8_isSeen_85_2 : fOkB cX8_isSeen 85 iX8_isSeen_85_2 = true := by decide +kernel
def iX8_isSeen_49_7 : List Instr := [.aload_n 0, .getfield 63, .aload_n 0, .getfield 159, .iload_n 1, .isub, .iaload]
theorem oX8_isSeen_49_7 : fOkB cX8_isSeen 49 iX8_isSeen_49_7 = true := by decide +kernel
def iX8_isSeen_60_1 : List Instr := [.iload_n 2]
theorem oX8_isSeen_60_1 : fOkB cX8_isSeen 60 iX8_isSeen_60_1 = true := by decide +kernel
theorem bX8_isSeen_61 : fBk cX8_isSeen 61 (.if_icmp .ne) 68 := ⟨7, by decide +kernel, by decide⟩
def iX8_isSeen_64_4 : List Instr := [.iconst 1, .goto 4, .istore_n 3, .iload_n 3]
theorem oX8_isSeen_64_4 : fOkB cX8_isSeen 64 iX8_isSeen_64_4 = true := by decide +kernel
def iX8_isSeen_28_9 : List Instr := [.aload_n 0, .getfield 63, .aload_n 0, .getfield 159, .iconst 1, .isub, .iload_n 1, .isub, .iaload]
theorem oX8_isSeen_28_9 : fOkB cX8_isSeen 28 iX8_isSeen_28_9 = true := by decide +kernel
def iX8_isSeen_41_1 : List Instr := [.iload_n 2]
theorem oX8_isSeen_41_1 : fOkB cX8_isSeen 41 iX8_isSeen_41_1 = true := by decide +kernel
theorem bX8_isSeen_42 : fBk cX8_isSeen 42 (.if_icmp .eq) 64 := ⟨22, by decide +kernel, by decide⟩
set_option maxRecDepth 100000 in
theorem lpX8_in {G : fG} {d : Nat} {S : fS} {a b c e k : Nat} {src seat : zP} {r : Nat → Nat} (H : hOk (hD S) a b c e) (R : rfRow S b r k) (LG : rfLg S (gA S 38) src seat r k k) (FR : rfFr S (gA S 38) src seat r k (k + 1)) {m : Nat} (hmk : m ≤ k) (hK : ∀ nn dd : Int64, legOk (gA S 38) b src seat r k m → fV G mX8_isSeen (fZm G (d + 5) (fun z S' => ∃ nn dd : Int64, S' = wJ (wJ S 35 23 nn) 35 24 dd ∧ ((seenD (gA S 38) b src seat r k ∧ z = some (.int 1)) ∨ (¬ seenD (gA S 38) b src seat r k ∧ z = some (.int 0))))) 91 [(0, .ref 35), (1, .int (nI m))] [] (wJ (wJ S 35 23 nn) 35 24 dd)) : ∀ (j w : Nat) (nn dd : Int64), w + j = b → (∀ v, v < w → ¬ endsD r k m v → ¬ mtD (gA S 38) src seat r k m v) →
    fV G mX8_isSeen (fZm G (d + 5) (fun z S' => ∃ nn dd : Int64, S' = wJ (wJ S 35 23 nn) 35 24 dd ∧ ((seenD (gA S 38) b src seat r k ∧ z = some (.int 1)) ∨ (¬ seenD (gA S 38) b src seat r k ∧ z = some (.int 0))))) 12 [(0, .ref 35), (1, .int (nI m)), (2, .int (nI w))] [] (wJ (wJ S 35 23 nn) 35 24 dd) := by
  have hk3 : k ≤ 3 := R.2.1
  have hb16 : b ≤ 16 := H.2.1.2.1
  intro j
  induction j with
  | zero =>
    intro w nn dd hwj hok
    refine fV.run iX8_isSeen_12_3 oX8_isSeen_12_3 (pc' := 17) (L' := [(0, .ref 35), (1, .int (nI m)), (2, .int (nI w))]) (st' := [.int (gI S 35 3), .int (nI w)]) (S' := (wJ (wJ S 35 23 nn) 35 24 dd)) rfl trivial ?_
    refine fV.icmp_ge bX8_isSeen_17 (fun c17 => ?_) (fun c17 => ?_)
    · refine fV.pick (L' := [(0, .ref 35), (1, .int (nI m))]) [0, 1] rfl ?_
      exact hK nn dd (fun v hv => hok v (by omega))
    · exact absurd c17 (by rw [show gI S 35 3 = nI b from H.2.1.1, nI_leI (by omega) (by omega)]; omega)
  | succ j ih =>
    intro w nn dd hwj hok
    refine fV.run iX8_isSeen_12_3 oX8_isSeen_12_3 (pc' := 17) (L' := [(0, .ref 35), (1, .int (nI m)), (2, .int (nI w))]) (st' := [.int (gI S 35 3), .int (nI w)]) (S' := (wJ (wJ S 35 23 nn) 35 24 dd)) rfl trivial ?_
    refine fV.icmp_ge bX8_isSeen_17 (fun c17 => ?_) (fun c17 => ?_)
    · exact absurd c17 (by rw [show gI S 35 3 = nI b from H.2.1.1, nI_leI (by omega) (by omega)]; omega)
    · refine fV.run iX8_isSeen_20_3 oX8_isSeen_20_3 (pc' := 25) (L' := [(0, .ref 35), (1, .int (nI m)), (2, .int (nI w))]) (st' := [.int (gI S 35 22), .int (nI m)]) (S' := (wJ (wJ S 35 23 nn) 35 24 dd)) rfl trivial ?_
      refine fV.icmp_ge bX8_isSeen_25 (fun c25 => ?_) (fun c25 => ?_)
      · refine fV.run iX8_isSeen_45_1 oX8_isSeen_45_1 (pc' := 46) (L' := [(0, .ref 35), (1, .int (nI m)), (2, .int (nI w))]) (st' := [.int (nI m)]) (S' := (wJ (wJ S 35 23 nn) 35 24 dd)) rfl trivial ?_
        refine fV.if_le bX8_isSeen_46 (fun c46 => ?_) (fun c46 => ?_)
        · refine fV.run iX8_isSeen_68_3 oX8_isSeen_68_3 (pc' := 71) (L' := [(0, .ref 35), (1, .int (nI m)), (2, .int (nI w)), (3, .int 0)]) (st' := [.int 0]) (S' := (wJ (wJ S 35 23 nn) 35 24 dd)) rfl trivial ?_
          have he1 : ¬ endsD r k m w := fun z => by rcases z with ⟨z1, z2⟩ | ⟨z1, z2⟩ <;> first | exact kl_n R.1 c25 (by omega) (by omega) z1 | exact c42 (by rw [z2]) | exact m_npos c46 z1 (by omega) | exact c61 (by rw [z2])
          refine fV.if_ne bX8_isSeen_71 (fun c71 => ?_) (fun c71 => ?_)
          · exact absurd c71 (by decide)
          · refine fV.run iX8_isSeen_74_3 oX8_isSeen_74_3 (pc' := 77) (L' := [(0, .ref 35), (1, .int (nI m)), (2, .int (nI w)), (3, .int 0)]) (st' := [.int (nI w), .int (nI m), .ref 35]) (S' := (wJ (wJ S 35 23 nn) 35 24 dd)) rfl trivial ?_
            refine fV.callV (M2 := mX8_meets) (d := d + 4) (o := 35) (av := [.int (nI m), .int (nI w)]) (rest := []) kX8_meets dX8_isSeen_77 lX8_171 rfl rfl rfl (Nat.le_of_ble_eq_true rfl) (fRoom (by decide)) ⟨Nat.le_refl _, Nat.le_refl _⟩ (qX8_meets (S := (wJ (wJ S 35 23 nn) 35 24 dd)) (m := m) (w := w) (E := eyeD (gA S 38) seat r k m) (I := imgD (gA S 38) src r (k - m)) H (by omega) (by omega) (LG m hmk)) ?_
            rintro r9 S9 h9
            rcases h9 with ⟨hz, rfl, h9⟩ | ⟨hz, rfl, h9⟩
            · rw [h9]
              clear h9 S9
              have hz9 : zM (gA S 38) w (eyeD (gA S 38) seat r k m) (imgD (gA S 38) src r (k - m)) (gB S 49 m) (gB S 50 m) (gB S 49 (m + 1)) (gB S 50 (m + 1)) := hz
              have hm1 : mtD (gA S 38) src seat r k m w := by
                unfold mtD
                rw [(FR m (by omega)).1, (FR m (by omega)).2, (FR (m + 1) (by omega)).1, (FR (m + 1) (by omega)).2] at hz9
                exact hz9
              refine fV.to (pc' := 80) (L' := [(0, .ref 35), (1, .int (nI m)), (2, .int (nI w)), (3, .int 0)]) (st' := [.int 1]) (S' := (wJ (wJ (wJ (wJ S 35 23 nn) 35 24 dd) 35 23 (rN S m w)) 35 24 (rD S w))) rfl rfl rfl rfl ?_
              refine fV.if_eq bX8_isSeen_80 (fun c80 => ?_) (fun c80 => ?_)
              · exact absurd c80 (by decide)
              · refine fV.run iX8_isSeen_83_1 oX8_isSeen_83_1 (pc' := 84) (L' := [(0, .ref 35), (1, .int (nI m)), (2, .int (nI w)), (3, .int 0)]) (st' := [.int 0]) (S' := (wJ (wJ (wJ (wJ S 35 23 nn) 35 24 dd) 35 23 (rN S m w)) 35 24 (rD S w))) rfl trivial ?_
                exact fV.zret rfl dX8_isSeen_84 (by decide) ⟨_, _, sX_c S _ _ _ _, Or.inr ⟨fun y => y m hmk w (by omega) he1 hm1, rfl⟩⟩
            · rw [h9]
              clear h9 S9
              have hz9 : ¬ zM (gA S 38) w (eyeD (gA S 38) seat r k m) (imgD (gA S 38) src r (k - m)) (gB S 49 m) (gB S 50 m) (gB S 49 (m + 1)) (gB S 50 (m + 1)) := hz
              have hm1 : ¬ mtD (gA S 38) src seat r k m w := by
                unfold mtD
                rw [(FR m (by omega)).1, (FR m (by omega)).2, (FR (m + 1) (by omega)).1, (FR (m + 1) (by omega)).2] at hz9
                exact hz9
              refine fV.to (pc' := 80) (L' := [(0, .ref 35), (1, .int (nI m)), (2, .int (nI w)), (3, .int 0)]) (st' := [.int 0]) (S' := (wJ (wJ (wJ (wJ S 35 23 nn) 35 24 dd) 35 23 (rN S m w)) 35 24 (rD S w))) rfl rfl rfl rfl ?_
              refine fV.if_eq bX8_isSeen_80 (fun c80 => ?_) (fun c80 => ?_)
              · refine fV.run iX8_isSeen_85_2 oX8_isSeen_85_2 (pc' := 12) (L' := [(0, .ref 35), (1, .int (nI m)), (2, .int ((nI w) + 1)), (3, .int 0)]) (st' := []) (S' := (wJ (wJ (wJ (wJ S 35 23 nn) 35 24 dd) 35 23 (rN S m w)) 35 24 (rD S w))) rfl trivial ?_
                refine fV.pick (L' := [(0, .ref 35), (1, .int (nI m)), (2, .int (nI w + 1))]) [0, 1, 2] rfl ?_
                refine fV.to (L' := [(0, .ref 35), (1, .int (nI m)), (2, .int (nI (w + 1)))]) rfl (by rw [nI_1]) rfl (sX_c S _ _ _ _) (ih (w + 1) _ _ (by omega) (fun v hv => ?_))
                by_cases h : v = w
                · rw [h]; first | exact fun y => absurd he1 y | exact fun _ => hm1
                · exact hok v (by omega)
              · exact absurd c80 (by decide)
        · refine fV.run iX8_isSeen_49_7 oX8_isSeen_49_7 (pc' := 60) (L' := [(0, .ref 35), (1, .int (nI m)), (2, .int (nI w))]) (st' := [.int (gA S 51 ((gI S 35 22) - (nI m)).toNatClampNeg)]) (S' := (wJ (wJ S 35 23 nn) 35 24 dd)) (P := vp_in ((gI S 35 22) - (nI m)) 3 ∧ True) rfl ⟨(by rw [R.1, ord_2 hmk R.2.1]; exact vp_in_nI (by have := m_pos c46; omega) (by decide)), trivial⟩ ?_
          refine fV.to (L' := [(0, .ref 35), (1, .int (nI m)), (2, .int (nI w))]) (st' := [.int (nI (r (k - m)))]) rfl rfl (by rw [show (gA S 51 ((gI S 35 22) - (nI m)).toNatClampNeg : Int32) = nI (r (k - m)) from by rw [R.1, ord_2 hmk R.2.1, nI_clamp (by omega)]; exact (R.2.2 _ (by have := m_pos c46; omega)).1]) rfl ?_
          refine fV.run iX8_isSeen_60_1 oX8_isSeen_60_1 (pc' := 61) (L' := [(0, .ref 35), (1, .int (nI m)), (2, .int (nI w))]) (st' := [.int (nI w), .int (nI (r (k - m)))]) (S' := (wJ (wJ S 35 23 nn) 35 24 dd)) rfl trivial ?_
          refine fV.icmp_ne bX8_isSeen_61 (fun c61 => ?_) (fun c61 => ?_)
          · refine fV.run iX8_isSeen_68_3 oX8_isSeen_68_3 (pc' := 71) (L' := [(0, .ref 35), (1, .int (nI m)), (2, .int (nI w)), (3, .int 0)]) (st' := [.int 0]) (S' := (wJ (wJ S 35 23 nn) 35 24 dd)) rfl trivial ?_
            have he1 : ¬ endsD r k m w := fun z => by rcases z with ⟨z1, z2⟩ | ⟨z1, z2⟩ <;> first | exact kl_n R.1 c25 (by omega) (by omega) z1 | exact c42 (by rw [z2]) | exact m_npos c46 z1 (by omega) | exact c61 (by rw [z2])
            refine fV.if_ne bX8_isSeen_71 (fun c71 => ?_) (fun c71 => ?_)
            · exact absurd c71 (by decide)
            · refine fV.run iX8_isSeen_74_3 oX8_isSeen_74_3 (pc' := 77) (L' := [(0, .ref 35), (1, .int (nI m)), (2, .int (nI w)), (3, .int 0)]) (st' := [.int (nI w), .int (nI m), .ref 35]) (S' := (wJ (wJ S 35 23 nn) 35 24 dd)) rfl trivial ?_
              refine fV.callV (M2 := mX8_meets) (d := d + 4) (o := 35) (av := [.int (nI m), .int (nI w)]) (rest := []) kX8_meets dX8_isSeen_77 lX8_171 rfl rfl rfl (Nat.le_of_ble_eq_true rfl) (fRoom (by decide)) ⟨Nat.le_refl _, Nat.le_refl _⟩ (qX8_meets (S := (wJ (wJ S 35 23 nn) 35 24 dd)) (m := m) (w := w) (E := eyeD (gA S 38) seat r k m) (I := imgD (gA S 38) src r (k - m)) H (by omega) (by omega) (LG m hmk)) ?_
              rintro r9 S9 h9
              rcases h9 with ⟨hz, rfl, h9⟩ | ⟨hz, rfl, h9⟩
              · rw [h9]
                clear h9 S9
                have hz9 : zM (gA S 38) w (eyeD (gA S 38) seat r k m) (imgD (gA S 38) src r (k - m)) (gB S 49 m) (gB S 50 m) (gB S 49 (m + 1)) (gB S 50 (m + 1)) := hz
                have hm1 : mtD (gA S 38) src seat r k m w := by
                  unfold mtD
                  rw [(FR m (by omega)).1, (FR m (by omega)).2, (FR (m + 1) (by omega)).1, (FR (m + 1) (by omega)).2] at hz9
                  exact hz9
                refine fV.to (pc' := 80) (L' := [(0, .ref 35), (1, .int (nI m)), (2, .int (nI w)), (3, .int 0)]) (st' := [.int 1]) (S' := (wJ (wJ (wJ (wJ S 35 23 nn) 35 24 dd) 35 23 (rN S m w)) 35 24 (rD S w))) rfl rfl rfl rfl ?_
                refine fV.if_eq bX8_isSeen_80 (fun c80 => ?_) (fun c80 => ?_)
                · exact absurd c80 (by decide)
                · refine fV.run iX8_isSeen_83_1 oX8_isSeen_83_1 (pc' := 84) (L' := [(0, .ref 35), (1, .int (nI m)), (2, .int (nI w)), (3, .int 0)]) (st' := [.int 0]) (S' := (wJ (wJ (wJ (wJ S 35 23 nn) 35 24 dd) 35 23 (rN S m w)) 35 24 (rD S w))) rfl trivial ?_
                  exact fV.zret rfl dX8_isSeen_84 (by decide) ⟨_, _, sX_c S _ _ _ _, Or.inr ⟨fun y => y m hmk w (by omega) he1 hm1, rfl⟩⟩
              · rw [h9]
                clear h9 S9
                have hz9 : ¬ zM (gA S 38) w (eyeD (gA S 38) seat r k m) (imgD (gA S 38) src r (k - m)) (gB S 49 m) (gB S 50 m) (gB S 49 (m + 1)) (gB S 50 (m + 1)) := hz
                have hm1 : ¬ mtD (gA S 38) src seat r k m w := by
                  unfold mtD
                  rw [(FR m (by omega)).1, (FR m (by omega)).2, (FR (m + 1) (by omega)).1, (FR (m + 1) (by omega)).2] at hz9
                  exact hz9
                refine fV.to (pc' := 80) (L' := [(0, .ref 35), (1, .int (nI m)), (2, .int (nI w)), (3, .int 0)]) (st' := [.int 0]) (S' := (wJ (wJ (wJ (wJ S 35 23 nn) 35 24 dd) 35 23 (rN S m w)) 35 24 (rD S w))) rfl rfl rfl rfl ?_
                refine fV.if_eq bX8_isSeen_80 (fun c80 => ?_) (fun c80 => ?_)
                · refine fV.run iX8_isSeen_85_2 oX8_isSeen_85_2 (pc' := 12) (L' := [(0, .ref 35), (1, .int (nI m)), (2, .int ((nI w) + 1)), (3, .int 0)]) (st' := []) (S' := (wJ (wJ (wJ (wJ S 35 23 nn) 35 24 dd) 35 23 (rN S m w)) 35 24 (rD S w))) rfl trivial ?_
                  refine fV.pick (L' := [(0, .ref 35), (1, .int (nI m)), (2, .int (nI w + 1))]) [0, 1, 2] rfl ?_
                  refine fV.to (L' := [(0, .ref 35), (1, .int (nI m)), (2, .int (nI (w + 1)))]) rfl (by rw [nI_1]) rfl (sX_c S _ _ _ _) (ih (w + 1) _ _ (by omega) (fun v hv => ?_))
                  by_cases h : v = w
                  · rw [h]; first | exact fun y => absurd he1 y | exact fun _ => hm1
                  · exact hok v (by omega)
                · exact absurd c80 (by decide)
          · refine fV.run iX8_isSeen_64_4 oX8_isSeen_64_4 (pc' := 71) (L' := [(0, .ref 35), (1, .int (nI m)), (2, .int (nI w)), (3, .int 1)]) (st' := [.int 1]) (S' := (wJ (wJ S 35 23 nn) 35 24 dd)) rfl trivial ?_
            have he1 : endsD r k m w := by first | exact Or.inl ⟨kl_p R.1 c25 (by omega) (by omega), (nI_eq (by have := (R.2.2 (k - 1 - m) (by have := kl_p R.1 c25 (by omega) (by omega); omega)).2; omega) (by omega)).mp c42⟩ | exact Or.inr ⟨m_pos c46, (nI_eq (by have := (R.2.2 (k - m) (by have := m_pos c46; omega)).2; omega) (by omega)).mp c61⟩
            refine fV.if_ne bX8_isSeen_71 (fun c71 => ?_) (fun c71 => ?_)
            · refine fV.run iX8_isSeen_85_2 oX8_isSeen_85_2 (pc' := 12) (L' := [(0, .ref 35), (1, .int (nI m)), (2, .int ((nI w) + 1)), (3, .int 1)]) (st' := []) (S' := (wJ (wJ S 35 23 nn) 35 24 dd)) rfl trivial ?_
              refine fV.pick (L' := [(0, .ref 35), (1, .int (nI m)), (2, .int (nI w + 1))]) [0, 1, 2] rfl ?_
              refine fV.to (L' := [(0, .ref 35), (1, .int (nI m)), (2, .int (nI (w + 1)))]) rfl (by rw [nI_1]) rfl rfl (ih (w + 1) _ _ (by omega) (fun v hv => ?_))
              by_cases h : v = w
              · rw [h]; first | exact fun y => absurd he1 y | exact fun _ => hm1
              · exact hok v (by omega)
            · exact absurd c71 (by decide)
      · refine fV.run iX8_isSeen_28_9 oX8_isSeen_28_9 (pc' := 41) (L' := [(0, .ref 35), (1, .int (nI m)), (2, .int (nI w))]) (st' := [.int (gA S 51 (((gI S 35 22) - 1) - (nI m)).toNatClampNeg)]) (S' := (wJ (wJ S 35 23 nn) 35 24 dd)) (P := vp_in (((gI S 35 22) - 1) - (nI m)) 3 ∧ True) rfl ⟨(by rw [R.1, (ord_1 (kl_p R.1 c25 (by omega) (by omega)) R.2.1).1]; exact vp_in_nI (by omega) (by decide)), trivial⟩ ?_
        refine fV.to (L' := [(0, .ref 35), (1, .int (nI m)), (2, .int (nI w))]) (st' := [.int (nI (r (k - 1 - m)))]) rfl rfl (by rw [show (gA S 51 (((gI S 35 22) - 1) - (nI m)).toNatClampNeg : Int32) = nI (r (k - 1 - m)) from by rw [R.1, (ord_1 (kl_p R.1 c25 (by omega) (by omega)) R.2.1).1, nI_clamp (by omega)]; exact (R.2.2 _ (by have := kl_p R.1 c25 (by omega) (by omega); omega)).1]) rfl ?_
        refine fV.run iX8_isSeen_41_1 oX8_isSeen_41_1 (pc' := 42) (L' := [(0, .ref 35), (1, .int (nI m)), (2, .int (nI w))]) (st' := [.int (nI w), .int (nI (r (k - 1 - m)))]) (S' := (wJ (wJ S 35 23 nn) 35 24 dd)) rfl trivial ?_
        refine fV.icmp_eq bX8_isSeen_42 (fun c42 => ?_) (fun c42 => ?_)
        · refine fV.run iX8_isSeen_64_4 oX8_isSeen_64_4 (pc' := 71) (L' := [(0, .ref 35), (1, .int (nI m)), (2, .int (nI w)), (3, .int 1)]) (st' := [.int 1]) (S' := (wJ (wJ S 35 23 nn) 35 24 dd)) rfl trivial ?_
          have he1 : endsD r k m w := by first | exact Or.inl ⟨kl_p R.1 c25 (by omega) (by omega), (nI_eq (by have := (R.2.2 (k - 1 - m) (by have := kl_p R.1 c25 (by omega) (by omega); omega)).2; omega) (by omega)).mp c42⟩ | exact Or.inr ⟨m_pos c46, (nI_eq (by have := (R.2.2 (k - m) (by have := m_pos c46; omega)).2; omega) (by omega)).mp c61⟩
          refine fV.if_ne bX8_isSeen_71 (fun c71 => ?_) (fun c71 => ?_)
          · refine fV.run iX8_isSeen_85_2 oX8_isSeen_85_2 (pc' := 12) (L' := [(0, .ref 35), (1, .int (nI m)), (2, .int ((nI w) + 1)), (3, .int 1)]) (st' := []) (S' := (wJ (wJ S 35 23 nn) 35 24 dd)) rfl trivial ?_
            refine fV.pick (L' := [(0, .ref 35), (1, .int (nI m)), (2, .int (nI w + 1))]) [0, 1, 2] rfl ?_
            refine fV.to (L' := [(0, .ref 35), (1, .int (nI m)), (2, .int (nI (w + 1)))]) rfl (by rw [nI_1]) rfl rfl (ih (w + 1) _ _ (by omega) (fun v hv => ?_))
            by_cases h : v = w
            · rw [h]; first | exact fun y => absurd he1 y | exact fun _ => hm1
            · exact hok v (by omega)
          · exact absurd c71 (by decide)
        · refine fV.run iX8_isSeen_45_1 oX8_isSeen_45_1 (pc' := 46) (L' := [(0, .ref 35), (1, .int (nI m)), (2, .int (nI w))]) (st' := [.int (nI m)]) (S' := (wJ (wJ S 35 23 nn) 35 24 dd)) rfl trivial ?_
          refine fV.if_le bX8_isSeen_46 (fun c46 => ?_) (fun c46 => ?_)
          · refine fV.run iX8_isSeen_68_3 oX8_isSeen_68_3 (pc' := 71) (L' := [(0, .ref 35), (1, .int (nI m)), (2, .int (nI w)), (3, .int 0)]) (st' := [.int 0]) (S' := (wJ (wJ S 35 23 nn) 35 24 dd)) rfl trivial ?_
            have he1 : ¬ endsD r k m w := fun z => by rcases z with ⟨z1, z2⟩ | ⟨z1, z2⟩ <;> first | exact kl_n R.1 c25 (by omega) (by omega) z1 | exact c42 (by rw [z2]) | exact m_npos c46 z1 (by omega) | exact c61 (by rw [z2])
            refine fV.if_ne bX8_isSeen_71 (fun c71 => ?_) (fun c71 => ?_)
            · exact absurd c71 (by decide)
            · refine fV.run iX8_isSeen_74_3 oX8_isSeen_74_3 (pc' := 77) (L' := [(0, .ref 35), (1, .int (nI m)), (2, .int (nI w)), (3, .int 0)]) (st' := [.int (nI w), .int (nI m), .ref 35]) (S' := (wJ (wJ S 35 23 nn) 35 24 dd)) rfl trivial ?_
              refine fV.callV (M2 := mX8_meets) (d := d + 4) (o := 35) (av := [.int (nI m), .int (nI w)]) (rest := []) kX8_meets dX8_isSeen_77 lX8_171 rfl rfl rfl (Nat.le_of_ble_eq_true rfl) (fRoom (by decide)) ⟨Nat.le_refl _, Nat.le_refl _⟩ (qX8_meets (S := (wJ (wJ S 35 23 nn) 35 24 dd)) (m := m) (w := w) (E := eyeD (gA S 38) seat r k m) (I := imgD (gA S 38) src r (k - m)) H (by omega) (by omega) (LG m hmk)) ?_
              rintro r9 S9 h9
              rcases h9 with ⟨hz, rfl, h9⟩ | ⟨hz, rfl, h9⟩
              · rw [h9]
                clear h9 S9
                have hz9 : zM (gA S 38) w (eyeD (gA S 38) seat r k m) (imgD (gA S 38) src r (k - m)) (gB S 49 m) (gB S 50 m) (gB S 49 (m + 1)) (gB S 50 (m + 1)) := hz
                have hm1 : mtD (gA S 38) src seat r k m w := by
                  unfold mtD
                  rw [(FR m (by omega)).1, (FR m (by omega)).2, (FR (m + 1) (by omega)).1, (FR (m + 1) (by omega)).2] at hz9
                  exact hz9
                refine fV.to (pc' := 80) (L' := [(0, .ref 35), (1, .int (nI m)), (2, .int (nI w)), (3, .int 0)]) (st' := [.int 1]) (S' := (wJ (wJ (wJ (wJ S 35 23 nn) 35 24 dd) 35 23 (rN S m w)) 35 24 (rD S w))) rfl rfl rfl rfl ?_
                refine fV.if_eq bX8_isSeen_80 (fun c80 => ?_) (fun c80 => ?_)
                · exact absurd c80 (by decide)
                · refine fV.run iX8_isSeen_83_1 oX8_isSeen_83_1 (pc' := 84) (L' := [(0, .ref 35), (1, .int (nI m)), (2, .int (nI w)), (3, .int 0)]) (st' := [.int 0]) (S' := (wJ (wJ (wJ (wJ S 35 23 nn) 35 24 dd) 35 23 (rN S m w)) 35 24 (rD S w))) rfl trivial ?_
                  exact fV.zret rfl dX8_isSeen_84 (by decide) ⟨_, _, sX_c S _ _ _ _, Or.inr ⟨fun y => y m hmk w (by omega) he1 hm1, rfl⟩⟩
              · rw [h9]
                clear h9 S9
                have hz9 : ¬ zM (gA S 38) w (eyeD (gA S 38) seat r k m) (imgD (gA S 38) src r (k - m)) (gB S 49 m) (gB S 50 m) (gB S 49 (m + 1)) (gB S 50 (m + 1)) := hz
                have hm1 : ¬ mtD (gA S 38) src seat r k m w := by
                  unfold mtD
                  rw [(FR m (by omega)).1, (FR m (by omega)).2, (FR (m + 1) (by omega)).1, (FR (m + 1) (by omega)).2] at hz9
                  exact hz9
                refine fV.to (pc' := 80) (L' := [(0, .ref 35), (1, .int (nI m)), (2, .int (nI w)), (3, .int 0)]) (st' := [.int 0]) (S' := (wJ (wJ (wJ (wJ S 35 23 nn) 35 24 dd) 35 23 (rN S m w)) 35 24 (rD S w))) rfl rfl rfl rfl ?_
                refine fV.if_eq bX8_isSeen_80 (fun c80 => ?_) (fun c80 => ?_)
                · refine fV.run iX8_isSeen_85_2 oX8_isSeen_85_2 (pc' := 12) (L' := [(0, .ref 35), (1, .int (nI m)), (2, .int ((nI w) + 1)), (3, .int 0)]) (st' := []) (S' := (wJ (wJ (wJ (wJ S 35 23 nn) 35 24 dd) 35 23 (rN S m w)) 35 24 (rD S w))) rfl trivial ?_
                  refine fV.pick (L' := [(0, .ref 35), (1, .int (nI m)), (2, .int (nI w + 1))]) [0, 1, 2] rfl ?_
                  refine fV.to (L' := [(0, .ref 35), (1, .int (nI m)), (2, .int (nI (w + 1)))]) rfl (by rw [nI_1]) rfl (sX_c S _ _ _ _) (ih (w + 1) _ _ (by omega) (fun v hv => ?_))
                  by_cases h : v = w
                  · rw [h]; first | exact fun y => absurd he1 y | exact fun _ => hm1
                  · exact hok v (by omega)
                · exact absurd c80 (by decide)
          · refine fV.run iX8_isSeen_49_7 oX8_isSeen_49_7 (pc' := 60) (L' := [(0, .ref 35), (1, .int (nI m)), (2, .int (nI w))]) (st' := [.int (gA S 51 ((gI S 35 22) - (nI m)).toNatClampNeg)]) (S' := (wJ (wJ S 35 23 nn) 35 24 dd)) (P := vp_in ((gI S 35 22) - (nI m)) 3 ∧ True) rfl ⟨(by rw [R.1, ord_2 hmk R.2.1]; exact vp_in_nI (by have := m_pos c46; omega) (by decide)), trivial⟩ ?_
            refine fV.to (L' := [(0, .ref 35), (1, .int (nI m)), (2, .int (nI w))]) (st' := [.int (nI (r (k - m)))]) rfl rfl (by rw [show (gA S 51 ((gI S 35 22) - (nI m)).toNatClampNeg : Int32) = nI (r (k - m)) from by rw [R.1, ord_2 hmk R.2.1, nI_clamp (by omega)]; exact (R.2.2 _ (by have := m_pos c46; omega)).1]) rfl ?_
            refine fV.run iX8_isSeen_60_1 oX8_isSeen_60_1 (pc' := 61) (L' := [(0, .ref 35), (1, .int (nI m)), (2, .int (nI w))]) (st' := [.int (nI w), .int (nI (r (k - m)))]) (S' := (wJ (wJ S 35 23 nn) 35 24 dd)) rfl trivial ?_
            refine fV.icmp_ne bX8_isSeen_61 (fun c61 => ?_) (fun c61 => ?_)
            · refine fV.run iX8_isSeen_68_3 oX8_isSeen_68_3 (pc' := 71) (L' := [(0, .ref 35), (1, .int (nI m)), (2, .int (nI w)), (3, .int 0)]) (st' := [.int 0]) (S' := (wJ (wJ S 35 23 nn) 35 24 dd)) rfl trivial ?_
              have he1 : ¬ endsD r k m w := fun z => by rcases z with ⟨z1, z2⟩ | ⟨z1, z2⟩ <;> first | exact kl_n R.1 c25 (by omega) (by omega) z1 | exact c42 (by rw [z2]) | exact m_npos c46 z1 (by omega) | exact c61 (by rw [z2])
              refine fV.if_ne bX8_isSeen_71 (fun c71 => ?_) (fun c71 => ?_)
              · exact absurd c71 (by decide)
              · refine fV.run iX8_isSeen_74_3 oX8_isSeen_74_3 (pc' := 77) (L' := [(0, .ref 35), (1, .int (nI m)), (2, .int (nI w)), (3, .int 0)]) (st' := [.int (nI w), .int (nI m), .ref 35]) (S' := (wJ (wJ S 35 23 nn) 35 24 dd)) rfl trivial ?_
                refine fV.callV (M2 := mX8_meets) (d := d + 4) (o := 35) (av := [.int (nI m), .int (nI w)]) (rest := []) kX8_meets dX8_isSeen_77 lX8_171 rfl rfl rfl (Nat.le_of_ble_eq_true rfl) (fRoom (by decide)) ⟨Nat.le_refl _, Nat.le_refl _⟩ (qX8_meets (S := (wJ (wJ S 35 23 nn) 35 24 dd)) (m := m) (w := w) (E := eyeD (gA S 38) seat r k m) (I := imgD (gA S 38) src r (k - m)) H (by omega) (by omega) (LG m hmk)) ?_
                rintro r9 S9 h9
                rcases h9 with ⟨hz, rfl, h9⟩ | ⟨hz, rfl, h9⟩
                · rw [h9]
                  clear h9 S9
                  have hz9 : zM (gA S 38) w (eyeD (gA S 38) seat r k m) (imgD (gA S 38) src r (k - m)) (gB S 49 m) (gB S 50 m) (gB S 49 (m + 1)) (gB S 50 (m + 1)) := hz
                  have hm1 : mtD (gA S 38) src seat r k m w := by
                    unfold mtD
                    rw [(FR m (by omega)).1, (FR m (by omega)).2, (FR (m + 1) (by omega)).1, (FR (m + 1) (by omega)).2] at hz9
                    exact hz9
                  refine fV.to (pc' := 80) (L' := [(0, .ref 35), (1, .int (nI m)), (2, .int (nI w)), (3, .int 0)]) (st' := [.int 1]) (S' := (wJ (wJ (wJ (wJ S 35 23 nn) 35 24 dd) 35 23 (rN S m w)) 35 24 (rD S w))) rfl rfl rfl rfl ?_
                  refine fV.if_eq bX8_isSeen_80 (fun c80 => ?_) (fun c80 => ?_)
                  · exact absurd c80 (by decide)
                  · refine fV.run iX8_isSeen_83_1 oX8_isSeen_83_1 (pc' := 84) (L' := [(0, .ref 35), (1, .int (nI m)), (2, .int (nI w)), (3, .int 0)]) (st' := [.int 0]) (S' := (wJ (wJ (wJ (wJ S 35 23 nn) 35 24 dd) 35 23 (rN S m w)) 35 24 (rD S w))) rfl trivial ?_
                    exact fV.zret rfl dX8_isSeen_84 (by decide) ⟨_, _, sX_c S _ _ _ _, Or.inr ⟨fun y => y m hmk w (by omega) he1 hm1, rfl⟩⟩
                · rw [h9]
                  clear h9 S9
                  have hz9 : ¬ zM (gA S 38) w (eyeD (gA S 38) seat r k m) (imgD (gA S 38) src r (k - m)) (gB S 49 m) (gB S 50 m) (gB S 49 (m + 1)) (gB S 50 (m + 1)) := hz
                  have hm1 : ¬ mtD (gA S 38) src seat r k m w := by
                    unfold mtD
                    rw [(FR m (by omega)).1, (FR m (by omega)).2, (FR (m + 1) (by omega)).1, (FR (m + 1) (by omega)).2] at hz9
                    exact hz9
                  refine fV.to (pc' := 80) (L' := [(0, .ref 35), (1, .int (nI m)), (2, .int (nI w)), (3, .int 0)]) (st' := [.int 0]) (S' := (wJ (wJ (wJ (wJ S 35 23 nn) 35 24 dd) 35 23 (rN S m w)) 35 24 (rD S w))) rfl rfl rfl rfl ?_
                  refine fV.if_eq bX8_isSeen_80 (fun c80 => ?_) (fun c80 => ?_)
                  · refine fV.run iX8_isSeen_85_2 oX8_isSeen_85_2 (pc' := 12) (L' := [(0, .ref 35), (1, .int (nI m)), (2, .int ((nI w) + 1)), (3, .int 0)]) (st' := []) (S' := (wJ (wJ (wJ (wJ S 35 23 nn) 35 24 dd) 35 23 (rN S m w)) 35 24 (rD S w))) rfl trivial ?_
                    refine fV.pick (L' := [(0, .ref 35), (1, .int (nI m)), (2, .int (nI w + 1))]) [0, 1, 2] rfl ?_
                    refine fV.to (L' := [(0, .ref 35), (1, .int (nI m)), (2, .int (nI (w + 1)))]) rfl (by rw [nI_1]) rfl (sX_c S _ _ _ _) (ih (w + 1) _ _ (by omega) (fun v hv => ?_))
                    by_cases h : v = w
                    · rw [h]; first | exact fun y => absurd he1 y | exact fun _ => hm1
                    · exact hok v (by omega)
                  · exact absurd c80 (by decide)
            · refine fV.run iX8_isSeen_64_4 oX8_isSeen_64_4 (pc' := 71) (L' := [(0, .ref 35), (1, .int (nI m)), (2, .int (nI w)), (3, .int 1)]) (st' := [.int 1]) (S' := (wJ (wJ S 35 23 nn) 35 24 dd)) rfl trivial ?_
              have he1 : endsD r k m w := by first | exact Or.inl ⟨kl_p R.1 c25 (by omega) (by omega), (nI_eq (by have := (R.2.2 (k - 1 - m) (by have := kl_p R.1 c25 (by omega) (by omega); omega)).2; omega) (by omega)).mp c42⟩ | exact Or.inr ⟨m_pos c46, (nI_eq (by have := (R.2.2 (k - m) (by have := m_pos c46; omega)).2; omega) (by omega)).mp c61⟩
              refine fV.if_ne bX8_isSeen_71 (fun c71 => ?_) (fun c71 => ?_)
              · refine fV.run iX8_isSeen_85_2 oX8_isSeen_85_2 (pc' := 12) (L' := [(0, .ref 35), (1, .int (nI m)), (2, .int ((nI w) + 1)), (3, .int 1)]) (st' := []) (S' := (wJ (wJ S 35 23 nn) 35 24 dd)) rfl trivial ?_
                refine fV.pick (L' := [(0, .ref 35), (1, .int (nI m)), (2, .int (nI w + 1))]) [0, 1, 2] rfl ?_
                refine fV.to (L' := [(0, .ref 35), (1, .int (nI m)), (2, .int (nI (w + 1)))]) rfl (by rw [nI_1]) rfl rfl (ih (w + 1) _ _ (by omega) (fun v hv => ?_))
                by_cases h : v = w
                · rw [h]; first | exact fun y => absurd he1 y | exact fun _ => hm1
                · exact hok v (by omega)
              · exact absurd c71 (by decide)
def iX8_isSeen_2_3 : List Instr := [.iload_n 1, .aload_n 0, .getfield 159]
theorem oX8_isSeen_2_3 : fOkB cX8_isSeen 2 iX8_isSeen_2_3 = true := by decide +kernel
theorem bX8_isSeen_7 : fBk cX8_isSeen 7 (.if_icmp .gt) 97 := ⟨90, by decide +kernel, by decide⟩
def iX8_isSeen_97_1 : List Instr := [.iconst 1]
theorem oX8_isSeen_97_1 : fOkB cX8_isSeen 97 iX8_isSeen_97_1 = true := by decide +kernel
theorem dX8_isSeen_98 : decode cX8_isSeen 98 = .ok (.ireturn, 1) := by decide +kernel
def iX8_isSeen_10_2 : List Instr := [.iconst 0, .istore_n 2]
theorem oX8_isSeen_10_2 : fOkB cX8_isSeen 10 iX8_isSeen_10_2 = true := by decide +kernel
def iX8_isSeen_91_2 : List Instr := [.iinc 1 1, .goto (-92)]
theorem oX8_isSeen_91_2 : fOkB cX8_isSeen 91 iX8_isSeen_91_2 = true := by decide +kernel
set_option maxRecDepth 100000 in
theorem lpX8_seen {G : fG} {d : Nat} {S : fS} {a b c e k : Nat} {src seat : zP} {r : Nat → Nat} (H : hOk (hD S) a b c e) (R : rfRow S b r k) (LG : rfLg S (gA S 38) src seat r k k) (FR : rfFr S (gA S 38) src seat r k (k + 1)) : ∀ (n m : Nat) (nn dd : Int64), m + n = k + 1 → (∀ i, i < m → legOk (gA S 38) b src seat r k i) →
    fV G mX8_isSeen (fZm G (d + 5) (fun z S' => ∃ nn dd : Int64, S' = wJ (wJ S 35 23 nn) 35 24 dd ∧ ((seenD (gA S 38) b src seat r k ∧ z = some (.int 1)) ∨ (¬ seenD (gA S 38) b src seat r k ∧ z = some (.int 0))))) 2 [(0, .ref 35), (1, .int (nI m))] [] (wJ (wJ S 35 23 nn) 35 24 dd) := by
  have hk3 : k ≤ 3 := R.2.1
  intro n
  induction n with
  | zero =>
    intro m nn dd hm hall
    refine fV.run iX8_isSeen_2_3 oX8_isSeen_2_3 (pc' := 7) (L' := [(0, .ref 35), (1, .int (nI m))]) (st' := [.int (gI S 35 22), .int (nI m)]) (S' := (wJ (wJ S 35 23 nn) 35 24 dd)) rfl trivial ?_
    refine fV.icmp_gt bX8_isSeen_7 (fun c7 => ?_) (fun c7 => ?_)
    · refine fV.run iX8_isSeen_97_1 oX8_isSeen_97_1 (pc' := 98) (L' := [(0, .ref 35), (1, .int (nI m))]) (st' := [.int 1]) (S' := (wJ (wJ S 35 23 nn) 35 24 dd)) rfl trivial ?_
      exact fV.zret rfl dX8_isSeen_98 (by decide) ⟨_, _, rfl, Or.inl ⟨fun i hi v hv => hall i (by omega) v hv, rfl⟩⟩
    · exact absurd c7 (fun z => z (by rw [R.1]; exact nI_lt (by omega) (by omega)))
  | succ n ih =>
    intro m nn dd hm hall
    refine fV.run iX8_isSeen_2_3 oX8_isSeen_2_3 (pc' := 7) (L' := [(0, .ref 35), (1, .int (nI m))]) (st' := [.int (gI S 35 22), .int (nI m)]) (S' := (wJ (wJ S 35 23 nn) 35 24 dd)) rfl trivial ?_
    refine fV.icmp_gt bX8_isSeen_7 (fun c7 => ?_) (fun c7 => ?_)
    · exact absurd c7 (fun z => by rw [R.1, nI_ltI (by omega) (by omega)] at z; omega)
    · refine fV.run iX8_isSeen_10_2 oX8_isSeen_10_2 (pc' := 12) (L' := [(0, .ref 35), (1, .int (nI m)), (2, .int 0)]) (st' := []) (S' := (wJ (wJ S 35 23 nn) 35 24 dd)) rfl trivial ?_
      refine lpX8_in H R LG FR (m := m) (by omega) (fun nn dd hl => ?_) b 0 _ _ (by omega) (fun v hv => absurd hv (by omega))
      refine fV.run iX8_isSeen_91_2 oX8_isSeen_91_2 (pc' := 2) (L' := [(0, .ref 35), (1, .int (nI m + 1))]) (st' := []) (S' := wJ (wJ S 35 23 nn) 35 24 dd) rfl trivial ?_
      refine fV.to (L' := [(0, .ref 35), (1, .int (nI (m + 1)))]) rfl (by rw [nI_1]) rfl rfl (ih (m + 1) _ _ (by omega) (fun i hi => ?_))
      by_cases h : i = m
      · rw [h]; exact hl
      · exact hall i (by omega)
def iX8_isSeen_0_2 : List Instr := [.iconst 0, .istore_n 1]
theorem oX8_isSeen_0_2 : fOkB cX8_isSeen 0 iX8_isSeen_0_2 = true := by decide +kernel
set_option maxRecDepth 100000 in
theorem qX8_seen {G : fG} {d : Nat} {S : fS} {a b c e k : Nat} {src seat : zP} {r : Nat → Nat} (H : hOk (hD S) a b c e) (R : rfRow S b r k) (LG : rfLg S (gA S 38) src seat r k k) (FR : rfFr S (gA S 38) src seat r k (k + 1))  : fCtr G (d + 5) mX8_isSeen [.ref 35] S (fun z S' => ∃ nn dd : Int64, S' = wJ (wJ S 35 23 nn) 35 24 dd ∧ ((seenD (gA S 38) b src seat r k ∧ z = some (.int 1)) ∨ (¬ seenD (gA S 38) b src seat r k ∧ z = some (.int 0)))) := by
  refine fCtr.of bXX8_isSeen (Nat.le_of_ble_eq_true rfl) rfl ?_
  refine fV.run iX8_isSeen_0_2 oX8_isSeen_0_2 (pc' := 2) (L' := [(0, .ref 35), (1, .int 0)]) (st' := []) (S' := S) rfl trivial ?_
  refine fV.to (S' := wJ (wJ S 35 23 (gJ S 35 23)) 35 24 (gJ S 35 24)) rfl rfl rfl (by rw [rwJ_self, rwJ_self]) ?_
  exact lpX8_seen H R LG FR (k + 1) 0 _ _ (by omega) (fun i hi => absurd hi (by omega))

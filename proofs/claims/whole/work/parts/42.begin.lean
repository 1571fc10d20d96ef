/-! the landed program: the walls of a set, the choice begun -/
abbrev isS (h : hH) (x : Int32) : Prop := (0 ≤ x ∧ x ≤ (1 <<< (h.2.1.1 &&& 31)) - 1) ∧ (wsU x.toNatClampNeg 16).length ≤ 4
theorem set_c {b : Nat} (hb : b ≤ 16) {x y : Int32} (hy : y = nI b) (h : 0 ≤ x ∧ x ≤ (1 <<< (y &&& 31)) - 1) : (bcF x ≤ 4 ↔ (wsU x.toNatClampNeg 16).length ≤ 4) := by
  subst hy
  obtain ⟨m, -, hm, rfl⟩ := set_N hb h.1 h.2
  have hl := wsU_bsm m
  have h16 : (wsU m 16).length ≤ 16 := by
    have := List.length_filter_le (bt1 m) (List.range 16)
    rw [List.length_range] at this
    exact this
  rw [bc_set hm, nI_clamp (by omega)]
  exact nI_leI (b := 4) (by omega) (by decide)
def iJ6_bitCount_0f7a4_0_41 : List Instr := [.iload_n 0, .iload_n 0, .iconst 1, .iushr, .ldc_w 265, .iand, .isub, .istore_n 0, .iload_n 0, .ldc_w 266, .iand, .iload_n 0, .iconst 2, .iushr, .ldc_w 266, .iand, .iadd, .istore_n 0, .iload_n 0, .iload_n 0, .iconst 4, .iushr, .iadd, .ldc_w 267, .iand, .istore_n 0, .iload_n 0, .iload_n 0, .bipush 8, .iushr, .iadd, .istore_n 0, .iload_n 0, .iload_n 0, .bipush 16, .iushr, .iadd, .istore_n 0, .iload_n 0, .bipush 63, .iand]
theorem oJ6_bitCount_0f7a4_0_41 : fOkB cJ6_bitCount_0f7a4 0 iJ6_bitCount_0f7a4_0_41 = true := by decide +kernel
theorem dJ6_bitCount_0f7a4_52 : decode cJ6_bitCount_0f7a4 52 = .ok (.ireturn, 1) := by decide +kernel
set_option maxRecDepth 100000 in
theorem qJ6_bc {G : fG} {d : Nat} {S : fS} (x : Int32)  : fCtr G (d) mJ6_bitCount_0f7a4 [.int x] S (fun r S' => r = some (.int (bcF x)) ∧ S' = S) := by
  refine fCtr.of bXJ6_bitCount_0f7a4 (Nat.le_of_ble_eq_true rfl) rfl ?_
  refine fV.run iJ6_bitCount_0f7a4_0_41 oJ6_bitCount_0f7a4_0_41 (pc' := 52) (L' := [(0, .int (((((((x - (((Int32.toUInt32 x >>> (Int32.toUInt32 1 &&& Int32.toUInt32 31)).toInt32) &&& 1431655765)) &&& 858993459) + (((Int32.toUInt32 (x - (((Int32.toUInt32 x >>> (Int32.toUInt32 1 &&& Int32.toUInt32 31)).toInt32) &&& 1431655765)) >>> (Int32.toUInt32 2 &&& Int32.toUInt32 31)).toInt32) &&& 858993459)) + ((Int32.toUInt32 (((x - (((Int32.toUInt32 x >>> (Int32.toUInt32 1 &&& Int32.toUInt32 31)).toInt32) &&& 1431655765)) &&& 858993459) + (((Int32.toUInt32 (x - (((Int32.toUInt32 x >>> (Int32.toUInt32 1 &&& Int32.toUInt32 31)).toInt32) &&& 1431655765)) >>> (Int32.toUInt32 2 &&& Int32.toUInt32 31)).toInt32) &&& 858993459)) >>> (Int32.toUInt32 4 &&& Int32.toUInt32 31)).toInt32)) &&& 252645135) + ((Int32.toUInt32 (((((x - (((Int32.toUInt32 x >>> (Int32.toUInt32 1 &&& Int32.toUInt32 31)).toInt32) &&& 1431655765)) &&& 858993459) + (((Int32.toUInt32 (x - (((Int32.toUInt32 x >>> (Int32.toUInt32 1 &&& Int32.toUInt32 31)).toInt32) &&& 1431655765)) >>> (Int32.toUInt32 2 &&& Int32.toUInt32 31)).toInt32) &&& 858993459)) + ((Int32.toUInt32 (((x - (((Int32.toUInt32 x >>> (Int32.toUInt32 1 &&& Int32.toUInt32 31)).toInt32) &&& 1431655765)) &&& 858993459) + (((Int32.toUInt32 (x - (((Int32.toUInt32 x >>> (Int32.toUInt32 1 &&& Int32.toUInt32 31)).toInt32) &&& 1431655765)) >>> (Int32.toUInt32 2 &&& Int32.toUInt32 31)).toInt32) &&& 858993459)) >>> (Int32.toUInt32 4 &&& Int32.toUInt32 31)).toInt32)) &&& 252645135) >>> (Int32.toUInt32 8 &&& Int32.toUInt32 31)).toInt32)) + ((Int32.toUInt32 ((((((x - (((Int32.toUInt32 x >>> (Int32.toUInt32 1 &&& Int32.toUInt32 31)).toInt32) &&& 1431655765)) &&& 858993459) + (((Int32.toUInt32 (x - (((Int32.toUInt32 x >>> (Int32.toUInt32 1 &&& Int32.toUInt32 31)).toInt32) &&& 1431655765)) >>> (Int32.toUInt32 2 &&& Int32.toUInt32 31)).toInt32) &&& 858993459)) + ((Int32.toUInt32 (((x - (((Int32.toUInt32 x >>> (Int32.toUInt32 1 &&& Int32.toUInt32 31)).toInt32) &&& 1431655765)) &&& 858993459) + (((Int32.toUInt32 (x - (((Int32.toUInt32 x >>> (Int32.toUInt32 1 &&& Int32.toUInt32 31)).toInt32) &&& 1431655765)) >>> (Int32.toUInt32 2 &&& Int32.toUInt32 31)).toInt32) &&& 858993459)) >>> (Int32.toUInt32 4 &&& Int32.toUInt32 31)).toInt32)) &&& 252645135) + ((Int32.toUInt32 (((((x - (((Int32.toUInt32 x >>> (Int32.toUInt32 1 &&& Int32.toUInt32 31)).toInt32) &&& 1431655765)) &&& 858993459) + (((Int32.toUInt32 (x - (((Int32.toUInt32 x >>> (Int32.toUInt32 1 &&& Int32.toUInt32 31)).toInt32) &&& 1431655765)) >>> (Int32.toUInt32 2 &&& Int32.toUInt32 31)).toInt32) &&& 858993459)) + ((Int32.toUInt32 (((x - (((Int32.toUInt32 x >>> (Int32.toUInt32 1 &&& Int32.toUInt32 31)).toInt32) &&& 1431655765)) &&& 858993459) + (((Int32.toUInt32 (x - (((Int32.toUInt32 x >>> (Int32.toUInt32 1 &&& Int32.toUInt32 31)).toInt32) &&& 1431655765)) >>> (Int32.toUInt32 2 &&& Int32.toUInt32 31)).toInt32) &&& 858993459)) >>> (Int32.toUInt32 4 &&& Int32.toUInt32 31)).toInt32)) &&& 252645135) >>> (Int32.toUInt32 8 &&& Int32.toUInt32 31)).toInt32)) >>> (Int32.toUInt32 16 &&& Int32.toUInt32 31)).toInt32)))]) (st' := [.int ((((((((x - (((Int32.toUInt32 x >>> (Int32.toUInt32 1 &&& Int32.toUInt32 31)).toInt32) &&& 1431655765)) &&& 858993459) + (((Int32.toUInt32 (x - (((Int32.toUInt32 x >>> (Int32.toUInt32 1 &&& Int32.toUInt32 31)).toInt32) &&& 1431655765)) >>> (Int32.toUInt32 2 &&& Int32.toUInt32 31)).toInt32) &&& 858993459)) + ((Int32.toUInt32 (((x - (((Int32.toUInt32 x >>> (Int32.toUInt32 1 &&& Int32.toUInt32 31)).toInt32) &&& 1431655765)) &&& 858993459) + (((Int32.toUInt32 (x - (((Int32.toUInt32 x >>> (Int32.toUInt32 1 &&& Int32.toUInt32 31)).toInt32) &&& 1431655765)) >>> (Int32.toUInt32 2 &&& Int32.toUInt32 31)).toInt32) &&& 858993459)) >>> (Int32.toUInt32 4 &&& Int32.toUInt32 31)).toInt32)) &&& 252645135) + ((Int32.toUInt32 (((((x - (((Int32.toUInt32 x >>> (Int32.toUInt32 1 &&& Int32.toUInt32 31)).toInt32) &&& 1431655765)) &&& 858993459) + (((Int32.toUInt32 (x - (((Int32.toUInt32 x >>> (Int32.toUInt32 1 &&& Int32.toUInt32 31)).toInt32) &&& 1431655765)) >>> (Int32.toUInt32 2 &&& Int32.toUInt32 31)).toInt32) &&& 858993459)) + ((Int32.toUInt32 (((x - (((Int32.toUInt32 x >>> (Int32.toUInt32 1 &&& Int32.toUInt32 31)).toInt32) &&& 1431655765)) &&& 858993459) + (((Int32.toUInt32 (x - (((Int32.toUInt32 x >>> (Int32.toUInt32 1 &&& Int32.toUInt32 31)).toInt32) &&& 1431655765)) >>> (Int32.toUInt32 2 &&& Int32.toUInt32 31)).toInt32) &&& 858993459)) >>> (Int32.toUInt32 4 &&& Int32.toUInt32 31)).toInt32)) &&& 252645135) >>> (Int32.toUInt32 8 &&& Int32.toUInt32 31)).toInt32)) + ((Int32.toUInt32 ((((((x - (((Int32.toUInt32 x >>> (Int32.toUInt32 1 &&& Int32.toUInt32 31)).toInt32) &&& 1431655765)) &&& 858993459) + (((Int32.toUInt32 (x - (((Int32.toUInt32 x >>> (Int32.toUInt32 1 &&& Int32.toUInt32 31)).toInt32) &&& 1431655765)) >>> (Int32.toUInt32 2 &&& Int32.toUInt32 31)).toInt32) &&& 858993459)) + ((Int32.toUInt32 (((x - (((Int32.toUInt32 x >>> (Int32.toUInt32 1 &&& Int32.toUInt32 31)).toInt32) &&& 1431655765)) &&& 858993459) + (((Int32.toUInt32 (x - (((Int32.toUInt32 x >>> (Int32.toUInt32 1 &&& Int32.toUInt32 31)).toInt32) &&& 1431655765)) >>> (Int32.toUInt32 2 &&& Int32.toUInt32 31)).toInt32) &&& 858993459)) >>> (Int32.toUInt32 4 &&& Int32.toUInt32 31)).toInt32)) &&& 252645135) + ((Int32.toUInt32 (((((x - (((Int32.toUInt32 x >>> (Int32.toUInt32 1 &&& Int32.toUInt32 31)).toInt32) &&& 1431655765)) &&& 858993459) + (((Int32.toUInt32 (x - (((Int32.toUInt32 x >>> (Int32.toUInt32 1 &&& Int32.toUInt32 31)).toInt32) &&& 1431655765)) >>> (Int32.toUInt32 2 &&& Int32.toUInt32 31)).toInt32) &&& 858993459)) + ((Int32.toUInt32 (((x - (((Int32.toUInt32 x >>> (Int32.toUInt32 1 &&& Int32.toUInt32 31)).toInt32) &&& 1431655765)) &&& 858993459) + (((Int32.toUInt32 (x - (((Int32.toUInt32 x >>> (Int32.toUInt32 1 &&& Int32.toUInt32 31)).toInt32) &&& 1431655765)) >>> (Int32.toUInt32 2 &&& Int32.toUInt32 31)).toInt32) &&& 858993459)) >>> (Int32.toUInt32 4 &&& Int32.toUInt32 31)).toInt32)) &&& 252645135) >>> (Int32.toUInt32 8 &&& Int32.toUInt32 31)).toInt32)) >>> (Int32.toUInt32 16 &&& Int32.toUInt32 31)).toInt32)) &&& 63)]) (S' := S) rfl trivial ?_
  exact fV.iret rfl dJ6_bitCount_0f7a4_52 ⟨rfl, rfl⟩
def iX7_isSet_0_9 : List Instr := [.iload_n 1, .iconst 0, .iconst 1, .aload_n 0, .getfield 19, .getfield 97, .ishl, .iconst 1, .isub]
theorem oX7_isSet_0_9 : fOkB cX7_isSet 0 iX7_isSet_0_9 = true := by decide +kernel
theorem dX7_isSet_13 : decode cX7_isSet 13 = .ok (.invokestatic 74, 3) := by decide +kernel
theorem bX7_isSet_16 : fBk cX7_isSet 16 (.ifCond .eq) 31 := ⟨15, by decide +kernel, by decide⟩
def iX7_isSet_31_1 : List Instr := [.iconst 0]
theorem oX7_isSet_31_1 : fOkB cX7_isSet 31 iX7_isSet_31_1 = true := by decide +kernel
theorem dX7_isSet_32 : decode cX7_isSet 32 = .ok (.ireturn, 1) := by decide +kernel
def iX7_isSet_19_1 : List Instr := [.iload_n 1]
theorem oX7_isSet_19_1 : fOkB cX7_isSet 19 iX7_isSet_19_1 = true := by decide +kernel
set_option maxRecDepth 100000 in
theorem lX7_232 : Cond.methodLink RX7 232 yJ6_bitCount_0f7a4 ∈ fTB := fTB_at 578 rfl rfl
theorem dX7_isSet_20 : decode cX7_isSet 20 = .ok (.invokestatic 232, 3) := by decide +kernel
def iX7_isSet_23_1 : List Instr := [.iconst 4]
theorem oX7_isSet_23_1 : fOkB cX7_isSet 23 iX7_isSet_23_1 = true := by decide +kernel
theorem bX7_isSet_24 : fBk cX7_isSet 24 (.if_icmp .gt) 31 := ⟨7, by decide +kernel, by decide⟩
def iX7_isSet_27_2 : List Instr := [.iconst 1, .goto 4]
theorem oX7_isSet_27_2 : fOkB cX7_isSet 27 iX7_isSet_27_2 = true := by decide +kernel
set_option maxRecDepth 100000 in
theorem qX7_isSet {G : fG} {d : Nat} {S : fS} (x : Int32) {a b c e : Nat} (H : hOk (hC S) a b c e) : fCtr G (d + 1) mX7_isSet [.ref 0, .int x] S (fun r S' => r = some (.int (fB (decide (isS (hC S) x)))) ∧ S' = S) := by
  refine fCtr.of bXX7_isSet (Nat.le_of_ble_eq_true rfl) rfl ?_
  have hst := fun h => set_c (x := x) (y := gI S 4 6) (b := b) H.2.1.2.1 H.2.1.1 h
  refine fV.run iX7_isSet_0_9 oX7_isSet_0_9 (pc' := 13) (L' := [(0, .ref 0), (1, .int x)]) (st' := [.int ((1 <<< ((gI S 4 6) &&& 31)) - 1), .int 0, .int x]) (S' := S) rfl trivial ?_
  refine fV.callS (M2 := mX7_isWithin) (d := d) (av := [.int x, .int 0, .int ((1 <<< ((gI S 4 6) &&& 31)) - 1)]) (rest := []) kX7_isWithin dX7_isSet_13 lX7_74 rfl rfl (Nat.le_of_ble_eq_true rfl) (fRoom (by decide)) ⟨Nat.le_refl _, Nat.le_refl _⟩ (qX7_isWithin _ _ _) ?_
  rintro _ S9 ⟨rfl, h9⟩
  rw [h9]
  clear h9 S9
  refine fV.to (pc' := 16) (L' := [(0, .ref 0), (1, .int x)]) (st' := [.int (fB (decide (0 ≤ x ∧ x ≤ ((1 <<< ((gI S 4 6) &&& 31)) - 1))))]) (S' := S) rfl rfl rfl rfl ?_
  refine fV.if_eq bX7_isSet_16 (fun c16 => ?_) (fun c16 => ?_)
  · refine fV.run iX7_isSet_31_1 oX7_isSet_31_1 (pc' := 32) (L' := [(0, .ref 0), (1, .int x)]) (st' := [.int 0]) (S' := S) rfl trivial ?_
    exact fV.zret rfl dX7_isSet_32 (by decide) ⟨fBf (fun z => by first | exact fBd0.mp c16 z.1 | exact absurd ((hst z.1).mpr z.2) (by grind)), rfl⟩
  · refine fV.run iX7_isSet_19_1 oX7_isSet_19_1 (pc' := 20) (L' := [(0, .ref 0), (1, .int x)]) (st' := [.int x]) (S' := S) rfl trivial ?_
    refine fV.callS (M2 := mJ6_bitCount_0f7a4) (d := d) (av := [.int x]) (rest := []) kJ6_bitCount_0f7a4 dX7_isSet_20 lX7_232 rfl rfl (Nat.le_of_ble_eq_true rfl) (fRoom (by decide)) ⟨Nat.le_refl _, Nat.le_refl _⟩ (qJ6_bc _) ?_
    rintro _ S9 ⟨rfl, h9⟩
    rw [h9]
    clear h9 S9
    refine fV.to (pc' := 23) (L' := [(0, .ref 0), (1, .int x)]) (st' := [.int (bcF x)]) (S' := S) rfl rfl rfl rfl ?_
    refine fV.run iX7_isSet_23_1 oX7_isSet_23_1 (pc' := 24) (L' := [(0, .ref 0), (1, .int x)]) (st' := [.int 4, .int (bcF x)]) (S' := S) rfl trivial ?_
    refine fV.icmp_gt bX7_isSet_24 (fun c24 => ?_) (fun c24 => ?_)
    · refine fV.run iX7_isSet_31_1 oX7_isSet_31_1 (pc' := 32) (L' := [(0, .ref 0), (1, .int x)]) (st' := [.int 0]) (S' := S) rfl trivial ?_
      exact fV.zret rfl dX7_isSet_32 (by decide) ⟨fBf (fun z => by first | exact fBd0.mp c16 z.1 | exact absurd ((hst z.1).mpr z.2) (by grind)), rfl⟩
    · refine fV.run iX7_isSet_27_2 oX7_isSet_27_2 (pc' := 32) (L' := [(0, .ref 0), (1, .int x)]) (st' := [.int 1]) (S' := S) rfl trivial ?_
      exact fV.zret rfl dX7_isSet_32 (by decide) ⟨fBt (by (have h1 := fBd1.mp c16); exact ⟨h1, (hst h1).mp (by grind)⟩), rfl⟩
def kf (S S' : fS) : Prop := kp S S' ∧ gI S' 24 2 = gI S 24 2 ∧ gI S' 24 3 = gI S 24 3 ∧ gA S' 25 = gA S 25 ∧ gB S' 26 = gB S 26
theorem kf.rf {S : fS} : kf S S := ⟨kp.rf, rfl, rfl, rfl, rfl⟩
theorem kf.tr {S S1 S2 : fS} (h : kf S S1) (h2 : kf S1 S2) : kf S S2 := ⟨h.1.tr h2.1, h2.2.1.trans h.2.1, h2.2.2.1.trans h.2.2.1, h2.2.2.2.1.trans h.2.2.2.1, h2.2.2.2.2.trans h.2.2.2.2⟩
theorem kf.fd {S S' : fS} (h : kf S S') {PL : List pTh} (F : fdOk S PL) : fdOk S' PL := by
  obtain ⟨f1, f2, f3, f4⟩ := F
  refine ⟨by rw [h.2.1]; exact f1, f2, by rw [h.2.2.1]; exact f3, fun i x hx => ?_⟩
  rw [h.2.2.2.1, h.2.2.2.2]
  exact f4 i x hx
/-- the choice in its object: how many walls, which, the money, the power -/
def cxW (S : fS) (ws : List Nat) : Prop := gI S 28 6 = nI ws.length ∧ ∀ k, k < ws.length → gA S 29 k = nI (fnL ws k)
def bgI (S S1 : fS) (m i : Nat) : Prop := kf S S1 ∧ cxW S1 (wsU m i) ∧ ∀ j, j < i → gA S1 30 j = gA S 6 j
theorem upd_y (f : Nat → Int32) (k : Nat) (x : Int32) : upd f k x k = x := if_pos rfl
theorem upd_n (f : Nat → Int32) {k j : Nat} (x : Int32) (h : ¬ j = k) : upd f k x j = f j := if_neg h
theorem bgI_n {S S1 : fS} {m i : Nat} (h : bgI S S1 m i) (hb : ¬ bt1 m i = true) : bgI S (wA S1 30 (upd (gA S1 30) i (gA S1 6 i))) m (i + 1) := by
  obtain ⟨h1, h2, h3⟩ := h
  refine ⟨h1.tr ⟨⟨rfl, rfl, rfl, rfl, rfl, rfl⟩, rfl, rfl, rfl, rfl⟩, ?_, fun j hj => ?_⟩
  · rw [wsU_s, if_neg hb, List.append_nil]; exact h2
  · show upd (gA S1 30) i (gA S1 6 i) j = gA S 6 j
    by_cases e : j = i
    · subst e
      rw [upd_y]
      exact congrFun (congrArg (fun q => q.2.1.2.2) h1.1.1) j
    · rw [upd_n _ _ e]; exact h3 j (by omega)
theorem bgI_y {S S1 : fS} {m i : Nat} (h : bgI S S1 m i) (hb : bt1 m i = true) : bgI S (wI (wA (wA S1 30 (upd (gA S1 30) i (gA S1 6 i))) 29 (upd (gA S1 29) (wsU m i).length (nI i))) 28 6 (nI ((wsU m i).length + 1))) m (i + 1) := by
  obtain ⟨h1, h2, h3⟩ := h
  refine ⟨h1.tr ⟨⟨rfl, rfl, rfl, rfl, rfl, rfl⟩, rfl, rfl, rfl, rfl⟩, ?_, fun j hj => ?_⟩
  · rw [wsU_s, if_pos hb]
    refine ⟨?_, fun k hk => ?_⟩
    · rw [List.length_append]; rfl
    · show upd (gA S1 29) (wsU m i).length (nI i) k = _
      by_cases e : k = (wsU m i).length
      · subst e; rw [upd_y, fnL_last]
      · rw [List.length_append] at hk
        have hk : k < (wsU m i).length + 1 := hk
        rw [upd_n _ _ e, fnL_app (by omega)]
        exact h2.2 k (by omega)
  · show upd (gA S1 30) i (gA S1 6 i) j = gA S 6 j
    by_cases e : j = i
    · subst e
      rw [upd_y]
      exact congrFun (congrArg (fun q => q.2.1.2.2) h1.1.1) j
    · rw [upd_n _ _ e]; exact h3 j (by omega)
/-- behind begin -/
def bgE (S S1 : fS) (m : Nat) (mo pw : Int32) : Prop := bgI S S1 m 16 ∧ gI S1 28 7 = mo ∧ gI S1 28 8 = pw ∧ gI S1 28 9 = 0
theorem wA_c {S : fS} {o k k2 : Nat} {f : Nat → Int32} {x x2 : Int32} (h : k = k2) (h2 : x = x2) : wA S o (upd f k x) = wA S o (upd f k2 x2) := by rw [h, h2]
def iX0_begin_8_2 : List Instr := [.iload 5, .bipush 16]
theorem oX0_begin_8_2 : fOkB cX0_begin 8 iX0_begin_8_2 = true := by decide +kernel
theorem bX0_begin_12 : fBk cX0_begin 12 (.if_icmp .ge) 74 := ⟨62, by decide +kernel, by decide⟩
def iX0_begin_74_9 : List Instr := [.aload_n 0, .iload_n 3, .putfield 35, .aload_n 0, .iload 4, .putfield 38, .aload_n 0, .iconst 0, .putfield 41]
theorem oX0_begin_74_9 : fOkB cX0_begin 74 iX0_begin_74_9 = true := by decide +kernel
theorem dX0_begin_90 : decode cX0_begin 90 = .ok (.return_, 1) := by decide +kernel
def iX0_begin_15_8 : List Instr := [.aload_n 0, .getfield 15, .iload 5, .aload_n 1, .getfield 54, .iload 5, .iaload, .iastore]
theorem oX0_begin_15_8 : fOkB cX0_begin 15 iX0_begin_15_8 = true := by decide +kernel
def iX0_begin_29_6 : List Instr := [.iload_n 2, .iload 5, .ishr, .iconst 1, .iand, .iconst 1]
theorem oX0_begin_29_6 : fOkB cX0_begin 29 iX0_begin_29_6 = true := by decide +kernel
theorem bX0_begin_36 : fBk cX0_begin 36 (.if_icmp .ne) 68 := ⟨32, by decide +kernel, by decide⟩
def iX0_begin_68_2 : List Instr := [.iinc 5 1, .goto (-63)]
theorem oX0_begin_68_2 : fOkB cX0_begin 68 iX0_begin_68_2 = true := by decide +kernel
def iX0_begin_39_3 : List Instr := [.aload_n 0, .getfield 31, .iconst 4]
theorem oX0_begin_39_3 : fOkB cX0_begin 39 iX0_begin_39_3 = true := by decide +kernel
theorem bX0_begin_44 : fBk cX0_begin 44 (.if_icmp .ge) 68 := ⟨24, by decide +kernel, by decide⟩
def iX0_begin_47_14 : List Instr := [.aload_n 0, .getfield 9, .aload_n 0, .getfield 31, .iload 5, .iastore, .aload_n 0, .dup, .getfield 31, .iconst 1, .iadd, .putfield 31, .iinc 5 1, .goto (-63)]
theorem oX0_begin_47_14 : fOkB cX0_begin 47 iX0_begin_47_14 = true := by decide +kernel
set_option maxRecDepth 100000 in
theorem bgX0 {G : fG} {d : Nat} {S S1 : fS} {m i : Nat} {mo pw : Int32} (hm : m < 65536) (h4 : (wsU m 16).length ≤ 4) (hI : bgI S S1 m i) (hi : i < 16) (kk : ∀ S2, bgI S S2 m (i + 1) → fV G mX0_begin (fZm G d (fun r S' => r = none ∧ bgE S S' m mo pw)) 8 [(0, .ref 28), (1, .ref 4), (2, .int (nI m)), (3, .int mo), (4, .int pw), (5, .int (nI (i + 1)))] [] S2) : fV G mX0_begin (fZm G d (fun r S' => r = none ∧ bgE S S' m mo pw)) 29 [(0, .ref 28), (1, .ref 4), (2, .int (nI m)), (3, .int mo), (4, .int pw), (5, .int (nI i))] [] (wA S1 30 (upd (gA S1 30) i (gA S1 6 i))) := by
  have h6 : gI S1 28 6 = nI (wsU m i).length := hI.2.1.1
  have h16 := wsU_le m (show i + 1 ≤ 16 by omega)
  have hle := wsU_le m (show i ≤ 16 by omega)
  have hlt : bt1 m i = true → (wsU m i).length < 4 := fun z => by
    rw [wsU_s, if_pos z, List.length_append] at h16
    have : (wsU m i).length + 1 ≤ (wsU m 16).length := h16
    omega
  refine fV.run iX0_begin_29_6 oX0_begin_29_6 (pc' := 36) (L' := [(0, .ref 28), (1, .ref 4), (2, .int (nI m)), (3, .int mo), (4, .int pw), (5, .int (nI i))]) (st' := [.int 1, .int (((nI m) >>> ((nI i) &&& 31)) &&& 1)]) (S' := (wA S1 30 (upd (gA S1 30) i (gA S1 6 i)))) rfl trivial ?_
  refine fV.icmp_ne bX0_begin_36 (fun c36 => ?_) (fun c36 => ?_)
  · refine fV.run iX0_begin_68_2 oX0_begin_68_2 (pc' := 8) (L' := [(0, .ref 28), (1, .ref 4), (2, .int (nI m)), (3, .int mo), (4, .int pw), (5, .int ((nI i) + 1))]) (st' := []) (S' := (wA S1 30 (upd (gA S1 30) i (gA S1 6 i)))) rfl trivial ?_
    refine fV.to (L' := [(0, .ref 28), (1, .ref 4), (2, .int (nI m)), (3, .int mo), (4, .int pw), (5, .int (nI (i + 1)))]) rfl (by rw [nI_1]) rfl rfl (kk _ (bgI_n hI (fun z => by first | exact c36 ((bt_y hm hi).mpr z) | exact absurd (hlt z) (by rw [h6, show (4 : Int32) = nI 4 from rfl, nI_leI (by omega) (by omega)] at c44; omega))))
  · refine fV.run iX0_begin_39_3 oX0_begin_39_3 (pc' := 44) (L' := [(0, .ref 28), (1, .ref 4), (2, .int (nI m)), (3, .int mo), (4, .int pw), (5, .int (nI i))]) (st' := [.int 4, .int (gI S1 28 6)]) (S' := (wA S1 30 (upd (gA S1 30) i (gA S1 6 i)))) rfl trivial ?_
    refine fV.icmp_ge bX0_begin_44 (fun c44 => ?_) (fun c44 => ?_)
    · refine fV.run iX0_begin_68_2 oX0_begin_68_2 (pc' := 8) (L' := [(0, .ref 28), (1, .ref 4), (2, .int (nI m)), (3, .int mo), (4, .int pw), (5, .int ((nI i) + 1))]) (st' := []) (S' := (wA S1 30 (upd (gA S1 30) i (gA S1 6 i)))) rfl trivial ?_
      refine fV.to (L' := [(0, .ref 28), (1, .ref 4), (2, .int (nI m)), (3, .int mo), (4, .int pw), (5, .int (nI (i + 1)))]) rfl (by rw [nI_1]) rfl rfl (kk _ (bgI_n hI (fun z => by first | exact c36 ((bt_y hm hi).mpr z) | exact absurd (hlt z) (by rw [h6, show (4 : Int32) = nI 4 from rfl, nI_leI (by omega) (by omega)] at c44; omega))))
    · refine fV.run iX0_begin_47_14 oX0_begin_47_14 (pc' := 8) (L' := [(0, .ref 28), (1, .ref 4), (2, .int (nI m)), (3, .int mo), (4, .int pw), (5, .int ((nI i) + 1))]) (st' := []) (S' := (wI (wA (wA S1 30 (upd (gA S1 30) i (gA S1 6 i))) 29 (upd (gA S1 29) (gI S1 28 6).toNatClampNeg (nI i))) 28 6 ((gI S1 28 6) + 1))) (P := vp_in (gI S1 28 6) 4 ∧ True) rfl ⟨(by rw [h6]; exact vp_in_nI (by rw [h6, show (4 : Int32) = nI 4 from rfl, nI_leI (by omega) (by omega)] at c44; omega) (by decide)), trivial⟩ ?_
      refine fV.to (L' := [(0, .ref 28), (1, .ref 4), (2, .int (nI m)), (3, .int mo), (4, .int pw), (5, .int (nI (i + 1)))]) (S' := wI (wA (wA S1 30 (upd (gA S1 30) i (gA S1 6 i))) 29 (upd (gA S1 29) (wsU m i).length (nI i))) 28 6 (nI ((wsU m i).length + 1))) rfl (by rw [nI_1]) rfl (by rw [h6, nI_clamp (by omega), nI_1]) (kk _ (bgI_y hI ((bt_y hm hi).mp (by grind))))
set_option maxRecDepth 100000 in
theorem lpX0_begin {G : fG} {d : Nat} {S : fS} {m : Nat} {mo pw : Int32} (hm : m < 65536) (h4 : (wsU m 16).length ≤ 4) : ∀ (u i : Nat) (S1 : fS), i + u = 16 → bgI S S1 m i → fV G mX0_begin (fZm G d (fun r S' => r = none ∧ bgE S S' m mo pw)) 8 [(0, .ref 28), (1, .ref 4), (2, .int (nI m)), (3, .int mo), (4, .int pw), (5, .int (nI i))] [] S1 := by
  intro u
  induction u with
  | zero =>
    intro i S1 hu hI
    refine fV.run iX0_begin_8_2 oX0_begin_8_2 (pc' := 12) (L' := [(0, .ref 28), (1, .ref 4), (2, .int (nI m)), (3, .int mo), (4, .int pw), (5, .int (nI i))]) (st' := [.int 16, .int (nI i)]) (S' := S1) rfl trivial ?_
    refine fV.icmp_ge bX0_begin_12 (fun c12 => ?_) (fun c12 => ?_)
    · refine fV.run iX0_begin_74_9 oX0_begin_74_9 (pc' := 90) (L' := [(0, .ref 28), (1, .ref 4), (2, .int (nI m)), (3, .int mo), (4, .int pw), (5, .int (nI i))]) (st' := []) (S' := (wI (wI (wI S1 28 7 mo) 28 8 pw) 28 9 0)) (P := (0 = 0 ∨ 0 = 1) ∧ True) rfl ⟨(by decide), trivial⟩ ?_
      exact fV.vret rfl dX0_begin_90 ⟨rfl, by rw [show i = 16 by omega] at hI; exact hI, rfl, rfl, rfl⟩
    · exact absurd c12 (by rw [show (16 : Int32) = nI 16 from rfl, nI_leI (by omega) (by omega)]; omega)
  | succ u ih =>
    intro i S1 hu hI
    refine fV.run iX0_begin_8_2 oX0_begin_8_2 (pc' := 12) (L' := [(0, .ref 28), (1, .ref 4), (2, .int (nI m)), (3, .int mo), (4, .int pw), (5, .int (nI i))]) (st' := [.int 16, .int (nI i)]) (S' := S1) rfl trivial ?_
    refine fV.icmp_ge bX0_begin_12 (fun c12 => ?_) (fun c12 => ?_)
    · exact absurd c12 (by rw [show (16 : Int32) = nI 16 from rfl, nI_leI (by omega) (by omega)]; omega)
    · refine fV.run iX0_begin_15_8 oX0_begin_15_8 (pc' := 29) (L' := [(0, .ref 28), (1, .ref 4), (2, .int (nI m)), (3, .int mo), (4, .int pw), (5, .int (nI i))]) (st' := []) (S' := (wA S1 30 (upd (gA S1 30) (nI i).toNatClampNeg (gA S1 6 (nI i).toNatClampNeg)))) (P := vp_in (nI i) 16 ∧ vp_in (nI i) 16 ∧ True) rfl ⟨(vp_in_nI (by omega) (by decide)), (vp_in_nI (by omega) (by decide)), trivial⟩ ?_
      refine fV.to (S' := (wA S1 30 (upd (gA S1 30) i (gA S1 6 i)))) rfl rfl rfl (by rw [nI_clamp (by omega)]) ?_
      exact bgX0 hm h4 hI (by omega) (fun S2 h2 => ih (i + 1) S2 (by omega) h2)
def iX0_begin_0_5 : List Instr := [.aload_n 0, .iconst 0, .putfield 31, .iconst 0, .istore 5]
theorem oX0_begin_0_5 : fOkB cX0_begin 0 iX0_begin_0_5 = true := by decide +kernel
set_option maxRecDepth 100000 in
theorem qX0_begin {G : fG} {d : Nat} {S : fS} {m : Nat} {mo pw : Int32} (hm : m < 65536) (h4 : (wsU m 16).length ≤ 4)  : fCtr G (d) mX0_begin [.ref 28, .ref 4, .int (nI m), .int mo, .int pw] S (fun r S' => r = none ∧ bgE S S' m mo pw) := by
  refine fCtr.of bXX0_begin (Nat.le_of_ble_eq_true rfl) rfl ?_
  refine fV.run iX0_begin_0_5 oX0_begin_0_5 (pc' := 8) (L' := [(0, .ref 28), (1, .ref 4), (2, .int (nI m)), (3, .int mo), (4, .int pw), (5, .int 0)]) (st' := []) (S' := (wI S 28 6 0)) rfl trivial ?_
  exact lpX0_begin hm h4 16 0 _ (by omega) ⟨⟨⟨rfl, rfl, rfl, rfl, rfl, rfl⟩, rfl, rfl, rfl, rfl⟩, ⟨rfl, fun k hk => absurd hk (by simp [wsU])⟩, fun j hj => absurd hj (by omega)⟩
def iX0_groupOf_23_3 : List Instr := [.iload 6, .aload_n 0, .getfield 31]
theorem oX0_groupOf_23_3 : fOkB cX0_groupOf 23 iX0_groupOf_23_3 = true := by decide +kernel
theorem bX0_groupOf_29 : fBk cX0_groupOf 29 (.if_icmp .ge) 55 := ⟨26, by decide +kernel, by decide⟩
def iX0_groupOf_32_4 : List Instr := [.aload_n 0, .getfield 9, .iload 6, .iaload]
theorem oX0_groupOf_32_4 : fOkB cX0_groupOf 32 iX0_groupOf_32_4 = true := by decide +kernel
def iX0_groupOf_39_1 : List Instr := [.iload 5]
theorem oX0_groupOf_39_1 : fOkB cX0_groupOf 39 iX0_groupOf_39_1 = true := by decide +kernel
theorem bX0_groupOf_41 : fBk cX0_groupOf 41 (.if_icmp .ne) 49 := ⟨8, by decide +kernel, by decide⟩
def iX0_groupOf_49_2 : List Instr := [.iinc 6 1, .goto (-29)]
theorem oX0_groupOf_49_2 : fOkB cX0_groupOf 49 iX0_groupOf_49_2 = true := by decide +kernel
def iX0_groupOf_44_6 : List Instr := [.iload 6, .iconst 1, .iadd, .istore_n 3, .iinc 6 1, .goto (-29)]
theorem oX0_groupOf_44_6 : fOkB cX0_groupOf 44 iX0_groupOf_44_6 = true := by decide +kernel
set_option maxRecDepth 100000 in
theorem lpX0_gin {G : fG} {d : Nat} {S : fS} {n t : Nat} {x : pTh} {ws : List Nat} (hW : cxW S ws) (h4 : ws.length ≤ 4) : ∀ (u k la : Nat), k + u = ws.length → la ≤ k → fV G mX0_groupOf (fZm G (d + 1) (fun r S' => r = some (.int (nI (gr3 ws x))) ∧ S' = S)) 55 [(0, .ref 28), (1, .ref 24), (2, .int (nI n)), (3, .int (nI (gin ws (wOf x.1 t) u k la))), (4, .int (nI t)), (5, .int (wOf x.1 t)), (6, .int (nI ws.length))] [] S → fV G mX0_groupOf (fZm G (d + 1) (fun r S' => r = some (.int (nI (gr3 ws x))) ∧ S' = S)) 23 [(0, .ref 28), (1, .ref 24), (2, .int (nI n)), (3, .int (nI la)), (4, .int (nI t)), (5, .int (wOf x.1 t)), (6, .int (nI k))] [] S := by
  intro u
  induction u with
  | zero =>
    intro k la hu hla kk
    refine fV.run iX0_groupOf_23_3 oX0_groupOf_23_3 (pc' := 29) (L' := [(0, .ref 28), (1, .ref 24), (2, .int (nI n)), (3, .int (nI la)), (4, .int (nI t)), (5, .int (wOf x.1 t)), (6, .int (nI k))]) (st' := [.int (gI S 28 6), .int (nI k)]) (S' := S) rfl trivial ?_
    refine fV.icmp_ge bX0_groupOf_29 (fun c29 => ?_) (fun c29 => ?_)
    · obtain rfl : k = ws.length := by omega
      exact kk
    · exact absurd c29 (by rw [hW.1, nI_leI (by omega) (by omega)]; omega)
  | succ u ih =>
    intro k la hu hla kk
    refine fV.run iX0_groupOf_23_3 oX0_groupOf_23_3 (pc' := 29) (L' := [(0, .ref 28), (1, .ref 24), (2, .int (nI n)), (3, .int (nI la)), (4, .int (nI t)), (5, .int (wOf x.1 t)), (6, .int (nI k))]) (st' := [.int (gI S 28 6), .int (nI k)]) (S' := S) rfl trivial ?_
    refine fV.icmp_ge bX0_groupOf_29 (fun c29 => ?_) (fun c29 => ?_)
    · exact absurd c29 (by rw [hW.1, nI_leI (by omega) (by omega)]; omega)
    · refine fV.run iX0_groupOf_32_4 oX0_groupOf_32_4 (pc' := 39) (L' := [(0, .ref 28), (1, .ref 24), (2, .int (nI n)), (3, .int (nI la)), (4, .int (nI t)), (5, .int (wOf x.1 t)), (6, .int (nI k))]) (st' := [.int (gA S 29 (nI k).toNatClampNeg)]) (S' := S) (P := vp_in (nI k) 4 ∧ True) rfl ⟨(vp_in_nI (by omega) (by decide)), trivial⟩ ?_
      refine fV.to (L' := [(0, .ref 28), (1, .ref 24), (2, .int (nI n)), (3, .int (nI la)), (4, .int (nI t)), (5, .int (wOf x.1 t)), (6, .int (nI k))]) (st' := [.int (nI (fnL ws k))]) rfl rfl (by rw [show (gA S 29 (nI k).toNatClampNeg : Int32) = nI (fnL ws k) from by rw [nI_clamp (by omega)]; exact hW.2 k (by omega)]) rfl ?_
      refine fV.run iX0_groupOf_39_1 oX0_groupOf_39_1 (pc' := 41) (L' := [(0, .ref 28), (1, .ref 24), (2, .int (nI n)), (3, .int (nI la)), (4, .int (nI t)), (5, .int (wOf x.1 t)), (6, .int (nI k))]) (st' := [.int (wOf x.1 t), .int (nI (fnL ws k))]) (S' := S) rfl trivial ?_
      refine fV.icmp_ne bX0_groupOf_41 (fun c41 => ?_) (fun c41 => ?_)
      · refine fV.run iX0_groupOf_49_2 oX0_groupOf_49_2 (pc' := 23) (L' := [(0, .ref 28), (1, .ref 24), (2, .int (nI n)), (3, .int (nI la)), (4, .int (nI t)), (5, .int (wOf x.1 t)), (6, .int ((nI k) + 1))]) (st' := []) (S' := S) rfl trivial ?_
        refine fV.to (L' := [(0, .ref 28), (1, .ref 24), (2, .int (nI n)), (3, .int (nI la)), (4, .int (nI t)), (5, .int (wOf x.1 t)), (6, .int (nI (k + 1)))]) rfl (by rw [nI_1]) rfl rfl (ih (k + 1) la (by omega) (by omega) (by rw [show gin ws (wOf x.1 t) (u + 1) k la = gin ws (wOf x.1 t) u (k + 1) (if nI (fnL ws k) = wOf x.1 t then k + 1 else la) from rfl, if_neg (by grind)] at kk; exact kk))
      · refine fV.run iX0_groupOf_44_6 oX0_groupOf_44_6 (pc' := 23) (L' := [(0, .ref 28), (1, .ref 24), (2, .int (nI n)), (3, .int ((nI k) + 1)), (4, .int (nI t)), (5, .int (wOf x.1 t)), (6, .int ((nI k) + 1))]) (st' := []) (S' := S) rfl trivial ?_
        refine fV.to (L' := [(0, .ref 28), (1, .ref 24), (2, .int (nI n)), (3, .int (nI (k + 1))), (4, .int (nI t)), (5, .int (wOf x.1 t)), (6, .int (nI (k + 1)))]) rfl (by rw [nI_1]) rfl rfl (ih (k + 1) (k + 1) (by omega) (by omega) (by rw [show gin ws (wOf x.1 t) (u + 1) k la = gin ws (wOf x.1 t) u (k + 1) (if nI (fnL ws k) = wOf x.1 t then k + 1 else la) from rfl, if_pos (by grind)] at kk; exact kk))
def iX0_groupOf_5_2 : List Instr := [.iload 4, .iconst 3]
theorem oX0_groupOf_5_2 : fOkB cX0_groupOf 5 iX0_groupOf_5_2 = true := by decide +kernel
theorem bX0_groupOf_8 : fBk cX0_groupOf 8 (.if_icmp .ge) 61 := ⟨53, by decide +kernel, by decide⟩
def iX0_groupOf_61_1 : List Instr := [.iload_n 3]
theorem oX0_groupOf_61_1 : fOkB cX0_groupOf 61 iX0_groupOf_61_1 = true := by decide +kernel
theorem dX0_groupOf_62 : decode cX0_groupOf 62 = .ok (.ireturn, 1) := by decide +kernel
def iX0_groupOf_11_3 : List Instr := [.aload_n 1, .iload_n 2, .iload 4]
theorem oX0_groupOf_11_3 : fOkB cX0_groupOf 11 iX0_groupOf_11_3 = true := by decide +kernel
set_option maxRecDepth 100000 in
theorem lX0_66 : Cond.methodLink RX0 66 yX1_wallOf ∈ fTB := fTB_at 597 rfl rfl
theorem dX0_groupOf_15 : decode cX0_groupOf 15 = .ok (.invokevirtual 66, 3) := by decide +kernel
def iX0_groupOf_18_3 : List Instr := [.istore 5, .iload_n 3, .istore 6]
theorem oX0_groupOf_18_3 : fOkB cX0_groupOf 18 iX0_groupOf_18_3 = true := by decide +kernel
def iX0_groupOf_55_2 : List Instr := [.iinc 4 1, .goto (-53)]
theorem oX0_groupOf_55_2 : fOkB cX0_groupOf 55 iX0_groupOf_55_2 = true := by decide +kernel
set_option maxRecDepth 100000 in
theorem lpX0_gO {G : fG} {d : Nat} {S : fS} {b n : Nat} {PL : List pTh} {x : pTh} {ws : List Nat} (hb : b ≤ 16) (F : fdOk S PL) (hp : plOk b PL) (hx : PL[n]? = some x) (hW : cxW S ws) (h4 : ws.length ≤ 4) : ∀ (u t : Nat), t + u = 3 → fV G mX0_groupOf (fZm G (d + 1) (fun r S' => r = some (.int (nI (gr3 ws x))) ∧ S' = S)) 5 [(0, .ref 28), (1, .ref 24), (2, .int (nI n)), (3, .int (nI (gO ws x.1 t))), (4, .int (nI t))] [] S := by
  intro u
  induction u with
  | zero =>
    intro t ht
    refine fV.run iX0_groupOf_5_2 oX0_groupOf_5_2 (pc' := 8) (L' := [(0, .ref 28), (1, .ref 24), (2, .int (nI n)), (3, .int (nI (gO ws x.1 t))), (4, .int (nI t))]) (st' := [.int 3, .int (nI t)]) (S' := S) rfl trivial ?_
    refine fV.icmp_ge bX0_groupOf_8 (fun c8 => ?_) (fun c8 => ?_)
    · refine fV.run iX0_groupOf_61_1 oX0_groupOf_61_1 (pc' := 62) (L' := [(0, .ref 28), (1, .ref 24), (2, .int (nI n)), (3, .int (nI (gO ws x.1 t))), (4, .int (nI t))]) (st' := [.int (nI (gO ws x.1 t))]) (S' := S) rfl trivial ?_
      exact fV.iret rfl dX0_groupOf_62 ⟨by rw [show t = 3 by omega]; rfl, rfl⟩
    · exact absurd c8 (by rw [show (3 : Int32) = nI 3 from rfl, nI_leI (by omega) (by omega)]; omega)
  | succ u ih =>
    intro t ht
    refine fV.run iX0_groupOf_5_2 oX0_groupOf_5_2 (pc' := 8) (L' := [(0, .ref 28), (1, .ref 24), (2, .int (nI n)), (3, .int (nI (gO ws x.1 t))), (4, .int (nI t))]) (st' := [.int 3, .int (nI t)]) (S' := S) rfl trivial ?_
    refine fV.icmp_ge bX0_groupOf_8 (fun c8 => ?_) (fun c8 => ?_)
    · exact absurd c8 (by rw [show (3 : Int32) = nI 3 from rfl, nI_leI (by omega) (by omega)]; omega)
    · refine fV.run iX0_groupOf_11_3 oX0_groupOf_11_3 (pc' := 15) (L' := [(0, .ref 28), (1, .ref 24), (2, .int (nI n)), (3, .int (nI (gO ws x.1 t))), (4, .int (nI t))]) (st' := [.int (nI t), .int (nI n), .ref 24]) (S' := S) rfl trivial ?_
      refine fV.callV (M2 := mX1_wallOf) (d := d) (o := 24) (av := [.int (nI n), .int (nI t)]) (rest := []) kX1_wallOf dX0_groupOf_15 lX0_66 rfl rfl rfl (Nat.le_of_ble_eq_true rfl) (fRoom (by decide)) ⟨Nat.le_refl _, Nat.le_refl _⟩ (qX1_wallOf (t := t) hb F hp hx (by omega)) ?_
      rintro _ S9 ⟨rfl, h9⟩
      rw [h9]
      clear h9 S9
      refine fV.to (pc' := 18) (L' := [(0, .ref 28), (1, .ref 24), (2, .int (nI n)), (3, .int (nI (gO ws x.1 t))), (4, .int (nI t))]) (st' := [.int (wOf x.1 t)]) (S' := S) rfl rfl rfl rfl ?_
      refine fV.run iX0_groupOf_18_3 oX0_groupOf_18_3 (pc' := 23) (L' := [(0, .ref 28), (1, .ref 24), (2, .int (nI n)), (3, .int (nI (gO ws x.1 t))), (4, .int (nI t)), (5, .int (wOf x.1 t)), (6, .int (nI (gO ws x.1 t)))]) (st' := []) (S' := S) rfl trivial ?_
      exact lpX0_gin hW h4 (ws.length - (gO ws x.1 t)) (gO ws x.1 t) (gO ws x.1 t) (by have := (gO_p (ws := ws) (l := x.1) t).1; omega) (Nat.le_refl _) (by
            refine fV.run iX0_groupOf_55_2 oX0_groupOf_55_2 (pc' := 5) (L' := [(0, .ref 28), (1, .ref 24), (2, .int (nI n)), (3, .int (nI (gin ws (wOf x.1 t) (ws.length - (gO ws x.1 t)) (gO ws x.1 t) (gO ws x.1 t)))), (4, .int ((nI t) + 1)), (5, .int (wOf x.1 t)), (6, .int (nI ws.length))]) (st' := []) (S' := S) rfl trivial ?_
            refine fV.pick (L' := [(0, .ref 28), (1, .ref 24), (2, .int (nI n)), (3, .int (nI (gin ws (wOf x.1 t) (ws.length - (gO ws x.1 t)) (gO ws x.1 t) (gO ws x.1 t)))), (4, .int ((nI t) + 1))]) [0, 1, 2, 3, 4] rfl ?_
            exact fV.to (L' := [(0, .ref 28), (1, .ref 24), (2, .int (nI n)), (3, .int (nI (gO ws x.1 (t + 1)))), (4, .int (nI (t + 1)))]) rfl (by rw [nI_1]; rfl) rfl rfl (ih (t + 1) (by omega)))
def iX0_groupOf_0_4 : List Instr := [.iconst 0, .istore_n 3, .iconst 0, .istore 4]
theorem oX0_groupOf_0_4 : fOkB cX0_groupOf 0 iX0_groupOf_0_4 = true := by decide +kernel
set_option maxRecDepth 100000 in
theorem qX0_groupOf {G : fG} {d : Nat} {S : fS} {b n : Nat} {PL : List pTh} {x : pTh} {ws : List Nat} (hb : b ≤ 16) (F : fdOk S PL) (hp : plOk b PL) (hx : PL[n]? = some x) (hW : cxW S ws) (h4 : ws.length ≤ 4)  : fCtr G (d + 1) mX0_groupOf [.ref 28, .ref 24, .int (nI n)] S (fun r S' => r = some (.int (nI (gr3 ws x))) ∧ S' = S) := by
  refine fCtr.of bXX0_groupOf (Nat.le_of_ble_eq_true rfl) rfl ?_
  refine fV.run iX0_groupOf_0_4 oX0_groupOf_0_4 (pc' := 5) (L' := [(0, .ref 28), (1, .ref 24), (2, .int (nI n)), (3, .int 0), (4, .int 0)]) (st' := []) (S' := S) rfl trivial ?_
  exact lpX0_gO hb F hp hx hW h4 3 0 (by omega)

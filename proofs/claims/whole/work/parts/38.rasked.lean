/-! the reference: what is asked of paths and of what is heard -/
def ke (S S' : fS) : Prop := hD S' = hD S ∧ S'.1 = S.1
theorem ke.rf {S : fS} : ke S S := ⟨rfl, rfl⟩
theorem ke.tr {S S1 S2 : fS} (h : ke S S1) (h2 : ke S1 S2) : ke S S2 := ⟨h2.1.trans h.1, h2.2.trans h.2⟩
theorem fnd8 {S S9 : fS} {a b c e si ei : Nat} (H : hOk (hD S) a b c e) (hsi : si < c) (hei : ei < e) (hk : ke S S9) {lo n : Nat} (hl : lo + n ≤ 4) : plOk b (plR (gA S 38) b (hSrc (hD S) si) (hSeat (hD S) ei) lo n) ∧ plSq (plR (gA S 38) b (hSrc (hD S) si) (hSeat (hD S) ei) lo n) ∧ gI S9 35 3 = nI b ∧ (∀ w, w < b → ∃ j, j < 8 ∧ gA S9 39 w = nI j) ∧ gA S9 36 = gA S 36 ∧ gA S9 39 = gA S 39 ∧ gA S9 42 = gA S 42 ∧ gI S9 35 14 = gI S 35 14 ∧ shOk (gA S9 36) (gA S9 39) b ∧ (0 ≤ (gA S9 42 si).toInt ∧ (gA S9 42 si).toInt ≤ 1000) := by
  have e6 : gA S9 39 = gA S 39 := congrArg (fun q => q.2.1.2.2) hk.1
  have e7 : gA S9 36 = gA S 36 := congrArg (fun q => q.1.2.1) hk.1
  have e43 : gA S9 42 = gA S 42 := congrArg (fun q => q.2.2.1.2.2.2) hk.1
  refine ⟨plR_ok hl, plR_sq H (src_ok H hsi) (seat_ok H hei) hl, (congrArg (fun q => q.2.1.1) hk.1).trans H.2.1.1, fun w hw => ?_, e7, e6, e43, congrArg (fun q => q.2.2.2.2.2) hk.1, fun w hw => ?_, ?_⟩
  · obtain ⟨j, hj, ej⟩ := H.stf hw
    exact ⟨j, by have := H.1.2.2.1; omega, by rw [e6]; exact ej⟩
  · obtain ⟨j, hj, ej⟩ := H.stf hw
    have ej : gA S 39 w = nI j := ej
    have a8 := H.1.2.2.1
    obtain ⟨⟨s0, s1⟩, -⟩ := H.1.2.2.2 j hj
    have s0 : 0 ≤ gA S 36 j := s0
    have s1 : gA S 36 j ≤ 100 := s1
    have t0 : (0 : Int32).toInt = 0 := by decide
    have t1 : (100 : Int32).toInt = 100 := by decide
    rw [Int32.le_iff_toInt_le, t0] at s0
    rw [Int32.le_iff_toInt_le, t1] at s1
    rw [e6, e7, ej, nI_clamp (by omega)]
    exact ⟨s0, s1⟩
  · obtain ⟨-, -, p0, p1⟩ := H.2.2.1.2.2 si hsi
    have p0 : 1 ≤ gA S 42 si := p0
    have p1 : gA S 42 si ≤ 1000 := p1
    have t0 : (1 : Int32).toInt = 1 := by decide
    have t1 : (1000 : Int32).toInt = 1000 := by decide
    rw [Int32.le_iff_toInt_le, t0] at p0
    rw [Int32.le_iff_toInt_le, t1] at p1
    rw [e43]
    omega
theorem hvl_2 (E L D : Int64) (ls : Int32) : hvl E L D ls 2 = (clF E L).toInt64 := by
  unfold hvl; rw [if_neg (by decide), if_neg (by decide), if_pos rfl]
theorem pth_outG {x : Int32} {n : Nat} {i : Int32} (hF : x = nI n) (hn : n ≤ 3857) (h0 : 0 ≤ i) (h : ¬ (0 ≤ i ∧ i ≤ x - 1)) : n ≤ i.toNatClampNeg := by
  rcases Nat.lt_or_ge i.toNatClampNeg n with q | q
  · exfalso
    apply h
    refine ⟨h0, ?_⟩
    have e := nclamp h0
    rw [← e, hF]
    obtain ⟨m, rfl⟩ : ∃ m, n = m + 1 := ⟨n - 1, by omega⟩
    rw [nI_pred]
    exact (nI_leI (by omega) (by omega)).mpr (by omega)
  · exact q
theorem wst_nn (h : hH) (b s : Nat) : ∀ k, k ≤ 8 → (wst h b s k).1 = -1 ∨ 0 ≤ (wst h b s k).1
  | 0, _ => Or.inl rfl
  | k + 1, hk => by
    simp only [wst]
    split
    · exact Or.inr (nI_pos' (by omega))
    · exact wst_nn h b s k (by omega)
def iX8_heard_0_3 : List Instr := [.aload_n 0, .iload_n 1, .iload_n 2]
theorem oX8_heard_0_3 : fOkB cX8_heard 0 iX8_heard_0_3 = true := by decide +kernel
set_option maxRecDepth 100000 in
theorem lX8_201 : Cond.methodLink RX8 201 yX8_areThere ∈ fTB := fTB_at 796 rfl rfl
theorem dX8_heard_3 : decode cX8_heard 3 = .ok (.invokevirtual 201, 3) := by decide +kernel
theorem bX8_heard_6 : fBk cX8_heard 6 (.ifCond .ne) 13 := ⟨7, by decide +kernel, by decide⟩
def iX8_heard_13_4 : List Instr := [.iload_n 3, .i2l, .lconst 0, .ldc2_w 226]
theorem oX8_heard_13_4 : fOkB cX8_heard 13 iX8_heard_13_4 = true := by decide +kernel
theorem dX8_heard_19 : decode cX8_heard 19 = .ok (.invokestatic 83, 3) := by decide +kernel
theorem bX8_heard_22 : fBk cX8_heard 22 (.ifCond .ne) 29 := ⟨7, by decide +kernel, by decide⟩
def iX8_heard_29_3 : List Instr := [.aload_n 0, .iload_n 1, .iload_n 2]
theorem oX8_heard_29_3 : fOkB cX8_heard 29 iX8_heard_29_3 = true := by decide +kernel
set_option maxRecDepth 100000 in
theorem lX8_206 : Cond.methodLink RX8 206 yX8_findPaths ∈ fTB := fTB_at 801 rfl rfl
theorem dX8_heard_32 : decode cX8_heard 32 = .ok (.invokevirtual 206, 3) := by decide +kernel
def iX8_heard_35_3 : List Instr := [.aload_n 0, .iload_n 1, .iload_n 3]
theorem oX8_heard_35_3 : fOkB cX8_heard 35 iX8_heard_35_3 = true := by decide +kernel
set_option maxRecDepth 100000 in
theorem lX8_228 : Cond.methodLink RX8 228 yX8_heardBy ∈ fTB := fTB_at 885 rfl rfl
theorem dX8_heard_38 : decode cX8_heard 38 = .ok (.invokevirtual 228, 3) := by decide +kernel
theorem dX8_heard_41 : decode cX8_heard 41 = .ok (.lreturn, 1) := by decide +kernel
def iX8_heard_25_1 : List Instr := [.ldc2_w 214]
theorem oX8_heard_25_1 : fOkB cX8_heard 25 iX8_heard_25_1 = true := by decide +kernel
theorem dX8_heard_28 : decode cX8_heard 28 = .ok (.lreturn, 1) := by decide +kernel
def iX8_heard_9_1 : List Instr := [.ldc2_w 210]
theorem oX8_heard_9_1 : fOkB cX8_heard 9 iX8_heard_9_1 = true := by decide +kernel
theorem dX8_heard_12 : decode cX8_heard 12 = .ok (.lreturn, 1) := by decide +kernel
set_option maxRecDepth 100000 in
theorem qX8_heard {G : fG} {d : Nat} {S : fS} (x y t : Int32) {a b c e : Nat} (H : hOk (hD S) a b c e) : fCtr G (d + 10) mX8_heard [.ref 35, .int x, .int y, .int t] S (fun r S' => r = some (.long (oHeard (hD S) b x y t)) ∧ ke S S') := by
  refine fCtr.of bXX8_heard (Nat.le_of_ble_eq_true rfl) rfl ?_
  have hb16 : b ≤ 16 := H.2.1.2.1
  have ha8 : a ≤ 8 := H.1.2.2.1
  have hc4 : c ≤ 4 := H.2.2.1.2.1
  have he8 : e ≤ 8 := H.2.2.2.1.2.1
  have ho0 : 0 ≤ gI S 35 6 := by rw [show gI S 35 6 = nI c from H.2.2.1.1]; exact nI_pos' (by omega)
  have he0 : 0 ≤ gI S 35 10 := by rw [show gI S 35 10 = nI e from H.2.2.2.1.1]; exact nI_pos' (by omega)
  have hw0 : 0 ≤ gI S 35 3 := by rw [show gI S 35 3 = nI b from H.2.1.1]; exact nI_pos' (by omega)
  have hm3 : gI S 35 13 ≤ 3 := H.2.2.2.2.1.2
  have hm := most_N (m := gI S 35 13) H.2.2.2.2.1.1 hm3
  refine fV.run iX8_heard_0_3 oX8_heard_0_3 (pc' := 3) (L' := [(0, .ref 35), (1, .int x), (2, .int y), (3, .int t)]) (st' := [.int y, .int x, .ref 35]) (S' := S) rfl trivial ?_
  refine fV.callV (M2 := mX8_areThere) (d := d + 9) (o := 35) (av := [.int x, .int y]) (rest := []) kX8_areThere dX8_heard_3 lX8_201 rfl rfl rfl (Nat.le_of_ble_eq_true rfl) (fRoom (by decide)) ⟨Nat.le_refl _, Nat.le_refl _⟩ (qX8_areThere _ _ ho0 he0) ?_
  rintro _ S9 ⟨rfl, h9⟩
  rw [h9]
  clear h9 S9
  refine fV.to (pc' := 6) (L' := [(0, .ref 35), (1, .int x), (2, .int y), (3, .int t)]) (st' := [.int (fB (decide ((0 ≤ x ∧ x < (gI S 35 6)) ∧ (0 ≤ y ∧ y < (gI S 35 10)))))]) (S' := S) rfl rfl rfl rfl ?_
  refine fV.if_ne bX8_heard_6 (fun c6 => ?_) (fun c6 => ?_)
  · refine fV.run iX8_heard_13_4 oX8_heard_13_4 (pc' := 19) (L' := [(0, .ref 35), (1, .int x), (2, .int y), (3, .int t)]) (st' := [.long 4, .long 0, .long (Int32.toInt64 t)]) (S' := S) rfl trivial ?_
    refine fV.callS (M2 := mX8_in) (d := d + 9) (av := [.long (Int32.toInt64 t), .long 0, .long 4]) (rest := []) kX8_in dX8_heard_19 lX8_83 rfl rfl (Nat.le_of_ble_eq_true rfl) (fRoom (by decide)) ⟨Nat.le_refl _, Nat.le_refl _⟩ (qX8_inP _ _ _ (P := 0 ≤ t ∧ t ≤ 4) (and_congr (w_geN (by decide) _) (w_leN (by decide) _))) ?_
    rintro _ S9 ⟨rfl, h9⟩
    rw [h9]
    clear h9 S9
    refine fV.to (pc' := 22) (L' := [(0, .ref 35), (1, .int x), (2, .int y), (3, .int t)]) (st' := [.int (fB (decide (0 ≤ t ∧ t ≤ 4)))]) (S' := S) rfl rfl rfl rfl ?_
    refine fV.if_ne bX8_heard_22 (fun c22 => ?_) (fun c22 => ?_)
    · refine fV.run iX8_heard_29_3 oX8_heard_29_3 (pc' := 32) (L' := [(0, .ref 35), (1, .int x), (2, .int y), (3, .int t)]) (st' := [.int y, .int x, .ref 35]) (S' := S) rfl trivial ?_
      obtain ⟨si, hsi, rfl⟩ := n_in (x := x) (n := c) (by omega) (by grind [fB]) (by rw [← show gI S 35 6 = nI c from H.2.2.1.1]; grind [fB])
      obtain ⟨ei, hei, rfl⟩ := n_in (x := y) (n := e) (by omega) (by grind [fB]) (by rw [← show gI S 35 10 = nI e from H.2.2.2.1.1]; grind [fB])
      refine fV.callV (M2 := mX8_findPaths) (d := d + 9) (o := 35) (av := [.int (nI si), .int (nI ei)]) (rest := []) kX8_findPaths dX8_heard_32 lX8_206 rfl rfl rfl (Nat.le_of_ble_eq_true rfl) (fRoom (by decide)) ⟨Nat.le_refl _, Nat.le_refl _⟩ (qX8_find (N := (gI S 35 13).toNatClampNeg + 1) H hsi hei (by omega) (by have := hm.1; rwa [Nat.zero_add] at this) hm.2.2 hm3) ?_
      rintro _ S9 ⟨rfl, hk9, hF9⟩
      obtain ⟨hp9, hq9, w39, hsf9, e37, e40, e43, ebo, hsh9, hpw9⟩ := fnd8 (lo := 0) (n := (gI S 35 13).toNatClampNeg + 1) H hsi hei hk9 (by omega)
      refine fV.to (pc' := 35) (L' := [(0, .ref 35), (1, .int (nI si)), (2, .int (nI ei)), (3, .int t)]) (st' := []) (S' := S9) rfl rfl rfl rfl ?_
      refine fV.run iX8_heard_35_3 oX8_heard_35_3 (pc' := 38) (L' := [(0, .ref 35), (1, .int (nI si)), (2, .int (nI ei)), (3, .int t)]) (st' := [.int t, .int (nI si), .ref 35]) (S' := S9) rfl trivial ?_
      refine fV.callV (M2 := mX8_heardBy) (d := d + 9) (o := 35) (av := [.int (nI si), .int t]) (rest := []) kX8_heardBy dX8_heard_38 lX8_228 rfl rfl rfl (Nat.le_of_ble_eq_true rfl) (fRoom (by decide)) ⟨Nat.le_refl _, Nat.le_refl _⟩ (qX8_heardBy (S := S9) hb16 w39 hF9 hp9 hq9 (by omega) hsf9 hsh9 hpw9) ?_
      rintro _ S8 ⟨rfl, h9⟩
      rw [h9, e37, e40, e43, ebo]
      clear h9 S8
      refine fV.to (pc' := 41) (L' := [(0, .ref 35), (1, .int (nI si)), (2, .int (nI ei)), (3, .int t)]) (st' := [.long (hrd (hD S) b si ei t)]) (S' := S9) rfl rfl rfl rfl ?_
      exact fV.lret rfl dX8_heard_41 ⟨by unfold oHeard; rw [if_pos (show thr (hD S) (nI si) (nI ei) from ⟨⟨nI_pos' (by omega), by rw [show (hD S).2.2.1.1 = nI c from H.2.2.1.1, nI_ltI (by omega) (by omega)]; exact hsi⟩, nI_pos' (by omega), by rw [show (hD S).2.2.2.1.1 = nI e from H.2.2.2.1.1, nI_ltI (by omega) (by omega)]; exact hei⟩), if_pos (by grind [fB]), nI_clamp (by omega), nI_clamp (by omega)], hk9⟩
    · refine fV.run iX8_heard_25_1 oX8_heard_25_1 (pc' := 28) (L' := [(0, .ref 35), (1, .int x), (2, .int y), (3, .int t)]) (st' := [.long (-1002)]) (S' := S) rfl trivial ?_
      exact fV.lret rfl dX8_heard_28 ⟨by unfold oHeard; rw [if_pos (show thr (hD S) x y from by unfold thr; grind [fB, hD]), if_neg (by grind [fB])], ke.rf⟩
  · refine fV.run iX8_heard_9_1 oX8_heard_9_1 (pc' := 12) (L' := [(0, .ref 35), (1, .int x), (2, .int y), (3, .int t)]) (st' := [.long (-1001)]) (S' := S) rfl trivial ?_
    exact fV.lret rfl dX8_heard_12 ⟨by unfold oHeard; rw [if_neg (show ¬ thr (hD S) x y from by unfold thr; grind [fB, hD])], ke.rf⟩
def iX8_paths_0_3 : List Instr := [.aload_n 0, .iload_n 1, .iload_n 2]
theorem oX8_paths_0_3 : fOkB cX8_paths 0 iX8_paths_0_3 = true := by decide +kernel
theorem dX8_paths_3 : decode cX8_paths 3 = .ok (.invokevirtual 201, 3) := by decide +kernel
theorem bX8_paths_6 : fBk cX8_paths 6 (.ifCond .ne) 13 := ⟨7, by decide +kernel, by decide⟩
def iX8_paths_13_4 : List Instr := [.iload_n 3, .i2l, .ldc2_w 204, .ldc2_w 115]
theorem oX8_paths_13_4 : fOkB cX8_paths 13 iX8_paths_13_4 = true := by decide +kernel
theorem dX8_paths_21 : decode cX8_paths 21 = .ok (.invokestatic 83, 3) := by decide +kernel
theorem bX8_paths_24 : fBk cX8_paths 24 (.ifCond .ne) 31 := ⟨7, by decide +kernel, by decide⟩
def iX8_paths_31_2 : List Instr := [.iload_n 3, .iconst (-1)]
theorem oX8_paths_31_2 : fOkB cX8_paths 31 iX8_paths_31_2 = true := by decide +kernel
theorem bX8_paths_33 : fBk cX8_paths 33 (.if_icmp .ne) 45 := ⟨12, by decide +kernel, by decide⟩
def iX8_paths_45_7 : List Instr := [.aload_n 0, .iconst 0, .putfield 181, .aload_n 0, .iload_n 1, .iload_n 2, .iload_n 3]
theorem oX8_paths_45_7 : fOkB cX8_paths 45 iX8_paths_45_7 = true := by decide +kernel
theorem dX8_paths_54 : decode cX8_paths 54 = .ok (.invokevirtual 188, 3) := by decide +kernel
def iX8_paths_57_2 : List Instr := [.aload_n 0, .getfield 181]
theorem oX8_paths_57_2 : fOkB cX8_paths 57 iX8_paths_57_2 = true := by decide +kernel
theorem dX8_paths_61 : decode cX8_paths 61 = .ok (.ireturn, 1) := by decide +kernel
def iX8_paths_36_3 : List Instr := [.aload_n 0, .iload_n 1, .iload_n 2]
theorem oX8_paths_36_3 : fOkB cX8_paths 36 iX8_paths_36_3 = true := by decide +kernel
theorem dX8_paths_39 : decode cX8_paths 39 = .ok (.invokevirtual 206, 3) := by decide +kernel
def iX8_paths_42_3 : List Instr := [.goto 15, .aload_n 0, .getfield 181]
theorem oX8_paths_42_3 : fOkB cX8_paths 42 iX8_paths_42_3 = true := by decide +kernel
def iX8_paths_27_1 : List Instr := [.sipush (-1002)]
theorem oX8_paths_27_1 : fOkB cX8_paths 27 iX8_paths_27_1 = true := by decide +kernel
theorem dX8_paths_30 : decode cX8_paths 30 = .ok (.ireturn, 1) := by decide +kernel
def iX8_paths_9_1 : List Instr := [.sipush (-1001)]
theorem oX8_paths_9_1 : fOkB cX8_paths 9 iX8_paths_9_1 = true := by decide +kernel
theorem dX8_paths_12 : decode cX8_paths 12 = .ok (.ireturn, 1) := by decide +kernel
set_option maxRecDepth 100000 in
theorem qX8_paths {G : fG} {d : Nat} {S : fS} (x y k : Int32) {a b c e : Nat} (H : hOk (hD S) a b c e) : fCtr G (d + 10) mX8_paths [.ref 35, .int x, .int y, .int k] S (fun r S' => r = some (.int (oPaths (hD S) b x y k)) ∧ ke S S') := by
  refine fCtr.of bXX8_paths (Nat.le_of_ble_eq_true rfl) rfl ?_
  have hb16 : b ≤ 16 := H.2.1.2.1
  have ha8 : a ≤ 8 := H.1.2.2.1
  have hc4 : c ≤ 4 := H.2.2.1.2.1
  have he8 : e ≤ 8 := H.2.2.2.1.2.1
  have ho0 : 0 ≤ gI S 35 6 := by rw [show gI S 35 6 = nI c from H.2.2.1.1]; exact nI_pos' (by omega)
  have he0 : 0 ≤ gI S 35 10 := by rw [show gI S 35 10 = nI e from H.2.2.2.1.1]; exact nI_pos' (by omega)
  have hw0 : 0 ≤ gI S 35 3 := by rw [show gI S 35 3 = nI b from H.2.1.1]; exact nI_pos' (by omega)
  have hm3 : gI S 35 13 ≤ 3 := H.2.2.2.2.1.2
  have hm := most_N (m := gI S 35 13) H.2.2.2.2.1.1 hm3
  refine fV.run iX8_paths_0_3 oX8_paths_0_3 (pc' := 3) (L' := [(0, .ref 35), (1, .int x), (2, .int y), (3, .int k)]) (st' := [.int y, .int x, .ref 35]) (S' := S) rfl trivial ?_
  refine fV.callV (M2 := mX8_areThere) (d := d + 9) (o := 35) (av := [.int x, .int y]) (rest := []) kX8_areThere dX8_paths_3 lX8_201 rfl rfl rfl (Nat.le_of_ble_eq_true rfl) (fRoom (by decide)) ⟨Nat.le_refl _, Nat.le_refl _⟩ (qX8_areThere _ _ ho0 he0) ?_
  rintro _ S9 ⟨rfl, h9⟩
  rw [h9]
  clear h9 S9
  refine fV.to (pc' := 6) (L' := [(0, .ref 35), (1, .int x), (2, .int y), (3, .int k)]) (st' := [.int (fB (decide ((0 ≤ x ∧ x < (gI S 35 6)) ∧ (0 ≤ y ∧ y < (gI S 35 10)))))]) (S' := S) rfl rfl rfl rfl ?_
  refine fV.if_ne bX8_paths_6 (fun c6 => ?_) (fun c6 => ?_)
  · refine fV.run iX8_paths_13_4 oX8_paths_13_4 (pc' := 21) (L' := [(0, .ref 35), (1, .int x), (2, .int y), (3, .int k)]) (st' := [.long 3, .long (-1), .long (Int32.toInt64 k)]) (S' := S) rfl trivial ?_
    refine fV.callS (M2 := mX8_in) (d := d + 9) (av := [.long (Int32.toInt64 k), .long (-1), .long 3]) (rest := []) kX8_in dX8_paths_21 lX8_83 rfl rfl (Nat.le_of_ble_eq_true rfl) (fRoom (by decide)) ⟨Nat.le_refl _, Nat.le_refl _⟩ (qX8_inP _ _ _ (P := (-1) ≤ k ∧ k ≤ 3) (and_congr (w_geM1 _) (w_leN (by decide) _))) ?_
    rintro _ S9 ⟨rfl, h9⟩
    rw [h9]
    clear h9 S9
    refine fV.to (pc' := 24) (L' := [(0, .ref 35), (1, .int x), (2, .int y), (3, .int k)]) (st' := [.int (fB (decide ((-1) ≤ k ∧ k ≤ 3)))]) (S' := S) rfl rfl rfl rfl ?_
    refine fV.if_ne bX8_paths_24 (fun c24 => ?_) (fun c24 => ?_)
    · refine fV.run iX8_paths_31_2 oX8_paths_31_2 (pc' := 33) (L' := [(0, .ref 35), (1, .int x), (2, .int y), (3, .int k)]) (st' := [.int (-1), .int k]) (S' := S) rfl trivial ?_
      refine fV.icmp_ne bX8_paths_33 (fun c33 => ?_) (fun c33 => ?_)
      · refine fV.run iX8_paths_45_7 oX8_paths_45_7 (pc' := 54) (L' := [(0, .ref 35), (1, .int x), (2, .int y), (3, .int k)]) (st' := [.int k, .int y, .int x, .ref 35]) (S' := (wI S 35 25 0)) rfl trivial ?_
        obtain ⟨si, hsi, rfl⟩ := n_in (x := x) (n := c) (by omega) (by grind [fB]) (by rw [← show gI S 35 6 = nI c from H.2.2.1.1]; grind [fB])
        obtain ⟨ei, hei, rfl⟩ := n_in (x := y) (n := e) (by omega) (by grind [fB]) (by rw [← show gI S 35 10 = nI e from H.2.2.2.1.1]; grind [fB])
        obtain ⟨kk, hkk, rfl⟩ := n_in (x := k) (n := 4) (by omega) (by grind [fB]) (by show k < 4; grind [fB])
        have hkk1 : nI kk ≤ 3 := (nI_leI (b := 3) (by omega) (by decide)).mpr (by omega)
        have hkk0 : 0 ≤ nI kk := nI_pos' (by omega)
        refine fV.callV (M2 := mX8_findOrder) (d := d + 9) (o := 35) (av := [.int (nI si), .int (nI ei), .int (nI kk)]) (rest := []) kX8_findOrder dX8_paths_54 lX8_188 rfl rfl rfl (Nat.le_of_ble_eq_true rfl) (fRoom (by decide)) ⟨Nat.le_refl _, Nat.le_refl _⟩ (qX8_order (S := (wI S 35 25 0)) (k := kk) (PL := []) H hsi hei (by omega) ⟨rfl, by decide, fun i x hx => by simp at hx⟩ (by have h1 := plR_len (en := gA S 38) (src := hSrc (hD S) si) (seat := hSeat (hD S) ei) (lo := kk) hb16 1 (by omega); rw [plR_s] at h1; exact Nat.le_trans h1 (cum_le _))) ?_
        rintro _ S9 ⟨rfl, k9, hF9⟩
        have hk9 : ke S S9 := ⟨k9.1, k9.2.1⟩
        refine fV.to (pc' := 57) (L' := [(0, .ref 35), (1, .int (nI si)), (2, .int (nI ei)), (3, .int (nI kk))]) (st' := []) (S' := S9) rfl rfl rfl rfl ?_
        refine fV.run iX8_paths_57_2 oX8_paths_57_2 (pc' := 61) (L' := [(0, .ref 35), (1, .int (nI si)), (2, .int (nI ei)), (3, .int (nI kk))]) (st' := [.int (gI S9 35 25)]) (S' := S9) rfl trivial ?_
        exact fV.iret rfl dX8_paths_61 ⟨by unfold oPaths; rw [if_pos (show thr (hD S) (nI si) (nI ei) from ⟨⟨nI_pos' (by omega), by rw [show (hD S).2.2.1.1 = nI c from H.2.2.1.1, nI_ltI (by omega) (by omega)]; exact hsi⟩, nI_pos' (by omega), by rw [show (hD S).2.2.2.1.1 = nI e from H.2.2.2.1.1, nI_ltI (by omega) (by omega)]; exact hei⟩), if_pos (by grind [fB]), if_neg (by grind), nI_clamp (by omega), nI_clamp (by omega), nI_clamp (by omega), plR_s]; exact congrArg (fun z => some (Value.int z)) hF9.1, hk9⟩
      · refine fV.run iX8_paths_36_3 oX8_paths_36_3 (pc' := 39) (L' := [(0, .ref 35), (1, .int x), (2, .int y), (3, .int k)]) (st' := [.int y, .int x, .ref 35]) (S' := S) rfl trivial ?_
        obtain ⟨si, hsi, rfl⟩ := n_in (x := x) (n := c) (by omega) (by grind [fB]) (by rw [← show gI S 35 6 = nI c from H.2.2.1.1]; grind [fB])
        obtain ⟨ei, hei, rfl⟩ := n_in (x := y) (n := e) (by omega) (by grind [fB]) (by rw [← show gI S 35 10 = nI e from H.2.2.2.1.1]; grind [fB])
        refine fV.callV (M2 := mX8_findPaths) (d := d + 9) (o := 35) (av := [.int (nI si), .int (nI ei)]) (rest := []) kX8_findPaths dX8_paths_39 lX8_206 rfl rfl rfl (Nat.le_of_ble_eq_true rfl) (fRoom (by decide)) ⟨Nat.le_refl _, Nat.le_refl _⟩ (qX8_find (N := (gI S 35 13).toNatClampNeg + 1) H hsi hei (by omega) (by have := hm.1; rwa [Nat.zero_add] at this) hm.2.2 hm3) ?_
        rintro _ S9 ⟨rfl, hk9, hF9⟩
        obtain ⟨hp9, hq9, w39, hsf9, e37, e40, e43, ebo, hsh9, hpw9⟩ := fnd8 (lo := 0) (n := (gI S 35 13).toNatClampNeg + 1) H hsi hei hk9 (by omega)
        refine fV.to (pc' := 42) (L' := [(0, .ref 35), (1, .int (nI si)), (2, .int (nI ei)), (3, .int k)]) (st' := []) (S' := S9) rfl rfl rfl rfl ?_
        refine fV.run iX8_paths_42_3 oX8_paths_42_3 (pc' := 61) (L' := [(0, .ref 35), (1, .int (nI si)), (2, .int (nI ei)), (3, .int k)]) (st' := [.int (gI S9 35 25)]) (S' := S9) rfl trivial ?_
        exact fV.iret rfl dX8_paths_61 ⟨by unfold oPaths; rw [if_pos (show thr (hD S) (nI si) (nI ei) from ⟨⟨nI_pos' (by omega), by rw [show (hD S).2.2.1.1 = nI c from H.2.2.1.1, nI_ltI (by omega) (by omega)]; exact hsi⟩, nI_pos' (by omega), by rw [show (hD S).2.2.2.1.1 = nI e from H.2.2.2.1.1, nI_ltI (by omega) (by omega)]; exact hei⟩), if_pos (by grind [fB]), if_pos (by grind), nI_clamp (by omega), nI_clamp (by omega)]; exact congrArg (fun z => some (Value.int z)) hF9.1, hk9⟩
    · refine fV.run iX8_paths_27_1 oX8_paths_27_1 (pc' := 30) (L' := [(0, .ref 35), (1, .int x), (2, .int y), (3, .int k)]) (st' := [.int (-1002)]) (S' := S) rfl trivial ?_
      exact fV.iret rfl dX8_paths_30 ⟨by unfold oPaths; rw [if_pos (show thr (hD S) x y from by unfold thr; grind [fB, hD]), if_neg (by grind [fB])], ke.rf⟩
  · refine fV.run iX8_paths_9_1 oX8_paths_9_1 (pc' := 12) (L' := [(0, .ref 35), (1, .int x), (2, .int y), (3, .int k)]) (st' := [.int (-1001)]) (S' := S) rfl trivial ?_
    exact fV.iret rfl dX8_paths_12 ⟨by unfold oPaths; rw [if_neg (show ¬ thr (hD S) x y from by unfold thr; grind [fB, hD])], ke.rf⟩
theorem q6 {q : Int32} (h : ¬ fB (decide (0 ≤ q ∧ q ≤ 6)) = 0) (hx : q.toInt < 0 ∨ 5 < q.toInt) : q = 6 := by
  have h := fBd1.mp h
  have t0 : (0 : Int32).toInt = 0 := by decide
  have t6 : (6 : Int32).toInt = 6 := by decide
  rw [Int32.le_iff_toInt_le, Int32.le_iff_toInt_le, t0, t6] at h
  exact Int32.toInt_inj.mp (by rw [t6]; omega)
def iX8_path_0_3 : List Instr := [.aload_n 0, .iload_n 1, .iload_n 2]
theorem oX8_path_0_3 : fOkB cX8_path 0 iX8_path_0_3 = true := by decide +kernel
theorem dX8_path_3 : decode cX8_path 3 = .ok (.invokevirtual 201, 3) := by decide +kernel
theorem bX8_path_6 : fBk cX8_path 6 (.ifCond .ne) 13 := ⟨7, by decide +kernel, by decide⟩
def iX8_path_13_4 : List Instr := [.iload 4, .i2l, .lconst 0, .ldc2_w 212]
theorem oX8_path_13_4 : fOkB cX8_path 13 iX8_path_13_4 = true := by decide +kernel
theorem dX8_path_20 : decode cX8_path 20 = .ok (.invokestatic 83, 3) := by decide +kernel
theorem bX8_path_23 : fBk cX8_path 23 (.ifCond .ne) 30 := ⟨7, by decide +kernel, by decide⟩
def iX8_path_30_3 : List Instr := [.aload_n 0, .iload_n 1, .iload_n 2]
theorem oX8_path_30_3 : fOkB cX8_path 30 iX8_path_30_3 = true := by decide +kernel
theorem dX8_path_33 : decode cX8_path 33 = .ok (.invokevirtual 206, 3) := by decide +kernel
def iX8_path_36_8 : List Instr := [.iload_n 3, .i2l, .lconst 0, .aload_n 0, .getfield 181, .iconst 1, .isub, .i2l]
theorem oX8_path_36_8 : fOkB cX8_path 36 iX8_path_36_8 = true := by decide +kernel
theorem dX8_path_46 : decode cX8_path 46 = .ok (.invokestatic 83, 3) := by decide +kernel
theorem bX8_path_49 : fBk cX8_path 49 (.ifCond .ne) 56 := ⟨7, by decide +kernel, by decide⟩
def iX8_path_56_1 : List Instr := [.iload 4]
theorem oX8_path_56_1 : fOkB cX8_path 56 iX8_path_56_1 = true := by decide +kernel
theorem dX8_path_58 : decode cX8_path 58 = .ok (.tableswitch 71 0 5 #[38, 46, 46, 46, 57, 64], 38) := by decide +kernel
def iX8_path_96_4 : List Instr := [.aload_n 0, .getfield 69, .iload_n 3, .iaload]
theorem oX8_path_96_4 : fOkB cX8_path 96 iX8_path_96_4 = true := by decide +kernel
def iX8_path_102_1 : List Instr := [.i2l]
theorem oX8_path_102_1 : fOkB cX8_path 102 iX8_path_102_1 = true := by decide +kernel
theorem dX8_path_103 : decode cX8_path 103 = .ok (.lreturn, 1) := by decide +kernel
def iX8_path_104_5 : List Instr := [.aload_n 0, .iload_n 3, .iload 4, .iconst 1, .isub]
theorem oX8_path_104_5 : fOkB cX8_path 104 iX8_path_104_5 = true := by decide +kernel
theorem dX8_path_110 : decode cX8_path 110 = .ok (.invokevirtual 193, 3) := by decide +kernel
def iX8_path_113_1 : List Instr := [.i2l]
theorem oX8_path_113_1 : fOkB cX8_path 113 iX8_path_113_1 = true := by decide +kernel
theorem dX8_path_114 : decode cX8_path 114 = .ok (.lreturn, 1) := by decide +kernel
def iX8_path_115_4 : List Instr := [.aload_n 0, .getfield 72, .iload_n 3, .laload]
theorem oX8_path_115_4 : fOkB cX8_path 115 iX8_path_115_4 = true := by decide +kernel
theorem dX8_path_121 : decode cX8_path 121 = .ok (.lreturn, 1) := by decide +kernel
def iX8_path_122_3 : List Instr := [.aload_n 0, .iload_n 1, .iload_n 3]
theorem oX8_path_122_3 : fOkB cX8_path 122 iX8_path_122_3 = true := by decide +kernel
theorem dX8_path_125 : decode cX8_path 125 = .ok (.invokevirtual 216, 3) := by decide +kernel
theorem dX8_path_128 : decode cX8_path 128 = .ok (.lreturn, 1) := by decide +kernel
def iX8_path_129_2 : List Instr := [.aload_n 0, .iload_n 3]
theorem oX8_path_129_2 : fOkB cX8_path 129 iX8_path_129_2 = true := by decide +kernel
theorem dX8_path_131 : decode cX8_path 131 = .ok (.invokevirtual 220, 3) := by decide +kernel
def iX8_path_134_1 : List Instr := [.i2l]
theorem oX8_path_134_1 : fOkB cX8_path 134 iX8_path_134_1 = true := by decide +kernel
theorem dX8_path_135 : decode cX8_path 135 = .ok (.lreturn, 1) := by decide +kernel
def iX8_path_52_1 : List Instr := [.ldc2_w 204]
theorem oX8_path_52_1 : fOkB cX8_path 52 iX8_path_52_1 = true := by decide +kernel
theorem dX8_path_55 : decode cX8_path 55 = .ok (.lreturn, 1) := by decide +kernel
def iX8_path_26_1 : List Instr := [.ldc2_w 214]
theorem oX8_path_26_1 : fOkB cX8_path 26 iX8_path_26_1 = true := by decide +kernel
theorem dX8_path_29 : decode cX8_path 29 = .ok (.lreturn, 1) := by decide +kernel
def iX8_path_9_1 : List Instr := [.ldc2_w 210]
theorem oX8_path_9_1 : fOkB cX8_path 9 iX8_path_9_1 = true := by decide +kernel
theorem dX8_path_12 : decode cX8_path 12 = .ok (.lreturn, 1) := by decide +kernel
set_option maxRecDepth 100000 in
theorem qX8_path {G : fG} {d : Nat} {S : fS} (x y i q : Int32) {a b c e : Nat} (H : hOk (hD S) a b c e) : fCtr G (d + 10) mX8_path [.ref 35, .int x, .int y, .int i, .int q] S (fun r S' => r = some (.long (oPath (hD S) b x y i q)) ∧ ke S S') := by
  refine fCtr.of bXX8_path (Nat.le_of_ble_eq_true rfl) rfl ?_
  have hb16 : b ≤ 16 := H.2.1.2.1
  have ha8 : a ≤ 8 := H.1.2.2.1
  have hc4 : c ≤ 4 := H.2.2.1.2.1
  have he8 : e ≤ 8 := H.2.2.2.1.2.1
  have ho0 : 0 ≤ gI S 35 6 := by rw [show gI S 35 6 = nI c from H.2.2.1.1]; exact nI_pos' (by omega)
  have he0 : 0 ≤ gI S 35 10 := by rw [show gI S 35 10 = nI e from H.2.2.2.1.1]; exact nI_pos' (by omega)
  have hw0 : 0 ≤ gI S 35 3 := by rw [show gI S 35 3 = nI b from H.2.1.1]; exact nI_pos' (by omega)
  have hm3 : gI S 35 13 ≤ 3 := H.2.2.2.2.1.2
  have hm := most_N (m := gI S 35 13) H.2.2.2.2.1.1 hm3
  refine fV.run iX8_path_0_3 oX8_path_0_3 (pc' := 3) (L' := [(0, .ref 35), (1, .int x), (2, .int y), (3, .int i), (4, .int q)]) (st' := [.int y, .int x, .ref 35]) (S' := S) rfl trivial ?_
  refine fV.callV (M2 := mX8_areThere) (d := d + 9) (o := 35) (av := [.int x, .int y]) (rest := []) kX8_areThere dX8_path_3 lX8_201 rfl rfl rfl (Nat.le_of_ble_eq_true rfl) (fRoom (by decide)) ⟨Nat.le_refl _, Nat.le_refl _⟩ (qX8_areThere _ _ ho0 he0) ?_
  rintro _ S9 ⟨rfl, h9⟩
  rw [h9]
  clear h9 S9
  refine fV.to (pc' := 6) (L' := [(0, .ref 35), (1, .int x), (2, .int y), (3, .int i), (4, .int q)]) (st' := [.int (fB (decide ((0 ≤ x ∧ x < (gI S 35 6)) ∧ (0 ≤ y ∧ y < (gI S 35 10)))))]) (S' := S) rfl rfl rfl rfl ?_
  refine fV.if_ne bX8_path_6 (fun c6 => ?_) (fun c6 => ?_)
  · refine fV.run iX8_path_13_4 oX8_path_13_4 (pc' := 20) (L' := [(0, .ref 35), (1, .int x), (2, .int y), (3, .int i), (4, .int q)]) (st' := [.long 6, .long 0, .long (Int32.toInt64 q)]) (S' := S) rfl trivial ?_
    refine fV.callS (M2 := mX8_in) (d := d + 9) (av := [.long (Int32.toInt64 q), .long 0, .long 6]) (rest := []) kX8_in dX8_path_20 lX8_83 rfl rfl (Nat.le_of_ble_eq_true rfl) (fRoom (by decide)) ⟨Nat.le_refl _, Nat.le_refl _⟩ (qX8_inP _ _ _ (P := 0 ≤ q ∧ q ≤ 6) (and_congr (w_geN (by decide) _) (w_leN (by decide) _))) ?_
    rintro _ S9 ⟨rfl, h9⟩
    rw [h9]
    clear h9 S9
    refine fV.to (pc' := 23) (L' := [(0, .ref 35), (1, .int x), (2, .int y), (3, .int i), (4, .int q)]) (st' := [.int (fB (decide (0 ≤ q ∧ q ≤ 6)))]) (S' := S) rfl rfl rfl rfl ?_
    refine fV.if_ne bX8_path_23 (fun c23 => ?_) (fun c23 => ?_)
    · refine fV.run iX8_path_30_3 oX8_path_30_3 (pc' := 33) (L' := [(0, .ref 35), (1, .int x), (2, .int y), (3, .int i), (4, .int q)]) (st' := [.int y, .int x, .ref 35]) (S' := S) rfl trivial ?_
      obtain ⟨si, hsi, rfl⟩ := n_in (x := x) (n := c) (by omega) (by grind [fB]) (by rw [← show gI S 35 6 = nI c from H.2.2.1.1]; grind [fB])
      obtain ⟨ei, hei, rfl⟩ := n_in (x := y) (n := e) (by omega) (by grind [fB]) (by rw [← show gI S 35 10 = nI e from H.2.2.2.1.1]; grind [fB])
      refine fV.callV (M2 := mX8_findPaths) (d := d + 9) (o := 35) (av := [.int (nI si), .int (nI ei)]) (rest := []) kX8_findPaths dX8_path_33 lX8_206 rfl rfl rfl (Nat.le_of_ble_eq_true rfl) (fRoom (by decide)) ⟨Nat.le_refl _, Nat.le_refl _⟩ (qX8_find (N := (gI S 35 13).toNatClampNeg + 1) H hsi hei (by omega) (by have := hm.1; rwa [Nat.zero_add] at this) hm.2.2 hm3) ?_
      rintro _ S9 ⟨rfl, hk9, hF9⟩
      obtain ⟨hp9, hq9, w39, hsf9, e37, e40, e43, ebo, hsh9, hpw9⟩ := fnd8 (lo := 0) (n := (gI S 35 13).toNatClampNeg + 1) H hsi hei hk9 (by omega)
      refine fV.to (pc' := 36) (L' := [(0, .ref 35), (1, .int (nI si)), (2, .int (nI ei)), (3, .int i), (4, .int q)]) (st' := []) (S' := S9) rfl rfl rfl rfl ?_
      refine fV.run iX8_path_36_8 oX8_path_36_8 (pc' := 46) (L' := [(0, .ref 35), (1, .int (nI si)), (2, .int (nI ei)), (3, .int i), (4, .int q)]) (st' := [.long (Int32.toInt64 ((gI S9 35 25) - 1)), .long 0, .long (Int32.toInt64 i)]) (S' := S9) rfl trivial ?_
      refine fV.callS (M2 := mX8_in) (d := d + 9) (av := [.long (Int32.toInt64 i), .long 0, .long (Int32.toInt64 ((gI S9 35 25) - 1))]) (rest := []) kX8_in dX8_path_46 lX8_83 rfl rfl (Nat.le_of_ble_eq_true rfl) (fRoom (by decide)) ⟨Nat.le_refl _, Nat.le_refl _⟩ (qX8_inP _ _ _ (P := 0 ≤ i ∧ i ≤ ((gI S9 35 25) - 1)) (and_congr (w_geN (by decide) _) (w_le _ _))) ?_
      rintro _ S9 ⟨rfl, h9⟩
      rw [h9]
      clear h9 S9
      refine fV.to (pc' := 49) (L' := [(0, .ref 35), (1, .int (nI si)), (2, .int (nI ei)), (3, .int i), (4, .int q)]) (st' := [.int (fB (decide (0 ≤ i ∧ i ≤ ((gI S9 35 25) - 1))))]) (S' := S9) rfl rfl rfl rfl ?_
      refine fV.if_ne bX8_path_49 (fun c49 => ?_) (fun c49 => ?_)
      · refine fV.run iX8_path_56_1 oX8_path_56_1 (pc' := 58) (L' := [(0, .ref 35), (1, .int (nI si)), (2, .int (nI ei)), (3, .int i), (4, .int q)]) (st' := [.int q]) (S' := S9) rfl trivial ?_
        have h0 : 0 ≤ gI S9 35 25 := by rw [hF9.1]; exact nI_pos' (by have := hF9.2.1; omega)
        obtain ⟨n, hn, rfl⟩ := n_in (x := i) (n := (plM (hD S) b si ei).length) (by have := hF9.2.1; show _ < 2 ^ 31; exact Nat.lt_of_le_of_lt this (by decide)) (by grind [fB]) (by have q9 : gI S9 35 25 = nI (plM (hD S) b si ei).length := hF9.1; rw [← q9]; grind [fB])
        obtain ⟨x9, hx9⟩ : ∃ x9, (plM (hD S) b si ei)[n]? = some x9 := ⟨_, List.getElem?_eq_getElem hn⟩
        have hn38 : n < 3857 := Nat.lt_of_lt_of_le hn hF9.2.1
        refine fV.tsw (tgt := 129) dX8_path_58 (by decide) (fun h1 h2 => ?_) (fun hx => ?_)
        · rcases (show Int32.toInt q = 0 ∨ Int32.toInt q = 1 ∨ Int32.toInt q = 2 ∨ Int32.toInt q = 3 ∨ Int32.toInt q = 4 ∨ Int32.toInt q = 5 by omega) with hx | hx | hx | hx | hx | hx
          · refine ⟨38, 96, by rw [hx]; rfl, by decide, ?_⟩
            refine fV.run iX8_path_96_4 oX8_path_96_4 (pc' := 102) (L' := [(0, .ref 35), (1, .int (nI si)), (2, .int (nI ei)), (3, .int (nI n)), (4, .int q)]) (st' := [.int (gA S9 53 (nI n).toNatClampNeg)]) (S' := S9) (P := vp_in (nI n) 4000 ∧ True) rfl ⟨(vp_in_nI (by omega) (by decide)), trivial⟩ ?_
            refine fV.to (L' := [(0, .ref 35), (1, .int (nI si)), (2, .int (nI ei)), (3, .int (nI n)), (4, .int q)]) (st' := [.int (nI x9.1.length)]) rfl rfl (by rw [show (gA S9 53 (nI n).toNatClampNeg : Int32) = nI x9.1.length from by rw [nI_clamp (by omega)]; exact (hF9.2.2 n x9 hx9).2.1]) rfl ?_
            refine fV.run iX8_path_102_1 oX8_path_102_1 (pc' := 103) (L' := [(0, .ref 35), (1, .int (nI si)), (2, .int (nI ei)), (3, .int (nI n)), (4, .int q)]) (st' := [.long (Int32.toInt64 (nI x9.1.length))]) (S' := S9) rfl trivial ?_
            exact fV.lret rfl dX8_path_103 ⟨by unfold oPath; rw [if_pos (show thr (hD S) (nI si) (nI ei) from ⟨⟨nI_pos' (by omega), by rw [show (hD S).2.2.1.1 = nI c from H.2.2.1.1, nI_ltI (by omega) (by omega)]; exact hsi⟩, nI_pos' (by omega), by rw [show (hD S).2.2.2.1.1 = nI e from H.2.2.2.1.1, nI_ltI (by omega) (by omega)]; exact hei⟩), if_pos (by grind [fB]), if_pos (nI_pos' (by omega)), nI_clamp (by omega), nI_clamp (by omega), pthA_y (show (plM (hD S) b si ei)[n]? = some x9 from hx9) (by omega)]; (have ht : q = 0 := i_of_toInt hx _ (by decide)); subst ht; rfl, hk9⟩
          · refine ⟨46, 104, by rw [hx]; rfl, by decide, ?_⟩
            refine fV.run iX8_path_104_5 oX8_path_104_5 (pc' := 110) (L' := [(0, .ref 35), (1, .int (nI si)), (2, .int (nI ei)), (3, .int (nI n)), (4, .int q)]) (st' := [.int (q - 1), .int (nI n), .ref 35]) (S' := S9) rfl trivial ?_
            refine fV.to (L' := [(0, .ref 35), (1, .int (nI si)), (2, .int (nI ei)), (3, .int (nI n)), (4, .int q)]) (st' := [.int (nI (q - 1).toNatClampNeg), .int (nI n), .ref 35]) rfl rfl (congrArg (fun z9 => ([.int z9, .int (nI n), .ref 35] : List Value)) (show (q - 1 : Int32) = nI (q - 1).toNatClampNeg from (nclamp (show 0 ≤ q - 1 ∧ (q - 1).toNatClampNeg < 3 ∧ ¬ q = 0 ∧ ¬ q = 4 ∧ ¬ q = 5 ∧ ¬ q = 6 from by first | exact q13 (Or.inl hx) | exact q13 (Or.inr (Or.inl hx)) | exact q13 (Or.inr (Or.inr hx))).1).symm)) rfl ?_
            refine fV.callV (M2 := mX8_wallOf) (d := d + 9) (o := 35) (av := [.int (nI n), .int (nI (q - 1).toNatClampNeg)]) (rest := []) kX8_wallOf dX8_path_110 lX8_193 rfl rfl rfl (Nat.le_of_ble_eq_true rfl) (fRoom (by decide)) ⟨Nat.le_refl _, Nat.le_refl _⟩ (qX8_wallOf (S := S9) (t := (q - 1).toNatClampNeg) hb16 w39 hF9 hp9 hx9 (show 0 ≤ q - 1 ∧ (q - 1).toNatClampNeg < 3 ∧ ¬ q = 0 ∧ ¬ q = 4 ∧ ¬ q = 5 ∧ ¬ q = 6 from by first | exact q13 (Or.inl hx) | exact q13 (Or.inr (Or.inl hx)) | exact q13 (Or.inr (Or.inr hx))).2.1) ?_
            rintro _ S8 ⟨rfl, h9⟩
            rw [h9]
            clear h9 S8
            refine fV.to (pc' := 113) (L' := [(0, .ref 35), (1, .int (nI si)), (2, .int (nI ei)), (3, .int (nI n)), (4, .int q)]) (st' := [.int (wOf x9.1 (q - 1).toNatClampNeg)]) (S' := S9) rfl rfl rfl rfl ?_
            refine fV.run iX8_path_113_1 oX8_path_113_1 (pc' := 114) (L' := [(0, .ref 35), (1, .int (nI si)), (2, .int (nI ei)), (3, .int (nI n)), (4, .int q)]) (st' := [.long (Int32.toInt64 (wOf x9.1 (q - 1).toNatClampNeg))]) (S' := S9) rfl trivial ?_
            exact fV.lret rfl dX8_path_114 ⟨by unfold oPath; rw [if_pos (show thr (hD S) (nI si) (nI ei) from ⟨⟨nI_pos' (by omega), by rw [show (hD S).2.2.1.1 = nI c from H.2.2.1.1, nI_ltI (by omega) (by omega)]; exact hsi⟩, nI_pos' (by omega), by rw [show (hD S).2.2.2.1.1 = nI e from H.2.2.2.1.1, nI_ltI (by omega) (by omega)]; exact hei⟩), if_pos (by grind [fB]), if_pos (nI_pos' (by omega)), nI_clamp (by omega), nI_clamp (by omega), pthA_y (show (plM (hD S) b si ei)[n]? = some x9 from hx9) (by omega)]; (obtain ⟨z1, z2, z3, z4, z5, z6⟩ := (show 0 ≤ q - 1 ∧ (q - 1).toNatClampNeg < 3 ∧ ¬ q = 0 ∧ ¬ q = 4 ∧ ¬ q = 5 ∧ ¬ q = 6 from by first | exact q13 (Or.inl hx) | exact q13 (Or.inr (Or.inl hx)) | exact q13 (Or.inr (Or.inr hx)))); rw [if_neg z3, if_neg z4, if_neg z5, if_neg z6], hk9⟩
          · refine ⟨46, 104, by rw [hx]; rfl, by decide, ?_⟩
            refine fV.run iX8_path_104_5 oX8_path_104_5 (pc' := 110) (L' := [(0, .ref 35), (1, .int (nI si)), (2, .int (nI ei)), (3, .int (nI n)), (4, .int q)]) (st' := [.int (q - 1), .int (nI n), .ref 35]) (S' := S9) rfl trivial ?_
            refine fV.to (L' := [(0, .ref 35), (1, .int (nI si)), (2, .int (nI ei)), (3, .int (nI n)), (4, .int q)]) (st' := [.int (nI (q - 1).toNatClampNeg), .int (nI n), .ref 35]) rfl rfl (congrArg (fun z9 => ([.int z9, .int (nI n), .ref 35] : List Value)) (show (q - 1 : Int32) = nI (q - 1).toNatClampNeg from (nclamp (show 0 ≤ q - 1 ∧ (q - 1).toNatClampNeg < 3 ∧ ¬ q = 0 ∧ ¬ q = 4 ∧ ¬ q = 5 ∧ ¬ q = 6 from by first | exact q13 (Or.inl hx) | exact q13 (Or.inr (Or.inl hx)) | exact q13 (Or.inr (Or.inr hx))).1).symm)) rfl ?_
            refine fV.callV (M2 := mX8_wallOf) (d := d + 9) (o := 35) (av := [.int (nI n), .int (nI (q - 1).toNatClampNeg)]) (rest := []) kX8_wallOf dX8_path_110 lX8_193 rfl rfl rfl (Nat.le_of_ble_eq_true rfl) (fRoom (by decide)) ⟨Nat.le_refl _, Nat.le_refl _⟩ (qX8_wallOf (S := S9) (t := (q - 1).toNatClampNeg) hb16 w39 hF9 hp9 hx9 (show 0 ≤ q - 1 ∧ (q - 1).toNatClampNeg < 3 ∧ ¬ q = 0 ∧ ¬ q = 4 ∧ ¬ q = 5 ∧ ¬ q = 6 from by first | exact q13 (Or.inl hx) | exact q13 (Or.inr (Or.inl hx)) | exact q13 (Or.inr (Or.inr hx))).2.1) ?_
            rintro _ S8 ⟨rfl, h9⟩
            rw [h9]
            clear h9 S8
            refine fV.to (pc' := 113) (L' := [(0, .ref 35), (1, .int (nI si)), (2, .int (nI ei)), (3, .int (nI n)), (4, .int q)]) (st' := [.int (wOf x9.1 (q - 1).toNatClampNeg)]) (S' := S9) rfl rfl rfl rfl ?_
            refine fV.run iX8_path_113_1 oX8_path_113_1 (pc' := 114) (L' := [(0, .ref 35), (1, .int (nI si)), (2, .int (nI ei)), (3, .int (nI n)), (4, .int q)]) (st' := [.long (Int32.toInt64 (wOf x9.1 (q - 1).toNatClampNeg))]) (S' := S9) rfl trivial ?_
            exact fV.lret rfl dX8_path_114 ⟨by unfold oPath; rw [if_pos (show thr (hD S) (nI si) (nI ei) from ⟨⟨nI_pos' (by omega), by rw [show (hD S).2.2.1.1 = nI c from H.2.2.1.1, nI_ltI (by omega) (by omega)]; exact hsi⟩, nI_pos' (by omega), by rw [show (hD S).2.2.2.1.1 = nI e from H.2.2.2.1.1, nI_ltI (by omega) (by omega)]; exact hei⟩), if_pos (by grind [fB]), if_pos (nI_pos' (by omega)), nI_clamp (by omega), nI_clamp (by omega), pthA_y (show (plM (hD S) b si ei)[n]? = some x9 from hx9) (by omega)]; (obtain ⟨z1, z2, z3, z4, z5, z6⟩ := (show 0 ≤ q - 1 ∧ (q - 1).toNatClampNeg < 3 ∧ ¬ q = 0 ∧ ¬ q = 4 ∧ ¬ q = 5 ∧ ¬ q = 6 from by first | exact q13 (Or.inl hx) | exact q13 (Or.inr (Or.inl hx)) | exact q13 (Or.inr (Or.inr hx)))); rw [if_neg z3, if_neg z4, if_neg z5, if_neg z6], hk9⟩
          · refine ⟨46, 104, by rw [hx]; rfl, by decide, ?_⟩
            refine fV.run iX8_path_104_5 oX8_path_104_5 (pc' := 110) (L' := [(0, .ref 35), (1, .int (nI si)), (2, .int (nI ei)), (3, .int (nI n)), (4, .int q)]) (st' := [.int (q - 1), .int (nI n), .ref 35]) (S' := S9) rfl trivial ?_
            refine fV.to (L' := [(0, .ref 35), (1, .int (nI si)), (2, .int (nI ei)), (3, .int (nI n)), (4, .int q)]) (st' := [.int (nI (q - 1).toNatClampNeg), .int (nI n), .ref 35]) rfl rfl (congrArg (fun z9 => ([.int z9, .int (nI n), .ref 35] : List Value)) (show (q - 1 : Int32) = nI (q - 1).toNatClampNeg from (nclamp (show 0 ≤ q - 1 ∧ (q - 1).toNatClampNeg < 3 ∧ ¬ q = 0 ∧ ¬ q = 4 ∧ ¬ q = 5 ∧ ¬ q = 6 from by first | exact q13 (Or.inl hx) | exact q13 (Or.inr (Or.inl hx)) | exact q13 (Or.inr (Or.inr hx))).1).symm)) rfl ?_
            refine fV.callV (M2 := mX8_wallOf) (d := d + 9) (o := 35) (av := [.int (nI n), .int (nI (q - 1).toNatClampNeg)]) (rest := []) kX8_wallOf dX8_path_110 lX8_193 rfl rfl rfl (Nat.le_of_ble_eq_true rfl) (fRoom (by decide)) ⟨Nat.le_refl _, Nat.le_refl _⟩ (qX8_wallOf (S := S9) (t := (q - 1).toNatClampNeg) hb16 w39 hF9 hp9 hx9 (show 0 ≤ q - 1 ∧ (q - 1).toNatClampNeg < 3 ∧ ¬ q = 0 ∧ ¬ q = 4 ∧ ¬ q = 5 ∧ ¬ q = 6 from by first | exact q13 (Or.inl hx) | exact q13 (Or.inr (Or.inl hx)) | exact q13 (Or.inr (Or.inr hx))).2.1) ?_
            rintro _ S8 ⟨rfl, h9⟩
            rw [h9]
            clear h9 S8
            refine fV.to (pc' := 113) (L' := [(0, .ref 35), (1, .int (nI si)), (2, .int (nI ei)), (3, .int (nI n)), (4, .int q)]) (st' := [.int (wOf x9.1 (q - 1).toNatClampNeg)]) (S' := S9) rfl rfl rfl rfl ?_
            refine fV.run iX8_path_113_1 oX8_path_113_1 (pc' := 114) (L' := [(0, .ref 35), (1, .int (nI si)), (2, .int (nI ei)), (3, .int (nI n)), (4, .int q)]) (st' := [.long (Int32.toInt64 (wOf x9.1 (q - 1).toNatClampNeg))]) (S' := S9) rfl trivial ?_
            exact fV.lret rfl dX8_path_114 ⟨by unfold oPath; rw [if_pos (show thr (hD S) (nI si) (nI ei) from ⟨⟨nI_pos' (by omega), by rw [show (hD S).2.2.1.1 = nI c from H.2.2.1.1, nI_ltI (by omega) (by omega)]; exact hsi⟩, nI_pos' (by omega), by rw [show (hD S).2.2.2.1.1 = nI e from H.2.2.2.1.1, nI_ltI (by omega) (by omega)]; exact hei⟩), if_pos (by grind [fB]), if_pos (nI_pos' (by omega)), nI_clamp (by omega), nI_clamp (by omega), pthA_y (show (plM (hD S) b si ei)[n]? = some x9 from hx9) (by omega)]; (obtain ⟨z1, z2, z3, z4, z5, z6⟩ := (show 0 ≤ q - 1 ∧ (q - 1).toNatClampNeg < 3 ∧ ¬ q = 0 ∧ ¬ q = 4 ∧ ¬ q = 5 ∧ ¬ q = 6 from by first | exact q13 (Or.inl hx) | exact q13 (Or.inr (Or.inl hx)) | exact q13 (Or.inr (Or.inr hx)))); rw [if_neg z3, if_neg z4, if_neg z5, if_neg z6], hk9⟩
          · refine ⟨57, 115, by rw [hx]; rfl, by decide, ?_⟩
            refine fV.run iX8_path_115_4 oX8_path_115_4 (pc' := 121) (L' := [(0, .ref 35), (1, .int (nI si)), (2, .int (nI ei)), (3, .int (nI n)), (4, .int q)]) (st' := [.long (gB S9 54 (nI n).toNatClampNeg)]) (S' := S9) (P := vp_in (nI n) 4000 ∧ True) rfl ⟨(vp_in_nI (by omega) (by decide)), trivial⟩ ?_
            refine fV.to (L' := [(0, .ref 35), (1, .int (nI si)), (2, .int (nI ei)), (3, .int (nI n)), (4, .int q)]) (st' := [.long x9.2]) rfl rfl (by rw [show (gB S9 54 (nI n).toNatClampNeg : Int64) = x9.2 from by rw [nI_clamp (by omega)]; exact (hF9.2.2 n x9 hx9).2.2]) rfl ?_
            exact fV.lret rfl dX8_path_121 ⟨by unfold oPath; rw [if_pos (show thr (hD S) (nI si) (nI ei) from ⟨⟨nI_pos' (by omega), by rw [show (hD S).2.2.1.1 = nI c from H.2.2.1.1, nI_ltI (by omega) (by omega)]; exact hsi⟩, nI_pos' (by omega), by rw [show (hD S).2.2.2.1.1 = nI e from H.2.2.2.1.1, nI_ltI (by omega) (by omega)]; exact hei⟩), if_pos (by grind [fB]), if_pos (nI_pos' (by omega)), nI_clamp (by omega), nI_clamp (by omega), pthA_y (show (plM (hD S) b si ei)[n]? = some x9 from hx9) (by omega)]; (have ht : q = 4 := i_of_toInt hx _ (by decide)); subst ht; rfl, hk9⟩
          · refine ⟨64, 122, by rw [hx]; rfl, by decide, ?_⟩
            refine fV.run iX8_path_122_3 oX8_path_122_3 (pc' := 125) (L' := [(0, .ref 35), (1, .int (nI si)), (2, .int (nI ei)), (3, .int (nI n)), (4, .int q)]) (st' := [.int (nI n), .int (nI si), .ref 35]) (S' := S9) rfl trivial ?_
            refine fV.callV (M2 := mX8_energyOf) (d := d + 9) (o := 35) (av := [.int (nI si), .int (nI n)]) (rest := []) kX8_energyOf dX8_path_125 lX8_216 rfl rfl rfl (Nat.le_of_ble_eq_true rfl) (fRoom (by decide)) ⟨Nat.le_refl _, Nat.le_refl _⟩ (qX8_en (S := S9) hb16 w39 hF9 hp9 hx9 (by omega) hq9 hsf9) ?_
            rintro _ S8 ⟨rfl, h9⟩
            rw [h9, e37, e40, e43]
            clear h9 S8
            refine fV.to (pc' := 128) (L' := [(0, .ref 35), (1, .int (nI si)), (2, .int (nI ei)), (3, .int (nI n)), (4, .int q)]) (st' := [.long (enF (gA S 36) (gA S 39) (gA S 42 si) x9)]) (S' := S9) rfl rfl rfl rfl ?_
            exact fV.lret rfl dX8_path_128 ⟨by unfold oPath; rw [if_pos (show thr (hD S) (nI si) (nI ei) from ⟨⟨nI_pos' (by omega), by rw [show (hD S).2.2.1.1 = nI c from H.2.2.1.1, nI_ltI (by omega) (by omega)]; exact hsi⟩, nI_pos' (by omega), by rw [show (hD S).2.2.2.1.1 = nI e from H.2.2.2.1.1, nI_ltI (by omega) (by omega)]; exact hei⟩), if_pos (by grind [fB]), if_pos (nI_pos' (by omega)), nI_clamp (by omega), nI_clamp (by omega), pthA_y (show (plM (hD S) b si ei)[n]? = some x9 from hx9) (by omega)]; (have ht : q = 5 := i_of_toInt hx _ (by decide)); subst ht; rfl, hk9⟩
        · refine fV.run iX8_path_129_2 oX8_path_129_2 (pc' := 131) (L' := [(0, .ref 35), (1, .int (nI si)), (2, .int (nI ei)), (3, .int (nI n)), (4, .int q)]) (st' := [.int (nI n), .ref 35]) (S' := S9) rfl trivial ?_
          refine fV.callV (M2 := mX8_tickOf) (d := d + 9) (o := 35) (av := [.int (nI n)]) (rest := []) kX8_tickOf dX8_path_131 lX8_220 rfl rfl rfl (Nat.le_of_ble_eq_true rfl) (fRoom (by decide)) ⟨Nat.le_refl _, Nat.le_refl _⟩ (qX8_tick (S := S9) hF9 hx9) ?_
          rintro _ S8 ⟨rfl, h9⟩
          rw [h9]
          clear h9 S8
          refine fV.to (pc' := 134) (L' := [(0, .ref 35), (1, .int (nI si)), (2, .int (nI ei)), (3, .int (nI n)), (4, .int q)]) (st' := [.int (tickF x9.2)]) (S' := S9) rfl rfl rfl rfl ?_
          refine fV.run iX8_path_134_1 oX8_path_134_1 (pc' := 135) (L' := [(0, .ref 35), (1, .int (nI si)), (2, .int (nI ei)), (3, .int (nI n)), (4, .int q)]) (st' := [.long (Int32.toInt64 (tickF x9.2))]) (S' := S9) rfl trivial ?_
          exact fV.lret rfl dX8_path_135 ⟨by unfold oPath; rw [if_pos (show thr (hD S) (nI si) (nI ei) from ⟨⟨nI_pos' (by omega), by rw [show (hD S).2.2.1.1 = nI c from H.2.2.1.1, nI_ltI (by omega) (by omega)]; exact hsi⟩, nI_pos' (by omega), by rw [show (hD S).2.2.2.1.1 = nI e from H.2.2.2.1.1, nI_ltI (by omega) (by omega)]; exact hei⟩), if_pos (by grind [fB]), if_pos (nI_pos' (by omega)), nI_clamp (by omega), nI_clamp (by omega), pthA_y (show (plM (hD S) b si ei)[n]? = some x9 from hx9) (by omega)]; (have ht : q = 6 := q6 c23 hx); subst ht; rfl, hk9⟩
      · refine fV.run iX8_path_52_1 oX8_path_52_1 (pc' := 55) (L' := [(0, .ref 35), (1, .int (nI si)), (2, .int (nI ei)), (3, .int i), (4, .int q)]) (st' := [.long (-1)]) (S' := S9) rfl trivial ?_
        exact fV.lret rfl dX8_path_55 ⟨by unfold oPath; rw [if_pos (show thr (hD S) (nI si) (nI ei) from ⟨⟨nI_pos' (by omega), by rw [show (hD S).2.2.1.1 = nI c from H.2.2.1.1, nI_ltI (by omega) (by omega)]; exact hsi⟩, nI_pos' (by omega), by rw [show (hD S).2.2.2.1.1 = nI e from H.2.2.2.1.1, nI_ltI (by omega) (by omega)]; exact hei⟩), if_pos (by grind [fB]), nI_clamp (by omega), nI_clamp (by omega)]; rw [path_none (fun h0 => show (plM (hD S) b si ei).length ≤ i.toNatClampNeg from pth_outG hF9.1 hF9.2.1 h0 (fBd0.mp c49))], hk9⟩
    · refine fV.run iX8_path_26_1 oX8_path_26_1 (pc' := 29) (L' := [(0, .ref 35), (1, .int x), (2, .int y), (3, .int i), (4, .int q)]) (st' := [.long (-1002)]) (S' := S) rfl trivial ?_
      exact fV.lret rfl dX8_path_29 ⟨by unfold oPath; rw [if_pos (show thr (hD S) x y from by unfold thr; grind [fB, hD]), if_neg (by grind [fB])], ke.rf⟩
  · refine fV.run iX8_path_9_1 oX8_path_9_1 (pc' := 12) (L' := [(0, .ref 35), (1, .int x), (2, .int y), (3, .int i), (4, .int q)]) (st' := [.long (-1001)]) (S' := S) rfl trivial ?_
    exact fV.lret rfl dX8_path_12 ⟨by unfold oPath; rw [if_neg (show ¬ thr (hD S) x y from by unfold thr; grind [fB, hD])], ke.rf⟩
def iX8_at_41_3 : List Instr := [.iload 6, .aload_n 0, .getfield 181]
theorem oX8_at_41_3 : fOkB cX8_at 41 iX8_at_41_3 = true := by decide +kernel
theorem bX8_at_47 : fBk cX8_at 47 (.if_icmp .ge) 82 := ⟨35, by decide +kernel, by decide⟩
def iX8_at_82_1 : List Instr := [.lload 4]
theorem oX8_at_82_1 : fOkB cX8_at 82 iX8_at_82_1 = true := by decide +kernel
theorem dX8_at_84 : decode cX8_at 84 = .ok (.lreturn, 1) := by decide +kernel
def iX8_at_50_3 : List Instr := [.lload 4, .aload_n 0, .iload 6]
theorem oX8_at_50_3 : fOkB cX8_at 50 iX8_at_50_3 = true := by decide +kernel
theorem dX8_at_55 : decode cX8_at 55 = .ok (.invokevirtual 220, 3) := by decide +kernel
def iX8_at_58_1 : List Instr := [.iload_n 3]
theorem oX8_at_58_1 : fOkB cX8_at 58 iX8_at_58_1 = true := by decide +kernel
theorem bX8_at_59 : fBk cX8_at 59 (.if_icmp .ne) 72 := ⟨13, by decide +kernel, by decide⟩
def iX8_at_72_5 : List Instr := [.lconst 0, .ladd, .lstore 4, .iinc 6 1, .goto (-38)]
theorem oX8_at_72_5 : fOkB cX8_at 72 iX8_at_72_5 = true := by decide +kernel
def iX8_at_62_3 : List Instr := [.aload_n 0, .iload_n 1, .iload 6]
theorem oX8_at_62_3 : fOkB cX8_at 62 iX8_at_62_3 = true := by decide +kernel
theorem dX8_at_66 : decode cX8_at 66 = .ok (.invokevirtual 216, 3) := by decide +kernel
def iX8_at_69_5 : List Instr := [.goto 4, .ladd, .lstore 4, .iinc 6 1, .goto (-38)]
theorem oX8_at_69_5 : fOkB cX8_at 69 iX8_at_69_5 = true := by decide +kernel
set_option maxRecDepth 100000 in
theorem lpX8_at {G : fG} {d : Nat} {S S9 : fS} {a b c e si ei : Nat} {t : Int32} (H : hOk (hD S) a b c e) (hsi : si < c) (hei : ei < e) (hk9 : ke S S9) (hF9 : fdR S9 b (plM (hD S) b si ei)) : ∀ (u i : Nat), i + u = (plM (hD S) b si ei).length → fV G mX8_at (fZm G (d + 10) (fun r S' => r = some (.long (smE (enF (gA S 36) (gA S 39) (gA S 42 si)) (fun x => decide (tickF x.2 = t)) (plM (hD S) b si ei))) ∧ ke S S')) 41 [(0, .ref 35), (1, .int (nI si)), (2, .int (nI ei)), (3, .int t), (4, .long (smE (enF (gA S 36) (gA S 39) (gA S 42 si)) (fun x => decide (tickF x.2 = t)) ((plM (hD S) b si ei).take i))), (6, .int (nI i))] [] S9 := by
  have hb16 : b ≤ 16 := H.2.1.2.1
  have hc4 : c ≤ 4 := H.2.2.1.2.1
  have hm := most_N (m := gI S 35 13) H.2.2.2.2.1.1 H.2.2.2.2.1.2
  obtain ⟨hp9, hq9, w39, hsf9, e37, e40, e43, ebo, hsh9, hpw9⟩ := fnd8 (lo := 0) (n := (gI S 35 13).toNatClampNeg + 1) H hsi hei hk9 (by omega)
  have hl : (plM (hD S) b si ei).length ≤ 3857 := hF9.2.1
  intro u
  induction u with
  | zero =>
    intro i hi
    refine fV.run iX8_at_41_3 oX8_at_41_3 (pc' := 47) (L' := [(0, .ref 35), (1, .int (nI si)), (2, .int (nI ei)), (3, .int t), (4, .long (smE (enF (gA S 36) (gA S 39) (gA S 42 si)) (fun x => decide (tickF x.2 = t)) ((plM (hD S) b si ei).take i))), (6, .int (nI i))]) (st' := [.int (gI S9 35 25), .int (nI i)]) (S' := S9) rfl trivial ?_
    refine fV.icmp_ge bX8_at_47 (fun c47 => ?_) (fun c47 => ?_)
    · refine fV.run iX8_at_82_1 oX8_at_82_1 (pc' := 84) (L' := [(0, .ref 35), (1, .int (nI si)), (2, .int (nI ei)), (3, .int t), (4, .long (smE (enF (gA S 36) (gA S 39) (gA S 42 si)) (fun x => decide (tickF x.2 = t)) ((plM (hD S) b si ei).take i))), (6, .int (nI i))]) (st' := [.long (smE (enF (gA S 36) (gA S 39) (gA S 42 si)) (fun x => decide (tickF x.2 = t)) ((plM (hD S) b si ei).take i))]) (S' := S9) rfl trivial ?_
      exact fV.lret rfl dX8_at_84 ⟨by rw [List.take_of_length_le (by omega)], hk9⟩
    · exact absurd c47 (fun z => z (by rw [hF9.1]; exact nI_le (by omega) (by omega)))
  | succ u ih =>
    intro i hi
    obtain ⟨x9, hx9⟩ : ∃ x9, (plM (hD S) b si ei)[i]? = some x9 := ⟨_, List.getElem?_eq_getElem (by omega)⟩
    refine fV.run iX8_at_41_3 oX8_at_41_3 (pc' := 47) (L' := [(0, .ref 35), (1, .int (nI si)), (2, .int (nI ei)), (3, .int t), (4, .long (smE (enF (gA S 36) (gA S 39) (gA S 42 si)) (fun x => decide (tickF x.2 = t)) ((plM (hD S) b si ei).take i))), (6, .int (nI i))]) (st' := [.int (gI S9 35 25), .int (nI i)]) (S' := S9) rfl trivial ?_
    refine fV.icmp_ge bX8_at_47 (fun c47 => ?_) (fun c47 => ?_)
    · exact absurd c47 (by rw [hF9.1]; exact nI_ge (by omega) (by omega))
    · refine fV.run iX8_at_50_3 oX8_at_50_3 (pc' := 55) (L' := [(0, .ref 35), (1, .int (nI si)), (2, .int (nI ei)), (3, .int t), (4, .long (smE (enF (gA S 36) (gA S 39) (gA S 42 si)) (fun x => decide (tickF x.2 = t)) ((plM (hD S) b si ei).take i))), (6, .int (nI i))]) (st' := [.int (nI i), .ref 35, .long (smE (enF (gA S 36) (gA S 39) (gA S 42 si)) (fun x => decide (tickF x.2 = t)) ((plM (hD S) b si ei).take i))]) (S' := S9) rfl trivial ?_
      refine fV.callV (M2 := mX8_tickOf) (d := d + 9) (o := 35) (av := [.int (nI i)]) (rest := [.long (smE (enF (gA S 36) (gA S 39) (gA S 42 si)) (fun x => decide (tickF x.2 = t)) ((plM (hD S) b si ei).take i))]) kX8_tickOf dX8_at_55 lX8_220 rfl rfl rfl (Nat.le_of_ble_eq_true rfl) (fRoom (by decide)) ⟨Nat.le_refl _, Nat.le_refl _⟩ (qX8_tick (S := S9) hF9 hx9) ?_
      rintro _ S8 ⟨rfl, h9⟩
      rw [h9]
      clear h9 S8
      refine fV.to (pc' := 58) (L' := [(0, .ref 35), (1, .int (nI si)), (2, .int (nI ei)), (3, .int t), (4, .long (smE (enF (gA S 36) (gA S 39) (gA S 42 si)) (fun x => decide (tickF x.2 = t)) ((plM (hD S) b si ei).take i))), (6, .int (nI i))]) (st' := [.int (tickF x9.2), .long (smE (enF (gA S 36) (gA S 39) (gA S 42 si)) (fun x => decide (tickF x.2 = t)) ((plM (hD S) b si ei).take i))]) (S' := S9) rfl rfl rfl rfl ?_
      refine fV.run iX8_at_58_1 oX8_at_58_1 (pc' := 59) (L' := [(0, .ref 35), (1, .int (nI si)), (2, .int (nI ei)), (3, .int t), (4, .long (smE (enF (gA S 36) (gA S 39) (gA S 42 si)) (fun x => decide (tickF x.2 = t)) ((plM (hD S) b si ei).take i))), (6, .int (nI i))]) (st' := [.int t, .int (tickF x9.2), .long (smE (enF (gA S 36) (gA S 39) (gA S 42 si)) (fun x => decide (tickF x.2 = t)) ((plM (hD S) b si ei).take i))]) (S' := S9) rfl trivial ?_
      refine fV.icmp_ne bX8_at_59 (fun c59 => ?_) (fun c59 => ?_)
      · refine fV.run iX8_at_72_5 oX8_at_72_5 (pc' := 41) (L' := [(0, .ref 35), (1, .int (nI si)), (2, .int (nI ei)), (3, .int t), (4, .long ((smE (enF (gA S 36) (gA S 39) (gA S 42 si)) (fun x => decide (tickF x.2 = t)) ((plM (hD S) b si ei).take i)) + 0)), (6, .int ((nI i) + 1))]) (st' := []) (S' := S9) rfl trivial ?_
        exact fV.to (L' := [(0, .ref 35), (1, .int (nI si)), (2, .int (nI ei)), (3, .int t), (4, .long (smE (enF (gA S 36) (gA S 39) (gA S 42 si)) (fun x => decide (tickF x.2 = t)) ((plM (hD S) b si ei).take (i + 1)))), (6, .int (nI (i + 1)))]) rfl (by rw [nI_1, l0a, smE_s hx9, show decide (tickF x9.2 = t) = false from decide_eq_false c59]; rfl) rfl rfl (ih (i + 1) (by omega))
      · refine fV.run iX8_at_62_3 oX8_at_62_3 (pc' := 66) (L' := [(0, .ref 35), (1, .int (nI si)), (2, .int (nI ei)), (3, .int t), (4, .long (smE (enF (gA S 36) (gA S 39) (gA S 42 si)) (fun x => decide (tickF x.2 = t)) ((plM (hD S) b si ei).take i))), (6, .int (nI i))]) (st' := [.int (nI i), .int (nI si), .ref 35, .long (smE (enF (gA S 36) (gA S 39) (gA S 42 si)) (fun x => decide (tickF x.2 = t)) ((plM (hD S) b si ei).take i))]) (S' := S9) rfl trivial ?_
        refine fV.callV (M2 := mX8_energyOf) (d := d + 9) (o := 35) (av := [.int (nI si), .int (nI i)]) (rest := [.long (smE (enF (gA S 36) (gA S 39) (gA S 42 si)) (fun x => decide (tickF x.2 = t)) ((plM (hD S) b si ei).take i))]) kX8_energyOf dX8_at_66 lX8_216 rfl rfl rfl (Nat.le_of_ble_eq_true rfl) (fRoom (by decide)) ⟨Nat.le_refl _, Nat.le_refl _⟩ (qX8_en (S := S9) hb16 w39 hF9 hp9 hx9 (by omega) hq9 hsf9) ?_
        rintro _ S8 ⟨rfl, h9⟩
        rw [h9, e37, e40, e43]
        clear h9 S8
        refine fV.to (pc' := 69) (L' := [(0, .ref 35), (1, .int (nI si)), (2, .int (nI ei)), (3, .int t), (4, .long (smE (enF (gA S 36) (gA S 39) (gA S 42 si)) (fun x => decide (tickF x.2 = t)) ((plM (hD S) b si ei).take i))), (6, .int (nI i))]) (st' := [.long (enF (gA S 36) (gA S 39) (gA S 42 si) x9), .long (smE (enF (gA S 36) (gA S 39) (gA S 42 si)) (fun x => decide (tickF x.2 = t)) ((plM (hD S) b si ei).take i))]) (S' := S9) rfl rfl rfl rfl ?_
        refine fV.run iX8_at_69_5 oX8_at_69_5 (pc' := 41) (L' := [(0, .ref 35), (1, .int (nI si)), (2, .int (nI ei)), (3, .int t), (4, .long ((smE (enF (gA S 36) (gA S 39) (gA S 42 si)) (fun x => decide (tickF x.2 = t)) ((plM (hD S) b si ei).take i)) + (enF (gA S 36) (gA S 39) (gA S 42 si) x9))), (6, .int ((nI i) + 1))]) (st' := []) (S' := S9) rfl trivial ?_
        exact fV.to (L' := [(0, .ref 35), (1, .int (nI si)), (2, .int (nI ei)), (3, .int t), (4, .long (smE (enF (gA S 36) (gA S 39) (gA S 42 si)) (fun x => decide (tickF x.2 = t)) ((plM (hD S) b si ei).take (i + 1)))), (6, .int (nI (i + 1)))]) rfl (by rw [smE_s hx9, show decide (tickF x9.2 = t) = true from decide_eq_true c59, nI_1]; rfl) rfl rfl (ih (i + 1) (by omega))
def iX8_at_0_3 : List Instr := [.aload_n 0, .iload_n 1, .iload_n 2]
theorem oX8_at_0_3 : fOkB cX8_at 0 iX8_at_0_3 = true := by decide +kernel
theorem dX8_at_3 : decode cX8_at 3 = .ok (.invokevirtual 201, 3) := by decide +kernel
theorem bX8_at_6 : fBk cX8_at 6 (.ifCond .ne) 13 := ⟨7, by decide +kernel, by decide⟩
def iX8_at_13_4 : List Instr := [.iload_n 3, .i2l, .lconst 0, .ldc2_w 231]
theorem oX8_at_13_4 : fOkB cX8_at 13 iX8_at_13_4 = true := by decide +kernel
theorem dX8_at_19 : decode cX8_at 19 = .ok (.invokestatic 83, 3) := by decide +kernel
theorem bX8_at_22 : fBk cX8_at 22 (.ifCond .ne) 29 := ⟨7, by decide +kernel, by decide⟩
def iX8_at_29_3 : List Instr := [.aload_n 0, .iload_n 1, .iload_n 2]
theorem oX8_at_29_3 : fOkB cX8_at 29 iX8_at_29_3 = true := by decide +kernel
theorem dX8_at_32 : decode cX8_at 32 = .ok (.invokevirtual 206, 3) := by decide +kernel
def iX8_at_35_4 : List Instr := [.lconst 0, .lstore 4, .iconst 0, .istore 6]
theorem oX8_at_35_4 : fOkB cX8_at 35 iX8_at_35_4 = true := by decide +kernel
def iX8_at_25_1 : List Instr := [.ldc2_w 214]
theorem oX8_at_25_1 : fOkB cX8_at 25 iX8_at_25_1 = true := by decide +kernel
theorem dX8_at_28 : decode cX8_at 28 = .ok (.lreturn, 1) := by decide +kernel
def iX8_at_9_1 : List Instr := [.ldc2_w 210]
theorem oX8_at_9_1 : fOkB cX8_at 9 iX8_at_9_1 = true := by decide +kernel
theorem dX8_at_12 : decode cX8_at 12 = .ok (.lreturn, 1) := by decide +kernel
set_option maxRecDepth 100000 in
theorem qX8_at {G : fG} {d : Nat} {S : fS} (x y t : Int32) {a b c e : Nat} (H : hOk (hD S) a b c e) : fCtr G (d + 10) mX8_at [.ref 35, .int x, .int y, .int t] S (fun r S' => r = some (.long (oAt (hD S) b x y t)) ∧ ke S S') := by
  refine fCtr.of bXX8_at (Nat.le_of_ble_eq_true rfl) rfl ?_
  have hb16 : b ≤ 16 := H.2.1.2.1
  have ha8 : a ≤ 8 := H.1.2.2.1
  have hc4 : c ≤ 4 := H.2.2.1.2.1
  have he8 : e ≤ 8 := H.2.2.2.1.2.1
  have ho0 : 0 ≤ gI S 35 6 := by rw [show gI S 35 6 = nI c from H.2.2.1.1]; exact nI_pos' (by omega)
  have he0 : 0 ≤ gI S 35 10 := by rw [show gI S 35 10 = nI e from H.2.2.2.1.1]; exact nI_pos' (by omega)
  have hw0 : 0 ≤ gI S 35 3 := by rw [show gI S 35 3 = nI b from H.2.1.1]; exact nI_pos' (by omega)
  have hm3 : gI S 35 13 ≤ 3 := H.2.2.2.2.1.2
  have hm := most_N (m := gI S 35 13) H.2.2.2.2.1.1 hm3
  refine fV.run iX8_at_0_3 oX8_at_0_3 (pc' := 3) (L' := [(0, .ref 35), (1, .int x), (2, .int y), (3, .int t)]) (st' := [.int y, .int x, .ref 35]) (S' := S) rfl trivial ?_
  refine fV.callV (M2 := mX8_areThere) (d := d + 9) (o := 35) (av := [.int x, .int y]) (rest := []) kX8_areThere dX8_at_3 lX8_201 rfl rfl rfl (Nat.le_of_ble_eq_true rfl) (fRoom (by decide)) ⟨Nat.le_refl _, Nat.le_refl _⟩ (qX8_areThere _ _ ho0 he0) ?_
  rintro _ S9 ⟨rfl, h9⟩
  rw [h9]
  clear h9 S9
  refine fV.to (pc' := 6) (L' := [(0, .ref 35), (1, .int x), (2, .int y), (3, .int t)]) (st' := [.int (fB (decide ((0 ≤ x ∧ x < (gI S 35 6)) ∧ (0 ≤ y ∧ y < (gI S 35 10)))))]) (S' := S) rfl rfl rfl rfl ?_
  refine fV.if_ne bX8_at_6 (fun c6 => ?_) (fun c6 => ?_)
  · refine fV.run iX8_at_13_4 oX8_at_13_4 (pc' := 19) (L' := [(0, .ref 35), (1, .int x), (2, .int y), (3, .int t)]) (st' := [.long 300, .long 0, .long (Int32.toInt64 t)]) (S' := S) rfl trivial ?_
    refine fV.callS (M2 := mX8_in) (d := d + 9) (av := [.long (Int32.toInt64 t), .long 0, .long 300]) (rest := []) kX8_in dX8_at_19 lX8_83 rfl rfl (Nat.le_of_ble_eq_true rfl) (fRoom (by decide)) ⟨Nat.le_refl _, Nat.le_refl _⟩ (qX8_inP _ _ _ (P := 0 ≤ t ∧ t ≤ 300) (and_congr (w_geN (by decide) _) (w_leN (by decide) _))) ?_
    rintro _ S9 ⟨rfl, h9⟩
    rw [h9]
    clear h9 S9
    refine fV.to (pc' := 22) (L' := [(0, .ref 35), (1, .int x), (2, .int y), (3, .int t)]) (st' := [.int (fB (decide (0 ≤ t ∧ t ≤ 300)))]) (S' := S) rfl rfl rfl rfl ?_
    refine fV.if_ne bX8_at_22 (fun c22 => ?_) (fun c22 => ?_)
    · refine fV.run iX8_at_29_3 oX8_at_29_3 (pc' := 32) (L' := [(0, .ref 35), (1, .int x), (2, .int y), (3, .int t)]) (st' := [.int y, .int x, .ref 35]) (S' := S) rfl trivial ?_
      obtain ⟨si, hsi, rfl⟩ := n_in (x := x) (n := c) (by omega) (by grind [fB]) (by rw [← show gI S 35 6 = nI c from H.2.2.1.1]; grind [fB])
      obtain ⟨ei, hei, rfl⟩ := n_in (x := y) (n := e) (by omega) (by grind [fB]) (by rw [← show gI S 35 10 = nI e from H.2.2.2.1.1]; grind [fB])
      refine fV.callV (M2 := mX8_findPaths) (d := d + 9) (o := 35) (av := [.int (nI si), .int (nI ei)]) (rest := []) kX8_findPaths dX8_at_32 lX8_206 rfl rfl rfl (Nat.le_of_ble_eq_true rfl) (fRoom (by decide)) ⟨Nat.le_refl _, Nat.le_refl _⟩ (qX8_find (N := (gI S 35 13).toNatClampNeg + 1) H hsi hei (by omega) (by have := hm.1; rwa [Nat.zero_add] at this) hm.2.2 hm3) ?_
      rintro _ S9 ⟨rfl, hk9, hF9⟩
      obtain ⟨hp9, hq9, w39, hsf9, e37, e40, e43, ebo, hsh9, hpw9⟩ := fnd8 (lo := 0) (n := (gI S 35 13).toNatClampNeg + 1) H hsi hei hk9 (by omega)
      refine fV.to (pc' := 35) (L' := [(0, .ref 35), (1, .int (nI si)), (2, .int (nI ei)), (3, .int t)]) (st' := []) (S' := S9) rfl rfl rfl rfl ?_
      refine fV.run iX8_at_35_4 oX8_at_35_4 (pc' := 41) (L' := [(0, .ref 35), (1, .int (nI si)), (2, .int (nI ei)), (3, .int t), (4, .long 0), (6, .int 0)]) (st' := []) (S' := S9) rfl trivial ?_
      rw [show oAt (hD S) b (nI si) (nI ei) t = smE (enF (gA S 36) (gA S 39) (gA S 42 si)) (fun x => decide (tickF x.2 = t)) (plM (hD S) b si ei) by unfold oAt; rw [if_pos (show thr (hD S) (nI si) (nI ei) from ⟨⟨nI_pos' (by omega), by rw [show (hD S).2.2.1.1 = nI c from H.2.2.1.1, nI_ltI (by omega) (by omega)]; exact hsi⟩, nI_pos' (by omega), by rw [show (hD S).2.2.2.1.1 = nI e from H.2.2.2.1.1, nI_ltI (by omega) (by omega)]; exact hei⟩), if_pos (by grind [fB]), nI_clamp (by omega), nI_clamp (by omega)]; rfl]
      exact lpX8_at H hsi hei hk9 hF9 _ 0 (Nat.zero_add _)
    · refine fV.run iX8_at_25_1 oX8_at_25_1 (pc' := 28) (L' := [(0, .ref 35), (1, .int x), (2, .int y), (3, .int t)]) (st' := [.long (-1002)]) (S' := S) rfl trivial ?_
      exact fV.lret rfl dX8_at_28 ⟨by unfold oAt; rw [if_pos (show thr (hD S) x y from by unfold thr; grind [fB, hD]), if_neg (by grind [fB])], ke.rf⟩
  · refine fV.run iX8_at_9_1 oX8_at_9_1 (pc' := 12) (L' := [(0, .ref 35), (1, .int x), (2, .int y), (3, .int t)]) (st' := [.long (-1001)]) (S' := S) rfl trivial ?_
    exact fV.lret rfl dX8_at_12 ⟨by unfold oAt; rw [if_neg (show ¬ thr (hD S) x y from by unfold thr; grind [fB, hD])], ke.rf⟩
def iX8_worst_19_3 : List Instr := [.iload 5, .aload_n 0, .getfield 106]
theorem oX8_worst_19_3 : fOkB cX8_worst 19 iX8_worst_19_3 = true := by decide +kernel
theorem bX8_worst_25 : fBk cX8_worst 25 (.if_icmp .ge) 66 := ⟨41, by decide +kernel, by decide⟩
def iX8_worst_66_1 : List Instr := [.iload_n 2]
theorem oX8_worst_66_1 : fOkB cX8_worst 66 iX8_worst_66_1 = true := by decide +kernel
theorem dX8_worst_67 : decode cX8_worst 67 = .ok (.ireturn, 1) := by decide +kernel
def iX8_worst_28_3 : List Instr := [.aload_n 0, .iload_n 1, .iload 5]
theorem oX8_worst_28_3 : fOkB cX8_worst 28 iX8_worst_28_3 = true := by decide +kernel
theorem dX8_worst_32 : decode cX8_worst 32 = .ok (.invokevirtual 206, 3) := by decide +kernel
def iX8_worst_35_3 : List Instr := [.aload_n 0, .iload_n 1, .iconst 2]
theorem oX8_worst_35_3 : fOkB cX8_worst 35 iX8_worst_35_3 = true := by decide +kernel
theorem dX8_worst_38 : decode cX8_worst 38 = .ok (.invokevirtual 228, 3) := by decide +kernel
def iX8_worst_41_2 : List Instr := [.lstore 6, .iload_n 2]
theorem oX8_worst_41_2 : fOkB cX8_worst 41 iX8_worst_41_2 = true := by decide +kernel
theorem bX8_worst_44 : fBk cX8_worst 44 (.ifCond .lt) 54 := ⟨10, by decide +kernel, by decide⟩
def iX8_worst_54_6 : List Instr := [.iload 5, .istore_n 2, .lload 6, .lstore_n 3, .iinc 5 1, .goto (-44)]
theorem oX8_worst_54_6 : fOkB cX8_worst 54 iX8_worst_54_6 = true := by decide +kernel
def iX8_worst_47_3 : List Instr := [.lload 6, .lload_n 3, .lcmp]
theorem oX8_worst_47_3 : fOkB cX8_worst 47 iX8_worst_47_3 = true := by decide +kernel
theorem bX8_worst_51 : fBk cX8_worst 51 (.ifCond .ge) 60 := ⟨9, by decide +kernel, by decide⟩
def iX8_worst_60_2 : List Instr := [.iinc 5 1, .goto (-44)]
theorem oX8_worst_60_2 : fOkB cX8_worst 60 iX8_worst_60_2 = true := by decide +kernel
set_option maxRecDepth 100000 in
theorem lpX8_worst {G : fG} {d : Nat} {S : fS} {a b c e si : Nat} (H : hOk (hD S) a b c e) (hsi : si < c) : ∀ (u k : Nat) (S1 : fS), k + u = e → ke S S1 → fV G mX8_worst (fZm G (d + 10) (fun r S' => r = some (.int (wst (hD S) b si e).1) ∧ ke S S')) 19 [(0, .ref 35), (1, .int (nI si)), (2, .int ((wst (hD S) b si k).1)), (3, .long (Int32.toInt64 (wst (hD S) b si k).2)), (5, .int (nI k))] [] S1 := by
  have hb16 : b ≤ 16 := H.2.1.2.1
  have hc4 : c ≤ 4 := H.2.2.1.2.1
  have he8 : e ≤ 8 := H.2.2.2.1.2.1
  intro u
  induction u with
  | zero =>
    intro k S1 hu hkp
    have he : gI S1 35 10 = nI e := (congrArg (fun q => q.2.2.2.1.1) hkp.1).trans H.2.2.2.1.1
    refine fV.run iX8_worst_19_3 oX8_worst_19_3 (pc' := 25) (L' := [(0, .ref 35), (1, .int (nI si)), (2, .int ((wst (hD S) b si k).1)), (3, .long (Int32.toInt64 (wst (hD S) b si k).2)), (5, .int (nI k))]) (st' := [.int (gI S1 35 10), .int (nI k)]) (S' := S1) rfl trivial ?_
    refine fV.icmp_ge bX8_worst_25 (fun c25 => ?_) (fun c25 => ?_)
    · refine fV.run iX8_worst_66_1 oX8_worst_66_1 (pc' := 67) (L' := [(0, .ref 35), (1, .int (nI si)), (2, .int ((wst (hD S) b si k).1)), (3, .long (Int32.toInt64 (wst (hD S) b si k).2)), (5, .int (nI k))]) (st' := [.int ((wst (hD S) b si k).1)]) (S' := S1) rfl trivial ?_
      exact fV.iret rfl dX8_worst_67 ⟨by rw [show k = e by omega], hkp⟩
    · exact absurd c25 (by rw [show gI S1 35 10 = nI e from he, nI_leI (by omega) (by omega)]; omega)
  | succ u ih =>
    intro k S1 hu hkp
    have he : gI S1 35 10 = nI e := (congrArg (fun q => q.2.2.2.1.1) hkp.1).trans H.2.2.2.1.1
    have H1 : hOk (hD S1) a b c e := by rw [hkp.1]; exact H
    have hm3 : gI S1 35 13 ≤ 3 := H1.2.2.2.2.1.2
    have hm := most_N (m := gI S1 35 13) H1.2.2.2.2.1.1 hm3
    have hwn := wst_nn (hD S) b si k (by omega)
    refine fV.run iX8_worst_19_3 oX8_worst_19_3 (pc' := 25) (L' := [(0, .ref 35), (1, .int (nI si)), (2, .int ((wst (hD S) b si k).1)), (3, .long (Int32.toInt64 (wst (hD S) b si k).2)), (5, .int (nI k))]) (st' := [.int (gI S1 35 10), .int (nI k)]) (S' := S1) rfl trivial ?_
    refine fV.icmp_ge bX8_worst_25 (fun c25 => ?_) (fun c25 => ?_)
    · exact absurd c25 (by rw [show gI S1 35 10 = nI e from he, nI_leI (by omega) (by omega)]; omega)
    · refine fV.run iX8_worst_28_3 oX8_worst_28_3 (pc' := 32) (L' := [(0, .ref 35), (1, .int (nI si)), (2, .int ((wst (hD S) b si k).1)), (3, .long (Int32.toInt64 (wst (hD S) b si k).2)), (5, .int (nI k))]) (st' := [.int (nI k), .int (nI si), .ref 35]) (S' := S1) rfl trivial ?_
      refine fV.callV (M2 := mX8_findPaths) (d := d + 9) (o := 35) (av := [.int (nI si), .int (nI k)]) (rest := []) kX8_findPaths dX8_worst_32 lX8_206 rfl rfl rfl (Nat.le_of_ble_eq_true rfl) (fRoom (by decide)) ⟨Nat.le_refl _, Nat.le_refl _⟩ (qX8_find (S := S1) (N := (gI S1 35 13).toNatClampNeg + 1) H1 hsi (show k < e by omega) (by omega) (by have := hm.1; rwa [Nat.zero_add] at this) hm.2.2 hm3) ?_
      rintro _ S9 ⟨rfl, hk9, hF9⟩
      obtain ⟨hp9, hq9, w39, hsf9, e37, e40, e43, ebo, hsh9, hpw9⟩ := fnd8 (S := S1) (lo := 0) (n := (gI S1 35 13).toNatClampNeg + 1) H1 hsi (show k < e by omega) hk9 (by omega)
      refine fV.to (pc' := 35) (L' := [(0, .ref 35), (1, .int (nI si)), (2, .int ((wst (hD S) b si k).1)), (3, .long (Int32.toInt64 (wst (hD S) b si k).2)), (5, .int (nI k))]) (st' := []) (S' := S9) rfl rfl rfl rfl ?_
      refine fV.run iX8_worst_35_3 oX8_worst_35_3 (pc' := 38) (L' := [(0, .ref 35), (1, .int (nI si)), (2, .int ((wst (hD S) b si k).1)), (3, .long (Int32.toInt64 (wst (hD S) b si k).2)), (5, .int (nI k))]) (st' := [.int 2, .int (nI si), .ref 35]) (S' := S9) rfl trivial ?_
      refine fV.callV (M2 := mX8_heardBy) (d := d + 9) (o := 35) (av := [.int (nI si), .int 2]) (rest := []) kX8_heardBy dX8_worst_38 lX8_228 rfl rfl rfl (Nat.le_of_ble_eq_true rfl) (fRoom (by decide)) ⟨Nat.le_refl _, Nat.le_refl _⟩ (qX8_heardBy (S := S9) hb16 w39 hF9 hp9 hq9 (by omega) hsf9 hsh9 hpw9) ?_
      rintro _ S8 ⟨rfl, h9⟩
      rw [h9, hvl_2, e37, e40, e43, ebo]
      clear h9 S8
      refine fV.to (pc' := 41) (L' := [(0, .ref 35), (1, .int (nI si)), (2, .int ((wst (hD S) b si k).1)), (3, .long (Int32.toInt64 (wst (hD S) b si k).2)), (5, .int (nI k))]) (st' := [.long (Int32.toInt64 (clF (eS (hD S1) b si k) (lS (hD S1) b si k)))]) (S' := S9) rfl rfl rfl rfl ?_
      refine fV.to (L' := [(0, .ref 35), (1, .int (nI si)), (2, .int ((wst (hD S) b si k).1)), (3, .long (Int32.toInt64 (wst (hD S) b si k).2)), (5, .int (nI k))]) (st' := [.long (Int32.toInt64 (clF (eS (hD S) b si k) (lS (hD S) b si k)))]) rfl rfl (by rw [show (Int32.toInt64 (clF (eS (hD S1) b si k) (lS (hD S1) b si k)) : Int64) = Int32.toInt64 (clF (eS (hD S) b si k) (lS (hD S) b si k)) from by rw [hkp.1]]) rfl ?_
      refine fV.run iX8_worst_41_2 oX8_worst_41_2 (pc' := 44) (L' := [(0, .ref 35), (1, .int (nI si)), (2, .int ((wst (hD S) b si k).1)), (3, .long (Int32.toInt64 (wst (hD S) b si k).2)), (5, .int (nI k)), (6, .long (Int32.toInt64 (clF (eS (hD S) b si k) (lS (hD S) b si k))))]) (st' := [.int ((wst (hD S) b si k).1)]) (S' := S9) rfl trivial ?_
      refine fV.if_lt bX8_worst_44 (fun c44 => ?_) (fun c44 => ?_)
      · refine fV.run iX8_worst_54_6 oX8_worst_54_6 (pc' := 19) (L' := [(0, .ref 35), (1, .int (nI si)), (2, .int (nI k)), (3, .long (Int32.toInt64 (clF (eS (hD S) b si k) (lS (hD S) b si k)))), (5, .int ((nI k) + 1)), (6, .long (Int32.toInt64 (clF (eS (hD S) b si k) (lS (hD S) b si k))))]) (st' := []) (S' := S9) rfl trivial ?_
        refine fV.pick (L' := [(0, .ref 35), (1, .int (nI si)), (2, .int (nI k)), (3, .long (Int32.toInt64 (clF (eS (hD S) b si k) (lS (hD S) b si k)))), (5, .int ((nI k) + 1))]) [0, 1, 2, 3, 4] rfl ?_
        exact fV.to (L' := [(0, .ref 35), (1, .int (nI si)), (2, .int ((wst (hD S) b si (k + 1)).1)), (3, .long (Int32.toInt64 (wst (hD S) b si (k + 1)).2)), (5, .int (nI (k + 1)))]) rfl (by rw [show wst (hD S) b si (k + 1) = (nI k, clF (eS (hD S) b si k) (lS (hD S) b si k)) from if_pos (by first | exact Or.inl (by grind) | exact Or.inr (by rw [w_le] at c51; grind)), nI_1]) rfl rfl (ih (k + 1) _ (by omega) (hkp.tr hk9))
      · refine fV.run iX8_worst_47_3 oX8_worst_47_3 (pc' := 51) (L' := [(0, .ref 35), (1, .int (nI si)), (2, .int ((wst (hD S) b si k).1)), (3, .long (Int32.toInt64 (wst (hD S) b si k).2)), (5, .int (nI k)), (6, .long (Int32.toInt64 (clF (eS (hD S) b si k) (lS (hD S) b si k))))]) (st' := [.int (lg_cmp (Int32.toInt64 (clF (eS (hD S) b si k) (lS (hD S) b si k))) (Int32.toInt64 (wst (hD S) b si k).2))]) (S' := S9) rfl trivial ?_
        refine fV.lif_ge bX8_worst_51 (fun c51 => ?_) (fun c51 => ?_)
        · refine fV.run iX8_worst_60_2 oX8_worst_60_2 (pc' := 19) (L' := [(0, .ref 35), (1, .int (nI si)), (2, .int ((wst (hD S) b si k).1)), (3, .long (Int32.toInt64 (wst (hD S) b si k).2)), (5, .int ((nI k) + 1)), (6, .long (Int32.toInt64 (clF (eS (hD S) b si k) (lS (hD S) b si k))))]) (st' := []) (S' := S9) rfl trivial ?_
          refine fV.pick (L' := [(0, .ref 35), (1, .int (nI si)), (2, .int ((wst (hD S) b si k).1)), (3, .long (Int32.toInt64 (wst (hD S) b si k).2)), (5, .int ((nI k) + 1))]) [0, 1, 2, 3, 4] rfl ?_
          exact fV.to (L' := [(0, .ref 35), (1, .int (nI si)), (2, .int ((wst (hD S) b si (k + 1)).1)), (3, .long (Int32.toInt64 (wst (hD S) b si (k + 1)).2)), (5, .int (nI (k + 1)))]) rfl (by rw [show wst (hD S) b si (k + 1) = wst (hD S) b si k from if_neg (by rw [w_le] at c51; grind), nI_1]) rfl rfl (ih (k + 1) _ (by omega) (hkp.tr hk9))
        · refine fV.run iX8_worst_54_6 oX8_worst_54_6 (pc' := 19) (L' := [(0, .ref 35), (1, .int (nI si)), (2, .int (nI k)), (3, .long (Int32.toInt64 (clF (eS (hD S) b si k) (lS (hD S) b si k)))), (5, .int ((nI k) + 1)), (6, .long (Int32.toInt64 (clF (eS (hD S) b si k) (lS (hD S) b si k))))]) (st' := []) (S' := S9) rfl trivial ?_
          refine fV.pick (L' := [(0, .ref 35), (1, .int (nI si)), (2, .int (nI k)), (3, .long (Int32.toInt64 (clF (eS (hD S) b si k) (lS (hD S) b si k)))), (5, .int ((nI k) + 1))]) [0, 1, 2, 3, 4] rfl ?_
          exact fV.to (L' := [(0, .ref 35), (1, .int (nI si)), (2, .int ((wst (hD S) b si (k + 1)).1)), (3, .long (Int32.toInt64 (wst (hD S) b si (k + 1)).2)), (5, .int (nI (k + 1)))]) rfl (by rw [show wst (hD S) b si (k + 1) = (nI k, clF (eS (hD S) b si k) (lS (hD S) b si k)) from if_pos (by first | exact Or.inl (by grind) | exact Or.inr (by rw [w_le] at c51; grind)), nI_1]) rfl rfl (ih (k + 1) _ (by omega) (hkp.tr hk9))
def iX8_worst_0_2 : List Instr := [.aload_n 0, .iload_n 1]
theorem oX8_worst_0_2 : fOkB cX8_worst 0 iX8_worst_0_2 = true := by decide +kernel
theorem dX8_worst_2 : decode cX8_worst 2 = .ok (.invokevirtual 109, 3) := by decide +kernel
theorem bX8_worst_5 : fBk cX8_worst 5 (.ifCond .ne) 12 := ⟨7, by decide +kernel, by decide⟩
def iX8_worst_12_6 : List Instr := [.iconst (-1), .istore_n 2, .lconst 0, .lstore_n 3, .iconst 0, .istore 5]
theorem oX8_worst_12_6 : fOkB cX8_worst 12 iX8_worst_12_6 = true := by decide +kernel
def iX8_worst_8_1 : List Instr := [.sipush (-1001)]
theorem oX8_worst_8_1 : fOkB cX8_worst 8 iX8_worst_8_1 = true := by decide +kernel
theorem dX8_worst_11 : decode cX8_worst 11 = .ok (.ireturn, 1) := by decide +kernel
set_option maxRecDepth 100000 in
theorem qX8_worst {G : fG} {d : Nat} {S : fS} (x : Int32) {a b c e : Nat} (H : hOk (hD S) a b c e) : fCtr G (d + 10) mX8_worst [.ref 35, .int x] S (fun r S' => r = some (.int (oWorst (hD S) b e x)) ∧ ke S S') := by
  refine fCtr.of bXX8_worst (Nat.le_of_ble_eq_true rfl) rfl ?_
  have hb16 : b ≤ 16 := H.2.1.2.1
  have ha8 : a ≤ 8 := H.1.2.2.1
  have hc4 : c ≤ 4 := H.2.2.1.2.1
  have he8 : e ≤ 8 := H.2.2.2.1.2.1
  have ho0 : 0 ≤ gI S 35 6 := by rw [show gI S 35 6 = nI c from H.2.2.1.1]; exact nI_pos' (by omega)
  have he0 : 0 ≤ gI S 35 10 := by rw [show gI S 35 10 = nI e from H.2.2.2.1.1]; exact nI_pos' (by omega)
  have hw0 : 0 ≤ gI S 35 3 := by rw [show gI S 35 3 = nI b from H.2.1.1]; exact nI_pos' (by omega)
  have hm3 : gI S 35 13 ≤ 3 := H.2.2.2.2.1.2
  have hm := most_N (m := gI S 35 13) H.2.2.2.2.1.1 hm3
  refine fV.run iX8_worst_0_2 oX8_worst_0_2 (pc' := 2) (L' := [(0, .ref 35), (1, .int x)]) (st' := [.int x, .ref 35]) (S' := S) rfl trivial ?_
  refine fV.callV (M2 := mX8_isSource) (d := d + 9) (o := 35) (av := [.int x]) (rest := []) kX8_isSource dX8_worst_2 lX8_109 rfl rfl rfl (Nat.le_of_ble_eq_true rfl) (fRoom (by decide)) ⟨Nat.le_refl _, Nat.le_refl _⟩ (qX8_isSource _ ho0) ?_
  rintro _ S9 ⟨rfl, h9⟩
  rw [h9]
  clear h9 S9
  refine fV.to (pc' := 5) (L' := [(0, .ref 35), (1, .int x)]) (st' := [.int (fB (decide (0 ≤ x ∧ x < (gI S 35 6))))]) (S' := S) rfl rfl rfl rfl ?_
  refine fV.if_ne bX8_worst_5 (fun c5 => ?_) (fun c5 => ?_)
  · refine fV.run iX8_worst_12_6 oX8_worst_12_6 (pc' := 19) (L' := [(0, .ref 35), (1, .int x), (2, .int (-1)), (3, .long 0), (5, .int 0)]) (st' := []) (S' := S) rfl trivial ?_
    obtain ⟨si, hsi, rfl⟩ := n_in (x := x) (n := c) (by omega) (by grind [fB]) (by rw [← show gI S 35 6 = nI c from H.2.2.1.1]; grind [fB])
    rw [show oWorst (hD S) b e (nI si) = (wst (hD S) b si e).1 by unfold oWorst; rw [if_pos ⟨nI_pos' (by omega), by rw [show (hD S).2.2.1.1 = nI c from H.2.2.1.1, nI_ltI (by omega) (by omega)]; exact hsi⟩, nI_clamp (by omega)]]
    exact lpX8_worst H hsi e 0 S (by omega) ke.rf
  · refine fV.run iX8_worst_8_1 oX8_worst_8_1 (pc' := 11) (L' := [(0, .ref 35), (1, .int x)]) (st' := [.int (-1001)]) (S' := S) rfl trivial ?_
    exact fV.iret rfl dX8_worst_11 ⟨by unfold oWorst; rw [if_neg (by grind [fB, hD])], ke.rf⟩

/-! path, worst, sees: the landed program -/
theorem nclamp {x : Int32} (h : 0 ≤ x) : nI x.toNatClampNeg = x := by
  obtain ⟨j, h2, h3⟩ := nI_of (x := x) (by grind)
  subst h3
  rw [nI_clamp h2]
theorem q13 {q : Int32} (h : q.toInt = 1 ∨ q.toInt = 2 ∨ q.toInt = 3) : 0 ≤ q - 1 ∧ (q - 1).toNatClampNeg < 3 ∧ ¬ q = 0 ∧ ¬ q = 4 ∧ ¬ q = 5 ∧ ¬ q = 6 := by
  rcases h with h | h | h
  · obtain rfl : q = 1 := i_of_toInt h _ (by decide)
    decide
  · obtain rfl : q = 2 := i_of_toInt h _ (by decide)
    decide
  · obtain rfl : q = 3 := i_of_toInt h _ (by decide)
    decide
theorem q13d {q : Int32} (h : ¬ fB (decide (0 ≤ q ∧ q ≤ 6)) = 0) (hx : q.toInt < 0 ∨ 6 < q.toInt) : 0 ≤ q - 1 ∧ (q - 1).toNatClampNeg < 3 ∧ ¬ q = 0 ∧ ¬ q = 4 ∧ ¬ q = 5 ∧ ¬ q = 6 := by
  rw [fBd1, t_le, t_le] at h
  have t0 : (0 : Int32).toInt = 0 := by decide
  have t6 : (6 : Int32).toInt = 6 := by decide
  omega
theorem pthA_y {h : hH} {b s t n : Nat} {q : Int32} {x : pTh} (hx : (plM h b s t)[n]? = some x) (hn : n < 2 ^ 31) : pthA h b s t (nI n) q = if q = 0 then (nI x.1.length).toInt64 else if q = 4 then x.2 else if q = 5 then enH h s x else if q = 6 then (tickF x.2).toInt64 else (wOf x.1 (q - 1).toNatClampNeg).toInt64 := by
  unfold pthA
  rw [nI_clamp hn, hx]
theorem path_none {h : hH} {b s t : Nat} {i q : Int32} (hc : 0 ≤ i → (plM h b s t).length ≤ i.toNatClampNeg) : (if 0 ≤ i then pthA h b s t i q else -1) = -1 := by
  by_cases h0 : 0 ≤ i
  · rw [if_pos h0]; unfold pthA; rw [List.getElem?_eq_none (hc h0)]
  · rw [if_neg h0]
theorem pth_out {S9 : fS} {n : Nat} {i : Int32} (hF : gI S9 24 2 = nI n) (hn : n ≤ 3857) (h0 : 0 ≤ i) (h : ¬ (0 ≤ i ∧ i ≤ gI S9 24 2 - 1)) : n ≤ i.toNatClampNeg := by
  rcases Nat.lt_or_ge i.toNatClampNeg n with q | q
  · exfalso
    apply h
    refine ⟨h0, ?_⟩
    have e := nclamp h0
    rw [← e, hF]
    obtain ⟨m, rfl⟩ : ∃ m, n = m + 1 := ⟨n - 1, by omega⟩
    rw [nI_pred]
    exact (nI_leI (by omega) (by omega)).mpr (by omega)
  · exact q
def iX7_path_0_3 : List Instr := [.aload_n 0, .iload_n 1, .iload_n 2]
theorem oX7_path_0_3 : fOkB cX7_path 0 iX7_path_0_3 = true := by decide +kernel
theorem dX7_path_3 : decode cX7_path 3 = .ok (.invokevirtual 125, 3) := by decide +kernel
theorem bX7_path_6 : fBk cX7_path 6 (.ifCond .ne) 13 := ⟨7, by decide +kernel, by decide⟩
def iX7_path_13_3 : List Instr := [.iload 4, .iconst 0, .bipush 6]
theorem oX7_path_13_3 : fOkB cX7_path 13 iX7_path_13_3 = true := by decide +kernel
theorem dX7_path_18 : decode cX7_path 18 = .ok (.invokestatic 74, 3) := by decide +kernel
theorem bX7_path_21 : fBk cX7_path 21 (.ifCond .ne) 28 := ⟨7, by decide +kernel, by decide⟩
def iX7_path_28_6 : List Instr := [.aload_n 0, .iload_n 1, .iload_n 2, .iconst 0, .aload_n 0, .getfield 67]
theorem oX7_path_28_6 : fOkB cX7_path 28 iX7_path_28_6 = true := by decide +kernel
theorem dX7_path_36 : decode cX7_path 36 = .ok (.invokevirtual 128, 3) := by decide +kernel
def iX7_path_39_7 : List Instr := [.iload_n 3, .iconst 0, .aload_n 0, .getfield 49, .getfield 132, .iconst 1, .isub]
theorem oX7_path_39_7 : fOkB cX7_path 39 iX7_path_39_7 = true := by decide +kernel
theorem dX7_path_50 : decode cX7_path 50 = .ok (.invokestatic 74, 3) := by decide +kernel
theorem bX7_path_53 : fBk cX7_path 53 (.ifCond .ne) 60 := ⟨7, by decide +kernel, by decide⟩
def iX7_path_60_1 : List Instr := [.iload 4]
theorem oX7_path_60_1 : fOkB cX7_path 60 iX7_path_60_1 = true := by decide +kernel
theorem dX7_path_62 : decode cX7_path 62 = .ok (.tableswitch 91 0 6 #[42, 91, 91, 91, 52, 62, 81], 42) := by decide +kernel
def iX7_path_104_3 : List Instr := [.aload_n 0, .getfield 49, .iload_n 3]
theorem oX7_path_104_3 : fOkB cX7_path 104 iX7_path_104_3 = true := by decide +kernel
set_option maxRecDepth 100000 in
theorem lX7_139 : Cond.methodLink RX7 139 yX1_orderOf ∈ fTB := fTB_at 503 rfl rfl
theorem dX7_path_109 : decode cX7_path 109 = .ok (.invokevirtual 139, 3) := by decide +kernel
def iX7_path_112_1 : List Instr := [.i2l]
theorem oX7_path_112_1 : fOkB cX7_path 112 iX7_path_112_1 = true := by decide +kernel
theorem dX7_path_113 : decode cX7_path 113 = .ok (.lreturn, 1) := by decide +kernel
def iX7_path_153_6 : List Instr := [.aload_n 0, .getfield 49, .iload_n 3, .iload 4, .iconst 1, .isub]
theorem oX7_path_153_6 : fOkB cX7_path 153 iX7_path_153_6 = true := by decide +kernel
theorem dX7_path_162 : decode cX7_path 162 = .ok (.invokevirtual 153, 3) := by decide +kernel
def iX7_path_165_1 : List Instr := [.i2l]
theorem oX7_path_165_1 : fOkB cX7_path 165 iX7_path_165_1 = true := by decide +kernel
theorem dX7_path_166 : decode cX7_path 166 = .ok (.lreturn, 1) := by decide +kernel
def iX7_path_114_5 : List Instr := [.aload_n 0, .getfield 49, .getfield 142, .iload_n 3, .laload]
theorem oX7_path_114_5 : fOkB cX7_path 114 iX7_path_114_5 = true := by decide +kernel
theorem dX7_path_123 : decode cX7_path 123 = .ok (.lreturn, 1) := by decide +kernel
def iX7_path_124_9 : List Instr := [.aload_n 0, .iload_n 3, .aload_n 0, .getfield 35, .iload_n 1, .iaload, .aload_n 0, .getfield 19, .getfield 94]
theorem oX7_path_124_9 : fOkB cX7_path 124 iX7_path_124_9 = true := by decide +kernel
theorem dX7_path_139 : decode cX7_path 139 = .ok (.invokevirtual 146, 3) := by decide +kernel
theorem dX7_path_142 : decode cX7_path 142 = .ok (.lreturn, 1) := by decide +kernel
def iX7_path_143_3 : List Instr := [.aload_n 0, .getfield 49, .iload_n 3]
theorem oX7_path_143_3 : fOkB cX7_path 143 iX7_path_143_3 = true := by decide +kernel
theorem dX7_path_148 : decode cX7_path 148 = .ok (.invokevirtual 150, 3) := by decide +kernel
def iX7_path_151_1 : List Instr := [.i2l]
theorem oX7_path_151_1 : fOkB cX7_path 151 iX7_path_151_1 = true := by decide +kernel
theorem dX7_path_152 : decode cX7_path 152 = .ok (.lreturn, 1) := by decide +kernel
def iX7_path_56_1 : List Instr := [.ldc2_w 137]
theorem oX7_path_56_1 : fOkB cX7_path 56 iX7_path_56_1 = true := by decide +kernel
theorem dX7_path_59 : decode cX7_path 59 = .ok (.lreturn, 1) := by decide +kernel
def iX7_path_24_1 : List Instr := [.ldc2_w 135]
theorem oX7_path_24_1 : fOkB cX7_path 24 iX7_path_24_1 = true := by decide +kernel
theorem dX7_path_27 : decode cX7_path 27 = .ok (.lreturn, 1) := by decide +kernel
def iX7_path_9_1 : List Instr := [.ldc2_w 133]
theorem oX7_path_9_1 : fOkB cX7_path 9 iX7_path_9_1 = true := by decide +kernel
theorem dX7_path_12 : decode cX7_path 12 = .ok (.lreturn, 1) := by decide +kernel
set_option maxRecDepth 100000 in
theorem qX7_path {G : fG} {d : Nat} {S : fS} (x y i q : Int32) {a b c e : Nat} (H : hOk (hC S) a b c e) (HG : hGeo S b) : fCtr G (d + 10) mX7_path [.ref 0, .int x, .int y, .int i, .int q] S (fun r S' => r = some (.long (oPath (hC S) b x y i q)) ∧ kp S S') := by
  refine fCtr.of bXX7_path (Nat.le_of_ble_eq_true rfl) rfl ?_
  have hb : gI S 4 6 = nI b := H.2.1.1
  have hb16 : b ≤ 16 := H.2.1.2.1
  have ha8 : a ≤ 8 := H.1.2.2.1
  have hc4 : c ≤ 4 := H.2.2.1.2.1
  have he8 : e ≤ 8 := H.2.2.2.1.2.1
  have hm3 : gI S 0 9 ≤ 3 := H.2.2.2.2.1.2
  have hm := most_N (m := gI S 0 9) H.2.2.2.2.1.1 hm3
  refine fV.run iX7_path_0_3 oX7_path_0_3 (pc' := 3) (L' := [(0, .ref 0), (1, .int x), (2, .int y), (3, .int i), (4, .int q)]) (st' := [.int y, .int x, .ref 0]) (S' := S) rfl trivial ?_
  refine fV.callV (M2 := mX7_areThere) (d := d + 9) (o := 0) (av := [.int x, .int y]) (rest := []) kX7_areThere dX7_path_3 lX7_125 rfl rfl rfl (Nat.le_of_ble_eq_true rfl) (fRoom (by decide)) ⟨Nat.le_refl _, Nat.le_refl _⟩ (qX7_areThere _ _) ?_
  rintro _ S9 ⟨rfl, h9⟩
  rw [h9]
  clear h9 S9
  refine fV.to (pc' := 6) (L' := [(0, .ref 0), (1, .int x), (2, .int y), (3, .int i), (4, .int q)]) (st' := [.int (fB (decide ((0 ≤ x ∧ x < (gI S 11 2)) ∧ (0 ≤ y ∧ y < (gI S 14 2)))))]) (S' := S) rfl rfl rfl rfl ?_
  refine fV.if_ne bX7_path_6 (fun c6 => ?_) (fun c6 => ?_)
  · refine fV.run iX7_path_13_3 oX7_path_13_3 (pc' := 18) (L' := [(0, .ref 0), (1, .int x), (2, .int y), (3, .int i), (4, .int q)]) (st' := [.int 6, .int 0, .int q]) (S' := S) rfl trivial ?_
    refine fV.callS (M2 := mX7_isWithin) (d := d + 9) (av := [.int q, .int 0, .int 6]) (rest := []) kX7_isWithin dX7_path_18 lX7_74 rfl rfl (Nat.le_of_ble_eq_true rfl) (fRoom (by decide)) ⟨Nat.le_refl _, Nat.le_refl _⟩ (qX7_isWithin _ _ _) ?_
    rintro _ S9 ⟨rfl, h9⟩
    rw [h9]
    clear h9 S9
    refine fV.to (pc' := 21) (L' := [(0, .ref 0), (1, .int x), (2, .int y), (3, .int i), (4, .int q)]) (st' := [.int (fB (decide (0 ≤ q ∧ q ≤ 6)))]) (S' := S) rfl rfl rfl rfl ?_
    refine fV.if_ne bX7_path_21 (fun c21 => ?_) (fun c21 => ?_)
    · refine fV.run iX7_path_28_6 oX7_path_28_6 (pc' := 36) (L' := [(0, .ref 0), (1, .int x), (2, .int y), (3, .int i), (4, .int q)]) (st' := [.int (gI S 0 9), .int 0, .int y, .int x, .ref 0]) (S' := S) rfl trivial ?_
      obtain ⟨si, hsi, rfl⟩ := n_in (x := x) (n := c) (by omega) (by grind [fB]) (by rw [← show gI S 11 2 = nI c from H.2.2.1.1]; grind [fB])
      obtain ⟨ei, hei, rfl⟩ := n_in (x := y) (n := e) (by omega) (by grind [fB]) (by rw [← show gI S 14 2 = nI e from H.2.2.2.1.1]; grind [fB])
      refine fV.callV (M2 := mX7_find) (d := d + 9) (o := 0) (av := [.int (nI si), .int (nI ei), .int 0, .int (gI S 0 9)]) (rest := []) kX7_find dX7_path_36 lX7_128 rfl rfl rfl (Nat.le_of_ble_eq_true rfl) (fRoom (by decide)) ⟨Nat.le_refl _, Nat.le_refl _⟩ (qX7_find (lo := 0) (N := (gI S 0 9).toNatClampNeg + 1) H HG hsi hei (by omega) hm.1 hm.2.2 hm3) ?_
      rintro _ S9 ⟨rfl, hk9, hF9⟩
      obtain ⟨hp9, hq9, hsf9, e2, e6, e17, ebo⟩ := fnd (lo := 0) (n := (gI S 0 9).toNatClampNeg + 1) H hsi hei hk9 (by omega)
      refine fV.to (pc' := 39) (L' := [(0, .ref 0), (1, .int (nI si)), (2, .int (nI ei)), (3, .int i), (4, .int q)]) (st' := []) (S' := S9) rfl rfl rfl rfl ?_
      refine fV.run iX7_path_39_7 oX7_path_39_7 (pc' := 50) (L' := [(0, .ref 0), (1, .int (nI si)), (2, .int (nI ei)), (3, .int i), (4, .int q)]) (st' := [.int ((gI S9 24 2) - 1), .int 0, .int i]) (S' := S9) rfl trivial ?_
      refine fV.callS (M2 := mX7_isWithin) (d := d + 9) (av := [.int i, .int 0, .int ((gI S9 24 2) - 1)]) (rest := []) kX7_isWithin dX7_path_50 lX7_74 rfl rfl (Nat.le_of_ble_eq_true rfl) (fRoom (by decide)) ⟨Nat.le_refl _, Nat.le_refl _⟩ (qX7_isWithin _ _ _) ?_
      rintro _ S9 ⟨rfl, h9⟩
      rw [h9]
      clear h9 S9
      refine fV.to (pc' := 53) (L' := [(0, .ref 0), (1, .int (nI si)), (2, .int (nI ei)), (3, .int i), (4, .int q)]) (st' := [.int (fB (decide (0 ≤ i ∧ i ≤ ((gI S9 24 2) - 1))))]) (S' := S9) rfl rfl rfl rfl ?_
      refine fV.if_ne bX7_path_53 (fun c53 => ?_) (fun c53 => ?_)
      · refine fV.run iX7_path_60_1 oX7_path_60_1 (pc' := 62) (L' := [(0, .ref 0), (1, .int (nI si)), (2, .int (nI ei)), (3, .int i), (4, .int q)]) (st' := [.int q]) (S' := S9) rfl trivial ?_
        have h0 : 0 ≤ gI S9 24 2 := by rw [hF9.1]; exact nI_pos' (by have := hF9.2.1; omega)
        obtain ⟨n, hn, rfl⟩ := n_in (x := i) (n := (plR (gA S 5) b (gA S 12 si, gA S 13 si) (gA S 15 ei, gA S 16 ei) 0 ((gI S 0 9).toNatClampNeg + 1)).length) (by have := hF9.2.1; omega) (by grind [fB]) (by rw [← hF9.1]; grind [fB])
        obtain ⟨x9, hx9⟩ : ∃ x9, (plR (gA S 5) b (gA S 12 si, gA S 13 si) (gA S 15 ei, gA S 16 ei) 0 ((gI S 0 9).toNatClampNeg + 1))[n]? = some x9 := ⟨_, List.getElem?_eq_getElem hn⟩
        have hn38 : n < 3857 := by have := hF9.2.1; omega
        refine fV.tsw (tgt := 153) dX7_path_62 (by decide) (fun h1 h2 => ?_) (fun hx => ?_)
        · rcases (show Int32.toInt q = 0 ∨ Int32.toInt q = 1 ∨ Int32.toInt q = 2 ∨ Int32.toInt q = 3 ∨ Int32.toInt q = 4 ∨ Int32.toInt q = 5 ∨ Int32.toInt q = 6 by omega) with hx | hx | hx | hx | hx | hx | hx
          · refine ⟨42, 104, by rw [hx]; rfl, by decide, ?_⟩
            refine fV.run iX7_path_104_3 oX7_path_104_3 (pc' := 109) (L' := [(0, .ref 0), (1, .int (nI si)), (2, .int (nI ei)), (3, .int (nI n)), (4, .int q)]) (st' := [.int (nI n), .ref 24]) (S' := S9) rfl trivial ?_
            refine fV.callV (M2 := mX1_orderOf) (d := d + 9) (o := 24) (av := [.int (nI n)]) (rest := []) kX1_orderOf dX7_path_109 lX7_139 rfl rfl rfl (Nat.le_of_ble_eq_true rfl) (fRoom (by decide)) ⟨Nat.le_refl _, Nat.le_refl _⟩ (qX1_ord (S := S9) hb16 hF9 hp9 hx9) ?_
            rintro _ S9 ⟨rfl, h9⟩
            rw [h9]
            clear h9 S9
            refine fV.to (pc' := 112) (L' := [(0, .ref 0), (1, .int (nI si)), (2, .int (nI ei)), (3, .int (nI n)), (4, .int q)]) (st' := [.int (nI x9.1.length)]) (S' := S9) rfl rfl rfl rfl ?_
            refine fV.run iX7_path_112_1 oX7_path_112_1 (pc' := 113) (L' := [(0, .ref 0), (1, .int (nI si)), (2, .int (nI ei)), (3, .int (nI n)), (4, .int q)]) (st' := [.long (Int32.toInt64 (nI x9.1.length))]) (S' := S9) rfl trivial ?_
            exact fV.lret rfl dX7_path_113 ⟨by unfold oPath; rw [if_pos (show thr (hC S) (nI si) (nI ei) from ⟨⟨nI_pos' (by omega), by rw [show (hC S).2.2.1.1 = nI c from H.2.2.1.1, nI_ltI (by omega) (by omega)]; exact hsi⟩, nI_pos' (by omega), by rw [show (hC S).2.2.2.1.1 = nI e from H.2.2.2.1.1, nI_ltI (by omega) (by omega)]; exact hei⟩), if_pos (by grind [fB]), if_pos (nI_pos' (by omega)), nI_clamp (by omega), nI_clamp (by omega), pthA_y (show (plM (hC S) b si ei)[n]? = some x9 from hx9) (by omega)]; (have ht : q = 0 := i_of_toInt hx _ (by decide)); subst ht; rfl, hk9⟩
          · refine ⟨91, 153, by rw [hx]; rfl, by decide, ?_⟩
            refine fV.run iX7_path_153_6 oX7_path_153_6 (pc' := 162) (L' := [(0, .ref 0), (1, .int (nI si)), (2, .int (nI ei)), (3, .int (nI n)), (4, .int q)]) (st' := [.int (q - 1), .int (nI n), .ref 24]) (S' := S9) rfl trivial ?_
            refine fV.to (L' := [(0, .ref 0), (1, .int (nI si)), (2, .int (nI ei)), (3, .int (nI n)), (4, .int q)]) (st' := [.int (nI (q - 1).toNatClampNeg), .int (nI n), .ref 24]) rfl rfl (congrArg (fun z9 => ([.int z9, .int (nI n), .ref 24] : List Value)) (show (q - 1 : Int32) = nI (q - 1).toNatClampNeg from (nclamp (show 0 ≤ q - 1 ∧ (q - 1).toNatClampNeg < 3 ∧ ¬ q = 0 ∧ ¬ q = 4 ∧ ¬ q = 5 ∧ ¬ q = 6 from by first | exact q13 (Or.inl hx) | exact q13 (Or.inr (Or.inl hx)) | exact q13 (Or.inr (Or.inr hx)) | exact q13d c21 hx).1).symm)) rfl ?_
            refine fV.callV (M2 := mX1_wallOf) (d := d + 9) (o := 24) (av := [.int (nI n), .int (nI (q - 1).toNatClampNeg)]) (rest := []) kX1_wallOf dX7_path_162 lX7_153 rfl rfl rfl (Nat.le_of_ble_eq_true rfl) (fRoom (by decide)) ⟨Nat.le_refl _, Nat.le_refl _⟩ (qX1_wallOf (S := S9) (t := (q - 1).toNatClampNeg) hb16 hF9 hp9 hx9 (show 0 ≤ q - 1 ∧ (q - 1).toNatClampNeg < 3 ∧ ¬ q = 0 ∧ ¬ q = 4 ∧ ¬ q = 5 ∧ ¬ q = 6 from by first | exact q13 (Or.inl hx) | exact q13 (Or.inr (Or.inl hx)) | exact q13 (Or.inr (Or.inr hx)) | exact q13d c21 hx).2.1) ?_
            rintro _ S9 ⟨rfl, h9⟩
            rw [h9]
            clear h9 S9
            refine fV.to (pc' := 165) (L' := [(0, .ref 0), (1, .int (nI si)), (2, .int (nI ei)), (3, .int (nI n)), (4, .int q)]) (st' := [.int (wOf x9.1 (q - 1).toNatClampNeg)]) (S' := S9) rfl rfl rfl rfl ?_
            refine fV.run iX7_path_165_1 oX7_path_165_1 (pc' := 166) (L' := [(0, .ref 0), (1, .int (nI si)), (2, .int (nI ei)), (3, .int (nI n)), (4, .int q)]) (st' := [.long (Int32.toInt64 (wOf x9.1 (q - 1).toNatClampNeg))]) (S' := S9) rfl trivial ?_
            exact fV.lret rfl dX7_path_166 ⟨by unfold oPath; rw [if_pos (show thr (hC S) (nI si) (nI ei) from ⟨⟨nI_pos' (by omega), by rw [show (hC S).2.2.1.1 = nI c from H.2.2.1.1, nI_ltI (by omega) (by omega)]; exact hsi⟩, nI_pos' (by omega), by rw [show (hC S).2.2.2.1.1 = nI e from H.2.2.2.1.1, nI_ltI (by omega) (by omega)]; exact hei⟩), if_pos (by grind [fB]), if_pos (nI_pos' (by omega)), nI_clamp (by omega), nI_clamp (by omega), pthA_y (show (plM (hC S) b si ei)[n]? = some x9 from hx9) (by omega)]; (obtain ⟨z1, z2, z3, z4, z5, z6⟩ := (show 0 ≤ q - 1 ∧ (q - 1).toNatClampNeg < 3 ∧ ¬ q = 0 ∧ ¬ q = 4 ∧ ¬ q = 5 ∧ ¬ q = 6 from (by first | exact q13 (Or.inl hx) | exact q13 (Or.inr (Or.inl hx)) | exact q13 (Or.inr (Or.inr hx)) | exact q13d c21 hx))); rw [if_neg z3, if_neg z4, if_neg z5, if_neg z6], hk9⟩
          · refine ⟨91, 153, by rw [hx]; rfl, by decide, ?_⟩
            refine fV.run iX7_path_153_6 oX7_path_153_6 (pc' := 162) (L' := [(0, .ref 0), (1, .int (nI si)), (2, .int (nI ei)), (3, .int (nI n)), (4, .int q)]) (st' := [.int (q - 1), .int (nI n), .ref 24]) (S' := S9) rfl trivial ?_
            refine fV.to (L' := [(0, .ref 0), (1, .int (nI si)), (2, .int (nI ei)), (3, .int (nI n)), (4, .int q)]) (st' := [.int (nI (q - 1).toNatClampNeg), .int (nI n), .ref 24]) rfl rfl (congrArg (fun z9 => ([.int z9, .int (nI n), .ref 24] : List Value)) (show (q - 1 : Int32) = nI (q - 1).toNatClampNeg from (nclamp (show 0 ≤ q - 1 ∧ (q - 1).toNatClampNeg < 3 ∧ ¬ q = 0 ∧ ¬ q = 4 ∧ ¬ q = 5 ∧ ¬ q = 6 from by first | exact q13 (Or.inl hx) | exact q13 (Or.inr (Or.inl hx)) | exact q13 (Or.inr (Or.inr hx)) | exact q13d c21 hx).1).symm)) rfl ?_
            refine fV.callV (M2 := mX1_wallOf) (d := d + 9) (o := 24) (av := [.int (nI n), .int (nI (q - 1).toNatClampNeg)]) (rest := []) kX1_wallOf dX7_path_162 lX7_153 rfl rfl rfl (Nat.le_of_ble_eq_true rfl) (fRoom (by decide)) ⟨Nat.le_refl _, Nat.le_refl _⟩ (qX1_wallOf (S := S9) (t := (q - 1).toNatClampNeg) hb16 hF9 hp9 hx9 (show 0 ≤ q - 1 ∧ (q - 1).toNatClampNeg < 3 ∧ ¬ q = 0 ∧ ¬ q = 4 ∧ ¬ q = 5 ∧ ¬ q = 6 from by first | exact q13 (Or.inl hx) | exact q13 (Or.inr (Or.inl hx)) | exact q13 (Or.inr (Or.inr hx)) | exact q13d c21 hx).2.1) ?_
            rintro _ S9 ⟨rfl, h9⟩
            rw [h9]
            clear h9 S9
            refine fV.to (pc' := 165) (L' := [(0, .ref 0), (1, .int (nI si)), (2, .int (nI ei)), (3, .int (nI n)), (4, .int q)]) (st' := [.int (wOf x9.1 (q - 1).toNatClampNeg)]) (S' := S9) rfl rfl rfl rfl ?_
            refine fV.run iX7_path_165_1 oX7_path_165_1 (pc' := 166) (L' := [(0, .ref 0), (1, .int (nI si)), (2, .int (nI ei)), (3, .int (nI n)), (4, .int q)]) (st' := [.long (Int32.toInt64 (wOf x9.1 (q - 1).toNatClampNeg))]) (S' := S9) rfl trivial ?_
            exact fV.lret rfl dX7_path_166 ⟨by unfold oPath; rw [if_pos (show thr (hC S) (nI si) (nI ei) from ⟨⟨nI_pos' (by omega), by rw [show (hC S).2.2.1.1 = nI c from H.2.2.1.1, nI_ltI (by omega) (by omega)]; exact hsi⟩, nI_pos' (by omega), by rw [show (hC S).2.2.2.1.1 = nI e from H.2.2.2.1.1, nI_ltI (by omega) (by omega)]; exact hei⟩), if_pos (by grind [fB]), if_pos (nI_pos' (by omega)), nI_clamp (by omega), nI_clamp (by omega), pthA_y (show (plM (hC S) b si ei)[n]? = some x9 from hx9) (by omega)]; (obtain ⟨z1, z2, z3, z4, z5, z6⟩ := (show 0 ≤ q - 1 ∧ (q - 1).toNatClampNeg < 3 ∧ ¬ q = 0 ∧ ¬ q = 4 ∧ ¬ q = 5 ∧ ¬ q = 6 from (by first | exact q13 (Or.inl hx) | exact q13 (Or.inr (Or.inl hx)) | exact q13 (Or.inr (Or.inr hx)) | exact q13d c21 hx))); rw [if_neg z3, if_neg z4, if_neg z5, if_neg z6], hk9⟩
          · refine ⟨91, 153, by rw [hx]; rfl, by decide, ?_⟩
            refine fV.run iX7_path_153_6 oX7_path_153_6 (pc' := 162) (L' := [(0, .ref 0), (1, .int (nI si)), (2, .int (nI ei)), (3, .int (nI n)), (4, .int q)]) (st' := [.int (q - 1), .int (nI n), .ref 24]) (S' := S9) rfl trivial ?_
            refine fV.to (L' := [(0, .ref 0), (1, .int (nI si)), (2, .int (nI ei)), (3, .int (nI n)), (4, .int q)]) (st' := [.int (nI (q - 1).toNatClampNeg), .int (nI n), .ref 24]) rfl rfl (congrArg (fun z9 => ([.int z9, .int (nI n), .ref 24] : List Value)) (show (q - 1 : Int32) = nI (q - 1).toNatClampNeg from (nclamp (show 0 ≤ q - 1 ∧ (q - 1).toNatClampNeg < 3 ∧ ¬ q = 0 ∧ ¬ q = 4 ∧ ¬ q = 5 ∧ ¬ q = 6 from by first | exact q13 (Or.inl hx) | exact q13 (Or.inr (Or.inl hx)) | exact q13 (Or.inr (Or.inr hx)) | exact q13d c21 hx).1).symm)) rfl ?_
            refine fV.callV (M2 := mX1_wallOf) (d := d + 9) (o := 24) (av := [.int (nI n), .int (nI (q - 1).toNatClampNeg)]) (rest := []) kX1_wallOf dX7_path_162 lX7_153 rfl rfl rfl (Nat.le_of_ble_eq_true rfl) (fRoom (by decide)) ⟨Nat.le_refl _, Nat.le_refl _⟩ (qX1_wallOf (S := S9) (t := (q - 1).toNatClampNeg) hb16 hF9 hp9 hx9 (show 0 ≤ q - 1 ∧ (q - 1).toNatClampNeg < 3 ∧ ¬ q = 0 ∧ ¬ q = 4 ∧ ¬ q = 5 ∧ ¬ q = 6 from by first | exact q13 (Or.inl hx) | exact q13 (Or.inr (Or.inl hx)) | exact q13 (Or.inr (Or.inr hx)) | exact q13d c21 hx).2.1) ?_
            rintro _ S9 ⟨rfl, h9⟩
            rw [h9]
            clear h9 S9
            refine fV.to (pc' := 165) (L' := [(0, .ref 0), (1, .int (nI si)), (2, .int (nI ei)), (3, .int (nI n)), (4, .int q)]) (st' := [.int (wOf x9.1 (q - 1).toNatClampNeg)]) (S' := S9) rfl rfl rfl rfl ?_
            refine fV.run iX7_path_165_1 oX7_path_165_1 (pc' := 166) (L' := [(0, .ref 0), (1, .int (nI si)), (2, .int (nI ei)), (3, .int (nI n)), (4, .int q)]) (st' := [.long (Int32.toInt64 (wOf x9.1 (q - 1).toNatClampNeg))]) (S' := S9) rfl trivial ?_
            exact fV.lret rfl dX7_path_166 ⟨by unfold oPath; rw [if_pos (show thr (hC S) (nI si) (nI ei) from ⟨⟨nI_pos' (by omega), by rw [show (hC S).2.2.1.1 = nI c from H.2.2.1.1, nI_ltI (by omega) (by omega)]; exact hsi⟩, nI_pos' (by omega), by rw [show (hC S).2.2.2.1.1 = nI e from H.2.2.2.1.1, nI_ltI (by omega) (by omega)]; exact hei⟩), if_pos (by grind [fB]), if_pos (nI_pos' (by omega)), nI_clamp (by omega), nI_clamp (by omega), pthA_y (show (plM (hC S) b si ei)[n]? = some x9 from hx9) (by omega)]; (obtain ⟨z1, z2, z3, z4, z5, z6⟩ := (show 0 ≤ q - 1 ∧ (q - 1).toNatClampNeg < 3 ∧ ¬ q = 0 ∧ ¬ q = 4 ∧ ¬ q = 5 ∧ ¬ q = 6 from (by first | exact q13 (Or.inl hx) | exact q13 (Or.inr (Or.inl hx)) | exact q13 (Or.inr (Or.inr hx)) | exact q13d c21 hx))); rw [if_neg z3, if_neg z4, if_neg z5, if_neg z6], hk9⟩
          · refine ⟨52, 114, by rw [hx]; rfl, by decide, ?_⟩
            refine fV.run iX7_path_114_5 oX7_path_114_5 (pc' := 123) (L' := [(0, .ref 0), (1, .int (nI si)), (2, .int (nI ei)), (3, .int (nI n)), (4, .int q)]) (st' := [.long (gB S9 26 (nI n).toNatClampNeg)]) (S' := S9) (P := vp_in (nI n) 3857 ∧ True) rfl ⟨(vp_in_nI (by omega) (by decide)), trivial⟩ ?_
            refine fV.to (L' := [(0, .ref 0), (1, .int (nI si)), (2, .int (nI ei)), (3, .int (nI n)), (4, .int q)]) (st' := [.long x9.2]) rfl rfl (by rw [show (gB S9 26 (nI n).toNatClampNeg : Int64) = x9.2 from by rw [nI_clamp (by omega)]; exact (hF9.2.2.2 n x9 hx9).2]) rfl ?_
            exact fV.lret rfl dX7_path_123 ⟨by unfold oPath; rw [if_pos (show thr (hC S) (nI si) (nI ei) from ⟨⟨nI_pos' (by omega), by rw [show (hC S).2.2.1.1 = nI c from H.2.2.1.1, nI_ltI (by omega) (by omega)]; exact hsi⟩, nI_pos' (by omega), by rw [show (hC S).2.2.2.1.1 = nI e from H.2.2.2.1.1, nI_ltI (by omega) (by omega)]; exact hei⟩), if_pos (by grind [fB]), if_pos (nI_pos' (by omega)), nI_clamp (by omega), nI_clamp (by omega), pthA_y (show (plM (hC S) b si ei)[n]? = some x9 from hx9) (by omega)]; (have ht : q = 4 := i_of_toInt hx _ (by decide)); subst ht; rfl, hk9⟩
          · refine ⟨62, 124, by rw [hx]; rfl, by decide, ?_⟩
            refine fV.run iX7_path_124_9 oX7_path_124_9 (pc' := 139) (L' := [(0, .ref 0), (1, .int (nI si)), (2, .int (nI ei)), (3, .int (nI n)), (4, .int q)]) (st' := [.ref 6, .int (gA S9 17 (nI si).toNatClampNeg), .int (nI n), .ref 0]) (S' := S9) (P := vp_in (nI si) 4 ∧ True) rfl ⟨(vp_in_nI (by omega) (by decide)), trivial⟩ ?_
            refine fV.callV (M2 := mX7_energyOf) (d := d + 9) (o := 0) (av := [.int (nI n), .int (gA S9 17 (nI si).toNatClampNeg), .ref 6]) (rest := []) kX7_energyOf dX7_path_139 lX7_146 rfl rfl rfl (Nat.le_of_ble_eq_true rfl) (fRoom (by decide)) ⟨Nat.le_refl _, Nat.le_refl _⟩ (qX7_en_6 (S := S9) hb16 hF9 hp9 hq9 hx9 hsf9) ?_
            rintro _ S8 ⟨rfl, h9⟩
            rw [h9, e2, e6, e17, nI_clamp (by omega)]
            clear h9 S8
            refine fV.to (pc' := 142) (L' := [(0, .ref 0), (1, .int (nI si)), (2, .int (nI ei)), (3, .int (nI n)), (4, .int q)]) (st' := [.long (enF (gA S 2) (gA S 6) (gA S 17 si) x9)]) (S' := S9) rfl rfl rfl rfl ?_
            exact fV.lret rfl dX7_path_142 ⟨by unfold oPath; rw [if_pos (show thr (hC S) (nI si) (nI ei) from ⟨⟨nI_pos' (by omega), by rw [show (hC S).2.2.1.1 = nI c from H.2.2.1.1, nI_ltI (by omega) (by omega)]; exact hsi⟩, nI_pos' (by omega), by rw [show (hC S).2.2.2.1.1 = nI e from H.2.2.2.1.1, nI_ltI (by omega) (by omega)]; exact hei⟩), if_pos (by grind [fB]), if_pos (nI_pos' (by omega)), nI_clamp (by omega), nI_clamp (by omega), pthA_y (show (plM (hC S) b si ei)[n]? = some x9 from hx9) (by omega)]; (have ht : q = 5 := i_of_toInt hx _ (by decide)); subst ht; rfl, hk9⟩
          · refine ⟨81, 143, by rw [hx]; rfl, by decide, ?_⟩
            refine fV.run iX7_path_143_3 oX7_path_143_3 (pc' := 148) (L' := [(0, .ref 0), (1, .int (nI si)), (2, .int (nI ei)), (3, .int (nI n)), (4, .int q)]) (st' := [.int (nI n), .ref 24]) (S' := S9) rfl trivial ?_
            refine fV.callV (M2 := mX1_tickOf) (d := d + 9) (o := 24) (av := [.int (nI n)]) (rest := []) kX1_tickOf dX7_path_148 lX7_150 rfl rfl rfl (Nat.le_of_ble_eq_true rfl) (fRoom (by decide)) ⟨Nat.le_refl _, Nat.le_refl _⟩ (qX1_tickOf (S := S9) hb16 hF9 hp9 hx9) ?_
            rintro _ S9 ⟨rfl, h9⟩
            rw [h9]
            clear h9 S9
            refine fV.to (pc' := 151) (L' := [(0, .ref 0), (1, .int (nI si)), (2, .int (nI ei)), (3, .int (nI n)), (4, .int q)]) (st' := [.int (tickF x9.2)]) (S' := S9) rfl rfl rfl rfl ?_
            refine fV.run iX7_path_151_1 oX7_path_151_1 (pc' := 152) (L' := [(0, .ref 0), (1, .int (nI si)), (2, .int (nI ei)), (3, .int (nI n)), (4, .int q)]) (st' := [.long (Int32.toInt64 (tickF x9.2))]) (S' := S9) rfl trivial ?_
            exact fV.lret rfl dX7_path_152 ⟨by unfold oPath; rw [if_pos (show thr (hC S) (nI si) (nI ei) from ⟨⟨nI_pos' (by omega), by rw [show (hC S).2.2.1.1 = nI c from H.2.2.1.1, nI_ltI (by omega) (by omega)]; exact hsi⟩, nI_pos' (by omega), by rw [show (hC S).2.2.2.1.1 = nI e from H.2.2.2.1.1, nI_ltI (by omega) (by omega)]; exact hei⟩), if_pos (by grind [fB]), if_pos (nI_pos' (by omega)), nI_clamp (by omega), nI_clamp (by omega), pthA_y (show (plM (hC S) b si ei)[n]? = some x9 from hx9) (by omega)]; (have ht : q = 6 := i_of_toInt hx _ (by decide)); subst ht; rfl, hk9⟩
        · refine fV.run iX7_path_153_6 oX7_path_153_6 (pc' := 162) (L' := [(0, .ref 0), (1, .int (nI si)), (2, .int (nI ei)), (3, .int (nI n)), (4, .int q)]) (st' := [.int (q - 1), .int (nI n), .ref 24]) (S' := S9) rfl trivial ?_
          refine fV.to (L' := [(0, .ref 0), (1, .int (nI si)), (2, .int (nI ei)), (3, .int (nI n)), (4, .int q)]) (st' := [.int (nI (q - 1).toNatClampNeg), .int (nI n), .ref 24]) rfl rfl (congrArg (fun z9 => ([.int z9, .int (nI n), .ref 24] : List Value)) (show (q - 1 : Int32) = nI (q - 1).toNatClampNeg from (nclamp (show 0 ≤ q - 1 ∧ (q - 1).toNatClampNeg < 3 ∧ ¬ q = 0 ∧ ¬ q = 4 ∧ ¬ q = 5 ∧ ¬ q = 6 from by first | exact q13 (Or.inl hx) | exact q13 (Or.inr (Or.inl hx)) | exact q13 (Or.inr (Or.inr hx)) | exact q13d c21 hx).1).symm)) rfl ?_
          refine fV.callV (M2 := mX1_wallOf) (d := d + 9) (o := 24) (av := [.int (nI n), .int (nI (q - 1).toNatClampNeg)]) (rest := []) kX1_wallOf dX7_path_162 lX7_153 rfl rfl rfl (Nat.le_of_ble_eq_true rfl) (fRoom (by decide)) ⟨Nat.le_refl _, Nat.le_refl _⟩ (qX1_wallOf (S := S9) (t := (q - 1).toNatClampNeg) hb16 hF9 hp9 hx9 (show 0 ≤ q - 1 ∧ (q - 1).toNatClampNeg < 3 ∧ ¬ q = 0 ∧ ¬ q = 4 ∧ ¬ q = 5 ∧ ¬ q = 6 from by first | exact q13 (Or.inl hx) | exact q13 (Or.inr (Or.inl hx)) | exact q13 (Or.inr (Or.inr hx)) | exact q13d c21 hx).2.1) ?_
          rintro _ S9 ⟨rfl, h9⟩
          rw [h9]
          clear h9 S9
          refine fV.to (pc' := 165) (L' := [(0, .ref 0), (1, .int (nI si)), (2, .int (nI ei)), (3, .int (nI n)), (4, .int q)]) (st' := [.int (wOf x9.1 (q - 1).toNatClampNeg)]) (S' := S9) rfl rfl rfl rfl ?_
          refine fV.run iX7_path_165_1 oX7_path_165_1 (pc' := 166) (L' := [(0, .ref 0), (1, .int (nI si)), (2, .int (nI ei)), (3, .int (nI n)), (4, .int q)]) (st' := [.long (Int32.toInt64 (wOf x9.1 (q - 1).toNatClampNeg))]) (S' := S9) rfl trivial ?_
          exact fV.lret rfl dX7_path_166 ⟨by unfold oPath; rw [if_pos (show thr (hC S) (nI si) (nI ei) from ⟨⟨nI_pos' (by omega), by rw [show (hC S).2.2.1.1 = nI c from H.2.2.1.1, nI_ltI (by omega) (by omega)]; exact hsi⟩, nI_pos' (by omega), by rw [show (hC S).2.2.2.1.1 = nI e from H.2.2.2.1.1, nI_ltI (by omega) (by omega)]; exact hei⟩), if_pos (by grind [fB]), if_pos (nI_pos' (by omega)), nI_clamp (by omega), nI_clamp (by omega), pthA_y (show (plM (hC S) b si ei)[n]? = some x9 from hx9) (by omega)]; (obtain ⟨z1, z2, z3, z4, z5, z6⟩ := (show 0 ≤ q - 1 ∧ (q - 1).toNatClampNeg < 3 ∧ ¬ q = 0 ∧ ¬ q = 4 ∧ ¬ q = 5 ∧ ¬ q = 6 from (by first | exact q13 (Or.inl hx) | exact q13 (Or.inr (Or.inl hx)) | exact q13 (Or.inr (Or.inr hx)) | exact q13d c21 hx))); rw [if_neg z3, if_neg z4, if_neg z5, if_neg z6], hk9⟩
      · refine fV.run iX7_path_56_1 oX7_path_56_1 (pc' := 59) (L' := [(0, .ref 0), (1, .int (nI si)), (2, .int (nI ei)), (3, .int i), (4, .int q)]) (st' := [.long (-1)]) (S' := S9) rfl trivial ?_
        exact fV.lret rfl dX7_path_59 ⟨by unfold oPath; rw [if_pos (show thr (hC S) (nI si) (nI ei) from ⟨⟨nI_pos' (by omega), by rw [show (hC S).2.2.1.1 = nI c from H.2.2.1.1, nI_ltI (by omega) (by omega)]; exact hsi⟩, nI_pos' (by omega), by rw [show (hC S).2.2.2.1.1 = nI e from H.2.2.2.1.1, nI_ltI (by omega) (by omega)]; exact hei⟩), if_pos (by grind [fB]), nI_clamp (by omega), nI_clamp (by omega)]; rw [path_none (fun h0 => show (plM (hC S) b si ei).length ≤ i.toNatClampNeg from pth_out hF9.1 hF9.2.1 h0 (fBd0.mp c53))], hk9⟩
    · refine fV.run iX7_path_24_1 oX7_path_24_1 (pc' := 27) (L' := [(0, .ref 0), (1, .int x), (2, .int y), (3, .int i), (4, .int q)]) (st' := [.long (-1002)]) (S' := S) rfl trivial ?_
      exact fV.lret rfl dX7_path_27 ⟨by unfold oPath; rw [if_pos (show thr (hC S) x y from by unfold thr; grind [fB, hC]), if_neg (by grind [fB])], kp.rf⟩
  · refine fV.run iX7_path_9_1 oX7_path_9_1 (pc' := 12) (L' := [(0, .ref 0), (1, .int x), (2, .int y), (3, .int i), (4, .int q)]) (st' := [.long (-1001)]) (S' := S) rfl trivial ?_
    exact fV.lret rfl dX7_path_12 ⟨by unfold oPath; rw [if_neg (show ¬ thr (hC S) x y from by unfold thr; grind [fB, hC])], kp.rf⟩

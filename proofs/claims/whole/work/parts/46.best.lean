/-! the landed program: best -/
noncomputable def clB (h : hH) (b s t : Nat) : (Nat → Int32) → Int32 := clV h.1.2.1 (h.2.2.1.2.2.2 s) (erH h b s t) (plM h b s t)
noncomputable def bst (h : hH) (a b s t m : Nat) (mo : Int32) : sel := chs (clB h b s t) h (wsU m 16) mo a (wsU m 16).length [] none
def ask3 (o : sel) (q : Int32) : Int32 := match o with
  | none => -1003
  | some z => if q = 0 then z.1 else if q = 1 then z.2.1 else z.2.2
noncomputable def oBest (h : hH) (a b : Nat) (x y u mo q : Int32) : Int32 := if thr h x y then (if isS h u ∧ (0 ≤ mo ∧ mo ≤ 1000000) ∧ (0 ≤ q ∧ q ≤ 2) then ask3 (bst h a b x.toNatClampNeg y.toNatClampNeg u.toNatClampNeg mo) q else -1002) else -1001
theorem ask_n {S : fS} {o : sel} (h : selR S o) (q : Int32) (h0 : gI S 28 9 = 0) : ask3 o q = -1003 := by
  cases o with
  | none => rfl
  | some z => exact absurd (h.1.symm.trans h0) (by decide)
theorem ask_y {S : fS} {o : sel} (h : selR S o) (q : Int32) (h0 : ¬ gI S 28 9 = 0) : ask3 o q = if q = 0 then gI S 28 10 else if q = 1 then gI S 28 11 else gI S 28 12 := by
  cases o with
  | none => exact absurd h h0
  | some z =>
    obtain ⟨h1, h2, h3, h4⟩ := h
    rw [h2, h3, h4]
    rfl
theorem qX7_chs {G : fG} {d : Nat} {S0 : fS} {a b c e : Nat} {PL : List pTh} {ws : List Nat} (B : cBF S0 a b c e PL ws) (I : cI S0 S0 b PL ws [] 0 none) (h : 0 ≤ gI S0 28 7) : fCtr G (d + 13) mX7_choose [.ref 0, .int 0, .int 0] S0 (fun z S' => z = none ∧ cI S0 S' b PL ws [] 0 (chs (clV (gA S0 2) (gI S0 28 8) (erl (gI S0 0 10) (leastF PL)) PL) (hC S0) ws (gI S0 28 7) a ws.length ([]) none)) := by
  have h4 : ws.length ≤ 4 := B.2.2.2.2.2.2.2.1
  have hc : cst (hC S0) ws [] = 0 := by cases ws <;> rfl
  have k := qX7_choose (G := G) (S0 := S0) (S := S0) (d := d + 5 + (4 - ws.length)) (pre := []) (o := none) ws.length B I (by simp) (fun f hf => absurd hf (by simp)) (by rw [hc]; exact h)
  rw [show d + 5 + (4 - ws.length) + ws.length + 4 = d + 13 by omega, hc] at k
  exact k
def iX7_best_0_3 : List Instr := [.aload_n 0, .iload_n 1, .iload_n 2]
theorem oX7_best_0_3 : fOkB cX7_best 0 iX7_best_0_3 = true := by decide +kernel
theorem dX7_best_3 : decode cX7_best 3 = .ok (.invokevirtual 125, 3) := by decide +kernel
theorem bX7_best_6 : fBk cX7_best 6 (.ifCond .ne) 13 := ⟨7, by decide +kernel, by decide⟩
def iX7_best_13_2 : List Instr := [.aload_n 0, .iload_n 3]
theorem oX7_best_13_2 : fOkB cX7_best 13 iX7_best_13_2 = true := by decide +kernel
set_option maxRecDepth 100000 in
theorem lX7_204 : Cond.methodLink RX7 204 yX7_isSet ∈ fTB := fTB_at 574 rfl rfl
theorem dX7_best_15 : decode cX7_best 15 = .ok (.invokevirtual 204, 3) := by decide +kernel
theorem bX7_best_18 : fBk cX7_best 18 (.ifCond .eq) 42 := ⟨24, by decide +kernel, by decide⟩
def iX7_best_42_1 : List Instr := [.sipush (-1002)]
theorem oX7_best_42_1 : fOkB cX7_best 42 iX7_best_42_1 = true := by decide +kernel
theorem dX7_best_45 : decode cX7_best 45 = .ok (.ireturn, 1) := by decide +kernel
def iX7_best_21_3 : List Instr := [.iload 4, .iconst 0, .ldc 207]
theorem oX7_best_21_3 : fOkB cX7_best 21 iX7_best_21_3 = true := by decide +kernel
theorem dX7_best_26 : decode cX7_best 26 = .ok (.invokestatic 74, 3) := by decide +kernel
theorem bX7_best_29 : fBk cX7_best 29 (.ifCond .eq) 42 := ⟨13, by decide +kernel, by decide⟩
def iX7_best_32_3 : List Instr := [.iload 5, .iconst 0, .iconst 2]
theorem oX7_best_32_3 : fOkB cX7_best 32 iX7_best_32_3 = true := by decide +kernel
theorem dX7_best_36 : decode cX7_best 36 = .ok (.invokestatic 74, 3) := by decide +kernel
theorem bX7_best_39 : fBk cX7_best 39 (.ifCond .ne) 46 := ⟨7, by decide +kernel, by decide⟩
def iX7_best_46_6 : List Instr := [.aload_n 0, .iload_n 1, .iload_n 2, .iconst 0, .aload_n 0, .getfield 67]
theorem oX7_best_46_6 : fOkB cX7_best 46 iX7_best_46_6 = true := by decide +kernel
theorem dX7_best_54 : decode cX7_best 54 = .ok (.invokevirtual 128, 3) := by decide +kernel
def iX7_best_57_10 : List Instr := [.aload_n 0, .getfield 63, .aload_n 0, .getfield 19, .iload_n 3, .iload 4, .aload_n 0, .getfield 35, .iload_n 1, .iaload]
theorem oX7_best_57_10 : fOkB cX7_best 57 iX7_best_57_10 = true := by decide +kernel
set_option maxRecDepth 100000 in
theorem lX7_208 : Cond.methodLink RX7 208 yX0_begin ∈ fTB := fTB_at 585 rfl rfl
theorem dX7_best_74 : decode cX7_best 74 = .ok (.invokevirtual 208, 3) := by decide +kernel
def iX7_best_77_4 : List Instr := [.aload_n 0, .getfield 63, .aload_n 0, .getfield 49]
theorem oX7_best_77_4 : fOkB cX7_best 77 iX7_best_77_4 = true := by decide +kernel
set_option maxRecDepth 100000 in
theorem lX7_212 : Cond.methodLink RX7 212 yX0_group ∈ fTB := fTB_at 589 rfl rfl
theorem dX7_best_85 : decode cX7_best 85 = .ok (.invokevirtual 212, 3) := by decide +kernel
def iX7_best_88_3 : List Instr := [.aload_n 0, .iconst 0, .iconst 0]
theorem oX7_best_88_3 : fOkB cX7_best 88 iX7_best_88_3 = true := by decide +kernel
theorem dX7_best_91 : decode cX7_best 91 = .ok (.invokevirtual 216, 3) := by decide +kernel
def iX7_best_94_3 : List Instr := [.aload_n 0, .getfield 63, .getfield 219]
theorem oX7_best_94_3 : fOkB cX7_best 94 iX7_best_94_3 = true := by decide +kernel
theorem bX7_best_101 : fBk cX7_best 101 (.ifCond .ne) 108 := ⟨7, by decide +kernel, by decide⟩
def iX7_best_108_1 : List Instr := [.iload 5]
theorem oX7_best_108_1 : fOkB cX7_best 108 iX7_best_108_1 = true := by decide +kernel
theorem dX7_best_110 : decode cX7_best 110 = .ok (.lookupswitch 42 #[(0, 26), (1, 34)], 26) := by decide +kernel
def iX7_best_136_3 : List Instr := [.aload_n 0, .getfield 63, .getfield 223]
theorem oX7_best_136_3 : fOkB cX7_best 136 iX7_best_136_3 = true := by decide +kernel
theorem dX7_best_143 : decode cX7_best 143 = .ok (.ireturn, 1) := by decide +kernel
def iX7_best_144_3 : List Instr := [.aload_n 0, .getfield 63, .getfield 226]
theorem oX7_best_144_3 : fOkB cX7_best 144 iX7_best_144_3 = true := by decide +kernel
theorem dX7_best_151 : decode cX7_best 151 = .ok (.ireturn, 1) := by decide +kernel
def iX7_best_152_3 : List Instr := [.aload_n 0, .getfield 63, .getfield 229]
theorem oX7_best_152_3 : fOkB cX7_best 152 iX7_best_152_3 = true := by decide +kernel
theorem dX7_best_159 : decode cX7_best 159 = .ok (.ireturn, 1) := by decide +kernel
def iX7_best_104_1 : List Instr := [.sipush (-1003)]
theorem oX7_best_104_1 : fOkB cX7_best 104 iX7_best_104_1 = true := by decide +kernel
theorem dX7_best_107 : decode cX7_best 107 = .ok (.ireturn, 1) := by decide +kernel
def iX7_best_9_1 : List Instr := [.sipush (-1001)]
theorem oX7_best_9_1 : fOkB cX7_best 9 iX7_best_9_1 = true := by decide +kernel
theorem dX7_best_12 : decode cX7_best 12 = .ok (.ireturn, 1) := by decide +kernel
set_option maxRecDepth 100000 in
theorem qX7_best {G : fG} {d : Nat} {S : fS} (x y u mo q : Int32) {a b c e : Nat} (H : hOk (hC S) a b c e) (HG : hGeo S b) : fCtr G (d + 14) mX7_best [.ref 0, .int x, .int y, .int u, .int mo, .int q] S (fun r S' => r = some (.int (oBest (hC S) a b x y u mo q)) ∧ kp S S') := by
  refine fCtr.of bXX7_best (Nat.le_of_ble_eq_true rfl) rfl ?_
  have hb : gI S 4 6 = nI b := H.2.1.1
  have hb16 : b ≤ 16 := H.2.1.2.1
  have ha8 : a ≤ 8 := H.1.2.2.1
  have hc4 : c ≤ 4 := H.2.2.1.2.1
  have he8 : e ≤ 8 := H.2.2.2.1.2.1
  have hm3 : gI S 0 9 ≤ 3 := H.2.2.2.2.1.2
  have hm := most_N (m := gI S 0 9) H.2.2.2.2.1.1 hm3
  refine fV.run iX7_best_0_3 oX7_best_0_3 (pc' := 3) (L' := [(0, .ref 0), (1, .int x), (2, .int y), (3, .int u), (4, .int mo), (5, .int q)]) (st' := [.int y, .int x, .ref 0]) (S' := S) rfl trivial ?_
  refine fV.callV (M2 := mX7_areThere) (d := d + 13) (o := 0) (av := [.int x, .int y]) (rest := []) kX7_areThere dX7_best_3 lX7_125 rfl rfl rfl (Nat.le_of_ble_eq_true rfl) (fRoom (by decide)) ⟨Nat.le_refl _, Nat.le_refl _⟩ (qX7_areThere _ _) ?_
  rintro _ S9 ⟨rfl, h9⟩
  rw [h9]
  clear h9 S9
  refine fV.to (pc' := 6) (L' := [(0, .ref 0), (1, .int x), (2, .int y), (3, .int u), (4, .int mo), (5, .int q)]) (st' := [.int (fB (decide ((0 ≤ x ∧ x < (gI S 11 2)) ∧ (0 ≤ y ∧ y < (gI S 14 2)))))]) (S' := S) rfl rfl rfl rfl ?_
  refine fV.if_ne bX7_best_6 (fun c6 => ?_) (fun c6 => ?_)
  · refine fV.run iX7_best_13_2 oX7_best_13_2 (pc' := 15) (L' := [(0, .ref 0), (1, .int x), (2, .int y), (3, .int u), (4, .int mo), (5, .int q)]) (st' := [.int u, .ref 0]) (S' := S) rfl trivial ?_
    refine fV.callV (M2 := mX7_isSet) (d := d + 13) (o := 0) (av := [.int u]) (rest := []) kX7_isSet dX7_best_15 lX7_204 rfl rfl rfl (Nat.le_of_ble_eq_true rfl) (fRoom (by decide)) ⟨Nat.le_refl _, Nat.le_refl _⟩ (qX7_isSet _ H) ?_
    rintro _ S9 ⟨rfl, h9⟩
    rw [h9]
    clear h9 S9
    refine fV.to (pc' := 18) (L' := [(0, .ref 0), (1, .int x), (2, .int y), (3, .int u), (4, .int mo), (5, .int q)]) (st' := [.int (fB (decide (isS (hC S) u)))]) (S' := S) rfl rfl rfl rfl ?_
    refine fV.if_eq bX7_best_18 (fun c18 => ?_) (fun c18 => ?_)
    · refine fV.run iX7_best_42_1 oX7_best_42_1 (pc' := 45) (L' := [(0, .ref 0), (1, .int x), (2, .int y), (3, .int u), (4, .int mo), (5, .int q)]) (st' := [.int (-1002)]) (S' := S) rfl trivial ?_
      exact fV.iret rfl dX7_best_45 ⟨by unfold oBest; rw [if_pos (show thr (hC S) x y from by unfold thr; grind [fB, hC]), if_neg (by grind [fB])], kp.rf⟩
    · refine fV.run iX7_best_21_3 oX7_best_21_3 (pc' := 26) (L' := [(0, .ref 0), (1, .int x), (2, .int y), (3, .int u), (4, .int mo), (5, .int q)]) (st' := [.int 1000000, .int 0, .int mo]) (S' := S) rfl trivial ?_
      refine fV.callS (M2 := mX7_isWithin) (d := d + 13) (av := [.int mo, .int 0, .int 1000000]) (rest := []) kX7_isWithin dX7_best_26 lX7_74 rfl rfl (Nat.le_of_ble_eq_true rfl) (fRoom (by decide)) ⟨Nat.le_refl _, Nat.le_refl _⟩ (qX7_isWithin _ _ _) ?_
      rintro _ S9 ⟨rfl, h9⟩
      rw [h9]
      clear h9 S9
      refine fV.to (pc' := 29) (L' := [(0, .ref 0), (1, .int x), (2, .int y), (3, .int u), (4, .int mo), (5, .int q)]) (st' := [.int (fB (decide (0 ≤ mo ∧ mo ≤ 1000000)))]) (S' := S) rfl rfl rfl rfl ?_
      refine fV.if_eq bX7_best_29 (fun c29 => ?_) (fun c29 => ?_)
      · refine fV.run iX7_best_42_1 oX7_best_42_1 (pc' := 45) (L' := [(0, .ref 0), (1, .int x), (2, .int y), (3, .int u), (4, .int mo), (5, .int q)]) (st' := [.int (-1002)]) (S' := S) rfl trivial ?_
        exact fV.iret rfl dX7_best_45 ⟨by unfold oBest; rw [if_pos (show thr (hC S) x y from by unfold thr; grind [fB, hC]), if_neg (by grind [fB])], kp.rf⟩
      · refine fV.run iX7_best_32_3 oX7_best_32_3 (pc' := 36) (L' := [(0, .ref 0), (1, .int x), (2, .int y), (3, .int u), (4, .int mo), (5, .int q)]) (st' := [.int 2, .int 0, .int q]) (S' := S) rfl trivial ?_
        refine fV.callS (M2 := mX7_isWithin) (d := d + 13) (av := [.int q, .int 0, .int 2]) (rest := []) kX7_isWithin dX7_best_36 lX7_74 rfl rfl (Nat.le_of_ble_eq_true rfl) (fRoom (by decide)) ⟨Nat.le_refl _, Nat.le_refl _⟩ (qX7_isWithin _ _ _) ?_
        rintro _ S9 ⟨rfl, h9⟩
        rw [h9]
        clear h9 S9
        refine fV.to (pc' := 39) (L' := [(0, .ref 0), (1, .int x), (2, .int y), (3, .int u), (4, .int mo), (5, .int q)]) (st' := [.int (fB (decide (0 ≤ q ∧ q ≤ 2)))]) (S' := S) rfl rfl rfl rfl ?_
        refine fV.if_ne bX7_best_39 (fun c39 => ?_) (fun c39 => ?_)
        · refine fV.run iX7_best_46_6 oX7_best_46_6 (pc' := 54) (L' := [(0, .ref 0), (1, .int x), (2, .int y), (3, .int u), (4, .int mo), (5, .int q)]) (st' := [.int (gI S 0 9), .int 0, .int y, .int x, .ref 0]) (S' := S) rfl trivial ?_
          obtain ⟨si, hsi, rfl⟩ := n_in (x := x) (n := c) (by omega) (by grind [fB]) (by rw [← show gI S 11 2 = nI c from H.2.2.1.1]; grind [fB])
          obtain ⟨ei, hei, rfl⟩ := n_in (x := y) (n := e) (by omega) (by grind [fB]) (by rw [← show gI S 14 2 = nI e from H.2.2.2.1.1]; grind [fB])
          have hu : isS (hC S) u := fBd1.mp c18
          obtain ⟨m, hmb, hm6, rfl⟩ := set_N (b := b) hb16 hu.1.1 (by have h0 := hu.1.2; rw [show (hC S).2.1.1 = nI b from H.2.1.1] at h0; exact h0)
          have hw4 : (wsU m 16).length ≤ 4 := by have h0 := hu.2; rwa [nI_clamp (by omega)] at h0
          refine fV.callV (M2 := mX7_find) (d := d + 13) (o := 0) (av := [.int (nI si), .int (nI ei), .int 0, .int (gI S 0 9)]) (rest := []) kX7_find dX7_best_54 lX7_128 rfl rfl rfl (Nat.le_of_ble_eq_true rfl) (fRoom (by decide)) ⟨Nat.le_refl _, Nat.le_refl _⟩ (qX7_find (lo := 0) (N := (gI S 0 9).toNatClampNeg + 1) H HG hsi hei (by omega) hm.1 hm.2.2 hm3) ?_
          rintro _ S9 ⟨rfl, hk9, hF9⟩
          obtain ⟨hp9, hq9, hsf9, e2, e6, e17, ebo⟩ := fnd (lo := 0) (n := (gI S 0 9).toNatClampNeg + 1) H hsi hei hk9 (by omega)
          refine fV.to (pc' := 57) (L' := [(0, .ref 0), (1, .int (nI si)), (2, .int (nI ei)), (3, .int (nI m)), (4, .int mo), (5, .int q)]) (st' := []) (S' := S9) rfl rfl rfl rfl ?_
          refine fV.run iX7_best_57_10 oX7_best_57_10 (pc' := 74) (L' := [(0, .ref 0), (1, .int (nI si)), (2, .int (nI ei)), (3, .int (nI m)), (4, .int mo), (5, .int q)]) (st' := [.int (gA S9 17 (nI si).toNatClampNeg), .int mo, .int (nI m), .ref 4, .ref 28]) (S' := S9) (P := vp_in (nI si) 4 ∧ True) rfl ⟨(vp_in_nI (by omega) (by decide)), trivial⟩ ?_
          refine fV.callV (M2 := mX0_begin) (d := d + 13) (o := 28) (av := [.ref 4, .int (nI m), .int mo, .int (gA S9 17 (nI si).toNatClampNeg)]) (rest := []) kX0_begin dX7_best_74 lX7_208 rfl rfl rfl (Nat.le_of_ble_eq_true rfl) (fRoom (by decide)) ⟨Nat.le_refl _, Nat.le_refl _⟩ (qX0_begin (S := S9) hm6 hw4) ?_
          rintro _ S8 ⟨rfl, h8⟩
          obtain ⟨⟨k8, w8, f8⟩, m8, p8, n8⟩ := h8
          have hF8 : fdOk S8 (plM (hC S) b si ei) := k8.fd hF9
          refine fV.to (pc' := 77) (L' := [(0, .ref 0), (1, .int (nI si)), (2, .int (nI ei)), (3, .int (nI m)), (4, .int mo), (5, .int q)]) (st' := []) (S' := S8) rfl rfl rfl rfl ?_
          refine fV.run iX7_best_77_4 oX7_best_77_4 (pc' := 85) (L' := [(0, .ref 0), (1, .int (nI si)), (2, .int (nI ei)), (3, .int (nI m)), (4, .int mo), (5, .int q)]) (st' := [.ref 24, .ref 28]) (S' := S8) rfl trivial ?_
          refine fV.callV (M2 := mX0_group) (d := d + 13) (o := 28) (av := [.ref 24]) (rest := []) kX0_group dX7_best_85 lX7_212 rfl rfl rfl (Nat.le_of_ble_eq_true rfl) (fRoom (by decide)) ⟨Nat.le_refl _, Nat.le_refl _⟩ (qX0_group (S := S8) hb16 hF8 hp9 w8 hw4) ?_
          rintro _ S7 ⟨rfl, k7, g7⟩
          have hk7 : kp S S7 := hk9.tr (k8.1.tr k7.1.1)
          have B : cBF S7 a b c e (plM (hC S) b si ei) (wsU m 16) := ⟨by rw [hk7.1]; exact H, hk7.geo HG, k7.1.fd hF8, hp9, hq9, k7.cx w8, g7, hw4, fun w hw => by rw [wsU16 hmb hb16] at hw; exact wsU_lt hw, wsU_nd m 16⟩
          have I : cI S7 S7 b (plM (hC S) b si ei) (wsU m 16) [] 0 none := ⟨kc.rf, fun w hw _ => by rw [k7.2.2.2, f8 w (by omega), asg_nil, e6]; exact (congrFun (congrArg (fun q => q.2.1.2.2) hk7.1) w).symm, fun w hw => by rw [k7.2.2.2, f8 w (by omega)]; exact hsf9 w hw, fun g hg => absurd hg (by omega), by show gI S7 28 9 = 0; rw [k7.2.1]; exact n8⟩
          have e7 : gI S7 28 7 = mo := (k7.2.1 7).trans m8
          have e8 : gI S7 28 8 = gA S 17 si := (k7.2.1 8).trans (p8.trans (by rw [e17, nI_clamp (by omega)]))
          refine fV.to (pc' := 88) (L' := [(0, .ref 0), (1, .int (nI si)), (2, .int (nI ei)), (3, .int (nI m)), (4, .int mo), (5, .int q)]) (st' := []) (S' := S7) rfl rfl rfl rfl ?_
          refine fV.run iX7_best_88_3 oX7_best_88_3 (pc' := 91) (L' := [(0, .ref 0), (1, .int (nI si)), (2, .int (nI ei)), (3, .int (nI m)), (4, .int mo), (5, .int q)]) (st' := [.int 0, .int 0, .ref 0]) (S' := S7) rfl trivial ?_
          refine fV.callV (M2 := mX7_choose) (d := d + 13) (o := 0) (av := [.int 0, .int 0]) (rest := []) kX7_choose dX7_best_91 lX7_216 rfl rfl rfl (Nat.le_of_ble_eq_true rfl) (fRoom (by decide)) ⟨Nat.le_refl _, Nat.le_refl _⟩ (qX7_chs (S0 := S7) B I (by rw [e7]; grind [fB])) ?_
          rintro _ S6 ⟨rfl, h6⟩
          have hk6 : kp S S6 := hk7.tr h6.1.1.1
          have hs6 : selR S6 (bst (hC S) a b si ei m mo) := by
            have h0 := h6.2.2.2.2
            rw [e7, e8, hk7.1, show gA S7 2 = gA S 2 from congrArg (fun q => q.1.2.1) hk7.1, show gI S7 0 10 = gI S 0 10 from congrArg (fun q => q.2.2.2.2.2) hk7.1] at h0
            exact h0
          refine fV.to (pc' := 94) (L' := [(0, .ref 0), (1, .int (nI si)), (2, .int (nI ei)), (3, .int (nI m)), (4, .int mo), (5, .int q)]) (st' := []) (S' := S6) rfl rfl rfl rfl ?_
          refine fV.run iX7_best_94_3 oX7_best_94_3 (pc' := 101) (L' := [(0, .ref 0), (1, .int (nI si)), (2, .int (nI ei)), (3, .int (nI m)), (4, .int mo), (5, .int q)]) (st' := [.int (gI S6 28 9)]) (S' := S6) rfl trivial ?_
          refine fV.if_ne bX7_best_101 (fun c101 => ?_) (fun c101 => ?_)
          · refine fV.run iX7_best_108_1 oX7_best_108_1 (pc' := 110) (L' := [(0, .ref 0), (1, .int (nI si)), (2, .int (nI ei)), (3, .int (nI m)), (4, .int mo), (5, .int q)]) (st' := [.int q]) (S' := S6) rfl trivial ?_
            refine fV.lsw2 (K0 := 0) (K1 := 1) (t0 := 136) (t1 := 144) (tgt := 152) dX7_best_110 (by decide) (by decide) (by decide) (by decide) (by decide) (by decide) (fun hx => ?_) (fun hx0 hx => ?_) (fun hx0 hx => ?_)
            · refine fV.run iX7_best_136_3 oX7_best_136_3 (pc' := 143) (L' := [(0, .ref 0), (1, .int (nI si)), (2, .int (nI ei)), (3, .int (nI m)), (4, .int mo), (5, .int q)]) (st' := [.int (gI S6 28 10)]) (S' := S6) rfl trivial ?_
              exact fV.iret rfl dX7_best_143 ⟨by unfold oBest; rw [if_pos (show thr (hC S) (nI si) (nI ei) from ⟨⟨nI_pos' (by omega), by rw [show (hC S).2.2.1.1 = nI c from H.2.2.1.1, nI_ltI (by omega) (by omega)]; exact hsi⟩, nI_pos' (by omega), by rw [show (hC S).2.2.2.1.1 = nI e from H.2.2.2.1.1, nI_ltI (by omega) (by omega)]; exact hei⟩), if_pos (show isS (hC S) (nI m) ∧ (0 ≤ mo ∧ mo ≤ 1000000) ∧ (0 ≤ q ∧ q ≤ 2) from ⟨hu, fBd1.mp c29, fBd1.mp c39⟩), nI_clamp (by omega), nI_clamp (by omega), nI_clamp (by omega), ask_y hs6 q c101, if_pos hx], hk6⟩
            · refine fV.run iX7_best_144_3 oX7_best_144_3 (pc' := 151) (L' := [(0, .ref 0), (1, .int (nI si)), (2, .int (nI ei)), (3, .int (nI m)), (4, .int mo), (5, .int q)]) (st' := [.int (gI S6 28 11)]) (S' := S6) rfl trivial ?_
              exact fV.iret rfl dX7_best_151 ⟨by unfold oBest; rw [if_pos (show thr (hC S) (nI si) (nI ei) from ⟨⟨nI_pos' (by omega), by rw [show (hC S).2.2.1.1 = nI c from H.2.2.1.1, nI_ltI (by omega) (by omega)]; exact hsi⟩, nI_pos' (by omega), by rw [show (hC S).2.2.2.1.1 = nI e from H.2.2.2.1.1, nI_ltI (by omega) (by omega)]; exact hei⟩), if_pos (show isS (hC S) (nI m) ∧ (0 ≤ mo ∧ mo ≤ 1000000) ∧ (0 ≤ q ∧ q ≤ 2) from ⟨hu, fBd1.mp c29, fBd1.mp c39⟩), nI_clamp (by omega), nI_clamp (by omega), nI_clamp (by omega), ask_y hs6 q c101, if_neg hx0, if_pos hx], hk6⟩
            · refine fV.run iX7_best_152_3 oX7_best_152_3 (pc' := 159) (L' := [(0, .ref 0), (1, .int (nI si)), (2, .int (nI ei)), (3, .int (nI m)), (4, .int mo), (5, .int q)]) (st' := [.int (gI S6 28 12)]) (S' := S6) rfl trivial ?_
              exact fV.iret rfl dX7_best_159 ⟨by unfold oBest; rw [if_pos (show thr (hC S) (nI si) (nI ei) from ⟨⟨nI_pos' (by omega), by rw [show (hC S).2.2.1.1 = nI c from H.2.2.1.1, nI_ltI (by omega) (by omega)]; exact hsi⟩, nI_pos' (by omega), by rw [show (hC S).2.2.2.1.1 = nI e from H.2.2.2.1.1, nI_ltI (by omega) (by omega)]; exact hei⟩), if_pos (show isS (hC S) (nI m) ∧ (0 ≤ mo ∧ mo ≤ 1000000) ∧ (0 ≤ q ∧ q ≤ 2) from ⟨hu, fBd1.mp c29, fBd1.mp c39⟩), nI_clamp (by omega), nI_clamp (by omega), nI_clamp (by omega), ask_y hs6 q c101, if_neg hx0, if_neg hx], hk6⟩
          · refine fV.run iX7_best_104_1 oX7_best_104_1 (pc' := 107) (L' := [(0, .ref 0), (1, .int (nI si)), (2, .int (nI ei)), (3, .int (nI m)), (4, .int mo), (5, .int q)]) (st' := [.int (-1003)]) (S' := S6) rfl trivial ?_
            exact fV.iret rfl dX7_best_107 ⟨by unfold oBest; rw [if_pos (show thr (hC S) (nI si) (nI ei) from ⟨⟨nI_pos' (by omega), by rw [show (hC S).2.2.1.1 = nI c from H.2.2.1.1, nI_ltI (by omega) (by omega)]; exact hsi⟩, nI_pos' (by omega), by rw [show (hC S).2.2.2.1.1 = nI e from H.2.2.2.1.1, nI_ltI (by omega) (by omega)]; exact hei⟩), if_pos (show isS (hC S) (nI m) ∧ (0 ≤ mo ∧ mo ≤ 1000000) ∧ (0 ≤ q ∧ q ≤ 2) from ⟨hu, fBd1.mp c29, fBd1.mp c39⟩), nI_clamp (by omega), nI_clamp (by omega), nI_clamp (by omega), ask_n hs6 q c101], hk6⟩
        · refine fV.run iX7_best_42_1 oX7_best_42_1 (pc' := 45) (L' := [(0, .ref 0), (1, .int x), (2, .int y), (3, .int u), (4, .int mo), (5, .int q)]) (st' := [.int (-1002)]) (S' := S) rfl trivial ?_
          exact fV.iret rfl dX7_best_45 ⟨by unfold oBest; rw [if_pos (show thr (hC S) x y from by unfold thr; grind [fB, hC]), if_neg (by grind [fB])], kp.rf⟩
  · refine fV.run iX7_best_9_1 oX7_best_9_1 (pc' := 12) (L' := [(0, .ref 0), (1, .int x), (2, .int y), (3, .int u), (4, .int mo), (5, .int q)]) (st' := [.int (-1001)]) (S' := S) rfl trivial ?_
    exact fV.iret rfl dX7_best_12 ⟨by unfold oBest; rw [if_neg (show ¬ thr (hC S) x y from by unfold thr; grind [fB, hC])], kp.rf⟩

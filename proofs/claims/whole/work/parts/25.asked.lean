/-! what is asked of paths and of what is heard: on the hall -/
def hSrc (h : hH) (s : Nat) : zP := (h.2.2.1.2.1 s, h.2.2.1.2.2.1 s)
def hSeat (h : hH) (t : Nat) : zP := (h.2.2.2.1.2.1 t, h.2.2.2.1.2.2 t)
abbrev thr (h : hH) (x y : Int32) : Prop := (0 ≤ x ∧ x < h.2.2.1.1) ∧ (0 ≤ y ∧ y < h.2.2.2.1.1)
noncomputable def plM (h : hH) (b s t : Nat) : List pTh := plR h.2.1.2.1 b (hSrc h s) (hSeat h t) 0 (h.2.2.2.2.1.toNatClampNeg + 1)
def enH (h : hH) (s : Nat) : pTh → Int64 := enF h.1.2.1 h.2.1.2.2 (h.2.2.1.2.2.2 s)
noncomputable def erH (h : hH) (b s t : Nat) : pTh → Bool := erl h.2.2.2.2.2 (leastF (plM h b s t))
noncomputable def eS (h : hH) (b s t : Nat) : Int64 := smE (enH h s) (erH h b s t) (plM h b s t)
noncomputable def lS (h : hH) (b s t : Nat) : Int64 := smE (enH h s) (fun x => !erH h b s t x) (plM h b s t)
noncomputable def dS (h : hH) (b s t : Nat) : Int64 := smD (enH h s) (leastF (plM h b s t)) (plM h b s t)
noncomputable def hrd (h : hH) (b s t : Nat) (q : Int32) : Int64 := if q = 0 then eS h b s t else if q = 1 then lS h b s t else if q = 2 then (clF (eS h b s t) (lS h b s t)).toInt64 else if q = 3 then ceF (eS h b s t + lS h b s t) (dS h b s t) else (leastF (plM h b s t)).toInt64
noncomputable def oPaths (h : hH) (b : Nat) (x y k : Int32) : Int32 := if thr h x y then (if -1 ≤ k ∧ k ≤ 3 then (if k = -1 then nI (plM h b x.toNatClampNeg y.toNatClampNeg).length else nI (plR h.2.1.2.1 b (hSrc h x.toNatClampNeg) (hSeat h y.toNatClampNeg) k.toNatClampNeg 1).length) else -1002) else -1001
noncomputable def pthA (h : hH) (b s t : Nat) (i q : Int32) : Int64 := match (plM h b s t)[i.toNatClampNeg]? with
  | none => -1
  | some x => if q = 0 then (nI x.1.length).toInt64 else if q = 4 then x.2 else if q = 5 then enH h s x else if q = 6 then (tickF x.2).toInt64 else (wOf x.1 (q - 1).toNatClampNeg).toInt64
noncomputable def oPath (h : hH) (b : Nat) (x y i q : Int32) : Int64 := if thr h x y then (if 0 ≤ q ∧ q ≤ 6 then (if 0 ≤ i then pthA h b x.toNatClampNeg y.toNatClampNeg i q else -1) else -1002) else -1001
noncomputable def oHeard (h : hH) (b : Nat) (x y q : Int32) : Int64 := if thr h x y then (if 0 ≤ q ∧ q ≤ 4 then hrd h b x.toNatClampNeg y.toNatClampNeg q else -1002) else -1001
noncomputable def atS (h : hH) (b s t : Nat) (q : Int32) : Int64 := smE (enH h s) (fun x => decide (tickF x.2 = q)) (plM h b s t)
noncomputable def oAt (h : hH) (b : Nat) (x y q : Int32) : Int64 := if thr h x y then (if 0 ≤ q ∧ q ≤ 300 then atS h b x.toNatClampNeg y.toNatClampNeg q else -1002) else -1001
noncomputable def wst (h : hH) (b s : Nat) : Nat → Int32 × Int32
  | 0 => (-1, 0)
  | k + 1 => if (wst h b s k).1 = -1 ∨ clF (eS h b s k) (lS h b s k) < (wst h b s k).2 then (nI k, clF (eS h b s k) (lS h b s k)) else wst h b s k
noncomputable def oWorst (h : hH) (b e : Nat) (x : Int32) : Int32 := if 0 ≤ x ∧ x < h.2.2.1.1 then (wst h b x.toNatClampNeg e).1 else -1001
theorem most_N {m : Int32} (h0 : 0 ≤ m) (h3 : m ≤ 3) : m + 1 = nI (0 + (m.toNatClampNeg + 1)) ∧ m.toNatClampNeg + 1 ≤ 4 ∧ -1 ≤ m := by
  obtain ⟨i, hi, rfl⟩ := n_in (x := m) (n := 4) (by omega) h0 (by show m < 4; grind)
  rw [nI_clamp (by omega), nI_1, Nat.zero_add]
  exact ⟨rfl, by omega, by grind⟩
/-- behind a search: the found paths, and all that the sums want -/
theorem fnd {S S9 : fS} {a b c e si ei : Nat} (H : hOk (hC S) a b c e) (hsi : si < c) (hei : ei < e) (hk : kp S S9) {lo n : Nat} (hl : lo + n ≤ 4) : plOk b (plR (gA S 5) b (gA S 12 si, gA S 13 si) (gA S 15 ei, gA S 16 ei) lo n) ∧ plSq (plR (gA S 5) b (gA S 12 si, gA S 13 si) (gA S 15 ei, gA S 16 ei) lo n) ∧ (∀ w, w < b → ∃ j, j < 8 ∧ gA S9 6 w = nI j) ∧ gA S9 2 = gA S 2 ∧ gA S9 6 = gA S 6 ∧ gA S9 17 = gA S 17 ∧ gI S9 0 10 = gI S 0 10 := by
  have e6 : gA S9 6 = gA S 6 := congrArg (fun q => q.2.1.2.2) hk.1
  refine ⟨plR_ok hl, plR_sq H (src_ok H hsi) (seat_ok H hei) hl, fun w hw => ?_, congrArg (fun q => q.1.2.1) hk.1, e6, congrArg (fun q => q.2.2.1.2.2.2) hk.1, congrArg (fun q => q.2.2.2.2.2) hk.1⟩
  obtain ⟨j, hj, ej⟩ := H.stf hw
  exact ⟨j, by have := H.1.2.2.1; omega, by rw [e6]; exact ej⟩
def iX7_heard_0_3 : List Instr := [.aload_n 0, .iload_n 1, .iload_n 2]
theorem oX7_heard_0_3 : fOkB cX7_heard 0 iX7_heard_0_3 = true := by decide +kernel
set_option maxRecDepth 100000 in
theorem lX7_125 : Cond.methodLink RX7 125 yX7_areThere ∈ fTB := fTB_at 418 rfl rfl
theorem dX7_heard_3 : decode cX7_heard 3 = .ok (.invokevirtual 125, 3) := by decide +kernel
theorem bX7_heard_6 : fBk cX7_heard 6 (.ifCond .ne) 13 := ⟨7, by decide +kernel, by decide⟩
def iX7_heard_13_3 : List Instr := [.iload_n 3, .iconst 0, .iconst 4]
theorem oX7_heard_13_3 : fOkB cX7_heard 13 iX7_heard_13_3 = true := by decide +kernel
theorem dX7_heard_16 : decode cX7_heard 16 = .ok (.invokestatic 74, 3) := by decide +kernel
theorem bX7_heard_19 : fBk cX7_heard 19 (.ifCond .ne) 26 := ⟨7, by decide +kernel, by decide⟩
def iX7_heard_26_6 : List Instr := [.aload_n 0, .iload_n 1, .iload_n 2, .iconst 0, .aload_n 0, .getfield 67]
theorem oX7_heard_26_6 : fOkB cX7_heard 26 iX7_heard_26_6 = true := by decide +kernel
set_option maxRecDepth 100000 in
theorem lX7_128 : Cond.methodLink RX7 128 yX7_find ∈ fTB := fTB_at 422 rfl rfl
theorem dX7_heard_34 : decode cX7_heard 34 = .ok (.invokevirtual 128, 3) := by decide +kernel
def iX7_heard_37_5 : List Instr := [.aload_n 0, .aload_n 0, .getfield 35, .iload_n 1, .iaload]
theorem oX7_heard_37_5 : fOkB cX7_heard 37 iX7_heard_37_5 = true := by decide +kernel
set_option maxRecDepth 100000 in
theorem lX7_176 : Cond.methodLink RX7 176 yX7_sumUp ∈ fTB := fTB_at 538 rfl rfl
theorem dX7_heard_44 : decode cX7_heard 44 = .ok (.invokevirtual 176, 3) := by decide +kernel
def iX7_heard_47_1 : List Instr := [.iload_n 3]
theorem oX7_heard_47_1 : fOkB cX7_heard 47 iX7_heard_47_1 = true := by decide +kernel
theorem dX7_heard_48 : decode cX7_heard 48 = .ok (.tableswitch 93 0 3 #[32, 40, 48, 67], 32) := by decide +kernel
def iX7_heard_80_3 : List Instr := [.aload_n 0, .getfield 56, .getfield 179]
theorem oX7_heard_80_3 : fOkB cX7_heard 80 iX7_heard_80_3 = true := by decide +kernel
theorem dX7_heard_87 : decode cX7_heard 87 = .ok (.lreturn, 1) := by decide +kernel
def iX7_heard_88_3 : List Instr := [.aload_n 0, .getfield 56, .getfield 183]
theorem oX7_heard_88_3 : fOkB cX7_heard 88 iX7_heard_88_3 = true := by decide +kernel
theorem dX7_heard_95 : decode cX7_heard 95 = .ok (.lreturn, 1) := by decide +kernel
def iX7_heard_96_6 : List Instr := [.aload_n 0, .getfield 56, .getfield 179, .aload_n 0, .getfield 56, .getfield 183]
theorem oX7_heard_96_6 : fOkB cX7_heard 96 iX7_heard_96_6 = true := by decide +kernel
set_option maxRecDepth 100000 in
theorem lX7_186 : Cond.methodLink RX7 186 yX7_clarityOf ∈ fTB := fTB_at 550 rfl rfl
theorem dX7_heard_110 : decode cX7_heard 110 = .ok (.invokestatic 186, 3) := by decide +kernel
def iX7_heard_113_1 : List Instr := [.i2l]
theorem oX7_heard_113_1 : fOkB cX7_heard 113 iX7_heard_113_1 = true := by decide +kernel
theorem dX7_heard_114 : decode cX7_heard 114 = .ok (.lreturn, 1) := by decide +kernel
def iX7_heard_115_10 : List Instr := [.aload_n 0, .getfield 56, .getfield 179, .aload_n 0, .getfield 56, .getfield 183, .ladd, .aload_n 0, .getfield 56, .getfield 190]
theorem oX7_heard_115_10 : fOkB cX7_heard 115 iX7_heard_115_10 = true := by decide +kernel
set_option maxRecDepth 100000 in
theorem lX7_193 : Cond.methodLink RX7 193 yX7_centreOf ∈ fTB := fTB_at 554 rfl rfl
theorem dX7_heard_137 : decode cX7_heard 137 = .ok (.invokestatic 193, 3) := by decide +kernel
theorem dX7_heard_140 : decode cX7_heard 140 = .ok (.lreturn, 1) := by decide +kernel
def iX7_heard_141_4 : List Instr := [.aload_n 0, .getfield 49, .getfield 197, .i2l]
theorem oX7_heard_141_4 : fOkB cX7_heard 141 iX7_heard_141_4 = true := by decide +kernel
theorem dX7_heard_149 : decode cX7_heard 149 = .ok (.lreturn, 1) := by decide +kernel
def iX7_heard_22_1 : List Instr := [.ldc2_w 135]
theorem oX7_heard_22_1 : fOkB cX7_heard 22 iX7_heard_22_1 = true := by decide +kernel
theorem dX7_heard_25 : decode cX7_heard 25 = .ok (.lreturn, 1) := by decide +kernel
def iX7_heard_9_1 : List Instr := [.ldc2_w 133]
theorem oX7_heard_9_1 : fOkB cX7_heard 9 iX7_heard_9_1 = true := by decide +kernel
theorem dX7_heard_12 : decode cX7_heard 12 = .ok (.lreturn, 1) := by decide +kernel
set_option maxRecDepth 100000 in
theorem qX7_heard {G : fG} {d : Nat} {S : fS} (x y t : Int32) {a b c e : Nat} (H : hOk (hC S) a b c e) (HG : hGeo S b) : fCtr G (d + 10) mX7_heard [.ref 0, .int x, .int y, .int t] S (fun r S' => r = some (.long (oHeard (hC S) b x y t)) ∧ kp S S') := by
  refine fCtr.of bXX7_heard (Nat.le_of_ble_eq_true rfl) rfl ?_
  have hb : gI S 4 6 = nI b := H.2.1.1
  have hb16 : b ≤ 16 := H.2.1.2.1
  have ha8 : a ≤ 8 := H.1.2.2.1
  have hc4 : c ≤ 4 := H.2.2.1.2.1
  have he8 : e ≤ 8 := H.2.2.2.1.2.1
  have hm3 : gI S 0 9 ≤ 3 := H.2.2.2.2.1.2
  have hm := most_N (m := gI S 0 9) H.2.2.2.2.1.1 hm3
  refine fV.run iX7_heard_0_3 oX7_heard_0_3 (pc' := 3) (L' := [(0, .ref 0), (1, .int x), (2, .int y), (3, .int t)]) (st' := [.int y, .int x, .ref 0]) (S' := S) rfl trivial ?_
  refine fV.callV (M2 := mX7_areThere) (d := d + 9) (o := 0) (av := [.int x, .int y]) (rest := []) kX7_areThere dX7_heard_3 lX7_125 rfl rfl rfl (Nat.le_of_ble_eq_true rfl) (fRoom (by decide)) ⟨Nat.le_refl _, Nat.le_refl _⟩ (qX7_areThere _ _) ?_
  rintro _ S9 ⟨rfl, h9⟩
  rw [h9]
  clear h9 S9
  refine fV.to (pc' := 6) (L' := [(0, .ref 0), (1, .int x), (2, .int y), (3, .int t)]) (st' := [.int (fB (decide ((0 ≤ x ∧ x < (gI S 11 2)) ∧ (0 ≤ y ∧ y < (gI S 14 2)))))]) (S' := S) rfl rfl rfl rfl ?_
  refine fV.if_ne bX7_heard_6 (fun c6 => ?_) (fun c6 => ?_)
  · refine fV.run iX7_heard_13_3 oX7_heard_13_3 (pc' := 16) (L' := [(0, .ref 0), (1, .int x), (2, .int y), (3, .int t)]) (st' := [.int 4, .int 0, .int t]) (S' := S) rfl trivial ?_
    refine fV.callS (M2 := mX7_isWithin) (d := d + 9) (av := [.int t, .int 0, .int 4]) (rest := []) kX7_isWithin dX7_heard_16 lX7_74 rfl rfl (Nat.le_of_ble_eq_true rfl) (fRoom (by decide)) ⟨Nat.le_refl _, Nat.le_refl _⟩ (qX7_isWithin _ _ _) ?_
    rintro _ S9 ⟨rfl, h9⟩
    rw [h9]
    clear h9 S9
    refine fV.to (pc' := 19) (L' := [(0, .ref 0), (1, .int x), (2, .int y), (3, .int t)]) (st' := [.int (fB (decide (0 ≤ t ∧ t ≤ 4)))]) (S' := S) rfl rfl rfl rfl ?_
    refine fV.if_ne bX7_heard_19 (fun c19 => ?_) (fun c19 => ?_)
    · refine fV.run iX7_heard_26_6 oX7_heard_26_6 (pc' := 34) (L' := [(0, .ref 0), (1, .int x), (2, .int y), (3, .int t)]) (st' := [.int (gI S 0 9), .int 0, .int y, .int x, .ref 0]) (S' := S) rfl trivial ?_
      obtain ⟨si, hsi, rfl⟩ := n_in (x := x) (n := c) (by omega) (by grind [fB]) (by rw [← show gI S 11 2 = nI c from H.2.2.1.1]; grind [fB])
      obtain ⟨ei, hei, rfl⟩ := n_in (x := y) (n := e) (by omega) (by grind [fB]) (by rw [← show gI S 14 2 = nI e from H.2.2.2.1.1]; grind [fB])
      refine fV.callV (M2 := mX7_find) (d := d + 9) (o := 0) (av := [.int (nI si), .int (nI ei), .int 0, .int (gI S 0 9)]) (rest := []) kX7_find dX7_heard_34 lX7_128 rfl rfl rfl (Nat.le_of_ble_eq_true rfl) (fRoom (by decide)) ⟨Nat.le_refl _, Nat.le_refl _⟩ (qX7_find (lo := 0) (N := (gI S 0 9).toNatClampNeg + 1) H HG hsi hei (by omega) hm.1 hm.2.2 hm3) ?_
      rintro _ S9 ⟨rfl, hk9, hF9⟩
      obtain ⟨hp9, hq9, hsf9, e2, e6, e17, ebo⟩ := fnd (lo := 0) (n := (gI S 0 9).toNatClampNeg + 1) H hsi hei hk9 (by omega)
      refine fV.to (pc' := 37) (L' := [(0, .ref 0), (1, .int (nI si)), (2, .int (nI ei)), (3, .int t)]) (st' := []) (S' := S9) rfl rfl rfl rfl ?_
      refine fV.run iX7_heard_37_5 oX7_heard_37_5 (pc' := 44) (L' := [(0, .ref 0), (1, .int (nI si)), (2, .int (nI ei)), (3, .int t)]) (st' := [.int (gA S9 17 (nI si).toNatClampNeg), .ref 0]) (S' := S9) (P := vp_in (nI si) 4 ∧ True) rfl ⟨(vp_in_nI (by omega) (by decide)), trivial⟩ ?_
      refine fV.callV (M2 := mX7_sumUp) (d := d + 9) (o := 0) (av := [.int (gA S9 17 (nI si).toNatClampNeg)]) (rest := []) kX7_sumUp dX7_heard_44 lX7_176 rfl rfl rfl (Nat.le_of_ble_eq_true rfl) (fRoom (by decide)) ⟨Nat.le_refl _, Nat.le_refl _⟩ (qX7_sumUp (S := S9) hb16 hF9 hp9 hq9 hsf9) ?_
      rintro _ S8 ⟨rfl, h9⟩
      rw [e2, e6, ebo, e17, nI_clamp (by omega)] at h9
      have h9b : S8 = (wJ (wJ (wJ S9 27 0 (eS (hC S) b si ei)) 27 1 (lS (hC S) b si ei)) 27 2 (dS (hC S) b si ei)) := h9
      rw [h9b]
      refine fV.to (pc' := 47) (L' := [(0, .ref 0), (1, .int (nI si)), (2, .int (nI ei)), (3, .int t)]) (st' := []) (S' := (wJ (wJ (wJ S9 27 0 (eS (hC S) b si ei)) 27 1 (lS (hC S) b si ei)) 27 2 (dS (hC S) b si ei))) rfl rfl rfl rfl ?_
      refine fV.run iX7_heard_47_1 oX7_heard_47_1 (pc' := 48) (L' := [(0, .ref 0), (1, .int (nI si)), (2, .int (nI ei)), (3, .int t)]) (st' := [.int t]) (S' := (wJ (wJ (wJ S9 27 0 (eS (hC S) b si ei)) 27 1 (lS (hC S) b si ei)) 27 2 (dS (hC S) b si ei))) rfl trivial ?_
      refine fV.tsw (tgt := 141) dX7_heard_48 (by decide) (fun h1 h2 => ?_) (fun hx => ?_)
      · rcases (show Int32.toInt t = 0 ∨ Int32.toInt t = 1 ∨ Int32.toInt t = 2 ∨ Int32.toInt t = 3 by omega) with hx | hx | hx | hx
        · refine ⟨32, 80, by rw [hx]; rfl, by decide, ?_⟩
          refine fV.run iX7_heard_80_3 oX7_heard_80_3 (pc' := 87) (L' := [(0, .ref 0), (1, .int (nI si)), (2, .int (nI ei)), (3, .int t)]) (st' := [.long (eS (hC S) b si ei)]) (S' := (wJ (wJ (wJ S9 27 0 (eS (hC S) b si ei)) 27 1 (lS (hC S) b si ei)) 27 2 (dS (hC S) b si ei))) rfl trivial ?_
          exact fV.lret rfl dX7_heard_87 ⟨by (have ht : t = 0 := i_of_toInt hx _ (by decide)); subst ht; unfold oHeard; rw [if_pos (show thr (hC S) (nI si) (nI ei) from ⟨⟨nI_pos' (by omega), by rw [show (hC S).2.2.1.1 = nI c from H.2.2.1.1, nI_ltI (by omega) (by omega)]; exact hsi⟩, nI_pos' (by omega), by rw [show (hC S).2.2.2.1.1 = nI e from H.2.2.2.1.1, nI_ltI (by omega) (by omega)]; exact hei⟩), if_pos (by decide), nI_clamp (by omega), nI_clamp (by omega)]; rfl, hk9.tr ⟨rfl, rfl, rfl, rfl, rfl, rfl⟩⟩
        · refine ⟨40, 88, by rw [hx]; rfl, by decide, ?_⟩
          refine fV.run iX7_heard_88_3 oX7_heard_88_3 (pc' := 95) (L' := [(0, .ref 0), (1, .int (nI si)), (2, .int (nI ei)), (3, .int t)]) (st' := [.long (lS (hC S) b si ei)]) (S' := (wJ (wJ (wJ S9 27 0 (eS (hC S) b si ei)) 27 1 (lS (hC S) b si ei)) 27 2 (dS (hC S) b si ei))) rfl trivial ?_
          exact fV.lret rfl dX7_heard_95 ⟨by (have ht : t = 1 := i_of_toInt hx _ (by decide)); subst ht; unfold oHeard; rw [if_pos (show thr (hC S) (nI si) (nI ei) from ⟨⟨nI_pos' (by omega), by rw [show (hC S).2.2.1.1 = nI c from H.2.2.1.1, nI_ltI (by omega) (by omega)]; exact hsi⟩, nI_pos' (by omega), by rw [show (hC S).2.2.2.1.1 = nI e from H.2.2.2.1.1, nI_ltI (by omega) (by omega)]; exact hei⟩), if_pos (by decide), nI_clamp (by omega), nI_clamp (by omega)]; rfl, hk9.tr ⟨rfl, rfl, rfl, rfl, rfl, rfl⟩⟩
        · refine ⟨48, 96, by rw [hx]; rfl, by decide, ?_⟩
          refine fV.run iX7_heard_96_6 oX7_heard_96_6 (pc' := 110) (L' := [(0, .ref 0), (1, .int (nI si)), (2, .int (nI ei)), (3, .int t)]) (st' := [.long (lS (hC S) b si ei), .long (eS (hC S) b si ei)]) (S' := (wJ (wJ (wJ S9 27 0 (eS (hC S) b si ei)) 27 1 (lS (hC S) b si ei)) 27 2 (dS (hC S) b si ei))) rfl trivial ?_
          refine fV.callS (M2 := mX7_clarityOf) (d := d + 9) (av := [.long (eS (hC S) b si ei), .long (lS (hC S) b si ei)]) (rest := []) kX7_clarityOf dX7_heard_110 lX7_186 rfl rfl (Nat.le_of_ble_eq_true rfl) (fRoom (by decide)) ⟨Nat.le_refl _, Nat.le_refl _⟩ (qX7_cl _ _) ?_
          rintro _ S9 ⟨rfl, h9⟩
          rw [h9]
          clear h9 S9
          refine fV.to (pc' := 113) (L' := [(0, .ref 0), (1, .int (nI si)), (2, .int (nI ei)), (3, .int t)]) (st' := [.int (clF (eS (hC S) b si ei) (lS (hC S) b si ei))]) (S' := (wJ (wJ (wJ S9 27 0 (eS (hC S) b si ei)) 27 1 (lS (hC S) b si ei)) 27 2 (dS (hC S) b si ei))) rfl rfl rfl rfl ?_
          refine fV.run iX7_heard_113_1 oX7_heard_113_1 (pc' := 114) (L' := [(0, .ref 0), (1, .int (nI si)), (2, .int (nI ei)), (3, .int t)]) (st' := [.long (Int32.toInt64 (clF (eS (hC S) b si ei) (lS (hC S) b si ei)))]) (S' := (wJ (wJ (wJ S9 27 0 (eS (hC S) b si ei)) 27 1 (lS (hC S) b si ei)) 27 2 (dS (hC S) b si ei))) rfl trivial ?_
          exact fV.lret rfl dX7_heard_114 ⟨by (have ht : t = 2 := i_of_toInt hx _ (by decide)); subst ht; unfold oHeard; rw [if_pos (show thr (hC S) (nI si) (nI ei) from ⟨⟨nI_pos' (by omega), by rw [show (hC S).2.2.1.1 = nI c from H.2.2.1.1, nI_ltI (by omega) (by omega)]; exact hsi⟩, nI_pos' (by omega), by rw [show (hC S).2.2.2.1.1 = nI e from H.2.2.2.1.1, nI_ltI (by omega) (by omega)]; exact hei⟩), if_pos (by decide), nI_clamp (by omega), nI_clamp (by omega)]; rfl, hk9.tr ⟨rfl, rfl, rfl, rfl, rfl, rfl⟩⟩
        · refine ⟨67, 115, by rw [hx]; rfl, by decide, ?_⟩
          refine fV.run iX7_heard_115_10 oX7_heard_115_10 (pc' := 137) (L' := [(0, .ref 0), (1, .int (nI si)), (2, .int (nI ei)), (3, .int t)]) (st' := [.long (dS (hC S) b si ei), .long ((eS (hC S) b si ei) + (lS (hC S) b si ei))]) (S' := (wJ (wJ (wJ S9 27 0 (eS (hC S) b si ei)) 27 1 (lS (hC S) b si ei)) 27 2 (dS (hC S) b si ei))) rfl trivial ?_
          refine fV.callS (M2 := mX7_centreOf) (d := d + 9) (av := [.long ((eS (hC S) b si ei) + (lS (hC S) b si ei)), .long (dS (hC S) b si ei)]) (rest := []) kX7_centreOf dX7_heard_137 lX7_193 rfl rfl (Nat.le_of_ble_eq_true rfl) (fRoom (by decide)) ⟨Nat.le_refl _, Nat.le_refl _⟩ (qX7_ce _ _) ?_
          rintro _ S9 ⟨rfl, h9⟩
          rw [h9]
          clear h9 S9
          refine fV.to (pc' := 140) (L' := [(0, .ref 0), (1, .int (nI si)), (2, .int (nI ei)), (3, .int t)]) (st' := [.long (ceF ((eS (hC S) b si ei) + (lS (hC S) b si ei)) (dS (hC S) b si ei))]) (S' := (wJ (wJ (wJ S9 27 0 (eS (hC S) b si ei)) 27 1 (lS (hC S) b si ei)) 27 2 (dS (hC S) b si ei))) rfl rfl rfl rfl ?_
          exact fV.lret rfl dX7_heard_140 ⟨by (have ht : t = 3 := i_of_toInt hx _ (by decide)); subst ht; unfold oHeard; rw [if_pos (show thr (hC S) (nI si) (nI ei) from ⟨⟨nI_pos' (by omega), by rw [show (hC S).2.2.1.1 = nI c from H.2.2.1.1, nI_ltI (by omega) (by omega)]; exact hsi⟩, nI_pos' (by omega), by rw [show (hC S).2.2.2.1.1 = nI e from H.2.2.2.1.1, nI_ltI (by omega) (by omega)]; exact hei⟩), if_pos (by decide), nI_clamp (by omega), nI_clamp (by omega)]; rfl, hk9.tr ⟨rfl, rfl, rfl, rfl, rfl, rfl⟩⟩
      · refine fV.run iX7_heard_141_4 oX7_heard_141_4 (pc' := 149) (L' := [(0, .ref 0), (1, .int (nI si)), (2, .int (nI ei)), (3, .int t)]) (st' := [.long (Int32.toInt64 (gI S9 24 3))]) (S' := (wJ (wJ (wJ S9 27 0 (eS (hC S) b si ei)) 27 1 (lS (hC S) b si ei)) 27 2 (dS (hC S) b si ei))) rfl trivial ?_
        exact fV.lret rfl dX7_heard_149 ⟨by unfold oHeard; rw [if_pos (show thr (hC S) (nI si) (nI ei) from ⟨⟨nI_pos' (by omega), by rw [show (hC S).2.2.1.1 = nI c from H.2.2.1.1, nI_ltI (by omega) (by omega)]; exact hsi⟩, nI_pos' (by omega), by rw [show (hC S).2.2.2.1.1 = nI e from H.2.2.2.1.1, nI_ltI (by omega) (by omega)]; exact hei⟩), if_pos (by grind [fB]), nI_clamp (by omega), nI_clamp (by omega)]; unfold hrd; rw [if_neg (fun z => by subst z; revert hx; decide), if_neg (fun z => by subst z; revert hx; decide), if_neg (fun z => by subst z; revert hx; decide), if_neg (fun z => by subst z; revert hx; decide)]; exact congrArg (fun z => some (Value.long (Int32.toInt64 z))) hF9.2.2.1, hk9.tr ⟨rfl, rfl, rfl, rfl, rfl, rfl⟩⟩
    · refine fV.run iX7_heard_22_1 oX7_heard_22_1 (pc' := 25) (L' := [(0, .ref 0), (1, .int x), (2, .int y), (3, .int t)]) (st' := [.long (-1002)]) (S' := S) rfl trivial ?_
      exact fV.lret rfl dX7_heard_25 ⟨by unfold oHeard; rw [if_pos (show thr (hC S) x y from by unfold thr; grind [fB, hC]), if_neg (by grind [fB])], kp.rf⟩
  · refine fV.run iX7_heard_9_1 oX7_heard_9_1 (pc' := 12) (L' := [(0, .ref 0), (1, .int x), (2, .int y), (3, .int t)]) (st' := [.long (-1001)]) (S' := S) rfl trivial ?_
    exact fV.lret rfl dX7_heard_12 ⟨by unfold oHeard; rw [if_neg (show ¬ thr (hC S) x y from by unfold thr; grind [fB, hC])], kp.rf⟩
def iX7_paths_0_3 : List Instr := [.aload_n 0, .iload_n 1, .iload_n 2]
theorem oX7_paths_0_3 : fOkB cX7_paths 0 iX7_paths_0_3 = true := by decide +kernel
theorem dX7_paths_3 : decode cX7_paths 3 = .ok (.invokevirtual 125, 3) := by decide +kernel
theorem bX7_paths_6 : fBk cX7_paths 6 (.ifCond .ne) 13 := ⟨7, by decide +kernel, by decide⟩
def iX7_paths_13_3 : List Instr := [.iload_n 3, .iconst (-1), .iconst 3]
theorem oX7_paths_13_3 : fOkB cX7_paths 13 iX7_paths_13_3 = true := by decide +kernel
theorem dX7_paths_16 : decode cX7_paths 16 = .ok (.invokestatic 74, 3) := by decide +kernel
theorem bX7_paths_19 : fBk cX7_paths 19 (.ifCond .ne) 26 := ⟨7, by decide +kernel, by decide⟩
def iX7_paths_26_2 : List Instr := [.iload_n 3, .iconst (-1)]
theorem oX7_paths_26_2 : fOkB cX7_paths 26 iX7_paths_26_2 = true := by decide +kernel
theorem bX7_paths_28 : fBk cX7_paths 28 (.if_icmp .ne) 45 := ⟨17, by decide +kernel, by decide⟩
def iX7_paths_45_5 : List Instr := [.aload_n 0, .iload_n 1, .iload_n 2, .iload_n 3, .iload_n 3]
theorem oX7_paths_45_5 : fOkB cX7_paths 45 iX7_paths_45_5 = true := by decide +kernel
theorem dX7_paths_50 : decode cX7_paths 50 = .ok (.invokevirtual 128, 3) := by decide +kernel
def iX7_paths_53_3 : List Instr := [.aload_n 0, .getfield 49, .getfield 132]
theorem oX7_paths_53_3 : fOkB cX7_paths 53 iX7_paths_53_3 = true := by decide +kernel
theorem dX7_paths_60 : decode cX7_paths 60 = .ok (.ireturn, 1) := by decide +kernel
def iX7_paths_31_6 : List Instr := [.aload_n 0, .iload_n 1, .iload_n 2, .iconst 0, .aload_n 0, .getfield 67]
theorem oX7_paths_31_6 : fOkB cX7_paths 31 iX7_paths_31_6 = true := by decide +kernel
theorem dX7_paths_39 : decode cX7_paths 39 = .ok (.invokevirtual 128, 3) := by decide +kernel
def iX7_paths_42_4 : List Instr := [.goto 11, .aload_n 0, .getfield 49, .getfield 132]
theorem oX7_paths_42_4 : fOkB cX7_paths 42 iX7_paths_42_4 = true := by decide +kernel
def iX7_paths_22_1 : List Instr := [.sipush (-1002)]
theorem oX7_paths_22_1 : fOkB cX7_paths 22 iX7_paths_22_1 = true := by decide +kernel
theorem dX7_paths_25 : decode cX7_paths 25 = .ok (.ireturn, 1) := by decide +kernel
def iX7_paths_9_1 : List Instr := [.sipush (-1001)]
theorem oX7_paths_9_1 : fOkB cX7_paths 9 iX7_paths_9_1 = true := by decide +kernel
theorem dX7_paths_12 : decode cX7_paths 12 = .ok (.ireturn, 1) := by decide +kernel
set_option maxRecDepth 100000 in
theorem qX7_paths {G : fG} {d : Nat} {S : fS} (x y k : Int32) {a b c e : Nat} (H : hOk (hC S) a b c e) (HG : hGeo S b) : fCtr G (d + 10) mX7_paths [.ref 0, .int x, .int y, .int k] S (fun r S' => r = some (.int (oPaths (hC S) b x y k)) ∧ kp S S') := by
  refine fCtr.of bXX7_paths (Nat.le_of_ble_eq_true rfl) rfl ?_
  have hb : gI S 4 6 = nI b := H.2.1.1
  have hb16 : b ≤ 16 := H.2.1.2.1
  have ha8 : a ≤ 8 := H.1.2.2.1
  have hc4 : c ≤ 4 := H.2.2.1.2.1
  have he8 : e ≤ 8 := H.2.2.2.1.2.1
  have hm3 : gI S 0 9 ≤ 3 := H.2.2.2.2.1.2
  have hm := most_N (m := gI S 0 9) H.2.2.2.2.1.1 hm3
  refine fV.run iX7_paths_0_3 oX7_paths_0_3 (pc' := 3) (L' := [(0, .ref 0), (1, .int x), (2, .int y), (3, .int k)]) (st' := [.int y, .int x, .ref 0]) (S' := S) rfl trivial ?_
  refine fV.callV (M2 := mX7_areThere) (d := d + 9) (o := 0) (av := [.int x, .int y]) (rest := []) kX7_areThere dX7_paths_3 lX7_125 rfl rfl rfl (Nat.le_of_ble_eq_true rfl) (fRoom (by decide)) ⟨Nat.le_refl _, Nat.le_refl _⟩ (qX7_areThere _ _) ?_
  rintro _ S9 ⟨rfl, h9⟩
  rw [h9]
  clear h9 S9
  refine fV.to (pc' := 6) (L' := [(0, .ref 0), (1, .int x), (2, .int y), (3, .int k)]) (st' := [.int (fB (decide ((0 ≤ x ∧ x < (gI S 11 2)) ∧ (0 ≤ y ∧ y < (gI S 14 2)))))]) (S' := S) rfl rfl rfl rfl ?_
  refine fV.if_ne bX7_paths_6 (fun c6 => ?_) (fun c6 => ?_)
  · refine fV.run iX7_paths_13_3 oX7_paths_13_3 (pc' := 16) (L' := [(0, .ref 0), (1, .int x), (2, .int y), (3, .int k)]) (st' := [.int 3, .int (-1), .int k]) (S' := S) rfl trivial ?_
    refine fV.callS (M2 := mX7_isWithin) (d := d + 9) (av := [.int k, .int (-1), .int 3]) (rest := []) kX7_isWithin dX7_paths_16 lX7_74 rfl rfl (Nat.le_of_ble_eq_true rfl) (fRoom (by decide)) ⟨Nat.le_refl _, Nat.le_refl _⟩ (qX7_isWithin _ _ _) ?_
    rintro _ S9 ⟨rfl, h9⟩
    rw [h9]
    clear h9 S9
    refine fV.to (pc' := 19) (L' := [(0, .ref 0), (1, .int x), (2, .int y), (3, .int k)]) (st' := [.int (fB (decide ((-1) ≤ k ∧ k ≤ 3)))]) (S' := S) rfl rfl rfl rfl ?_
    refine fV.if_ne bX7_paths_19 (fun c19 => ?_) (fun c19 => ?_)
    · refine fV.run iX7_paths_26_2 oX7_paths_26_2 (pc' := 28) (L' := [(0, .ref 0), (1, .int x), (2, .int y), (3, .int k)]) (st' := [.int (-1), .int k]) (S' := S) rfl trivial ?_
      refine fV.icmp_ne bX7_paths_28 (fun c28 => ?_) (fun c28 => ?_)
      · refine fV.run iX7_paths_45_5 oX7_paths_45_5 (pc' := 50) (L' := [(0, .ref 0), (1, .int x), (2, .int y), (3, .int k)]) (st' := [.int k, .int k, .int y, .int x, .ref 0]) (S' := S) rfl trivial ?_
        obtain ⟨si, hsi, rfl⟩ := n_in (x := x) (n := c) (by omega) (by grind [fB]) (by rw [← show gI S 11 2 = nI c from H.2.2.1.1]; grind [fB])
        obtain ⟨ei, hei, rfl⟩ := n_in (x := y) (n := e) (by omega) (by grind [fB]) (by rw [← show gI S 14 2 = nI e from H.2.2.2.1.1]; grind [fB])
        obtain ⟨kk, hkk, rfl⟩ := n_in (x := k) (n := 4) (by omega) (by grind [fB]) (by show k < 4; grind [fB])
        have hkk1 : nI kk ≤ 3 := (nI_leI (b := 3) (by omega) (by decide)).mpr (by omega)
        have hkk0 : 0 ≤ nI kk := nI_pos' (by omega)
        refine fV.callV (M2 := mX7_find) (d := d + 9) (o := 0) (av := [.int (nI si), .int (nI ei), .int (nI kk), .int (nI kk)]) (rest := []) kX7_find dX7_paths_50 lX7_128 rfl rfl rfl (Nat.le_of_ble_eq_true rfl) (fRoom (by decide)) ⟨Nat.le_refl _, Nat.le_refl _⟩ (qX7_find (lo := kk) (N := 1) H HG hsi hei (by omega) (nI_1 kk) (by grind) (by grind)) ?_
        rintro _ S9 ⟨rfl, hk9, hF9⟩
        refine fV.to (pc' := 53) (L' := [(0, .ref 0), (1, .int (nI si)), (2, .int (nI ei)), (3, .int (nI kk))]) (st' := []) (S' := S9) rfl rfl rfl rfl ?_
        refine fV.run iX7_paths_53_3 oX7_paths_53_3 (pc' := 60) (L' := [(0, .ref 0), (1, .int (nI si)), (2, .int (nI ei)), (3, .int (nI kk))]) (st' := [.int (gI S9 24 2)]) (S' := S9) rfl trivial ?_
        exact fV.iret rfl dX7_paths_60 ⟨by unfold oPaths; rw [if_pos (show thr (hC S) (nI si) (nI ei) from ⟨⟨nI_pos' (by omega), by rw [show (hC S).2.2.1.1 = nI c from H.2.2.1.1, nI_ltI (by omega) (by omega)]; exact hsi⟩, nI_pos' (by omega), by rw [show (hC S).2.2.2.1.1 = nI e from H.2.2.2.1.1, nI_ltI (by omega) (by omega)]; exact hei⟩), if_pos (by grind [fB]), if_neg (by grind), nI_clamp (by omega), nI_clamp (by omega), nI_clamp (by omega)]; exact congrArg (fun z => some (Value.int z)) hF9.1, hk9⟩
      · refine fV.run iX7_paths_31_6 oX7_paths_31_6 (pc' := 39) (L' := [(0, .ref 0), (1, .int x), (2, .int y), (3, .int k)]) (st' := [.int (gI S 0 9), .int 0, .int y, .int x, .ref 0]) (S' := S) rfl trivial ?_
        obtain ⟨si, hsi, rfl⟩ := n_in (x := x) (n := c) (by omega) (by grind [fB]) (by rw [← show gI S 11 2 = nI c from H.2.2.1.1]; grind [fB])
        obtain ⟨ei, hei, rfl⟩ := n_in (x := y) (n := e) (by omega) (by grind [fB]) (by rw [← show gI S 14 2 = nI e from H.2.2.2.1.1]; grind [fB])
        refine fV.callV (M2 := mX7_find) (d := d + 9) (o := 0) (av := [.int (nI si), .int (nI ei), .int 0, .int (gI S 0 9)]) (rest := []) kX7_find dX7_paths_39 lX7_128 rfl rfl rfl (Nat.le_of_ble_eq_true rfl) (fRoom (by decide)) ⟨Nat.le_refl _, Nat.le_refl _⟩ (qX7_find (lo := 0) (N := (gI S 0 9).toNatClampNeg + 1) H HG hsi hei (by omega) hm.1 hm.2.2 hm3) ?_
        rintro _ S9 ⟨rfl, hk9, hF9⟩
        obtain ⟨hp9, hq9, hsf9, e2, e6, e17, ebo⟩ := fnd (lo := 0) (n := (gI S 0 9).toNatClampNeg + 1) H hsi hei hk9 (by omega)
        refine fV.to (pc' := 42) (L' := [(0, .ref 0), (1, .int (nI si)), (2, .int (nI ei)), (3, .int k)]) (st' := []) (S' := S9) rfl rfl rfl rfl ?_
        refine fV.run iX7_paths_42_4 oX7_paths_42_4 (pc' := 60) (L' := [(0, .ref 0), (1, .int (nI si)), (2, .int (nI ei)), (3, .int k)]) (st' := [.int (gI S9 24 2)]) (S' := S9) rfl trivial ?_
        exact fV.iret rfl dX7_paths_60 ⟨by unfold oPaths; rw [if_pos (show thr (hC S) (nI si) (nI ei) from ⟨⟨nI_pos' (by omega), by rw [show (hC S).2.2.1.1 = nI c from H.2.2.1.1, nI_ltI (by omega) (by omega)]; exact hsi⟩, nI_pos' (by omega), by rw [show (hC S).2.2.2.1.1 = nI e from H.2.2.2.1.1, nI_ltI (by omega) (by omega)]; exact hei⟩), if_pos (by grind [fB]), if_pos (by grind), nI_clamp (by omega), nI_clamp (by omega)]; exact congrArg (fun z => some (Value.int z)) hF9.1, hk9⟩
    · refine fV.run iX7_paths_22_1 oX7_paths_22_1 (pc' := 25) (L' := [(0, .ref 0), (1, .int x), (2, .int y), (3, .int k)]) (st' := [.int (-1002)]) (S' := S) rfl trivial ?_
      exact fV.iret rfl dX7_paths_25 ⟨by unfold oPaths; rw [if_pos (show thr (hC S) x y from by unfold thr; grind [fB, hC]), if_neg (by grind [fB])], kp.rf⟩
  · refine fV.run iX7_paths_9_1 oX7_paths_9_1 (pc' := 12) (L' := [(0, .ref 0), (1, .int x), (2, .int y), (3, .int k)]) (st' := [.int (-1001)]) (S' := S) rfl trivial ?_
    exact fV.iret rfl dX7_paths_12 ⟨by unfold oPaths; rw [if_neg (show ¬ thr (hC S) x y from by unfold thr; grind [fB, hC])], kp.rf⟩
def iX7_at_45_4 : List Instr := [.iload 6, .aload_n 0, .getfield 49, .getfield 132]
theorem oX7_at_45_4 : fOkB cX7_at 45 iX7_at_45_4 = true := by decide +kernel
theorem bX7_at_54 : fBk cX7_at 54 (.if_icmp .ge) 100 := ⟨46, by decide +kernel, by decide⟩
def iX7_at_100_1 : List Instr := [.lload 4]
theorem oX7_at_100_1 : fOkB cX7_at 100 iX7_at_100_1 = true := by decide +kernel
theorem dX7_at_102 : decode cX7_at 102 = .ok (.lreturn, 1) := by decide +kernel
def iX7_at_57_3 : List Instr := [.aload_n 0, .getfield 49, .iload 6]
theorem oX7_at_57_3 : fOkB cX7_at 57 iX7_at_57_3 = true := by decide +kernel
theorem dX7_at_63 : decode cX7_at 63 = .ok (.invokevirtual 150, 3) := by decide +kernel
def iX7_at_66_1 : List Instr := [.iload_n 3]
theorem oX7_at_66_1 : fOkB cX7_at 66 iX7_at_66_1 = true := by decide +kernel
theorem bX7_at_67 : fBk cX7_at 67 (.if_icmp .ne) 94 := ⟨27, by decide +kernel, by decide⟩
def iX7_at_94_2 : List Instr := [.iinc 6 1, .goto (-52)]
theorem oX7_at_94_2 : fOkB cX7_at 94 iX7_at_94_2 = true := by decide +kernel
def iX7_at_70_10 : List Instr := [.lload 4, .aload_n 0, .iload 6, .aload_n 0, .getfield 35, .iload_n 1, .iaload, .aload_n 0, .getfield 19, .getfield 94]
theorem oX7_at_70_10 : fOkB cX7_at 70 iX7_at_70_10 = true := by decide +kernel
theorem dX7_at_88 : decode cX7_at 88 = .ok (.invokevirtual 146, 3) := by decide +kernel
def iX7_at_91_4 : List Instr := [.ladd, .lstore 4, .iinc 6 1, .goto (-52)]
theorem oX7_at_91_4 : fOkB cX7_at 91 iX7_at_91_4 = true := by decide +kernel
set_option maxRecDepth 100000 in
theorem lpX7_at {G : fG} {d : Nat} {S S9 : fS} {a b c e si ei : Nat} {t : Int32} (H : hOk (hC S) a b c e) (hsi : si < c) (hei : ei < e) (hk9 : kp S S9) (hF9 : fdOk S9 (plR (gA S 5) b (gA S 12 si, gA S 13 si) (gA S 15 ei, gA S 16 ei) 0 ((gI S 0 9).toNatClampNeg + 1))) : ∀ (u i : Nat), i + u = (plR (gA S 5) b (gA S 12 si, gA S 13 si) (gA S 15 ei, gA S 16 ei) 0 ((gI S 0 9).toNatClampNeg + 1)).length → fV G mX7_at (fZm G (d + 10) (fun r S' => r = some (.long (smE (enF (gA S 2) (gA S 6) (gA S 17 si)) (fun x => decide (tickF x.2 = t)) (plR (gA S 5) b (gA S 12 si, gA S 13 si) (gA S 15 ei, gA S 16 ei) 0 ((gI S 0 9).toNatClampNeg + 1)))) ∧ kp S S')) 45 [(0, .ref 0), (1, .int (nI si)), (2, .int (nI ei)), (3, .int t), (4, .long (smE (enF (gA S 2) (gA S 6) (gA S 17 si)) (fun x => decide (tickF x.2 = t)) ((plR (gA S 5) b (gA S 12 si, gA S 13 si) (gA S 15 ei, gA S 16 ei) 0 ((gI S 0 9).toNatClampNeg + 1)).take i))), (6, .int (nI i))] [] S9 := by
  have hb16 : b ≤ 16 := H.2.1.2.1
  have hc4 : c ≤ 4 := H.2.2.1.2.1
  have hm := most_N (m := gI S 0 9) H.2.2.2.2.1.1 H.2.2.2.2.1.2
  obtain ⟨hp9, hq9, hsf9, e2, e6, e17, ebo⟩ := fnd (lo := 0) (n := (gI S 0 9).toNatClampNeg + 1) H hsi hei hk9 (by omega)
  have hl : (plR (gA S 5) b (gA S 12 si, gA S 13 si) (gA S 15 ei, gA S 16 ei) 0 ((gI S 0 9).toNatClampNeg + 1)).length ≤ 3857 := hF9.2.1
  intro u
  induction u with
  | zero =>
    intro i hi
    refine fV.run iX7_at_45_4 oX7_at_45_4 (pc' := 54) (L' := [(0, .ref 0), (1, .int (nI si)), (2, .int (nI ei)), (3, .int t), (4, .long (smE (enF (gA S 2) (gA S 6) (gA S 17 si)) (fun x => decide (tickF x.2 = t)) ((plR (gA S 5) b (gA S 12 si, gA S 13 si) (gA S 15 ei, gA S 16 ei) 0 ((gI S 0 9).toNatClampNeg + 1)).take i))), (6, .int (nI i))]) (st' := [.int (gI S9 24 2), .int (nI i)]) (S' := S9) rfl trivial ?_
    refine fV.icmp_ge bX7_at_54 (fun c54 => ?_) (fun c54 => ?_)
    · refine fV.run iX7_at_100_1 oX7_at_100_1 (pc' := 102) (L' := [(0, .ref 0), (1, .int (nI si)), (2, .int (nI ei)), (3, .int t), (4, .long (smE (enF (gA S 2) (gA S 6) (gA S 17 si)) (fun x => decide (tickF x.2 = t)) ((plR (gA S 5) b (gA S 12 si, gA S 13 si) (gA S 15 ei, gA S 16 ei) 0 ((gI S 0 9).toNatClampNeg + 1)).take i))), (6, .int (nI i))]) (st' := [.long (smE (enF (gA S 2) (gA S 6) (gA S 17 si)) (fun x => decide (tickF x.2 = t)) ((plR (gA S 5) b (gA S 12 si, gA S 13 si) (gA S 15 ei, gA S 16 ei) 0 ((gI S 0 9).toNatClampNeg + 1)).take i))]) (S' := S9) rfl trivial ?_
      exact fV.lret rfl dX7_at_102 ⟨by rw [List.take_of_length_le (by omega)], hk9⟩
    · exact absurd c54 (by rw [hF9.1, nI_leI (by omega) (by omega)]; omega)
  | succ u ih =>
    intro i hi
    obtain ⟨x9, hx9⟩ : ∃ x9, (plR (gA S 5) b (gA S 12 si, gA S 13 si) (gA S 15 ei, gA S 16 ei) 0 ((gI S 0 9).toNatClampNeg + 1))[i]? = some x9 := ⟨_, List.getElem?_eq_getElem (by omega)⟩
    refine fV.run iX7_at_45_4 oX7_at_45_4 (pc' := 54) (L' := [(0, .ref 0), (1, .int (nI si)), (2, .int (nI ei)), (3, .int t), (4, .long (smE (enF (gA S 2) (gA S 6) (gA S 17 si)) (fun x => decide (tickF x.2 = t)) ((plR (gA S 5) b (gA S 12 si, gA S 13 si) (gA S 15 ei, gA S 16 ei) 0 ((gI S 0 9).toNatClampNeg + 1)).take i))), (6, .int (nI i))]) (st' := [.int (gI S9 24 2), .int (nI i)]) (S' := S9) rfl trivial ?_
    refine fV.icmp_ge bX7_at_54 (fun c54 => ?_) (fun c54 => ?_)
    · exact absurd c54 (by rw [hF9.1, nI_leI (by omega) (by omega)]; omega)
    · refine fV.run iX7_at_57_3 oX7_at_57_3 (pc' := 63) (L' := [(0, .ref 0), (1, .int (nI si)), (2, .int (nI ei)), (3, .int t), (4, .long (smE (enF (gA S 2) (gA S 6) (gA S 17 si)) (fun x => decide (tickF x.2 = t)) ((plR (gA S 5) b (gA S 12 si, gA S 13 si) (gA S 15 ei, gA S 16 ei) 0 ((gI S 0 9).toNatClampNeg + 1)).take i))), (6, .int (nI i))]) (st' := [.int (nI i), .ref 24]) (S' := S9) rfl trivial ?_
      refine fV.callV (M2 := mX1_tickOf) (d := d + 9) (o := 24) (av := [.int (nI i)]) (rest := []) kX1_tickOf dX7_at_63 lX7_150 rfl rfl rfl (Nat.le_of_ble_eq_true rfl) (fRoom (by decide)) ⟨Nat.le_refl _, Nat.le_refl _⟩ (qX1_tickOf (S := S9) hb16 hF9 hp9 hx9) ?_
      rintro _ S9 ⟨rfl, h9⟩
      rw [h9]
      clear h9 S9
      refine fV.to (pc' := 66) (L' := [(0, .ref 0), (1, .int (nI si)), (2, .int (nI ei)), (3, .int t), (4, .long (smE (enF (gA S 2) (gA S 6) (gA S 17 si)) (fun x => decide (tickF x.2 = t)) ((plR (gA S 5) b (gA S 12 si, gA S 13 si) (gA S 15 ei, gA S 16 ei) 0 ((gI S 0 9).toNatClampNeg + 1)).take i))), (6, .int (nI i))]) (st' := [.int (tickF x9.2)]) (S' := S9) rfl rfl rfl rfl ?_
      refine fV.run iX7_at_66_1 oX7_at_66_1 (pc' := 67) (L' := [(0, .ref 0), (1, .int (nI si)), (2, .int (nI ei)), (3, .int t), (4, .long (smE (enF (gA S 2) (gA S 6) (gA S 17 si)) (fun x => decide (tickF x.2 = t)) ((plR (gA S 5) b (gA S 12 si, gA S 13 si) (gA S 15 ei, gA S 16 ei) 0 ((gI S 0 9).toNatClampNeg + 1)).take i))), (6, .int (nI i))]) (st' := [.int t, .int (tickF x9.2)]) (S' := S9) rfl trivial ?_
      refine fV.icmp_ne bX7_at_67 (fun c67 => ?_) (fun c67 => ?_)
      · refine fV.run iX7_at_94_2 oX7_at_94_2 (pc' := 45) (L' := [(0, .ref 0), (1, .int (nI si)), (2, .int (nI ei)), (3, .int t), (4, .long (smE (enF (gA S 2) (gA S 6) (gA S 17 si)) (fun x => decide (tickF x.2 = t)) ((plR (gA S 5) b (gA S 12 si, gA S 13 si) (gA S 15 ei, gA S 16 ei) 0 ((gI S 0 9).toNatClampNeg + 1)).take i))), (6, .int ((nI i) + 1))]) (st' := []) (S' := S9) rfl trivial ?_
        refine fV.to (L' := [(0, .ref 0), (1, .int (nI si)), (2, .int (nI ei)), (3, .int t), (4, .long (smE (enF (gA S 2) (gA S 6) (gA S 17 si)) (fun x => decide (tickF x.2 = t)) ((plR (gA S 5) b (gA S 12 si, gA S 13 si) (gA S 15 ei, gA S 16 ei) 0 ((gI S 0 9).toNatClampNeg + 1)).take (i + 1)))), (6, .int (nI (i + 1)))]) rfl (by rw [smE_s hx9, show decide (tickF x9.2 = t) = false from decide_eq_false c67, nI_1]; rfl) rfl rfl (ih (i + 1) (by omega))
      · refine fV.run iX7_at_70_10 oX7_at_70_10 (pc' := 88) (L' := [(0, .ref 0), (1, .int (nI si)), (2, .int (nI ei)), (3, .int t), (4, .long (smE (enF (gA S 2) (gA S 6) (gA S 17 si)) (fun x => decide (tickF x.2 = t)) ((plR (gA S 5) b (gA S 12 si, gA S 13 si) (gA S 15 ei, gA S 16 ei) 0 ((gI S 0 9).toNatClampNeg + 1)).take i))), (6, .int (nI i))]) (st' := [.ref 6, .int (gA S9 17 (nI si).toNatClampNeg), .int (nI i), .ref 0, .long (smE (enF (gA S 2) (gA S 6) (gA S 17 si)) (fun x => decide (tickF x.2 = t)) ((plR (gA S 5) b (gA S 12 si, gA S 13 si) (gA S 15 ei, gA S 16 ei) 0 ((gI S 0 9).toNatClampNeg + 1)).take i))]) (S' := S9) (P := vp_in (nI si) 4 ∧ True) rfl ⟨(vp_in_nI (by omega) (by decide)), trivial⟩ ?_
        refine fV.callV (M2 := mX7_energyOf) (d := d + 9) (o := 0) (av := [.int (nI i), .int (gA S9 17 (nI si).toNatClampNeg), .ref 6]) (rest := [.long (smE (enF (gA S 2) (gA S 6) (gA S 17 si)) (fun x => decide (tickF x.2 = t)) ((plR (gA S 5) b (gA S 12 si, gA S 13 si) (gA S 15 ei, gA S 16 ei) 0 ((gI S 0 9).toNatClampNeg + 1)).take i))]) kX7_energyOf dX7_at_88 lX7_146 rfl rfl rfl (Nat.le_of_ble_eq_true rfl) (fRoom (by decide)) ⟨Nat.le_refl _, Nat.le_refl _⟩ (qX7_en_6 (S := S9) hb16 hF9 hp9 hq9 hx9 hsf9) ?_
        rintro _ S8 ⟨rfl, h9⟩
        rw [h9, e2, e6, e17, nI_clamp (by omega)]
        clear h9 S8
        refine fV.to (pc' := 91) (L' := [(0, .ref 0), (1, .int (nI si)), (2, .int (nI ei)), (3, .int t), (4, .long (smE (enF (gA S 2) (gA S 6) (gA S 17 si)) (fun x => decide (tickF x.2 = t)) ((plR (gA S 5) b (gA S 12 si, gA S 13 si) (gA S 15 ei, gA S 16 ei) 0 ((gI S 0 9).toNatClampNeg + 1)).take i))), (6, .int (nI i))]) (st' := [.long (enF (gA S 2) (gA S 6) (gA S 17 si) x9), .long (smE (enF (gA S 2) (gA S 6) (gA S 17 si)) (fun x => decide (tickF x.2 = t)) ((plR (gA S 5) b (gA S 12 si, gA S 13 si) (gA S 15 ei, gA S 16 ei) 0 ((gI S 0 9).toNatClampNeg + 1)).take i))]) (S' := S9) rfl rfl rfl rfl ?_
        refine fV.run iX7_at_91_4 oX7_at_91_4 (pc' := 45) (L' := [(0, .ref 0), (1, .int (nI si)), (2, .int (nI ei)), (3, .int t), (4, .long ((smE (enF (gA S 2) (gA S 6) (gA S 17 si)) (fun x => decide (tickF x.2 = t)) ((plR (gA S 5) b (gA S 12 si, gA S 13 si) (gA S 15 ei, gA S 16 ei) 0 ((gI S 0 9).toNatClampNeg + 1)).take i)) + (enF (gA S 2) (gA S 6) (gA S 17 si) x9))), (6, .int ((nI i) + 1))]) (st' := []) (S' := S9) rfl trivial ?_
        refine fV.to (L' := [(0, .ref 0), (1, .int (nI si)), (2, .int (nI ei)), (3, .int t), (4, .long (smE (enF (gA S 2) (gA S 6) (gA S 17 si)) (fun x => decide (tickF x.2 = t)) ((plR (gA S 5) b (gA S 12 si, gA S 13 si) (gA S 15 ei, gA S 16 ei) 0 ((gI S 0 9).toNatClampNeg + 1)).take (i + 1)))), (6, .int (nI (i + 1)))]) rfl (by rw [smE_s hx9, show decide (tickF x9.2 = t) = true from decide_eq_true c67, nI_1]; rfl) rfl rfl (ih (i + 1) (by omega))
def iX7_at_0_3 : List Instr := [.aload_n 0, .iload_n 1, .iload_n 2]
theorem oX7_at_0_3 : fOkB cX7_at 0 iX7_at_0_3 = true := by decide +kernel
theorem dX7_at_3 : decode cX7_at 3 = .ok (.invokevirtual 125, 3) := by decide +kernel
theorem bX7_at_6 : fBk cX7_at 6 (.ifCond .ne) 13 := ⟨7, by decide +kernel, by decide⟩
def iX7_at_13_3 : List Instr := [.iload_n 3, .iconst 0, .sipush 300]
theorem oX7_at_13_3 : fOkB cX7_at 13 iX7_at_13_3 = true := by decide +kernel
theorem dX7_at_18 : decode cX7_at 18 = .ok (.invokestatic 74, 3) := by decide +kernel
theorem bX7_at_21 : fBk cX7_at 21 (.ifCond .ne) 28 := ⟨7, by decide +kernel, by decide⟩
def iX7_at_28_6 : List Instr := [.aload_n 0, .iload_n 1, .iload_n 2, .iconst 0, .aload_n 0, .getfield 67]
theorem oX7_at_28_6 : fOkB cX7_at 28 iX7_at_28_6 = true := by decide +kernel
theorem dX7_at_36 : decode cX7_at 36 = .ok (.invokevirtual 128, 3) := by decide +kernel
def iX7_at_39_4 : List Instr := [.lconst 0, .lstore 4, .iconst 0, .istore 6]
theorem oX7_at_39_4 : fOkB cX7_at 39 iX7_at_39_4 = true := by decide +kernel
def iX7_at_24_1 : List Instr := [.ldc2_w 135]
theorem oX7_at_24_1 : fOkB cX7_at 24 iX7_at_24_1 = true := by decide +kernel
theorem dX7_at_27 : decode cX7_at 27 = .ok (.lreturn, 1) := by decide +kernel
def iX7_at_9_1 : List Instr := [.ldc2_w 133]
theorem oX7_at_9_1 : fOkB cX7_at 9 iX7_at_9_1 = true := by decide +kernel
theorem dX7_at_12 : decode cX7_at 12 = .ok (.lreturn, 1) := by decide +kernel
set_option maxRecDepth 100000 in
theorem qX7_at {G : fG} {d : Nat} {S : fS} (x y t : Int32) {a b c e : Nat} (H : hOk (hC S) a b c e) (HG : hGeo S b) : fCtr G (d + 10) mX7_at [.ref 0, .int x, .int y, .int t] S (fun r S' => r = some (.long (oAt (hC S) b x y t)) ∧ kp S S') := by
  refine fCtr.of bXX7_at (Nat.le_of_ble_eq_true rfl) rfl ?_
  have hb : gI S 4 6 = nI b := H.2.1.1
  have hb16 : b ≤ 16 := H.2.1.2.1
  have ha8 : a ≤ 8 := H.1.2.2.1
  have hc4 : c ≤ 4 := H.2.2.1.2.1
  have he8 : e ≤ 8 := H.2.2.2.1.2.1
  have hm3 : gI S 0 9 ≤ 3 := H.2.2.2.2.1.2
  have hm := most_N (m := gI S 0 9) H.2.2.2.2.1.1 hm3
  refine fV.run iX7_at_0_3 oX7_at_0_3 (pc' := 3) (L' := [(0, .ref 0), (1, .int x), (2, .int y), (3, .int t)]) (st' := [.int y, .int x, .ref 0]) (S' := S) rfl trivial ?_
  refine fV.callV (M2 := mX7_areThere) (d := d + 9) (o := 0) (av := [.int x, .int y]) (rest := []) kX7_areThere dX7_at_3 lX7_125 rfl rfl rfl (Nat.le_of_ble_eq_true rfl) (fRoom (by decide)) ⟨Nat.le_refl _, Nat.le_refl _⟩ (qX7_areThere _ _) ?_
  rintro _ S9 ⟨rfl, h9⟩
  rw [h9]
  clear h9 S9
  refine fV.to (pc' := 6) (L' := [(0, .ref 0), (1, .int x), (2, .int y), (3, .int t)]) (st' := [.int (fB (decide ((0 ≤ x ∧ x < (gI S 11 2)) ∧ (0 ≤ y ∧ y < (gI S 14 2)))))]) (S' := S) rfl rfl rfl rfl ?_
  refine fV.if_ne bX7_at_6 (fun c6 => ?_) (fun c6 => ?_)
  · refine fV.run iX7_at_13_3 oX7_at_13_3 (pc' := 18) (L' := [(0, .ref 0), (1, .int x), (2, .int y), (3, .int t)]) (st' := [.int 300, .int 0, .int t]) (S' := S) rfl trivial ?_
    refine fV.callS (M2 := mX7_isWithin) (d := d + 9) (av := [.int t, .int 0, .int 300]) (rest := []) kX7_isWithin dX7_at_18 lX7_74 rfl rfl (Nat.le_of_ble_eq_true rfl) (fRoom (by decide)) ⟨Nat.le_refl _, Nat.le_refl _⟩ (qX7_isWithin _ _ _) ?_
    rintro _ S9 ⟨rfl, h9⟩
    rw [h9]
    clear h9 S9
    refine fV.to (pc' := 21) (L' := [(0, .ref 0), (1, .int x), (2, .int y), (3, .int t)]) (st' := [.int (fB (decide (0 ≤ t ∧ t ≤ 300)))]) (S' := S) rfl rfl rfl rfl ?_
    refine fV.if_ne bX7_at_21 (fun c21 => ?_) (fun c21 => ?_)
    · refine fV.run iX7_at_28_6 oX7_at_28_6 (pc' := 36) (L' := [(0, .ref 0), (1, .int x), (2, .int y), (3, .int t)]) (st' := [.int (gI S 0 9), .int 0, .int y, .int x, .ref 0]) (S' := S) rfl trivial ?_
      obtain ⟨si, hsi, rfl⟩ := n_in (x := x) (n := c) (by omega) (by grind [fB]) (by rw [← show gI S 11 2 = nI c from H.2.2.1.1]; grind [fB])
      obtain ⟨ei, hei, rfl⟩ := n_in (x := y) (n := e) (by omega) (by grind [fB]) (by rw [← show gI S 14 2 = nI e from H.2.2.2.1.1]; grind [fB])
      refine fV.callV (M2 := mX7_find) (d := d + 9) (o := 0) (av := [.int (nI si), .int (nI ei), .int 0, .int (gI S 0 9)]) (rest := []) kX7_find dX7_at_36 lX7_128 rfl rfl rfl (Nat.le_of_ble_eq_true rfl) (fRoom (by decide)) ⟨Nat.le_refl _, Nat.le_refl _⟩ (qX7_find (lo := 0) (N := (gI S 0 9).toNatClampNeg + 1) H HG hsi hei (by omega) hm.1 hm.2.2 hm3) ?_
      rintro _ S9 ⟨rfl, hk9, hF9⟩
      obtain ⟨hp9, hq9, hsf9, e2, e6, e17, ebo⟩ := fnd (lo := 0) (n := (gI S 0 9).toNatClampNeg + 1) H hsi hei hk9 (by omega)
      refine fV.to (pc' := 39) (L' := [(0, .ref 0), (1, .int (nI si)), (2, .int (nI ei)), (3, .int t)]) (st' := []) (S' := S9) rfl rfl rfl rfl ?_
      refine fV.run iX7_at_39_4 oX7_at_39_4 (pc' := 45) (L' := [(0, .ref 0), (1, .int (nI si)), (2, .int (nI ei)), (3, .int t), (4, .long 0), (6, .int 0)]) (st' := []) (S' := S9) rfl trivial ?_
      rw [show oAt (hC S) b (nI si) (nI ei) t = smE (enF (gA S 2) (gA S 6) (gA S 17 si)) (fun x => decide (tickF x.2 = t)) (plR (gA S 5) b (gA S 12 si, gA S 13 si) (gA S 15 ei, gA S 16 ei) 0 ((gI S 0 9).toNatClampNeg + 1)) by unfold oAt; rw [if_pos (show thr (hC S) (nI si) (nI ei) from ⟨⟨nI_pos' (by omega), by rw [show (hC S).2.2.1.1 = nI c from H.2.2.1.1, nI_ltI (by omega) (by omega)]; exact hsi⟩, nI_pos' (by omega), by rw [show (hC S).2.2.2.1.1 = nI e from H.2.2.2.1.1, nI_ltI (by omega) (by omega)]; exact hei⟩), if_pos (by grind [fB]), nI_clamp (by omega), nI_clamp (by omega)]; rfl]
      exact lpX7_at H hsi hei hk9 hF9 _ 0 (Nat.zero_add _)
    · refine fV.run iX7_at_24_1 oX7_at_24_1 (pc' := 27) (L' := [(0, .ref 0), (1, .int x), (2, .int y), (3, .int t)]) (st' := [.long (-1002)]) (S' := S) rfl trivial ?_
      exact fV.lret rfl dX7_at_27 ⟨by unfold oAt; rw [if_pos (show thr (hC S) x y from by unfold thr; grind [fB, hC]), if_neg (by grind [fB])], kp.rf⟩
  · refine fV.run iX7_at_9_1 oX7_at_9_1 (pc' := 12) (L' := [(0, .ref 0), (1, .int x), (2, .int y), (3, .int t)]) (st' := [.long (-1001)]) (S' := S) rfl trivial ?_
    exact fV.lret rfl dX7_at_12 ⟨by unfold oAt; rw [if_neg (show ¬ thr (hC S) x y from by unfold thr; grind [fB, hC])], kp.rf⟩

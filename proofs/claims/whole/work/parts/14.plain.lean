/-! the plain questions: told, count, left -/
def oTold (h : hH) (w t : Int32) : Int32 := if 0 ≤ w ∧ w < h.2.1.1 then (if 0 ≤ t ∧ t ≤ 5 then (if t = 4 then h.2.1.2.2 w.toNatClampNeg else if t = 5 then hLen h.2.1.2.1 w.toNatClampNeg else h.2.1.2.1 (4 * w + t).toNatClampNeg) else -1002) else -1001
def oCount (h : hH) (b : Nat) (t : Int32) : Int32 := if t = 0 then h.2.1.1 else if t = 1 then h.1.1 else if t = 2 then h.2.2.1.1 else if t = 3 then h.2.2.2.1.1 else if t = 4 then lineF h.2.1.2.1 b else if t = 5 then lostF h b else if t = 6 then decF h b else -1002
def itL (k e : Int64) : Nat → Int64
  | 0 => e
  | n + 1 => itL k e n * k / 1000
def oLeft (h : hH) (b : Nat) (e : Int64) (n : Int32) : Int64 := if (0 ≤ e ∧ e ≤ 1000000000000) ∧ (0 ≤ n ∧ n ≤ 100) then itL (1000 - (decF h b).toInt64) e n.toNatClampNeg else -1002
theorem kept_eq {h : hH} {a b c e : Nat} (H : hOk h a b c e) : (1000 - decF h b).toInt64 = 1000 - (decF h b).toInt64 := by
  obtain ⟨h1, h2⟩ := H.dec
  apply Int64.toInt_inj.mp
  have t1 : (1000 : Int32).toInt = 1000 := by decide
  have t2 : (1000 : Int64).toInt = 1000 := by decide
  rw [Int32.toInt_toInt64, i_sub (by omega) (by omega), j_sub (by rw [Int32.toInt_toInt64]; omega) (by rw [Int32.toInt_toInt64]; omega), Int32.toInt_toInt64, t1, t2]
theorem vinT {w t : Int32} {b : Nat} (hb : b ≤ 16) (h0 : 0 ≤ w) (h1 : w < nI b) (h2 : 0 ≤ t) (h3 : t < 4) : vp_in (4 * w + t) 64 := by
  obtain ⟨i, hi, rfl⟩ := n_in (by omega) h0 h1
  obtain ⟨j, hj, rfl⟩ := n_in (x := t) (n := 4) (by omega) h2 h3
  exact vinN (w := 4 * i + j) (by omega) (by decide) (by simp [nI, Int32.ofNat_add, Int32.ofNat_mul])
theorem i_of_toInt {x : Int32} {n : Int} (h : x.toInt = n) (y : Int32) (hy : y.toInt = n) : x = y := Int32.toInt_inj.mp (by rw [h, hy])
def iX8_line_4_3 : List Instr := [.iload_n 2, .aload_n 0, .getfield 89]
theorem oX8_line_4_3 : fOkB cX8_line 4 iX8_line_4_3 = true := by decide +kernel
theorem bX8_line_9 : fBk cX8_line 9 (.if_icmp .ge) 26 := ⟨17, by decide +kernel, by decide⟩
def iX8_line_26_1 : List Instr := [.iload_n 1]
theorem oX8_line_26_1 : fOkB cX8_line 26 iX8_line_26_1 = true := by decide +kernel
theorem dX8_line_27 : decode cX8_line 27 = .ok (.ireturn, 1) := by decide +kernel
def iX8_line_12_3 : List Instr := [.iload_n 1, .aload_n 0, .iload_n 2]
theorem oX8_line_12_3 : fOkB cX8_line 12 iX8_line_12_3 = true := by decide +kernel
set_option maxRecDepth 100000 in
theorem lX8_123 : Cond.methodLink RX8 123 yX8_lengthOf ∈ fTB := fTB_at 769 rfl rfl
theorem dX8_line_15 : decode cX8_line 15 = .ok (.invokevirtual 123, 3) := by decide +kernel
def iX8_line_18_4 : List Instr := [.iadd, .istore_n 1, .iinc 2 1, .goto (-19)]
theorem oX8_line_18_4 : fOkB cX8_line 18 iX8_line_18_4 = true := by decide +kernel
set_option maxRecDepth 100000 in
theorem lpX8_line {G : fG} {d : Nat} {S : fS}  {a b c e : Nat} (H : hOk (hD S) a b c e) : ∀ (u9 i : Nat), i + u9 = b → fV G mX8_line (fZm G (d + 2) (fun r S' => r = some (.int (lineF (gA S 38) b)) ∧ S' = S)) 4 [(0, .ref 35), (1, .int (lineF (gA S 38) i)), (2, .int (nI i))] [] S := by
  have hb : gI S 35 3 = nI b := H.2.1.1
  have hb16 : b ≤ 16 := H.2.1.2.1
  have ha8 : a ≤ 8 := H.1.2.2.1
  intro u9
  induction u9 with
  | zero =>
    intro i  hik
    refine fV.run iX8_line_4_3 oX8_line_4_3 (pc' := 9) (L' := [(0, .ref 35), (1, .int (lineF (gA S 38) i)), (2, .int (nI i))]) (st' := [.int (gI S 35 3), .int (nI i)]) (S' := S) rfl trivial ?_
    refine fV.icmp_ge bX8_line_9 (fun c9 => ?_) (fun c9 => ?_)
    · refine fV.run iX8_line_26_1 oX8_line_26_1 (pc' := 27) (L' := [(0, .ref 35), (1, .int (lineF (gA S 38) i)), (2, .int (nI i))]) (st' := [.int (lineF (gA S 38) i)]) (S' := S) rfl trivial ?_
      exact fV.iret rfl dX8_line_27 ⟨by rw [show i = b by omega], rfl⟩
    · exact absurd c9 (by rw [hb, nI_leI (by omega) (by omega)]; omega)
  | succ u9 ih =>
    intro i  hik
    refine fV.run iX8_line_4_3 oX8_line_4_3 (pc' := 9) (L' := [(0, .ref 35), (1, .int (lineF (gA S 38) i)), (2, .int (nI i))]) (st' := [.int (gI S 35 3), .int (nI i)]) (S' := S) rfl trivial ?_
    refine fV.icmp_ge bX8_line_9 (fun c9 => ?_) (fun c9 => ?_)
    · exact absurd c9 (by rw [hb, nI_leI (by omega) (by omega)]; omega)
    · refine fV.run iX8_line_12_3 oX8_line_12_3 (pc' := 15) (L' := [(0, .ref 35), (1, .int (lineF (gA S 38) i)), (2, .int (nI i))]) (st' := [.int (nI i), .ref 35, .int (lineF (gA S 38) i)]) (S' := S) rfl trivial ?_
      refine fV.callV (M2 := mX8_lengthOf) (d := d + 1) (o := 35) (av := [.int (nI i)]) (rest := [.int (lineF (gA S 38) i)]) kX8_lengthOf dX8_line_15 lX8_123 rfl rfl rfl (Nat.le_of_ble_eq_true rfl) (fRoom (by decide)) ⟨Nat.le_refl _, Nat.le_refl _⟩ (qX8_len H (i := i) (by omega)) ?_
      rintro _ S9 ⟨rfl, h9⟩
      rw [h9]
      clear h9 S9
      refine fV.to (pc' := 18) (L' := [(0, .ref 35), (1, .int (lineF (gA S 38) i)), (2, .int (nI i))]) (st' := [.int (hLen (gA S 38) i), .int (lineF (gA S 38) i)]) (S' := S) rfl rfl rfl rfl ?_
      refine fV.run iX8_line_18_4 oX8_line_18_4 (pc' := 4) (L' := [(0, .ref 35), (1, .int ((lineF (gA S 38) i) + (hLen (gA S 38) i))), (2, .int ((nI i) + 1))]) (st' := []) (S' := S) rfl trivial ?_
      refine fV.to (L' := [(0, .ref 35), (1, .int (lineF (gA S 38) (i + 1))), (2, .int (nI (i + 1)))]) rfl (by rw [← nI_1]; rfl) rfl rfl (ih (i + 1) (by omega))
def iX8_line_0_4 : List Instr := [.iconst 0, .istore_n 1, .iconst 0, .istore_n 2]
theorem oX8_line_0_4 : fOkB cX8_line 0 iX8_line_0_4 = true := by decide +kernel
set_option maxRecDepth 100000 in
theorem qX8_line {G : fG} {d : Nat} {S : fS}  {a b c e : Nat} (H : hOk (hD S) a b c e) : fCtr G (d + 2) mX8_line [.ref 35] S (fun r S' => r = some (.int (lineF (gA S 38) b)) ∧ S' = S) := by
  refine fCtr.of bXX8_line (Nat.le_of_ble_eq_true rfl) rfl ?_
  refine fV.run iX8_line_0_4 oX8_line_0_4 (pc' := 4) (L' := [(0, .ref 35), (1, .int 0), (2, .int 0)]) (st' := []) (S' := S) rfl trivial ?_
  exact lpX8_line H b 0 (by omega)
def iX8_lost_4_3 : List Instr := [.iload_n 2, .aload_n 0, .getfield 89]
theorem oX8_lost_4_3 : fOkB cX8_lost 4 iX8_lost_4_3 = true := by decide +kernel
theorem bX8_lost_9 : fBk cX8_lost 9 (.if_icmp .ge) 44 := ⟨35, by decide +kernel, by decide⟩
def iX8_lost_44_1 : List Instr := [.iload_n 1]
theorem oX8_lost_44_1 : fOkB cX8_lost 44 iX8_lost_44_1 = true := by decide +kernel
theorem dX8_lost_45 : decode cX8_lost 45 = .ok (.ireturn, 1) := by decide +kernel
def iX8_lost_12_3 : List Instr := [.iload_n 1, .aload_n 0, .iload_n 2]
theorem oX8_lost_12_3 : fOkB cX8_lost 12 iX8_lost_12_3 = true := by decide +kernel
theorem dX8_lost_15 : decode cX8_lost 15 = .ok (.invokevirtual 123, 3) := by decide +kernel
def iX8_lost_18_16 : List Instr := [.bipush 100, .aload_n 0, .getfield 7, .aload_n 0, .getfield 19, .iload_n 2, .iaload, .iaload, .isub, .imul, .bipush 100, .idiv, .iadd, .istore_n 1, .iinc 2 1, .goto (-37)]
theorem oX8_lost_18_16 : fOkB cX8_lost 18 iX8_lost_18_16 = true := by decide +kernel
set_option maxRecDepth 100000 in
theorem lpX8_lost {G : fG} {d : Nat} {S : fS}  {a b c e : Nat} (H : hOk (hD S) a b c e) : ∀ (u9 i : Nat), i + u9 = b → fV G mX8_lost (fZm G (d + 2) (fun r S' => r = some (.int (lostF (hD S) b)) ∧ S' = S)) 4 [(0, .ref 35), (1, .int (lostF (hD S) i)), (2, .int (nI i))] [] S := by
  have hb : gI S 35 3 = nI b := H.2.1.1
  have hb16 : b ≤ 16 := H.2.1.2.1
  have ha8 : a ≤ 8 := H.1.2.2.1
  intro u9
  induction u9 with
  | zero =>
    intro i  hik
    refine fV.run iX8_lost_4_3 oX8_lost_4_3 (pc' := 9) (L' := [(0, .ref 35), (1, .int (lostF (hD S) i)), (2, .int (nI i))]) (st' := [.int (gI S 35 3), .int (nI i)]) (S' := S) rfl trivial ?_
    refine fV.icmp_ge bX8_lost_9 (fun c9 => ?_) (fun c9 => ?_)
    · refine fV.run iX8_lost_44_1 oX8_lost_44_1 (pc' := 45) (L' := [(0, .ref 35), (1, .int (lostF (hD S) i)), (2, .int (nI i))]) (st' := [.int (lostF (hD S) i)]) (S' := S) rfl trivial ?_
      exact fV.iret rfl dX8_lost_45 ⟨by rw [show i = b by omega], rfl⟩
    · exact absurd c9 (by rw [hb, nI_leI (by omega) (by omega)]; omega)
  | succ u9 ih =>
    intro i  hik
    refine fV.run iX8_lost_4_3 oX8_lost_4_3 (pc' := 9) (L' := [(0, .ref 35), (1, .int (lostF (hD S) i)), (2, .int (nI i))]) (st' := [.int (gI S 35 3), .int (nI i)]) (S' := S) rfl trivial ?_
    refine fV.icmp_ge bX8_lost_9 (fun c9 => ?_) (fun c9 => ?_)
    · exact absurd c9 (by rw [hb, nI_leI (by omega) (by omega)]; omega)
    · refine fV.run iX8_lost_12_3 oX8_lost_12_3 (pc' := 15) (L' := [(0, .ref 35), (1, .int (lostF (hD S) i)), (2, .int (nI i))]) (st' := [.int (nI i), .ref 35, .int (lostF (hD S) i)]) (S' := S) rfl trivial ?_
      refine fV.callV (M2 := mX8_lengthOf) (d := d + 1) (o := 35) (av := [.int (nI i)]) (rest := [.int (lostF (hD S) i)]) kX8_lengthOf dX8_lost_15 lX8_123 rfl rfl rfl (Nat.le_of_ble_eq_true rfl) (fRoom (by decide)) ⟨Nat.le_refl _, Nat.le_refl _⟩ (qX8_len H (i := i) (by omega)) ?_
      rintro _ S9 ⟨rfl, h9⟩
      rw [h9]
      clear h9 S9
      refine fV.to (pc' := 18) (L' := [(0, .ref 35), (1, .int (lostF (hD S) i)), (2, .int (nI i))]) (st' := [.int (hLen (gA S 38) i), .int (lostF (hD S) i)]) (S' := S) rfl rfl rfl rfl ?_
      refine fV.run iX8_lost_18_16 oX8_lost_18_16 (pc' := 4) (L' := [(0, .ref 35), (1, .int ((lostF (hD S) i) + (((hLen (gA S 38) i) * (100 - (gA S 36 (gA S 39 (nI i).toNatClampNeg).toNatClampNeg))) / 100))), (2, .int ((nI i) + 1))]) (st' := []) (S' := S) (P := vp_in (nI i) 16 ∧ vp_in (gA S 39 (nI i).toNatClampNeg) 8 ∧ ¬ 100 = 0 ∧ True) rfl ⟨(vp_in_nI (by omega) (by decide)), (by rw [nI_clamp (by omega)]; obtain ⟨j, hj, ej⟩ := H.stf (w := i) (by omega); exact vinN (w := j) (by omega) (by decide) ej), (by decide), trivial⟩ ?_
      refine fV.to (L' := [(0, .ref 35), (1, .int (lostF (hD S) (i + 1))), (2, .int (nI (i + 1)))]) rfl (by rw [← nI_1, nI_clamp (by omega)]; rfl) rfl rfl (ih (i + 1) (by omega))
def iX8_lost_0_4 : List Instr := [.iconst 0, .istore_n 1, .iconst 0, .istore_n 2]
theorem oX8_lost_0_4 : fOkB cX8_lost 0 iX8_lost_0_4 = true := by decide +kernel
set_option maxRecDepth 100000 in
theorem qX8_lost {G : fG} {d : Nat} {S : fS}  {a b c e : Nat} (H : hOk (hD S) a b c e) : fCtr G (d + 2) mX8_lost [.ref 35] S (fun r S' => r = some (.int (lostF (hD S) b)) ∧ S' = S) := by
  refine fCtr.of bXX8_lost (Nat.le_of_ble_eq_true rfl) rfl ?_
  refine fV.run iX8_lost_0_4 oX8_lost_0_4 (pc' := 4) (L' := [(0, .ref 35), (1, .int 0), (2, .int 0)]) (st' := []) (S' := S) rfl trivial ?_
  exact lpX8_lost H b 0 (by omega)
def iX8_decay_0_2 : List Instr := [.aload_n 0, .getfield 89]
theorem oX8_decay_0_2 : fOkB cX8_decay 0 iX8_decay_0_2 = true := by decide +kernel
theorem bX8_decay_4 : fBk cX8_decay 4 (.ifCond .ne) 11 := ⟨7, by decide +kernel, by decide⟩
def iX8_decay_11_2 : List Instr := [.sipush 1000, .aload_n 0]
theorem oX8_decay_11_2 : fOkB cX8_decay 11 iX8_decay_11_2 = true := by decide +kernel
set_option maxRecDepth 100000 in
theorem lX8_126 : Cond.methodLink RX8 126 yX8_lost ∈ fTB := fTB_at 784 rfl rfl
theorem dX8_decay_15 : decode cX8_decay 15 = .ok (.invokevirtual 126, 3) := by decide +kernel
def iX8_decay_18_2 : List Instr := [.imul, .aload_n 0]
theorem oX8_decay_18_2 : fOkB cX8_decay 18 iX8_decay_18_2 = true := by decide +kernel
set_option maxRecDepth 100000 in
theorem lX8_130 : Cond.methodLink RX8 130 yX8_line ∈ fTB := fTB_at 780 rfl rfl
theorem dX8_decay_20 : decode cX8_decay 20 = .ok (.invokevirtual 130, 3) := by decide +kernel
def iX8_decay_23_1 : List Instr := [.idiv]
theorem oX8_decay_23_1 : fOkB cX8_decay 23 iX8_decay_23_1 = true := by decide +kernel
theorem dX8_decay_24 : decode cX8_decay 24 = .ok (.ireturn, 1) := by decide +kernel
def iX8_decay_7_2 : List Instr := [.iconst 0, .goto 16]
theorem oX8_decay_7_2 : fOkB cX8_decay 7 iX8_decay_7_2 = true := by decide +kernel
set_option maxRecDepth 100000 in
theorem qX8_dec {G : fG} {d : Nat} {S : fS}  {a b c e : Nat} (H : hOk (hD S) a b c e) : fCtr G (d + 3) mX8_decay [.ref 35] S (fun r S' => r = some (.int (decF (hD S) b)) ∧ S' = S) := by
  refine fCtr.of bXX8_decay (Nat.le_of_ble_eq_true rfl) rfl ?_
  have hb : gI S 35 3 = nI b := H.2.1.1
  have hb16 : b ≤ 16 := H.2.1.2.1
  have ha8 : a ≤ 8 := H.1.2.2.1
  refine fV.run iX8_decay_0_2 oX8_decay_0_2 (pc' := 4) (L' := [(0, .ref 35)]) (st' := [.int (gI S 35 3)]) (S' := S) rfl trivial ?_
  refine fV.if_ne bX8_decay_4 (fun c4 => ?_) (fun c4 => ?_)
  · refine fV.run iX8_decay_11_2 oX8_decay_11_2 (pc' := 15) (L' := [(0, .ref 35)]) (st' := [.ref 35, .int 1000]) (S' := S) rfl trivial ?_
    refine fV.callV (M2 := mX8_lost) (d := d + 2) (o := 35) (av := []) (rest := [.int 1000]) kX8_lost dX8_decay_15 lX8_126 rfl rfl rfl (Nat.le_of_ble_eq_true rfl) (fRoom (by decide)) ⟨Nat.le_refl _, Nat.le_refl _⟩ (qX8_lost H) ?_
    rintro _ S9 ⟨rfl, h9⟩
    rw [h9]
    clear h9 S9
    refine fV.to (pc' := 18) (L' := [(0, .ref 35)]) (st' := [.int (lostF (hD S) b), .int 1000]) (S' := S) rfl rfl rfl rfl ?_
    refine fV.run iX8_decay_18_2 oX8_decay_18_2 (pc' := 20) (L' := [(0, .ref 35)]) (st' := [.ref 35, .int (1000 * (lostF (hD S) b))]) (S' := S) rfl trivial ?_
    refine fV.callV (M2 := mX8_line) (d := d + 2) (o := 35) (av := []) (rest := [.int (1000 * (lostF (hD S) b))]) kX8_line dX8_decay_20 lX8_130 rfl rfl rfl (Nat.le_of_ble_eq_true rfl) (fRoom (by decide)) ⟨Nat.le_refl _, Nat.le_refl _⟩ (qX8_line H) ?_
    rintro _ S9 ⟨rfl, h9⟩
    rw [h9]
    clear h9 S9
    refine fV.to (pc' := 23) (L' := [(0, .ref 35)]) (st' := [.int (lineF (gA S 38) b), .int (1000 * (lostF (hD S) b))]) (S' := S) rfl rfl rfl rfl ?_
    refine fV.run iX8_decay_23_1 oX8_decay_23_1 (pc' := 24) (L' := [(0, .ref 35)]) (st' := [.int ((1000 * (lostF (hD S) b)) / (lineF (gA S 38) b))]) (S' := S) (P := ¬ (lineF (gA S 38) b) = 0 ∧ True) rfl ⟨(fun z => c4 (by rw [hb]; have := H.line0.mp z; subst this; rfl)), trivial⟩ ?_
    exact fV.iret rfl dX8_decay_24 ⟨by unfold decF; rw [if_neg (show ¬ lineF (hD S).2.1.2.1 b = 0 from (fun z => c4 (by rw [hb]; have := H.line0.mp z; subst this; rfl)))]; rfl, rfl⟩
  · refine fV.run iX8_decay_7_2 oX8_decay_7_2 (pc' := 24) (L' := [(0, .ref 35)]) (st' := [.int 0]) (S' := S) rfl trivial ?_
    exact fV.iret rfl dX8_decay_24 ⟨by unfold decF; rw [if_pos (H.line0.mpr (by rw [hb] at c4; exact (nI_eq (by omega) (by decide)).mp c4))], rfl⟩
theorem qX6_lenW {G : fG} {d : Nat} {S : fS} {w : Int32} {b : Nat} (HG : hGeo S b) (hb : b ≤ 16) (h0 : 0 ≤ w) (h1 : w < nI b) : fCtr G d mX6_lengthOf [.ref 4, .int w] S (fun r S' => r = some (.int (hLen (gA S 5) w.toNatClampNeg)) ∧ S' = S) := by
  obtain ⟨i, hi, rfl⟩ := n_in (by omega) h0 h1
  rw [nI_clamp (by omega)]
  exact qX6_len HG hi hb
theorem qX8_lenW {G : fG} {d : Nat} {S : fS} {w : Int32} {a b c e : Nat} (H : hOk (hD S) a b c e) (h0 : 0 ≤ w) (h1 : w < nI b) : fCtr G (d + 1) mX8_lengthOf [.ref 35, .int w] S (fun r S' => r = some (.int (hLen (gA S 38) w.toNatClampNeg)) ∧ S' = S) := by
  have hb16 : b ≤ 16 := H.2.1.2.1
  obtain ⟨i, hi, rfl⟩ := n_in (by omega) h0 h1
  rw [nI_clamp (by omega)]
  exact qX8_len H hi
def iX7_told_0_3 : List Instr := [.aload_n 0, .getfield 19, .iload_n 1]
theorem oX7_told_0_3 : fOkB cX7_told 0 iX7_told_0_3 = true := by decide +kernel
theorem dX7_told_5 : decode cX7_told 5 = .ok (.invokevirtual 93, 3) := by decide +kernel
theorem bX7_told_8 : fBk cX7_told 8 (.ifCond .ne) 15 := ⟨7, by decide +kernel, by decide⟩
def iX7_told_15_3 : List Instr := [.iload_n 2, .iconst 0, .iconst 5]
theorem oX7_told_15_3 : fOkB cX7_told 15 iX7_told_15_3 = true := by decide +kernel
theorem dX7_told_18 : decode cX7_told 18 = .ok (.invokestatic 74, 3) := by decide +kernel
theorem bX7_told_21 : fBk cX7_told 21 (.ifCond .ne) 28 := ⟨7, by decide +kernel, by decide⟩
def iX7_told_28_2 : List Instr := [.iload_n 2, .iconst 4]
theorem oX7_told_28_2 : fOkB cX7_told 28 iX7_told_28_2 = true := by decide +kernel
theorem bX7_told_30 : fBk cX7_told 30 (.if_icmp .ne) 43 := ⟨13, by decide +kernel, by decide⟩
def iX7_told_43_2 : List Instr := [.iload_n 2, .iconst 5]
theorem oX7_told_43_2 : fOkB cX7_told 43 iX7_told_43_2 = true := by decide +kernel
theorem bX7_told_45 : fBk cX7_told 45 (.if_icmp .ne) 57 := ⟨12, by decide +kernel, by decide⟩
def iX7_told_57_9 : List Instr := [.aload_n 0, .getfield 19, .getfield 110, .iconst 4, .iload_n 1, .imul, .iload_n 2, .iadd, .iaload]
theorem oX7_told_57_9 : fOkB cX7_told 57 iX7_told_57_9 = true := by decide +kernel
theorem dX7_told_70 : decode cX7_told 70 = .ok (.ireturn, 1) := by decide +kernel
def iX7_told_48_3 : List Instr := [.aload_n 0, .getfield 19, .iload_n 1]
theorem oX7_told_48_3 : fOkB cX7_told 48 iX7_told_48_3 = true := by decide +kernel
theorem dX7_told_53 : decode cX7_told 53 = .ok (.invokevirtual 106, 3) := by decide +kernel
theorem dX7_told_56 : decode cX7_told 56 = .ok (.ireturn, 1) := by decide +kernel
def iX7_told_33_5 : List Instr := [.aload_n 0, .getfield 19, .getfield 94, .iload_n 1, .iaload]
theorem oX7_told_33_5 : fOkB cX7_told 33 iX7_told_33_5 = true := by decide +kernel
theorem dX7_told_42 : decode cX7_told 42 = .ok (.ireturn, 1) := by decide +kernel
def iX7_told_24_1 : List Instr := [.sipush (-1002)]
theorem oX7_told_24_1 : fOkB cX7_told 24 iX7_told_24_1 = true := by decide +kernel
theorem dX7_told_27 : decode cX7_told 27 = .ok (.ireturn, 1) := by decide +kernel
def iX7_told_11_1 : List Instr := [.sipush (-1001)]
theorem oX7_told_11_1 : fOkB cX7_told 11 iX7_told_11_1 = true := by decide +kernel
theorem dX7_told_14 : decode cX7_told 14 = .ok (.ireturn, 1) := by decide +kernel
set_option maxRecDepth 100000 in
theorem qX7_told {G : fG} {d : Nat} {S : fS} (w t : Int32) {a b c e : Nat} (H : hOk (hC S) a b c e) (HG : hGeo S b) : fCtr G (d + 1) mX7_told [.ref 0, .int w, .int t] S (fun r S' => r = some (.int (oTold (hC S) w t)) ∧ S' = S) := by
  refine fCtr.of bXX7_told (Nat.le_of_ble_eq_true rfl) rfl ?_
  have hb : gI S 4 6 = nI b := H.2.1.1
  have hb16 : b ≤ 16 := H.2.1.2.1
  have ha8 : a ≤ 8 := H.1.2.2.1
  refine fV.run iX7_told_0_3 oX7_told_0_3 (pc' := 5) (L' := [(0, .ref 0), (1, .int w), (2, .int t)]) (st' := [.int w, .ref 4]) (S' := S) rfl trivial ?_
  refine fV.callV (M2 := mX6_has) (d := d) (o := 4) (av := [.int w]) (rest := []) kX6_has dX7_told_5 lX7_93 rfl rfl rfl (Nat.le_of_ble_eq_true rfl) (fRoom (by decide)) ⟨Nat.le_refl _, Nat.le_refl _⟩ (qX6_has_4 _) ?_
  rintro _ S9 ⟨rfl, h9⟩
  rw [h9]
  clear h9 S9
  refine fV.to (pc' := 8) (L' := [(0, .ref 0), (1, .int w), (2, .int t)]) (st' := [.int (fB (decide (0 ≤ w ∧ w < (gI S 4 6))))]) (S' := S) rfl rfl rfl rfl ?_
  refine fV.if_ne bX7_told_8 (fun c8 => ?_) (fun c8 => ?_)
  · refine fV.run iX7_told_15_3 oX7_told_15_3 (pc' := 18) (L' := [(0, .ref 0), (1, .int w), (2, .int t)]) (st' := [.int 5, .int 0, .int t]) (S' := S) rfl trivial ?_
    refine fV.callS (M2 := mX7_isWithin) (d := d) (av := [.int t, .int 0, .int 5]) (rest := []) kX7_isWithin dX7_told_18 lX7_74 rfl rfl (Nat.le_of_ble_eq_true rfl) (fRoom (by decide)) ⟨Nat.le_refl _, Nat.le_refl _⟩ (qX7_isWithin _ _ _) ?_
    rintro _ S9 ⟨rfl, h9⟩
    rw [h9]
    clear h9 S9
    refine fV.to (pc' := 21) (L' := [(0, .ref 0), (1, .int w), (2, .int t)]) (st' := [.int (fB (decide (0 ≤ t ∧ t ≤ 5)))]) (S' := S) rfl rfl rfl rfl ?_
    refine fV.if_ne bX7_told_21 (fun c21 => ?_) (fun c21 => ?_)
    · refine fV.run iX7_told_28_2 oX7_told_28_2 (pc' := 30) (L' := [(0, .ref 0), (1, .int w), (2, .int t)]) (st' := [.int 4, .int t]) (S' := S) rfl trivial ?_
      refine fV.icmp_ne bX7_told_30 (fun c30 => ?_) (fun c30 => ?_)
      · refine fV.run iX7_told_43_2 oX7_told_43_2 (pc' := 45) (L' := [(0, .ref 0), (1, .int w), (2, .int t)]) (st' := [.int 5, .int t]) (S' := S) rfl trivial ?_
        refine fV.icmp_ne bX7_told_45 (fun c45 => ?_) (fun c45 => ?_)
        · refine fV.run iX7_told_57_9 oX7_told_57_9 (pc' := 70) (L' := [(0, .ref 0), (1, .int w), (2, .int t)]) (st' := [.int (gA S 5 ((4 * w) + t).toNatClampNeg)]) (S' := S) (P := vp_in ((4 * w) + t) 64 ∧ True) rfl ⟨(vinT hb16 (by grind [fB]) (by grind [fB]) (by grind [fB]) (by grind [fB])), trivial⟩ ?_
          exact fV.iret rfl dX7_told_70 ⟨by unfold oTold; rw [if_pos (by grind [fB, hC]), if_pos (by grind [fB, hC]), if_neg (by grind [fB, hC]), if_neg (by grind [fB, hC])]; rfl, rfl⟩
        · refine fV.run iX7_told_48_3 oX7_told_48_3 (pc' := 53) (L' := [(0, .ref 0), (1, .int w), (2, .int t)]) (st' := [.int w, .ref 4]) (S' := S) rfl trivial ?_
          refine fV.callV (M2 := mX6_lengthOf) (d := d) (o := 4) (av := [.int w]) (rest := []) kX6_lengthOf dX7_told_53 lX7_106 rfl rfl rfl (Nat.le_of_ble_eq_true rfl) (fRoom (by decide)) ⟨Nat.le_refl _, Nat.le_refl _⟩ (qX6_lenW HG hb16 (by grind [fB]) (by grind [fB])) ?_
          rintro _ S9 ⟨rfl, h9⟩
          rw [h9]
          clear h9 S9
          refine fV.to (pc' := 56) (L' := [(0, .ref 0), (1, .int w), (2, .int t)]) (st' := [.int (hLen (gA S 5) w.toNatClampNeg)]) (S' := S) rfl rfl rfl rfl ?_
          exact fV.iret rfl dX7_told_56 ⟨by unfold oTold; rw [if_pos (by grind [fB, hC]), if_pos (by grind [fB, hC]), if_neg (by grind [fB, hC]), if_pos (by grind [fB, hC])]; rfl, rfl⟩
      · refine fV.run iX7_told_33_5 oX7_told_33_5 (pc' := 42) (L' := [(0, .ref 0), (1, .int w), (2, .int t)]) (st' := [.int (gA S 6 w.toNatClampNeg)]) (S' := S) (P := vp_in w 16 ∧ True) rfl ⟨(vin16 hb16 (by grind [fB]) (by grind [fB])), trivial⟩ ?_
        exact fV.iret rfl dX7_told_42 ⟨by unfold oTold; rw [if_pos (by grind [fB, hC]), if_pos (by grind [fB, hC]), if_pos (by grind [fB, hC])]; rfl, rfl⟩
    · refine fV.run iX7_told_24_1 oX7_told_24_1 (pc' := 27) (L' := [(0, .ref 0), (1, .int w), (2, .int t)]) (st' := [.int (-1002)]) (S' := S) rfl trivial ?_
      exact fV.iret rfl dX7_told_27 ⟨by unfold oTold; rw [if_pos (by grind [fB, hC]), if_neg (by grind [fB, hC])], rfl⟩
  · refine fV.run iX7_told_11_1 oX7_told_11_1 (pc' := 14) (L' := [(0, .ref 0), (1, .int w), (2, .int t)]) (st' := [.int (-1001)]) (S' := S) rfl trivial ?_
    exact fV.iret rfl dX7_told_14 ⟨by unfold oTold; rw [if_neg (by grind [fB, hC])], rfl⟩
def iX8_told_0_2 : List Instr := [.aload_n 0, .iload_n 1]
theorem oX8_told_0_2 : fOkB cX8_told 0 iX8_told_0_2 = true := by decide +kernel
theorem dX8_told_2 : decode cX8_told 2 = .ok (.invokevirtual 100, 3) := by decide +kernel
theorem bX8_told_5 : fBk cX8_told 5 (.ifCond .ne) 12 := ⟨7, by decide +kernel, by decide⟩
def iX8_told_12_4 : List Instr := [.iload_n 2, .i2l, .lconst 0, .ldc2_w 121]
theorem oX8_told_12_4 : fOkB cX8_told 12 iX8_told_12_4 = true := by decide +kernel
theorem dX8_told_18 : decode cX8_told 18 = .ok (.invokestatic 83, 3) := by decide +kernel
theorem bX8_told_21 : fBk cX8_told 21 (.ifCond .ne) 28 := ⟨7, by decide +kernel, by decide⟩
def iX8_told_28_2 : List Instr := [.iload_n 2, .iconst 4]
theorem oX8_told_28_2 : fOkB cX8_told 28 iX8_told_28_2 = true := by decide +kernel
theorem bX8_told_30 : fBk cX8_told 30 (.if_icmp .ge) 46 := ⟨16, by decide +kernel, by decide⟩
def iX8_told_46_2 : List Instr := [.iload_n 2, .iconst 4]
theorem oX8_told_46_2 : fOkB cX8_told 46 iX8_told_46_2 = true := by decide +kernel
theorem bX8_told_48 : fBk cX8_told 48 (.if_icmp .ne) 60 := ⟨12, by decide +kernel, by decide⟩
def iX8_told_60_2 : List Instr := [.aload_n 0, .iload_n 1]
theorem oX8_told_60_2 : fOkB cX8_told 60 iX8_told_60_2 = true := by decide +kernel
theorem dX8_told_62 : decode cX8_told 62 = .ok (.invokevirtual 123, 3) := by decide +kernel
theorem dX8_told_65 : decode cX8_told 65 = .ok (.ireturn, 1) := by decide +kernel
def iX8_told_51_5 : List Instr := [.aload_n 0, .getfield 19, .iload_n 1, .iaload, .goto 8]
theorem oX8_told_51_5 : fOkB cX8_told 51 iX8_told_51_5 = true := by decide +kernel
def iX8_told_33_9 : List Instr := [.aload_n 0, .getfield 16, .iconst 4, .iload_n 1, .imul, .iload_n 2, .iadd, .iaload, .goto 22]
theorem oX8_told_33_9 : fOkB cX8_told 33 iX8_told_33_9 = true := by decide +kernel
def iX8_told_24_1 : List Instr := [.sipush (-1002)]
theorem oX8_told_24_1 : fOkB cX8_told 24 iX8_told_24_1 = true := by decide +kernel
theorem dX8_told_27 : decode cX8_told 27 = .ok (.ireturn, 1) := by decide +kernel
def iX8_told_8_1 : List Instr := [.sipush (-1001)]
theorem oX8_told_8_1 : fOkB cX8_told 8 iX8_told_8_1 = true := by decide +kernel
theorem dX8_told_11 : decode cX8_told 11 = .ok (.ireturn, 1) := by decide +kernel
set_option maxRecDepth 100000 in
theorem qX8_told {G : fG} {d : Nat} {S : fS} (w t : Int32) {a b c e : Nat} (H : hOk (hD S) a b c e) : fCtr G (d + 2) mX8_told [.ref 35, .int w, .int t] S (fun r S' => r = some (.int (oTold (hD S) w t)) ∧ S' = S) := by
  refine fCtr.of bXX8_told (Nat.le_of_ble_eq_true rfl) rfl ?_
  have hb : gI S 35 3 = nI b := H.2.1.1
  have hb16 : b ≤ 16 := H.2.1.2.1
  have ha8 : a ≤ 8 := H.1.2.2.1
  have hw0 : 0 ≤ gI S 35 3 := by rw [hb]; exact nI_pos' (by omega)
  refine fV.run iX8_told_0_2 oX8_told_0_2 (pc' := 2) (L' := [(0, .ref 35), (1, .int w), (2, .int t)]) (st' := [.int w, .ref 35]) (S' := S) rfl trivial ?_
  refine fV.callV (M2 := mX8_isWall) (d := d + 1) (o := 35) (av := [.int w]) (rest := []) kX8_isWall dX8_told_2 lX8_100 rfl rfl rfl (Nat.le_of_ble_eq_true rfl) (fRoom (by decide)) ⟨Nat.le_refl _, Nat.le_refl _⟩ (qX8_isWall _ hw0) ?_
  rintro _ S9 ⟨rfl, h9⟩
  rw [h9]
  clear h9 S9
  refine fV.to (pc' := 5) (L' := [(0, .ref 35), (1, .int w), (2, .int t)]) (st' := [.int (fB (decide (0 ≤ w ∧ w < (gI S 35 3))))]) (S' := S) rfl rfl rfl rfl ?_
  refine fV.if_ne bX8_told_5 (fun c5 => ?_) (fun c5 => ?_)
  · refine fV.run iX8_told_12_4 oX8_told_12_4 (pc' := 18) (L' := [(0, .ref 35), (1, .int w), (2, .int t)]) (st' := [.long 5, .long 0, .long (Int32.toInt64 t)]) (S' := S) rfl trivial ?_
    refine fV.callS (M2 := mX8_in) (d := d + 1) (av := [.long (Int32.toInt64 t), .long 0, .long 5]) (rest := []) kX8_in dX8_told_18 lX8_83 rfl rfl (Nat.le_of_ble_eq_true rfl) (fRoom (by decide)) ⟨Nat.le_refl _, Nat.le_refl _⟩ (qX8_inP _ _ _ (P := 0 ≤ t ∧ t ≤ 5) (and_congr (w_geN (by decide) _) (w_leN (by decide) _))) ?_
    rintro _ S9 ⟨rfl, h9⟩
    rw [h9]
    clear h9 S9
    refine fV.to (pc' := 21) (L' := [(0, .ref 35), (1, .int w), (2, .int t)]) (st' := [.int (fB (decide (0 ≤ t ∧ t ≤ 5)))]) (S' := S) rfl rfl rfl rfl ?_
    refine fV.if_ne bX8_told_21 (fun c21 => ?_) (fun c21 => ?_)
    · refine fV.run iX8_told_28_2 oX8_told_28_2 (pc' := 30) (L' := [(0, .ref 35), (1, .int w), (2, .int t)]) (st' := [.int 4, .int t]) (S' := S) rfl trivial ?_
      refine fV.icmp_ge bX8_told_30 (fun c30 => ?_) (fun c30 => ?_)
      · refine fV.run iX8_told_46_2 oX8_told_46_2 (pc' := 48) (L' := [(0, .ref 35), (1, .int w), (2, .int t)]) (st' := [.int 4, .int t]) (S' := S) rfl trivial ?_
        refine fV.icmp_ne bX8_told_48 (fun c48 => ?_) (fun c48 => ?_)
        · refine fV.run iX8_told_60_2 oX8_told_60_2 (pc' := 62) (L' := [(0, .ref 35), (1, .int w), (2, .int t)]) (st' := [.int w, .ref 35]) (S' := S) rfl trivial ?_
          refine fV.callV (M2 := mX8_lengthOf) (d := d + 1) (o := 35) (av := [.int w]) (rest := []) kX8_lengthOf dX8_told_62 lX8_123 rfl rfl rfl (Nat.le_of_ble_eq_true rfl) (fRoom (by decide)) ⟨Nat.le_refl _, Nat.le_refl _⟩ (qX8_lenW H (by grind [fB]) (by grind [fB])) ?_
          rintro _ S9 ⟨rfl, h9⟩
          rw [h9]
          clear h9 S9
          refine fV.to (pc' := 65) (L' := [(0, .ref 35), (1, .int w), (2, .int t)]) (st' := [.int (hLen (gA S 38) w.toNatClampNeg)]) (S' := S) rfl rfl rfl rfl ?_
          exact fV.iret rfl dX8_told_65 ⟨by unfold oTold; rw [if_pos (by grind [fB, hD]), if_pos (by grind [fB, hD]), if_neg (by grind [fB, hD]), if_pos (by grind [fB, hD])]; rfl, rfl⟩
        · refine fV.run iX8_told_51_5 oX8_told_51_5 (pc' := 65) (L' := [(0, .ref 35), (1, .int w), (2, .int t)]) (st' := [.int (gA S 39 w.toNatClampNeg)]) (S' := S) (P := vp_in w 16 ∧ True) rfl ⟨(vin16 hb16 (by grind [fB]) (by grind [fB])), trivial⟩ ?_
          exact fV.iret rfl dX8_told_65 ⟨by unfold oTold; rw [if_pos (by grind [fB, hD]), if_pos (by grind [fB, hD]), if_pos (by grind [fB, hD])]; rfl, rfl⟩
      · refine fV.run iX8_told_33_9 oX8_told_33_9 (pc' := 65) (L' := [(0, .ref 35), (1, .int w), (2, .int t)]) (st' := [.int (gA S 38 ((4 * w) + t).toNatClampNeg)]) (S' := S) (P := vp_in ((4 * w) + t) 64 ∧ True) rfl ⟨(vinT hb16 (by grind [fB]) (by grind [fB]) (by grind [fB]) (by grind [fB])), trivial⟩ ?_
        exact fV.iret rfl dX8_told_65 ⟨by unfold oTold; rw [if_pos (by grind [fB, hD]), if_pos (by grind [fB, hD]), if_neg (by grind [fB, hD]), if_neg (by grind [fB, hD])]; rfl, rfl⟩
    · refine fV.run iX8_told_24_1 oX8_told_24_1 (pc' := 27) (L' := [(0, .ref 35), (1, .int w), (2, .int t)]) (st' := [.int (-1002)]) (S' := S) rfl trivial ?_
      exact fV.iret rfl dX8_told_27 ⟨by unfold oTold; rw [if_pos (by grind [fB, hD]), if_neg (by grind [fB, hD])], rfl⟩
  · refine fV.run iX8_told_8_1 oX8_told_8_1 (pc' := 11) (L' := [(0, .ref 35), (1, .int w), (2, .int t)]) (st' := [.int (-1001)]) (S' := S) rfl trivial ?_
    exact fV.iret rfl dX8_told_11 ⟨by unfold oTold; rw [if_neg (by grind [fB, hD])], rfl⟩
def iX7_count_0_1 : List Instr := [.iload_n 1]
theorem oX7_count_0_1 : fOkB cX7_count 0 iX7_count_0_1 = true := by decide +kernel
theorem dX7_count_1 : decode cX7_count 1 = .ok (.tableswitch 90 0 6 #[43, 51, 59, 67, 75, 80, 85], 43) := by decide +kernel
def iX7_count_44_3 : List Instr := [.aload_n 0, .getfield 19, .getfield 97]
theorem oX7_count_44_3 : fOkB cX7_count 44 iX7_count_44_3 = true := by decide +kernel
theorem dX7_count_51 : decode cX7_count 51 = .ok (.ireturn, 1) := by decide +kernel
def iX7_count_52_3 : List Instr := [.aload_n 0, .getfield 10, .getfield 113]
theorem oX7_count_52_3 : fOkB cX7_count 52 iX7_count_52_3 = true := by decide +kernel
theorem dX7_count_59 : decode cX7_count 59 = .ok (.ireturn, 1) := by decide +kernel
def iX7_count_60_3 : List Instr := [.aload_n 0, .getfield 28, .getfield 114]
theorem oX7_count_60_3 : fOkB cX7_count 60 iX7_count_60_3 = true := by decide +kernel
theorem dX7_count_67 : decode cX7_count 67 = .ok (.ireturn, 1) := by decide +kernel
def iX7_count_68_3 : List Instr := [.aload_n 0, .getfield 32, .getfield 114]
theorem oX7_count_68_3 : fOkB cX7_count 68 iX7_count_68_3 = true := by decide +kernel
theorem dX7_count_75 : decode cX7_count 75 = .ok (.ireturn, 1) := by decide +kernel
def iX7_count_76_1 : List Instr := [.aload_n 0]
theorem oX7_count_76_1 : fOkB cX7_count 76 iX7_count_76_1 = true := by decide +kernel
theorem dX7_count_77 : decode cX7_count 77 = .ok (.invokevirtual 115, 3) := by decide +kernel
theorem dX7_count_80 : decode cX7_count 80 = .ok (.ireturn, 1) := by decide +kernel
def iX7_count_81_1 : List Instr := [.aload_n 0]
theorem oX7_count_81_1 : fOkB cX7_count 81 iX7_count_81_1 = true := by decide +kernel
theorem dX7_count_82 : decode cX7_count 82 = .ok (.invokevirtual 119, 3) := by decide +kernel
theorem dX7_count_85 : decode cX7_count 85 = .ok (.ireturn, 1) := by decide +kernel
def iX7_count_86_1 : List Instr := [.aload_n 0]
theorem oX7_count_86_1 : fOkB cX7_count 86 iX7_count_86_1 = true := by decide +kernel
set_option maxRecDepth 100000 in
theorem lX7_122 : Cond.methodLink RX7 122 yX7_decayOfHall ∈ fTB := fTB_at 410 rfl rfl
theorem dX7_count_87 : decode cX7_count 87 = .ok (.invokevirtual 122, 3) := by decide +kernel
theorem dX7_count_90 : decode cX7_count 90 = .ok (.ireturn, 1) := by decide +kernel
def iX7_count_91_1 : List Instr := [.sipush (-1002)]
theorem oX7_count_91_1 : fOkB cX7_count 91 iX7_count_91_1 = true := by decide +kernel
theorem dX7_count_94 : decode cX7_count 94 = .ok (.ireturn, 1) := by decide +kernel
set_option maxRecDepth 100000 in
theorem qX7_count {G : fG} {d : Nat} {S : fS} (t : Int32) {a b c e : Nat} (H : hOk (hC S) a b c e) (HG : hGeo S b) : fCtr G (d + 3) mX7_count [.ref 0, .int t] S (fun r S' => r = some (.int (oCount (hC S) b t)) ∧ S' = S) := by
  refine fCtr.of bXX7_count (Nat.le_of_ble_eq_true rfl) rfl ?_
  refine fV.run iX7_count_0_1 oX7_count_0_1 (pc' := 1) (L' := [(0, .ref 0), (1, .int t)]) (st' := [.int t]) (S' := S) rfl trivial ?_
  refine fV.tsw (tgt := 91) dX7_count_1 (by decide) (fun h1 h2 => ?_) (fun hx => ?_)
  · rcases (show Int32.toInt t = 0 ∨ Int32.toInt t = 1 ∨ Int32.toInt t = 2 ∨ Int32.toInt t = 3 ∨ Int32.toInt t = 4 ∨ Int32.toInt t = 5 ∨ Int32.toInt t = 6 by omega) with hx | hx | hx | hx | hx | hx | hx
    · refine ⟨43, 44, by rw [hx]; rfl, by decide, ?_⟩
      refine fV.run iX7_count_44_3 oX7_count_44_3 (pc' := 51) (L' := [(0, .ref 0), (1, .int t)]) (st' := [.int (gI S 4 6)]) (S' := S) rfl trivial ?_
      exact fV.iret rfl dX7_count_51 ⟨by have ht : t = 0 := i_of_toInt hx _ (by decide); subst ht; rfl, rfl⟩
    · refine ⟨51, 52, by rw [hx]; rfl, by decide, ?_⟩
      refine fV.run iX7_count_52_3 oX7_count_52_3 (pc' := 59) (L' := [(0, .ref 0), (1, .int t)]) (st' := [.int (gI S 1 2)]) (S' := S) rfl trivial ?_
      exact fV.iret rfl dX7_count_59 ⟨by have ht : t = 1 := i_of_toInt hx _ (by decide); subst ht; rfl, rfl⟩
    · refine ⟨59, 60, by rw [hx]; rfl, by decide, ?_⟩
      refine fV.run iX7_count_60_3 oX7_count_60_3 (pc' := 67) (L' := [(0, .ref 0), (1, .int t)]) (st' := [.int (gI S 11 2)]) (S' := S) rfl trivial ?_
      exact fV.iret rfl dX7_count_67 ⟨by have ht : t = 2 := i_of_toInt hx _ (by decide); subst ht; rfl, rfl⟩
    · refine ⟨67, 68, by rw [hx]; rfl, by decide, ?_⟩
      refine fV.run iX7_count_68_3 oX7_count_68_3 (pc' := 75) (L' := [(0, .ref 0), (1, .int t)]) (st' := [.int (gI S 14 2)]) (S' := S) rfl trivial ?_
      exact fV.iret rfl dX7_count_75 ⟨by have ht : t = 3 := i_of_toInt hx _ (by decide); subst ht; rfl, rfl⟩
    · refine ⟨75, 76, by rw [hx]; rfl, by decide, ?_⟩
      refine fV.run iX7_count_76_1 oX7_count_76_1 (pc' := 77) (L' := [(0, .ref 0), (1, .int t)]) (st' := [.ref 0]) (S' := S) rfl trivial ?_
      refine fV.callV (M2 := mX7_lineOfHall) (d := d + 2) (o := 0) (av := []) (rest := []) kX7_lineOfHall dX7_count_77 lX7_115 rfl rfl rfl (Nat.le_of_ble_eq_true rfl) (fRoom (by decide)) ⟨Nat.le_refl _, Nat.le_refl _⟩ (qX7_line H HG) ?_
      rintro _ S9 ⟨rfl, h9⟩
      rw [h9]
      clear h9 S9
      refine fV.to (pc' := 80) (L' := [(0, .ref 0), (1, .int t)]) (st' := [.int (lineF (gA S 5) b)]) (S' := S) rfl rfl rfl rfl ?_
      exact fV.iret rfl dX7_count_80 ⟨by have ht : t = 4 := i_of_toInt hx _ (by decide); subst ht; rfl, rfl⟩
    · refine ⟨80, 81, by rw [hx]; rfl, by decide, ?_⟩
      refine fV.run iX7_count_81_1 oX7_count_81_1 (pc' := 82) (L' := [(0, .ref 0), (1, .int t)]) (st' := [.ref 0]) (S' := S) rfl trivial ?_
      refine fV.callV (M2 := mX7_lostInHall) (d := d + 2) (o := 0) (av := []) (rest := []) kX7_lostInHall dX7_count_82 lX7_119 rfl rfl rfl (Nat.le_of_ble_eq_true rfl) (fRoom (by decide)) ⟨Nat.le_refl _, Nat.le_refl _⟩ (qX7_lost H HG) ?_
      rintro _ S9 ⟨rfl, h9⟩
      rw [h9]
      clear h9 S9
      refine fV.to (pc' := 85) (L' := [(0, .ref 0), (1, .int t)]) (st' := [.int (lostF (hC S) b)]) (S' := S) rfl rfl rfl rfl ?_
      exact fV.iret rfl dX7_count_85 ⟨by have ht : t = 5 := i_of_toInt hx _ (by decide); subst ht; rfl, rfl⟩
    · refine ⟨85, 86, by rw [hx]; rfl, by decide, ?_⟩
      refine fV.run iX7_count_86_1 oX7_count_86_1 (pc' := 87) (L' := [(0, .ref 0), (1, .int t)]) (st' := [.ref 0]) (S' := S) rfl trivial ?_
      refine fV.callV (M2 := mX7_decayOfHall) (d := d + 2) (o := 0) (av := []) (rest := []) kX7_decayOfHall dX7_count_87 lX7_122 rfl rfl rfl (Nat.le_of_ble_eq_true rfl) (fRoom (by decide)) ⟨Nat.le_refl _, Nat.le_refl _⟩ (qX7_dec H HG) ?_
      rintro _ S9 ⟨rfl, h9⟩
      rw [h9]
      clear h9 S9
      refine fV.to (pc' := 90) (L' := [(0, .ref 0), (1, .int t)]) (st' := [.int (decF (hC S) b)]) (S' := S) rfl rfl rfl rfl ?_
      exact fV.iret rfl dX7_count_90 ⟨by have ht : t = 6 := i_of_toInt hx _ (by decide); subst ht; rfl, rfl⟩
  · refine fV.run iX7_count_91_1 oX7_count_91_1 (pc' := 94) (L' := [(0, .ref 0), (1, .int t)]) (st' := [.int (-1002)]) (S' := S) rfl trivial ?_
    exact fV.iret rfl dX7_count_94 ⟨by unfold oCount; rw [if_neg (fun z => by subst z; revert hx; decide), if_neg (fun z => by subst z; revert hx; decide), if_neg (fun z => by subst z; revert hx; decide), if_neg (fun z => by subst z; revert hx; decide), if_neg (fun z => by subst z; revert hx; decide), if_neg (fun z => by subst z; revert hx; decide), if_neg (fun z => by subst z; revert hx; decide)], rfl⟩
def iX8_count_0_1 : List Instr := [.iload_n 1]
theorem oX8_count_0_1 : fOkB cX8_count 0 iX8_count_0_1 = true := by decide +kernel
theorem dX8_count_1 : decode cX8_count 1 = .ok (.tableswitch 78 0 6 #[43, 48, 53, 58, 63, 68, 73], 43) := by decide +kernel
def iX8_count_44_2 : List Instr := [.aload_n 0, .getfield 89]
theorem oX8_count_44_2 : fOkB cX8_count 44 iX8_count_44_2 = true := by decide +kernel
theorem dX8_count_48 : decode cX8_count 48 = .ok (.ireturn, 1) := by decide +kernel
def iX8_count_49_2 : List Instr := [.aload_n 0, .getfield 78]
theorem oX8_count_49_2 : fOkB cX8_count 49 iX8_count_49_2 = true := by decide +kernel
theorem dX8_count_53 : decode cX8_count 53 = .ok (.ireturn, 1) := by decide +kernel
def iX8_count_54_2 : List Instr := [.aload_n 0, .getfield 103]
theorem oX8_count_54_2 : fOkB cX8_count 54 iX8_count_54_2 = true := by decide +kernel
theorem dX8_count_58 : decode cX8_count 58 = .ok (.ireturn, 1) := by decide +kernel
def iX8_count_59_2 : List Instr := [.aload_n 0, .getfield 106]
theorem oX8_count_59_2 : fOkB cX8_count 59 iX8_count_59_2 = true := by decide +kernel
theorem dX8_count_63 : decode cX8_count 63 = .ok (.ireturn, 1) := by decide +kernel
def iX8_count_64_1 : List Instr := [.aload_n 0]
theorem oX8_count_64_1 : fOkB cX8_count 64 iX8_count_64_1 = true := by decide +kernel
theorem dX8_count_65 : decode cX8_count 65 = .ok (.invokevirtual 130, 3) := by decide +kernel
theorem dX8_count_68 : decode cX8_count 68 = .ok (.ireturn, 1) := by decide +kernel
def iX8_count_69_1 : List Instr := [.aload_n 0]
theorem oX8_count_69_1 : fOkB cX8_count 69 iX8_count_69_1 = true := by decide +kernel
theorem dX8_count_70 : decode cX8_count 70 = .ok (.invokevirtual 126, 3) := by decide +kernel
theorem dX8_count_73 : decode cX8_count 73 = .ok (.ireturn, 1) := by decide +kernel
def iX8_count_74_1 : List Instr := [.aload_n 0]
theorem oX8_count_74_1 : fOkB cX8_count 74 iX8_count_74_1 = true := by decide +kernel
set_option maxRecDepth 100000 in
theorem lX8_133 : Cond.methodLink RX8 133 yX8_decay ∈ fTB := fTB_at 788 rfl rfl
theorem dX8_count_75 : decode cX8_count 75 = .ok (.invokevirtual 133, 3) := by decide +kernel
theorem dX8_count_78 : decode cX8_count 78 = .ok (.ireturn, 1) := by decide +kernel
def iX8_count_79_1 : List Instr := [.sipush (-1002)]
theorem oX8_count_79_1 : fOkB cX8_count 79 iX8_count_79_1 = true := by decide +kernel
theorem dX8_count_82 : decode cX8_count 82 = .ok (.ireturn, 1) := by decide +kernel
set_option maxRecDepth 100000 in
theorem qX8_count {G : fG} {d : Nat} {S : fS} (t : Int32) {a b c e : Nat} (H : hOk (hD S) a b c e) : fCtr G (d + 4) mX8_count [.ref 35, .int t] S (fun r S' => r = some (.int (oCount (hD S) b t)) ∧ S' = S) := by
  refine fCtr.of bXX8_count (Nat.le_of_ble_eq_true rfl) rfl ?_
  refine fV.run iX8_count_0_1 oX8_count_0_1 (pc' := 1) (L' := [(0, .ref 35), (1, .int t)]) (st' := [.int t]) (S' := S) rfl trivial ?_
  refine fV.tsw (tgt := 79) dX8_count_1 (by decide) (fun h1 h2 => ?_) (fun hx => ?_)
  · rcases (show Int32.toInt t = 0 ∨ Int32.toInt t = 1 ∨ Int32.toInt t = 2 ∨ Int32.toInt t = 3 ∨ Int32.toInt t = 4 ∨ Int32.toInt t = 5 ∨ Int32.toInt t = 6 by omega) with hx | hx | hx | hx | hx | hx | hx
    · refine ⟨43, 44, by rw [hx]; rfl, by decide, ?_⟩
      refine fV.run iX8_count_44_2 oX8_count_44_2 (pc' := 48) (L' := [(0, .ref 35), (1, .int t)]) (st' := [.int (gI S 35 3)]) (S' := S) rfl trivial ?_
      exact fV.iret rfl dX8_count_48 ⟨by have ht : t = 0 := i_of_toInt hx _ (by decide); subst ht; rfl, rfl⟩
    · refine ⟨48, 49, by rw [hx]; rfl, by decide, ?_⟩
      refine fV.run iX8_count_49_2 oX8_count_49_2 (pc' := 53) (L' := [(0, .ref 35), (1, .int t)]) (st' := [.int (gI S 35 0)]) (S' := S) rfl trivial ?_
      exact fV.iret rfl dX8_count_53 ⟨by have ht : t = 1 := i_of_toInt hx _ (by decide); subst ht; rfl, rfl⟩
    · refine ⟨53, 54, by rw [hx]; rfl, by decide, ?_⟩
      refine fV.run iX8_count_54_2 oX8_count_54_2 (pc' := 58) (L' := [(0, .ref 35), (1, .int t)]) (st' := [.int (gI S 35 6)]) (S' := S) rfl trivial ?_
      exact fV.iret rfl dX8_count_58 ⟨by have ht : t = 2 := i_of_toInt hx _ (by decide); subst ht; rfl, rfl⟩
    · refine ⟨58, 59, by rw [hx]; rfl, by decide, ?_⟩
      refine fV.run iX8_count_59_2 oX8_count_59_2 (pc' := 63) (L' := [(0, .ref 35), (1, .int t)]) (st' := [.int (gI S 35 10)]) (S' := S) rfl trivial ?_
      exact fV.iret rfl dX8_count_63 ⟨by have ht : t = 3 := i_of_toInt hx _ (by decide); subst ht; rfl, rfl⟩
    · refine ⟨63, 64, by rw [hx]; rfl, by decide, ?_⟩
      refine fV.run iX8_count_64_1 oX8_count_64_1 (pc' := 65) (L' := [(0, .ref 35), (1, .int t)]) (st' := [.ref 35]) (S' := S) rfl trivial ?_
      refine fV.callV (M2 := mX8_line) (d := d + 3) (o := 35) (av := []) (rest := []) kX8_line dX8_count_65 lX8_130 rfl rfl rfl (Nat.le_of_ble_eq_true rfl) (fRoom (by decide)) ⟨Nat.le_refl _, Nat.le_refl _⟩ (qX8_line H) ?_
      rintro _ S9 ⟨rfl, h9⟩
      rw [h9]
      clear h9 S9
      refine fV.to (pc' := 68) (L' := [(0, .ref 35), (1, .int t)]) (st' := [.int (lineF (gA S 38) b)]) (S' := S) rfl rfl rfl rfl ?_
      exact fV.iret rfl dX8_count_68 ⟨by have ht : t = 4 := i_of_toInt hx _ (by decide); subst ht; rfl, rfl⟩
    · refine ⟨68, 69, by rw [hx]; rfl, by decide, ?_⟩
      refine fV.run iX8_count_69_1 oX8_count_69_1 (pc' := 70) (L' := [(0, .ref 35), (1, .int t)]) (st' := [.ref 35]) (S' := S) rfl trivial ?_
      refine fV.callV (M2 := mX8_lost) (d := d + 3) (o := 35) (av := []) (rest := []) kX8_lost dX8_count_70 lX8_126 rfl rfl rfl (Nat.le_of_ble_eq_true rfl) (fRoom (by decide)) ⟨Nat.le_refl _, Nat.le_refl _⟩ (qX8_lost H) ?_
      rintro _ S9 ⟨rfl, h9⟩
      rw [h9]
      clear h9 S9
      refine fV.to (pc' := 73) (L' := [(0, .ref 35), (1, .int t)]) (st' := [.int (lostF (hD S) b)]) (S' := S) rfl rfl rfl rfl ?_
      exact fV.iret rfl dX8_count_73 ⟨by have ht : t = 5 := i_of_toInt hx _ (by decide); subst ht; rfl, rfl⟩
    · refine ⟨73, 74, by rw [hx]; rfl, by decide, ?_⟩
      refine fV.run iX8_count_74_1 oX8_count_74_1 (pc' := 75) (L' := [(0, .ref 35), (1, .int t)]) (st' := [.ref 35]) (S' := S) rfl trivial ?_
      refine fV.callV (M2 := mX8_decay) (d := d + 3) (o := 35) (av := []) (rest := []) kX8_decay dX8_count_75 lX8_133 rfl rfl rfl (Nat.le_of_ble_eq_true rfl) (fRoom (by decide)) ⟨Nat.le_refl _, Nat.le_refl _⟩ (qX8_dec H) ?_
      rintro _ S9 ⟨rfl, h9⟩
      rw [h9]
      clear h9 S9
      refine fV.to (pc' := 78) (L' := [(0, .ref 35), (1, .int t)]) (st' := [.int (decF (hD S) b)]) (S' := S) rfl rfl rfl rfl ?_
      exact fV.iret rfl dX8_count_78 ⟨by have ht : t = 6 := i_of_toInt hx _ (by decide); subst ht; rfl, rfl⟩
  · refine fV.run iX8_count_79_1 oX8_count_79_1 (pc' := 82) (L' := [(0, .ref 35), (1, .int t)]) (st' := [.int (-1002)]) (S' := S) rfl trivial ?_
    exact fV.iret rfl dX8_count_82 ⟨by unfold oCount; rw [if_neg (fun z => by subst z; revert hx; decide), if_neg (fun z => by subst z; revert hx; decide), if_neg (fun z => by subst z; revert hx; decide), if_neg (fun z => by subst z; revert hx; decide), if_neg (fun z => by subst z; revert hx; decide), if_neg (fun z => by subst z; revert hx; decide), if_neg (fun z => by subst z; revert hx; decide)], rfl⟩
def iX7_left_45_2 : List Instr := [.iload 8, .iload_n 3]
theorem oX7_left_45_2 : fOkB cX7_left 45 iX7_left_45_2 = true := by decide +kernel
theorem bX7_left_48 : fBk cX7_left 48 (.if_icmp .ge) 68 := ⟨20, by decide +kernel, by decide⟩
def iX7_left_68_1 : List Instr := [.lload 6]
theorem oX7_left_68_1 : fOkB cX7_left 68 iX7_left_68_1 = true := by decide +kernel
theorem dX7_left_70 : decode cX7_left 70 = .ok (.lreturn, 1) := by decide +kernel
def iX7_left_51_8 : List Instr := [.lload 6, .lload 4, .lmul, .ldc2_w 202, .ldiv, .lstore 6, .iinc 8 1, .goto (-20)]
theorem oX7_left_51_8 : fOkB cX7_left 51 iX7_left_51_8 = true := by decide +kernel
set_option maxRecDepth 100000 in
theorem lpX7_left {G : fG} {d : Nat} {S : fS} {u kp : Int64} {m : Nat} (hm : m ≤ 100) : ∀ (u9 i : Nat), i + u9 = m → fV G mX7_left (fZm G (d + 3) (fun r S' => r = some (.long (itL kp u m)) ∧ S' = S)) 45 [(0, .ref 0), (1, .long u), (3, .int (nI m)), (4, .long kp), (6, .long (itL kp u i)), (8, .int (nI i))] [] S := by
  intro u9
  induction u9 with
  | zero =>
    intro i  hik
    refine fV.run iX7_left_45_2 oX7_left_45_2 (pc' := 48) (L' := [(0, .ref 0), (1, .long u), (3, .int (nI m)), (4, .long kp), (6, .long (itL kp u i)), (8, .int (nI i))]) (st' := [.int (nI m), .int (nI i)]) (S' := S) rfl trivial ?_
    refine fV.icmp_ge bX7_left_48 (fun c48 => ?_) (fun c48 => ?_)
    · refine fV.run iX7_left_68_1 oX7_left_68_1 (pc' := 70) (L' := [(0, .ref 0), (1, .long u), (3, .int (nI m)), (4, .long kp), (6, .long (itL kp u i)), (8, .int (nI i))]) (st' := [.long (itL kp u i)]) (S' := S) rfl trivial ?_
      exact fV.lret rfl dX7_left_70 ⟨by rw [show i = m by omega], rfl⟩
    · exact absurd c48 (by rw [nI_leI (by omega) (by omega)]; omega)
  | succ u9 ih =>
    intro i  hik
    refine fV.run iX7_left_45_2 oX7_left_45_2 (pc' := 48) (L' := [(0, .ref 0), (1, .long u), (3, .int (nI m)), (4, .long kp), (6, .long (itL kp u i)), (8, .int (nI i))]) (st' := [.int (nI m), .int (nI i)]) (S' := S) rfl trivial ?_
    refine fV.icmp_ge bX7_left_48 (fun c48 => ?_) (fun c48 => ?_)
    · exact absurd c48 (by rw [nI_leI (by omega) (by omega)]; omega)
    · refine fV.run iX7_left_51_8 oX7_left_51_8 (pc' := 45) (L' := [(0, .ref 0), (1, .long u), (3, .int (nI m)), (4, .long kp), (6, .long (((itL kp u i) * kp) / 1000)), (8, .int ((nI i) + 1))]) (st' := []) (S' := S) (P := ¬ 1000 = 0 ∧ True) rfl ⟨(by decide), trivial⟩ ?_
      refine fV.to (L' := [(0, .ref 0), (1, .long u), (3, .int (nI m)), (4, .long kp), (6, .long (itL kp u (i + 1))), (8, .int (nI (i + 1)))]) rfl (by rw [← nI_1]; rfl) rfl rfl (ih (i + 1) (by omega))
def iX7_left_0_3 : List Instr := [.lload_n 1, .lconst 0, .lcmp]
theorem oX7_left_0_3 : fOkB cX7_left 0 iX7_left_0_3 = true := by decide +kernel
theorem bX7_left_3 : fBk cX7_left 3 (.ifCond .lt) 24 := ⟨21, by decide +kernel, by decide⟩
def iX7_left_24_1 : List Instr := [.ldc2_w 135]
theorem oX7_left_24_1 : fOkB cX7_left 24 iX7_left_24_1 = true := by decide +kernel
theorem dX7_left_27 : decode cX7_left 27 = .ok (.lreturn, 1) := by decide +kernel
def iX7_left_6_3 : List Instr := [.lload_n 1, .ldc2_w 200, .lcmp]
theorem oX7_left_6_3 : fOkB cX7_left 6 iX7_left_6_3 = true := by decide +kernel
theorem bX7_left_11 : fBk cX7_left 11 (.ifCond .gt) 24 := ⟨13, by decide +kernel, by decide⟩
def iX7_left_14_3 : List Instr := [.iload_n 3, .iconst 0, .bipush 100]
theorem oX7_left_14_3 : fOkB cX7_left 14 iX7_left_14_3 = true := by decide +kernel
theorem dX7_left_18 : decode cX7_left 18 = .ok (.invokestatic 74, 3) := by decide +kernel
theorem bX7_left_21 : fBk cX7_left 21 (.ifCond .ne) 28 := ⟨7, by decide +kernel, by decide⟩
def iX7_left_28_2 : List Instr := [.sipush 1000, .aload_n 0]
theorem oX7_left_28_2 : fOkB cX7_left 28 iX7_left_28_2 = true := by decide +kernel
theorem dX7_left_32 : decode cX7_left 32 = .ok (.invokevirtual 122, 3) := by decide +kernel
def iX7_left_35_7 : List Instr := [.isub, .i2l, .lstore 4, .lload_n 1, .lstore 6, .iconst 0, .istore 8]
theorem oX7_left_35_7 : fOkB cX7_left 35 iX7_left_35_7 = true := by decide +kernel
set_option maxRecDepth 100000 in
theorem qX7_left {G : fG} {d : Nat} {S : fS} (u : Int64) (n : Int32) {a b c e : Nat} (H : hOk (hC S) a b c e) (HG : hGeo S b) : fCtr G (d + 3) mX7_left [.ref 0, .long u, .int n] S (fun r S' => r = some (.long (oLeft (hC S) b u n)) ∧ S' = S) := by
  refine fCtr.of bXX7_left (Nat.le_of_ble_eq_true rfl) rfl ?_
  have hb : gI S 4 6 = nI b := H.2.1.1
  have hb16 : b ≤ 16 := H.2.1.2.1
  have ha8 : a ≤ 8 := H.1.2.2.1
  refine fV.run iX7_left_0_3 oX7_left_0_3 (pc' := 3) (L' := [(0, .ref 0), (1, .long u), (3, .int n)]) (st' := [.int (lg_cmp u 0)]) (S' := S) rfl trivial ?_
  refine fV.lif_lt bX7_left_3 (fun c3 => ?_) (fun c3 => ?_)
  · refine fV.run iX7_left_24_1 oX7_left_24_1 (pc' := 27) (L' := [(0, .ref 0), (1, .long u), (3, .int n)]) (st' := [.long (-1002)]) (S' := S) rfl trivial ?_
    exact fV.lret rfl dX7_left_27 ⟨by unfold oLeft; rw [if_neg (by grind [fB])], rfl⟩
  · refine fV.run iX7_left_6_3 oX7_left_6_3 (pc' := 11) (L' := [(0, .ref 0), (1, .long u), (3, .int n)]) (st' := [.int (lg_cmp u 1000000000000)]) (S' := S) rfl trivial ?_
    refine fV.lif_gt bX7_left_11 (fun c11 => ?_) (fun c11 => ?_)
    · refine fV.run iX7_left_24_1 oX7_left_24_1 (pc' := 27) (L' := [(0, .ref 0), (1, .long u), (3, .int n)]) (st' := [.long (-1002)]) (S' := S) rfl trivial ?_
      exact fV.lret rfl dX7_left_27 ⟨by unfold oLeft; rw [if_neg (by grind [fB])], rfl⟩
    · refine fV.run iX7_left_14_3 oX7_left_14_3 (pc' := 18) (L' := [(0, .ref 0), (1, .long u), (3, .int n)]) (st' := [.int 100, .int 0, .int n]) (S' := S) rfl trivial ?_
      refine fV.callS (M2 := mX7_isWithin) (d := d + 2) (av := [.int n, .int 0, .int 100]) (rest := []) kX7_isWithin dX7_left_18 lX7_74 rfl rfl (Nat.le_of_ble_eq_true rfl) (fRoom (by decide)) ⟨Nat.le_refl _, Nat.le_refl _⟩ (qX7_isWithin _ _ _) ?_
      rintro _ S9 ⟨rfl, h9⟩
      rw [h9]
      clear h9 S9
      refine fV.to (pc' := 21) (L' := [(0, .ref 0), (1, .long u), (3, .int n)]) (st' := [.int (fB (decide (0 ≤ n ∧ n ≤ 100)))]) (S' := S) rfl rfl rfl rfl ?_
      refine fV.if_ne bX7_left_21 (fun c21 => ?_) (fun c21 => ?_)
      · refine fV.run iX7_left_28_2 oX7_left_28_2 (pc' := 32) (L' := [(0, .ref 0), (1, .long u), (3, .int n)]) (st' := [.ref 0, .int 1000]) (S' := S) rfl trivial ?_
        refine fV.callV (M2 := mX7_decayOfHall) (d := d + 2) (o := 0) (av := []) (rest := [.int 1000]) kX7_decayOfHall dX7_left_32 lX7_122 rfl rfl rfl (Nat.le_of_ble_eq_true rfl) (fRoom (by decide)) ⟨Nat.le_refl _, Nat.le_refl _⟩ (qX7_dec H HG) ?_
        rintro _ S9 ⟨rfl, h9⟩
        rw [h9]
        clear h9 S9
        refine fV.to (pc' := 35) (L' := [(0, .ref 0), (1, .long u), (3, .int n)]) (st' := [.int (decF (hC S) b), .int 1000]) (S' := S) rfl rfl rfl rfl ?_
        refine fV.run iX7_left_35_7 oX7_left_35_7 (pc' := 45) (L' := [(0, .ref 0), (1, .long u), (3, .int n), (4, .long (Int32.toInt64 (1000 - (decF (hC S) b)))), (6, .long u), (8, .int 0)]) (st' := []) (S' := S) rfl trivial ?_
        obtain ⟨m, hm, rfl⟩ := n_in (x := n) (n := 101) (by omega) (by grind [fB]) (by show n < 101; grind [fB])
        rw [show oLeft (hC S) b u (nI m) = itL ((1000 - decF (hC S) b).toInt64) u m by unfold oLeft; rw [if_pos ⟨⟨by grind [fB], by grind [fB]⟩, nI_pos' (by omega), (nI_leI (b := 100) (by omega) (by decide)).mpr (by omega)⟩, nI_clamp (by omega), kept_eq H]]
        exact lpX7_left (by omega) m 0 (by omega)
      · refine fV.run iX7_left_24_1 oX7_left_24_1 (pc' := 27) (L' := [(0, .ref 0), (1, .long u), (3, .int n)]) (st' := [.long (-1002)]) (S' := S) rfl trivial ?_
        exact fV.lret rfl dX7_left_27 ⟨by unfold oLeft; rw [if_neg (by grind [fB])], rfl⟩
def iX8_left_44_2 : List Instr := [.iload 8, .iload_n 3]
theorem oX8_left_44_2 : fOkB cX8_left 44 iX8_left_44_2 = true := by decide +kernel
theorem bX8_left_47 : fBk cX8_left 47 (.if_icmp .ge) 67 := ⟨20, by decide +kernel, by decide⟩
def iX8_left_67_1 : List Instr := [.lload 6]
theorem oX8_left_67_1 : fOkB cX8_left 67 iX8_left_67_1 = true := by decide +kernel
theorem dX8_left_69 : decode cX8_left 69 = .ok (.lreturn, 1) := by decide +kernel
def iX8_left_50_8 : List Instr := [.lload 6, .lload 4, .lmul, .ldc2_w 81, .ldiv, .lstore 6, .iinc 8 1, .goto (-20)]
theorem oX8_left_50_8 : fOkB cX8_left 50 iX8_left_50_8 = true := by decide +kernel
set_option maxRecDepth 100000 in
theorem lpX8_left {G : fG} {d : Nat} {S : fS} {u kp : Int64} {m : Nat} (hm : m ≤ 100) : ∀ (u9 i : Nat), i + u9 = m → fV G mX8_left (fZm G (d + 4) (fun r S' => r = some (.long (itL kp u m)) ∧ S' = S)) 44 [(0, .ref 35), (1, .long u), (3, .int (nI m)), (4, .long kp), (6, .long (itL kp u i)), (8, .int (nI i))] [] S := by
  intro u9
  induction u9 with
  | zero =>
    intro i  hik
    refine fV.run iX8_left_44_2 oX8_left_44_2 (pc' := 47) (L' := [(0, .ref 35), (1, .long u), (3, .int (nI m)), (4, .long kp), (6, .long (itL kp u i)), (8, .int (nI i))]) (st' := [.int (nI m), .int (nI i)]) (S' := S) rfl trivial ?_
    refine fV.icmp_ge bX8_left_47 (fun c47 => ?_) (fun c47 => ?_)
    · refine fV.run iX8_left_67_1 oX8_left_67_1 (pc' := 69) (L' := [(0, .ref 35), (1, .long u), (3, .int (nI m)), (4, .long kp), (6, .long (itL kp u i)), (8, .int (nI i))]) (st' := [.long (itL kp u i)]) (S' := S) rfl trivial ?_
      exact fV.lret rfl dX8_left_69 ⟨by rw [show i = m by omega], rfl⟩
    · exact absurd c47 (by rw [nI_leI (by omega) (by omega)]; omega)
  | succ u9 ih =>
    intro i  hik
    refine fV.run iX8_left_44_2 oX8_left_44_2 (pc' := 47) (L' := [(0, .ref 35), (1, .long u), (3, .int (nI m)), (4, .long kp), (6, .long (itL kp u i)), (8, .int (nI i))]) (st' := [.int (nI m), .int (nI i)]) (S' := S) rfl trivial ?_
    refine fV.icmp_ge bX8_left_47 (fun c47 => ?_) (fun c47 => ?_)
    · exact absurd c47 (by rw [nI_leI (by omega) (by omega)]; omega)
    · refine fV.run iX8_left_50_8 oX8_left_50_8 (pc' := 44) (L' := [(0, .ref 35), (1, .long u), (3, .int (nI m)), (4, .long kp), (6, .long (((itL kp u i) * kp) / 1000)), (8, .int ((nI i) + 1))]) (st' := []) (S' := S) (P := ¬ 1000 = 0 ∧ True) rfl ⟨(by decide), trivial⟩ ?_
      refine fV.to (L' := [(0, .ref 35), (1, .long u), (3, .int (nI m)), (4, .long kp), (6, .long (itL kp u (i + 1))), (8, .int (nI (i + 1)))]) rfl (by rw [← nI_1]; rfl) rfl rfl (ih (i + 1) (by omega))
def iX8_left_0_3 : List Instr := [.lload_n 1, .lconst 0, .ldc2_w 233]
theorem oX8_left_0_3 : fOkB cX8_left 0 iX8_left_0_3 = true := by decide +kernel
theorem dX8_left_5 : decode cX8_left 5 = .ok (.invokestatic 83, 3) := by decide +kernel
theorem bX8_left_8 : fBk cX8_left 8 (.ifCond .eq) 23 := ⟨15, by decide +kernel, by decide⟩
def iX8_left_23_1 : List Instr := [.ldc2_w 214]
theorem oX8_left_23_1 : fOkB cX8_left 23 iX8_left_23_1 = true := by decide +kernel
theorem dX8_left_26 : decode cX8_left 26 = .ok (.lreturn, 1) := by decide +kernel
def iX8_left_11_4 : List Instr := [.iload_n 3, .i2l, .lconst 0, .ldc2_w 87]
theorem oX8_left_11_4 : fOkB cX8_left 11 iX8_left_11_4 = true := by decide +kernel
theorem dX8_left_17 : decode cX8_left 17 = .ok (.invokestatic 83, 3) := by decide +kernel
theorem bX8_left_20 : fBk cX8_left 20 (.ifCond .ne) 27 := ⟨7, by decide +kernel, by decide⟩
def iX8_left_27_2 : List Instr := [.ldc2_w 81, .aload_n 0]
theorem oX8_left_27_2 : fOkB cX8_left 27 iX8_left_27_2 = true := by decide +kernel
theorem dX8_left_31 : decode cX8_left 31 = .ok (.invokevirtual 133, 3) := by decide +kernel
def iX8_left_34_7 : List Instr := [.i2l, .lsub, .lstore 4, .lload_n 1, .lstore 6, .iconst 0, .istore 8]
theorem oX8_left_34_7 : fOkB cX8_left 34 iX8_left_34_7 = true := by decide +kernel
set_option maxRecDepth 100000 in
theorem qX8_left {G : fG} {d : Nat} {S : fS} (u : Int64) (n : Int32) {a b c e : Nat} (H : hOk (hD S) a b c e) : fCtr G (d + 4) mX8_left [.ref 35, .long u, .int n] S (fun r S' => r = some (.long (oLeft (hD S) b u n)) ∧ S' = S) := by
  refine fCtr.of bXX8_left (Nat.le_of_ble_eq_true rfl) rfl ?_
  have hb : gI S 35 3 = nI b := H.2.1.1
  have hb16 : b ≤ 16 := H.2.1.2.1
  have ha8 : a ≤ 8 := H.1.2.2.1
  refine fV.run iX8_left_0_3 oX8_left_0_3 (pc' := 5) (L' := [(0, .ref 35), (1, .long u), (3, .int n)]) (st' := [.long 1000000000000, .long 0, .long u]) (S' := S) rfl trivial ?_
  refine fV.callS (M2 := mX8_in) (d := d + 3) (av := [.long u, .long 0, .long 1000000000000]) (rest := []) kX8_in dX8_left_5 lX8_83 rfl rfl (Nat.le_of_ble_eq_true rfl) (fRoom (by decide)) ⟨Nat.le_refl _, Nat.le_refl _⟩ (qX8_in _ _ _) ?_
  rintro _ S9 ⟨rfl, h9⟩
  rw [h9]
  clear h9 S9
  refine fV.to (pc' := 8) (L' := [(0, .ref 35), (1, .long u), (3, .int n)]) (st' := [.int (fB (decide (0 ≤ u ∧ u ≤ 1000000000000)))]) (S' := S) rfl rfl rfl rfl ?_
  refine fV.if_eq bX8_left_8 (fun c8 => ?_) (fun c8 => ?_)
  · refine fV.run iX8_left_23_1 oX8_left_23_1 (pc' := 26) (L' := [(0, .ref 35), (1, .long u), (3, .int n)]) (st' := [.long (-1002)]) (S' := S) rfl trivial ?_
    exact fV.lret rfl dX8_left_26 ⟨by unfold oLeft; rw [if_neg (by grind [fB])], rfl⟩
  · refine fV.run iX8_left_11_4 oX8_left_11_4 (pc' := 17) (L' := [(0, .ref 35), (1, .long u), (3, .int n)]) (st' := [.long 100, .long 0, .long (Int32.toInt64 n)]) (S' := S) rfl trivial ?_
    refine fV.callS (M2 := mX8_in) (d := d + 3) (av := [.long (Int32.toInt64 n), .long 0, .long 100]) (rest := []) kX8_in dX8_left_17 lX8_83 rfl rfl (Nat.le_of_ble_eq_true rfl) (fRoom (by decide)) ⟨Nat.le_refl _, Nat.le_refl _⟩ (qX8_inP _ _ _ (P := 0 ≤ n ∧ n ≤ 100) (and_congr (w_geN (by decide) _) (w_leN (by decide) _))) ?_
    rintro _ S9 ⟨rfl, h9⟩
    rw [h9]
    clear h9 S9
    refine fV.to (pc' := 20) (L' := [(0, .ref 35), (1, .long u), (3, .int n)]) (st' := [.int (fB (decide (0 ≤ n ∧ n ≤ 100)))]) (S' := S) rfl rfl rfl rfl ?_
    refine fV.if_ne bX8_left_20 (fun c20 => ?_) (fun c20 => ?_)
    · refine fV.run iX8_left_27_2 oX8_left_27_2 (pc' := 31) (L' := [(0, .ref 35), (1, .long u), (3, .int n)]) (st' := [.ref 35, .long 1000]) (S' := S) rfl trivial ?_
      refine fV.callV (M2 := mX8_decay) (d := d + 3) (o := 35) (av := []) (rest := [.long 1000]) kX8_decay dX8_left_31 lX8_133 rfl rfl rfl (Nat.le_of_ble_eq_true rfl) (fRoom (by decide)) ⟨Nat.le_refl _, Nat.le_refl _⟩ (qX8_dec H) ?_
      rintro _ S9 ⟨rfl, h9⟩
      rw [h9]
      clear h9 S9
      refine fV.to (pc' := 34) (L' := [(0, .ref 35), (1, .long u), (3, .int n)]) (st' := [.int (decF (hD S) b), .long 1000]) (S' := S) rfl rfl rfl rfl ?_
      refine fV.run iX8_left_34_7 oX8_left_34_7 (pc' := 44) (L' := [(0, .ref 35), (1, .long u), (3, .int n), (4, .long (1000 - (Int32.toInt64 (decF (hD S) b)))), (6, .long u), (8, .int 0)]) (st' := []) (S' := S) rfl trivial ?_
      obtain ⟨m, hm, rfl⟩ := n_in (x := n) (n := 101) (by omega) (by grind [fB]) (by show n < 101; grind [fB])
      rw [show oLeft (hD S) b u (nI m) = itL (1000 - (decF (hD S) b).toInt64) u m by unfold oLeft; rw [if_pos ⟨⟨by grind [fB], by grind [fB]⟩, nI_pos' (by omega), (nI_leI (b := 100) (by omega) (by decide)).mpr (by omega)⟩, nI_clamp (by omega)]]
      exact lpX8_left (by omega) m 0 (by omega)
    · refine fV.run iX8_left_23_1 oX8_left_23_1 (pc' := 26) (L' := [(0, .ref 35), (1, .long u), (3, .int n)]) (st' := [.long (-1002)]) (S' := S) rfl trivial ?_
      exact fV.lret rfl dX8_left_26 ⟨by unfold oLeft; rw [if_neg (by grind [fB])], rfl⟩

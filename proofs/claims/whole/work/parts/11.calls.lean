/-! the calls that change the hall, and plain questions: what they answer and what becomes of the hall -/
def oStuff (h : hH) (s c : Int32) : Int32 × hH :=
  if (0 ≤ s ∧ s ≤ 100) ∧ (0 ≤ c ∧ c ≤ 1000) then (if h.1.1 = 8 then (-1004, h) else (h.1.1, ((h.1.1 + 1, upd h.1.2.1 h.1.1.toNatClampNeg s, upd h.1.2.2 h.1.1.toNatClampNeg c), h.2))) else (-1002, h)
def oEnds (en : Nat → Int32) (n x0 y0 x1 y1 : Int32) : Nat → Int32 := upd (upd (upd (upd en (4 * n).toNatClampNeg x0) (4 * n + 1).toNatClampNeg y0) (4 * n + 2).toNatClampNeg x1) (4 * n + 3).toNatClampNeg y1
def oWall (h : hH) (x0 y0 x1 y1 m : Int32) : Int32 × hH :=
  if 0 ≤ m ∧ m < h.1.1 then (if ((0 ≤ x0 ∧ x0 ≤ 1000) ∧ (0 ≤ y0 ∧ y0 ≤ 1000)) ∧ ((0 ≤ x1 ∧ x1 ≤ 1000) ∧ (0 ≤ y1 ∧ y1 ≤ 1000)) then
    (if (x0 = x1 ∧ ¬ y0 = y1) ∨ (¬ x0 = x1 ∧ y0 = y1) then (if h.2.1.1 = 16 then (-1004, h) else (h.2.1.1, (h.1, (h.2.1.1 + 1, oEnds h.2.1.2.1 h.2.1.1 x0 y0 x1 y1, upd h.2.1.2.2 h.2.1.1.toNatClampNeg m), h.2.2))) else (-1002, h)) else (-1002, h)) else (-1001, h)
def oCover (h : hH) (w m : Int32) : Int32 × hH :=
  if (0 ≤ w ∧ w < h.2.1.1) ∧ (0 ≤ m ∧ m < h.1.1) then (h.2.1.2.2 w.toNatClampNeg, (h.1, (h.2.1.1, h.2.1.2.1, upd h.2.1.2.2 w.toNatClampNeg m), h.2.2)) else (-1001, h)
def oBack (h : hH) : Int32 × hH := if h.2.1.1 = 0 then (-1003, h) else (h.2.1.1 - 1, (h.1, (h.2.1.1 - 1, h.2.1.2), h.2.2))
def oSource (h : hH) (x y p : Int32) : Int32 × hH :=
  if ((0 ≤ x ∧ x ≤ 1000) ∧ (0 ≤ y ∧ y ≤ 1000)) ∧ (1 ≤ p ∧ p ≤ 1000) then (if h.2.2.1.1 = 4 then (-1004, h) else (h.2.2.1.1, (h.1, h.2.1, (h.2.2.1.1 + 1, upd h.2.2.1.2.1 h.2.2.1.1.toNatClampNeg x, upd h.2.2.1.2.2.1 h.2.2.1.1.toNatClampNeg y, upd h.2.2.1.2.2.2 h.2.2.1.1.toNatClampNeg p), h.2.2.2))) else (-1002, h)
def oSeat (h : hH) (x y : Int32) : Int32 × hH :=
  if (0 ≤ x ∧ x ≤ 1000) ∧ (0 ≤ y ∧ y ≤ 1000) then (if h.2.2.2.1.1 = 8 then (-1004, h) else (h.2.2.2.1.1, (h.1, h.2.1, h.2.2.1, (h.2.2.2.1.1 + 1, upd h.2.2.2.1.2.1 h.2.2.2.1.1.toNatClampNeg x, upd h.2.2.2.1.2.2 h.2.2.2.1.1.toNatClampNeg y), h.2.2.2.2))) else (-1002, h)
def oMove (h : hH) (k t x y : Int32) : Int32 × hH :=
  if t = 0 then (if 0 ≤ k ∧ k < h.2.2.1.1 then (if (0 ≤ x ∧ x ≤ 1000) ∧ (0 ≤ y ∧ y ≤ 1000) then (1, (h.1, h.2.1, (h.2.2.1.1, upd h.2.2.1.2.1 k.toNatClampNeg x, upd h.2.2.1.2.2.1 k.toNatClampNeg y, h.2.2.1.2.2.2), h.2.2.2)) else (-1002, h)) else (-1001, h))
  else if t = 1 then (if 0 ≤ k ∧ k < h.2.2.2.1.1 then (if (0 ≤ x ∧ x ≤ 1000) ∧ (0 ≤ y ∧ y ≤ 1000) then (1, (h.1, h.2.1, h.2.2.1, (h.2.2.2.1.1, upd h.2.2.2.1.2.1 k.toNatClampNeg x, upd h.2.2.2.1.2.2 k.toNatClampNeg y), h.2.2.2.2)) else (-1002, h)) else (-1001, h))
  else (-1002, h)
def oRule (h : hH) (t v : Int32) : Int32 × hH :=
  if t = 0 then (if 0 ≤ v ∧ v ≤ 3 then (h.2.2.2.2.1, (h.1, h.2.1, h.2.2.1, h.2.2.2.1, (v, h.2.2.2.2.2))) else (-1002, h))
  else if t = 1 then (if 1 ≤ v ∧ v ≤ 100 then (h.2.2.2.2.2, (h.1, h.2.1, h.2.2.1, h.2.2.2.1, (h.2.2.2.2.1, v))) else (-1002, h))
  else (-1002, h)
/-- what a call of the landed program leaves: the answer and the hall as told, the other half as it was, the walls' lines kept -/
def qC (S : fS) (p : Int32 × hH) (r : Option Value) (S' : fS) : Prop := r = some (.int p.1) ∧ hC S' = p.2 ∧ S'.2 = S.2 ∧ ∀ b, hGeo S b → hGeo S' b
def qD (S : fS) (p : Int32 × hH) (r : Option Value) (S' : fS) : Prop := r = some (.int p.1) ∧ hD S' = p.2 ∧ S'.1 = S.1
theorem vin16 {x : Int32} {b : Nat} (hb : b ≤ 16) (h0 : 0 ≤ x) (h1 : x < nI b) : vp_in x 16 := by
  obtain ⟨w, hw, rfl⟩ := n_in (by omega) h0 h1
  exact vp_in_nI (by omega) (by decide)
theorem vinB {x : Int32} {b n : Nat} (hb : b ≤ n) (hn : n < 2 ^ 31) (h0 : 0 ≤ x) (h1 : x < nI b) : vp_in x n := by
  obtain ⟨w, hw, rfl⟩ := n_in (by omega) h0 h1
  exact vp_in_nI (by omega) hn
def iX4_add_0_3 : List Instr := [.aload_n 0, .getfield 18, .bipush 8]
theorem oX4_add_0_3 : fOkB cX4_add 0 iX4_add_0_3 = true := by decide +kernel
theorem bX4_add_6 : fBk cX4_add 6 (.if_icmp .lt) 13 := ⟨7, by decide +kernel, by decide⟩
def iX4_add_13_22 : List Instr := [.aload_n 0, .getfield 9, .aload_n 0, .getfield 18, .iload_n 1, .iastore, .aload_n 0, .getfield 15, .aload_n 0, .getfield 18, .iload_n 2, .iastore, .aload_n 0, .dup, .getfield 18, .iconst 1, .iadd, .putfield 18, .aload_n 0, .getfield 18, .iconst 1, .isub]
theorem oX4_add_13_22 : fOkB cX4_add 13 iX4_add_13_22 = true := by decide +kernel
theorem dX4_add_49 : decode cX4_add 49 = .ok (.ireturn, 1) := by decide +kernel
def iX4_add_9_1 : List Instr := [.sipush (-1004)]
theorem oX4_add_9_1 : fOkB cX4_add 9 iX4_add_9_1 = true := by decide +kernel
theorem dX4_add_12 : decode cX4_add 12 = .ok (.ireturn, 1) := by decide +kernel
set_option maxRecDepth 100000 in
theorem qX4_add {G : fG} {d : Nat} {S : fS} (s c : Int32) (h0 : 0 ≤ gI S 1 2) (h8 : gI S 1 2 ≤ 8) : fCtr G (d) mX4_add [.ref 1, .int s, .int c] S (fun r S' => if gI S 1 2 = 8 then r = some (.int (-1004)) ∧ S' = S else r = some (.int (gI S 1 2)) ∧ S' = wI (wA (wA S 2 (upd (gA S 2) (gI S 1 2).toNatClampNeg s)) 3 (upd (gA S 3) (gI S 1 2).toNatClampNeg c)) 1 2 (gI S 1 2 + 1)) := by
  refine fCtr.of bXX4_add (Nat.le_of_ble_eq_true rfl) rfl ?_
  refine fV.run iX4_add_0_3 oX4_add_0_3 (pc' := 6) (L' := [(0, .ref 1), (1, .int s), (2, .int c)]) (st' := [.int 8, .int (gI S 1 2)]) (S' := S) rfl trivial ?_
  refine fV.icmp_lt bX4_add_6 (fun c6 => ?_) (fun c6 => ?_)
  · refine fV.run iX4_add_13_22 oX4_add_13_22 (pc' := 49) (L' := [(0, .ref 1), (1, .int s), (2, .int c)]) (st' := [.int (((gI S 1 2) + 1) - 1)]) (S' := (wI (wA (wA S 2 (upd (gA S 2) (gI S 1 2).toNatClampNeg s)) 3 (upd (gA S 3) (gI S 1 2).toNatClampNeg c)) 1 2 ((gI S 1 2) + 1))) (P := vp_in (gI S 1 2) 8 ∧ vp_in (gI S 1 2) 8 ∧ True) rfl ⟨(vin (by decide) (by grind [fB]) (by grind [fB])), (vin (by decide) (by grind [fB]) (by grind [fB])), trivial⟩ ?_
    exact fV.iret rfl dX4_add_49 (by rw [if_neg (by grind)]; exact ⟨by rw [Int32.add_sub_cancel], rfl⟩)
  · refine fV.run iX4_add_9_1 oX4_add_9_1 (pc' := 12) (L' := [(0, .ref 1), (1, .int s), (2, .int c)]) (st' := [.int (-1004)]) (S' := S) rfl trivial ?_
    exact fV.iret rfl dX4_add_12 (by rw [if_pos (by grind)]; exact ⟨rfl, rfl⟩)
def iX2_put_0_10 : List Instr := [.aload_n 0, .getfield 21, .iload_n 1, .iload_n 2, .iastore, .aload_n 0, .getfield 25, .iload_n 1, .iload_n 3, .iastore]
theorem oX2_put_0_10 : fOkB cX2_put 0 iX2_put_0_10 = true := by decide +kernel
theorem dX2_put_14 : decode cX2_put 14 = .ok (.return_, 1) := by decide +kernel
set_option maxRecDepth 100000 in
theorem qX2_put_11 {G : fG} {d : Nat} {S : fS} (k x y : Int32) (hk : vp_in k 4) : fCtr G (d) mX2_put [.ref 11, .int k, .int x, .int y] S (fun r S' => r = none ∧ S' = wA (wA S 12 (upd (gA S 12) k.toNatClampNeg x)) 13 (upd (gA S 13) k.toNatClampNeg y)) := by
  refine fCtr.of bXX2_put (Nat.le_of_ble_eq_true rfl) rfl ?_
  refine fV.run iX2_put_0_10 oX2_put_0_10 (pc' := 14) (L' := [(0, .ref 11), (1, .int k), (2, .int x), (3, .int y)]) (st' := []) (S' := (wA (wA S 12 (upd (gA S 12) k.toNatClampNeg x)) 13 (upd (gA S 13) k.toNatClampNeg y))) (P := vp_in k 4 ∧ vp_in k 4 ∧ True) rfl ⟨hk, hk, trivial⟩ ?_
  exact fV.vret rfl dX2_put_14 ⟨rfl, rfl⟩
def iX2_add_0_5 : List Instr := [.aload_n 0, .getfield 9, .aload_n 0, .getfield 21, .arraylength]
theorem oX2_add_0_5 : fOkB cX2_add 0 iX2_add_0_5 = true := by decide +kernel
theorem bX2_add_9 : fBk cX2_add 9 (.if_icmp .lt) 16 := ⟨7, by decide +kernel, by decide⟩
def iX2_add_16_5 : List Instr := [.aload_n 0, .aload_n 0, .getfield 9, .iload_n 1, .iload_n 2]
theorem oX2_add_16_5 : fOkB cX2_add 16 iX2_add_16_5 = true := by decide +kernel
set_option maxRecDepth 100000 in
theorem lX2_28 : Cond.methodLink RX2 28 yX2_put ∈ fTB := fTB_at 369 rfl rfl
theorem dX2_add_23 : decode cX2_add 23 = .ok (.invokevirtual 28, 3) := by decide +kernel
def iX2_add_26_10 : List Instr := [.aload_n 0, .dup, .getfield 9, .iconst 1, .iadd, .putfield 9, .aload_n 0, .getfield 9, .iconst 1, .isub]
theorem oX2_add_26_10 : fOkB cX2_add 26 iX2_add_26_10 = true := by decide +kernel
theorem dX2_add_42 : decode cX2_add 42 = .ok (.ireturn, 1) := by decide +kernel
def iX2_add_12_1 : List Instr := [.sipush (-1004)]
theorem oX2_add_12_1 : fOkB cX2_add 12 iX2_add_12_1 = true := by decide +kernel
theorem dX2_add_15 : decode cX2_add 15 = .ok (.ireturn, 1) := by decide +kernel
set_option maxRecDepth 100000 in
theorem qX2_add_11 {G : fG} {d : Nat} {S : fS} (x y : Int32) (h0 : 0 ≤ gI S 11 2) (h8 : gI S 11 2 ≤ 4) : fCtr G (d + 1) mX2_add [.ref 11, .int x, .int y] S (fun r S' => if gI S 11 2 = 4 then r = some (.int (-1004)) ∧ S' = S else r = some (.int (gI S 11 2)) ∧ S' = wI (wA (wA S 12 (upd (gA S 12) (gI S 11 2).toNatClampNeg x)) 13 (upd (gA S 13) (gI S 11 2).toNatClampNeg y)) 11 2 (gI S 11 2 + 1)) := by
  refine fCtr.of bXX2_add (Nat.le_of_ble_eq_true rfl) rfl ?_
  refine fV.run iX2_add_0_5 oX2_add_0_5 (pc' := 9) (L' := [(0, .ref 11), (1, .int x), (2, .int y)]) (st' := [.int 4, .int (gI S 11 2)]) (S' := S) rfl trivial ?_
  refine fV.icmp_lt bX2_add_9 (fun c9 => ?_) (fun c9 => ?_)
  · refine fV.run iX2_add_16_5 oX2_add_16_5 (pc' := 23) (L' := [(0, .ref 11), (1, .int x), (2, .int y)]) (st' := [.int y, .int x, .int (gI S 11 2), .ref 11]) (S' := S) rfl trivial ?_
    refine fV.callV (M2 := mX2_put) (d := d) (o := 11) (av := [.int (gI S 11 2), .int x, .int y]) (rest := []) kX2_put dX2_add_23 lX2_28 rfl rfl rfl (Nat.le_of_ble_eq_true rfl) (fRoom (by decide)) ⟨Nat.le_refl _, Nat.le_refl _⟩ (qX2_put_11 _ _ _ (vin (by decide) (by grind [fB]) (by grind [fB]))) ?_
    rintro _ S9 ⟨rfl, h9⟩
    rw [h9]
    clear h9 S9
    refine fV.to (pc' := 26) (L' := [(0, .ref 11), (1, .int x), (2, .int y)]) (st' := []) (S' := (wA (wA S 12 (upd (gA S 12) (gI S 11 2).toNatClampNeg x)) 13 (upd (gA S 13) (gI S 11 2).toNatClampNeg y))) rfl rfl rfl rfl ?_
    refine fV.run iX2_add_26_10 oX2_add_26_10 (pc' := 42) (L' := [(0, .ref 11), (1, .int x), (2, .int y)]) (st' := [.int (((gI S 11 2) + 1) - 1)]) (S' := (wI (wA (wA S 12 (upd (gA S 12) (gI S 11 2).toNatClampNeg x)) 13 (upd (gA S 13) (gI S 11 2).toNatClampNeg y)) 11 2 ((gI S 11 2) + 1))) rfl trivial ?_
    exact fV.iret rfl dX2_add_42 (by rw [if_neg (by grind)]; exact ⟨by rw [Int32.add_sub_cancel], rfl⟩)
  · refine fV.run iX2_add_12_1 oX2_add_12_1 (pc' := 15) (L' := [(0, .ref 11), (1, .int x), (2, .int y)]) (st' := [.int (-1004)]) (S' := S) rfl trivial ?_
    exact fV.iret rfl dX2_add_15 (by rw [if_pos (by grind)]; exact ⟨rfl, rfl⟩)
set_option maxRecDepth 100000 in
theorem qX2_put_14 {G : fG} {d : Nat} {S : fS} (k x y : Int32) (hk : vp_in k 8) : fCtr G (d) mX2_put [.ref 14, .int k, .int x, .int y] S (fun r S' => r = none ∧ S' = wA (wA S 15 (upd (gA S 15) k.toNatClampNeg x)) 16 (upd (gA S 16) k.toNatClampNeg y)) := by
  refine fCtr.of bXX2_put (Nat.le_of_ble_eq_true rfl) rfl ?_
  refine fV.run iX2_put_0_10 oX2_put_0_10 (pc' := 14) (L' := [(0, .ref 14), (1, .int k), (2, .int x), (3, .int y)]) (st' := []) (S' := (wA (wA S 15 (upd (gA S 15) k.toNatClampNeg x)) 16 (upd (gA S 16) k.toNatClampNeg y))) (P := vp_in k 8 ∧ vp_in k 8 ∧ True) rfl ⟨hk, hk, trivial⟩ ?_
  exact fV.vret rfl dX2_put_14 ⟨rfl, rfl⟩
set_option maxRecDepth 100000 in
theorem qX2_add_14 {G : fG} {d : Nat} {S : fS} (x y : Int32) (h0 : 0 ≤ gI S 14 2) (h8 : gI S 14 2 ≤ 8) : fCtr G (d + 1) mX2_add [.ref 14, .int x, .int y] S (fun r S' => if gI S 14 2 = 8 then r = some (.int (-1004)) ∧ S' = S else r = some (.int (gI S 14 2)) ∧ S' = wI (wA (wA S 15 (upd (gA S 15) (gI S 14 2).toNatClampNeg x)) 16 (upd (gA S 16) (gI S 14 2).toNatClampNeg y)) 14 2 (gI S 14 2 + 1)) := by
  refine fCtr.of bXX2_add (Nat.le_of_ble_eq_true rfl) rfl ?_
  refine fV.run iX2_add_0_5 oX2_add_0_5 (pc' := 9) (L' := [(0, .ref 14), (1, .int x), (2, .int y)]) (st' := [.int 8, .int (gI S 14 2)]) (S' := S) rfl trivial ?_
  refine fV.icmp_lt bX2_add_9 (fun c9 => ?_) (fun c9 => ?_)
  · refine fV.run iX2_add_16_5 oX2_add_16_5 (pc' := 23) (L' := [(0, .ref 14), (1, .int x), (2, .int y)]) (st' := [.int y, .int x, .int (gI S 14 2), .ref 14]) (S' := S) rfl trivial ?_
    refine fV.callV (M2 := mX2_put) (d := d) (o := 14) (av := [.int (gI S 14 2), .int x, .int y]) (rest := []) kX2_put dX2_add_23 lX2_28 rfl rfl rfl (Nat.le_of_ble_eq_true rfl) (fRoom (by decide)) ⟨Nat.le_refl _, Nat.le_refl _⟩ (qX2_put_14 _ _ _ (vin (by decide) (by grind [fB]) (by grind [fB]))) ?_
    rintro _ S9 ⟨rfl, h9⟩
    rw [h9]
    clear h9 S9
    refine fV.to (pc' := 26) (L' := [(0, .ref 14), (1, .int x), (2, .int y)]) (st' := []) (S' := (wA (wA S 15 (upd (gA S 15) (gI S 14 2).toNatClampNeg x)) 16 (upd (gA S 16) (gI S 14 2).toNatClampNeg y))) rfl rfl rfl rfl ?_
    refine fV.run iX2_add_26_10 oX2_add_26_10 (pc' := 42) (L' := [(0, .ref 14), (1, .int x), (2, .int y)]) (st' := [.int (((gI S 14 2) + 1) - 1)]) (S' := (wI (wA (wA S 15 (upd (gA S 15) (gI S 14 2).toNatClampNeg x)) 16 (upd (gA S 16) (gI S 14 2).toNatClampNeg y)) 14 2 ((gI S 14 2) + 1))) rfl trivial ?_
    exact fV.iret rfl dX2_add_42 (by rw [if_neg (by grind)]; exact ⟨by rw [Int32.add_sub_cancel], rfl⟩)
  · refine fV.run iX2_add_12_1 oX2_add_12_1 (pc' := 15) (L' := [(0, .ref 14), (1, .int x), (2, .int y)]) (st' := [.int (-1004)]) (S' := S) rfl trivial ?_
    exact fV.iret rfl dX2_add_15 (by rw [if_pos (by grind)]; exact ⟨rfl, rfl⟩)
theorem upd_at {f : Nat → Int32} {k : Nat} {x : Int32} : upd f k x k = x := pk_us
theorem upd_ne {f : Nat → Int32} {k j : Nat} {x : Int32} (h : j ≠ k) : upd f k x j = f j := pk_un h
theorem cl4 {b : Nat} (hb : b < 1000) : (4 * nI b).toNatClampNeg = 4 * b ∧ (4 * nI b + 1).toNatClampNeg = 4 * b + 1 ∧ (4 * nI b + 2).toNatClampNeg = 4 * b + 2 ∧ (4 * nI b + 3).toNatClampNeg = 4 * b + 3 := by
  have e : ∀ j : Nat, (4 * nI b + nI j) = nI (4 * b + j) := fun j => by simp [nI, Int32.ofNat_add, Int32.ofNat_mul]
  have e0 : (4 * nI b) = nI (4 * b) := by simp [nI, Int32.ofNat_mul]
  refine ⟨by rw [e0, nI_clamp (by omega)], ?_, ?_, ?_⟩
  · rw [show (1 : Int32) = nI 1 from rfl, e 1, nI_clamp (by omega)]
  · rw [show (2 : Int32) = nI 2 from rfl, e 2, nI_clamp (by omega)]
  · rw [show (3 : Int32) = nI 3 from rfl, e 3, nI_clamp (by omega)]
theorem oEnds_lo {en : Nat → Int32} {b i : Nat} {x0 y0 x1 y1 : Int32} (hb : b < 1000) (h : i < 4 * b) : oEnds en (nI b) x0 y0 x1 y1 i = en i := by
  obtain ⟨h0, h1, h2, h3⟩ := cl4 hb
  unfold oEnds
  rw [h0, h1, h2, h3, upd_ne (by omega), upd_ne (by omega), upd_ne (by omega), upd_ne (by omega)]
theorem oEnds_at {en : Nat → Int32} {b : Nat} {x0 y0 x1 y1 : Int32} (hb : b < 1000) : oEnds en (nI b) x0 y0 x1 y1 (4 * b) = x0 ∧ oEnds en (nI b) x0 y0 x1 y1 (4 * b + 1) = y0 ∧ oEnds en (nI b) x0 y0 x1 y1 (4 * b + 2) = x1 ∧ oEnds en (nI b) x0 y0 x1 y1 (4 * b + 3) = y1 := by
  obtain ⟨h0, h1, h2, h3⟩ := cl4 hb
  unfold oEnds
  rw [h0, h1, h2, h3]
  refine ⟨?_, ?_, ?_, ?_⟩
  · rw [upd_ne (by omega), upd_ne (by omega), upd_ne (by omega), upd_at]
  · rw [upd_ne (by omega), upd_ne (by omega), upd_at]
  · rw [upd_ne (by omega), upd_at]
  · rw [upd_at]
/-- behind Walls.add -/
def gWadd (S S' : fS) (x0 y0 x1 y1 m : Int32) : Prop := S'.2 = S.2 ∧ hC S' = ((hC S).1, (gI S 4 6 + 1, oEnds (gA S 5) (gI S 4 6) x0 y0 x1 y1, upd (gA S 6) (gI S 4 6).toNatClampNeg m), (hC S).2.2) ∧
  gA S' 7 = upd (gA S 7) (gI S 4 6).toNatClampNeg (if x0 = x1 then 0 else 1) ∧ gA S' 8 = upd (gA S 8) (gI S 4 6).toNatClampNeg (if x0 = x1 then x0 else y0) ∧
  gA S' 9 = upd (gA S 9) (gI S 4 6).toNatClampNeg (if x0 = x1 then (if y1 < y0 then y1 else y0) else (if x1 < x0 then x1 else x0)) ∧ gA S' 10 = upd (gA S 10) (gI S 4 6).toNatClampNeg (if x0 = x1 then (if y0 < y1 then y1 else y0) else (if x0 < x1 then x1 else x0))
theorem geo_add {S S' : fS} {x0 y0 x1 y1 m : Int32} {b : Nat} (h : gWadd S S' x0 y0 x1 y1 m) (hb : gI S 4 6 = nI b) (hb16 : b < 1000) (hg : hGeo S b) : hGeo S' (b + 1) := by
  obtain ⟨-, h1, h7, h8, h9, h10⟩ := h
  have h5 : gA S' 5 = oEnds (gA S 5) (gI S 4 6) x0 y0 x1 y1 := congrArg (fun q => q.2.1.2.1) h1
  rw [hb, nI_clamp (by omega)] at h7 h8 h9 h10
  rw [hb] at h5
  intro w hw
  rw [h7, h8, h9, h10, h5]
  by_cases e : w = b
  · subst e
    obtain ⟨a0, a1, a2, a3⟩ := oEnds_at (en := gA S 5) (x0 := x0) (y0 := y0) (x1 := x1) (y1 := y1) hb16
    simp only [upd_at, hAxI, hLine, hLow, hHigh, a0, a1, a2, a3, and_self]
  · have hw2 : w < b := by omega
    obtain ⟨g1, g2, g3, g4⟩ := hg w hw2
    have q0 := oEnds_lo (en := gA S 5) (x0 := x0) (y0 := y0) (x1 := x1) (y1 := y1) hb16 (show 4 * w < 4 * b by omega)
    have q1 := oEnds_lo (en := gA S 5) (x0 := x0) (y0 := y0) (x1 := x1) (y1 := y1) hb16 (show 4 * w + 1 < 4 * b by omega)
    have q2 := oEnds_lo (en := gA S 5) (x0 := x0) (y0 := y0) (x1 := x1) (y1 := y1) hb16 (show 4 * w + 2 < 4 * b by omega)
    have q3 := oEnds_lo (en := gA S 5) (x0 := x0) (y0 := y0) (x1 := x1) (y1 := y1) hb16 (show 4 * w + 3 < 4 * b by omega)
    rw [upd_ne e, upd_ne e, upd_ne e, upd_ne e, g1, g2, g3, g4]
    simp only [hAxI, hLine, hLow, hHigh, q0, q1, q2, q3, and_self]
def iX6_add_0_3 : List Instr := [.aload_n 0, .getfield 30, .bipush 16]
theorem oX6_add_0_3 : fOkB cX6_add 0 iX6_add_0_3 = true := by decide +kernel
theorem bX6_add_6 : fBk cX6_add 6 (.if_icmp .lt) 13 := ⟨7, by decide +kernel, by decide⟩
def iX6_add_13_46 : List Instr := [.aload_n 0, .getfield 9, .iconst 4, .aload_n 0, .getfield 30, .imul, .iload_n 1, .iastore, .aload_n 0, .getfield 9, .iconst 4, .aload_n 0, .getfield 30, .imul, .iconst 1, .iadd, .iload_n 2, .iastore, .aload_n 0, .getfield 9, .iconst 4, .aload_n 0, .getfield 30, .imul, .iconst 2, .iadd, .iload_n 3, .iastore, .aload_n 0, .getfield 9, .iconst 4, .aload_n 0, .getfield 30, .imul, .iconst 3, .iadd, .iload 4, .iastore, .aload_n 0, .getfield 15, .aload_n 0, .getfield 30, .iload 5, .iastore, .iload_n 1, .iload_n 3]
theorem oX6_add_13_46 : fOkB cX6_add 13 iX6_add_13_46 = true := by decide +kernel
theorem bX6_add_81 : fBk cX6_add 81 (.if_icmp .ne) 88 := ⟨7, by decide +kernel, by decide⟩
def iX6_add_88_7 : List Instr := [.iconst 0, .istore 6, .aload_n 0, .getfield 18, .aload_n 0, .getfield 30, .iload 6]
theorem oX6_add_88_7 : fOkB cX6_add 88 iX6_add_88_7 = true := by decide +kernel
theorem bX6_add_101 : fBk cX6_add 101 (.ifCond .eq) 108 := ⟨7, by decide +kernel, by decide⟩
def iX6_add_108_7 : List Instr := [.iconst 1, .iastore, .aload_n 0, .getfield 21, .aload_n 0, .getfield 30, .iload 6]
theorem oX6_add_108_7 : fOkB cX6_add 108 iX6_add_108_7 = true := by decide +kernel
theorem bX6_add_120 : fBk cX6_add 120 (.ifCond .eq) 127 := ⟨7, by decide +kernel, by decide⟩
def iX6_add_127_7 : List Instr := [.iload_n 2, .iastore, .aload_n 0, .getfield 24, .aload_n 0, .getfield 30, .iload 6]
theorem oX6_add_127_7 : fOkB cX6_add 127 iX6_add_127_7 = true := by decide +kernel
theorem bX6_add_139 : fBk cX6_add 139 (.ifCond .eq) 151 := ⟨12, by decide +kernel, by decide⟩
def iX6_add_151_2 : List Instr := [.iload_n 1, .iload_n 3]
theorem oX6_add_151_2 : fOkB cX6_add 151 iX6_add_151_2 = true := by decide +kernel
set_option maxRecDepth 100000 in
theorem lX6_34 : Cond.methodLink RX6 34 yJ9_min_7cf53 ∈ fTB := fTB_at 345 rfl rfl
theorem dX6_add_153 : decode cX6_add 153 = .ok (.invokestatic 34, 3) := by decide +kernel
def iX6_add_156_6 : List Instr := [.iastore, .aload_n 0, .getfield 27, .aload_n 0, .getfield 30, .iload 6]
theorem oX6_add_156_6 : fOkB cX6_add 156 iX6_add_156_6 = true := by decide +kernel
theorem bX6_add_167 : fBk cX6_add 167 (.ifCond .eq) 179 := ⟨12, by decide +kernel, by decide⟩
def iX6_add_179_2 : List Instr := [.iload_n 1, .iload_n 3]
theorem oX6_add_179_2 : fOkB cX6_add 179 iX6_add_179_2 = true := by decide +kernel
set_option maxRecDepth 100000 in
theorem lX6_40 : Cond.methodLink RX6 40 yJ9_max_7cf53 ∈ fTB := fTB_at 348 rfl rfl
theorem dX6_add_181 : decode cX6_add 181 = .ok (.invokestatic 40, 3) := by decide +kernel
def iX6_add_184_11 : List Instr := [.iastore, .aload_n 0, .dup, .getfield 30, .iconst 1, .iadd, .putfield 30, .aload_n 0, .getfield 30, .iconst 1, .isub]
theorem oX6_add_184_11 : fOkB cX6_add 184 iX6_add_184_11 = true := by decide +kernel
theorem dX6_add_201 : decode cX6_add 201 = .ok (.ireturn, 1) := by decide +kernel
def iX6_add_84_8 : List Instr := [.iconst 1, .goto 4, .istore 6, .aload_n 0, .getfield 18, .aload_n 0, .getfield 30, .iload 6]
theorem oX6_add_84_8 : fOkB cX6_add 84 iX6_add_84_8 = true := by decide +kernel
def iX6_add_104_8 : List Instr := [.iconst 0, .goto 4, .iastore, .aload_n 0, .getfield 21, .aload_n 0, .getfield 30, .iload 6]
theorem oX6_add_104_8 : fOkB cX6_add 104 iX6_add_104_8 = true := by decide +kernel
def iX6_add_123_8 : List Instr := [.iload_n 1, .goto 4, .iastore, .aload_n 0, .getfield 24, .aload_n 0, .getfield 30, .iload 6]
theorem oX6_add_123_8 : fOkB cX6_add 123 iX6_add_123_8 = true := by decide +kernel
def iX6_add_142_2 : List Instr := [.iload_n 2, .iload 4]
theorem oX6_add_142_2 : fOkB cX6_add 142 iX6_add_142_2 = true := by decide +kernel
theorem dX6_add_145 : decode cX6_add 145 = .ok (.invokestatic 34, 3) := by decide +kernel
def iX6_add_148_7 : List Instr := [.goto 8, .iastore, .aload_n 0, .getfield 27, .aload_n 0, .getfield 30, .iload 6]
theorem oX6_add_148_7 : fOkB cX6_add 148 iX6_add_148_7 = true := by decide +kernel
def iX6_add_170_2 : List Instr := [.iload_n 2, .iload 4]
theorem oX6_add_170_2 : fOkB cX6_add 170 iX6_add_170_2 = true := by decide +kernel
theorem dX6_add_173 : decode cX6_add 173 = .ok (.invokestatic 40, 3) := by decide +kernel
def iX6_add_176_12 : List Instr := [.goto 8, .iastore, .aload_n 0, .dup, .getfield 30, .iconst 1, .iadd, .putfield 30, .aload_n 0, .getfield 30, .iconst 1, .isub]
theorem oX6_add_176_12 : fOkB cX6_add 176 iX6_add_176_12 = true := by decide +kernel
def iX6_add_9_1 : List Instr := [.sipush (-1004)]
theorem oX6_add_9_1 : fOkB cX6_add 9 iX6_add_9_1 = true := by decide +kernel
theorem dX6_add_12 : decode cX6_add 12 = .ok (.ireturn, 1) := by decide +kernel
set_option maxRecDepth 100000 in
theorem qX6_add {G : fG} {d : Nat} {S : fS} (x0 y0 x1 y1 m : Int32) (h0 : 0 ≤ gI S 4 6) (h8 : gI S 4 6 ≤ 16) : fCtr G (d + 1) mX6_add [.ref 4, .int x0, .int y0, .int x1, .int y1, .int m] S (fun r S' => if gI S 4 6 = 16 then r = some (.int (-1004)) ∧ S' = S else r = some (.int (gI S 4 6)) ∧ gWadd S S' x0 y0 x1 y1 m) := by
  refine fCtr.of bXX6_add (Nat.le_of_ble_eq_true rfl) rfl ?_
  refine fV.run iX6_add_0_3 oX6_add_0_3 (pc' := 6) (L' := [(0, .ref 4), (1, .int x0), (2, .int y0), (3, .int x1), (4, .int y1), (5, .int m)]) (st' := [.int 16, .int (gI S 4 6)]) (S' := S) rfl trivial ?_
  refine fV.icmp_lt bX6_add_6 (fun c6 => ?_) (fun c6 => ?_)
  · refine fV.run iX6_add_13_46 oX6_add_13_46 (pc' := 81) (L' := [(0, .ref 4), (1, .int x0), (2, .int y0), (3, .int x1), (4, .int y1), (5, .int m)]) (st' := [.int x1, .int x0]) (S' := (wA (wA (wA (wA (wA S 5 (upd (gA S 5) (4 * (gI S 4 6)).toNatClampNeg x0)) 5 (upd (upd (gA S 5) (4 * (gI S 4 6)).toNatClampNeg x0) ((4 * (gI S 4 6)) + 1).toNatClampNeg y0)) 5 (upd (upd (upd (gA S 5) (4 * (gI S 4 6)).toNatClampNeg x0) ((4 * (gI S 4 6)) + 1).toNatClampNeg y0) ((4 * (gI S 4 6)) + 2).toNatClampNeg x1)) 5 (upd (upd (upd (upd (gA S 5) (4 * (gI S 4 6)).toNatClampNeg x0) ((4 * (gI S 4 6)) + 1).toNatClampNeg y0) ((4 * (gI S 4 6)) + 2).toNatClampNeg x1) ((4 * (gI S 4 6)) + 3).toNatClampNeg y1)) 6 (upd (gA S 6) (gI S 4 6).toNatClampNeg m))) (P := vp_in (4 * (gI S 4 6)) 64 ∧ vp_in ((4 * (gI S 4 6)) + 1) 64 ∧ vp_in ((4 * (gI S 4 6)) + 2) 64 ∧ vp_in ((4 * (gI S 4 6)) + 3) 64 ∧ vp_in (gI S 4 6) 16 ∧ True) rfl ⟨(vin (by decide) (by grind [fB]) (by grind [fB])), (vin (by decide) (by grind [fB]) (by grind [fB])), (vin (by decide) (by grind [fB]) (by grind [fB])), (vin (by decide) (by grind [fB]) (by grind [fB])), (vin (by decide) (by grind [fB]) (by grind [fB])), trivial⟩ ?_
    refine fV.icmp_ne bX6_add_81 (fun c81 => ?_) (fun c81 => ?_)
    · refine fV.run iX6_add_88_7 oX6_add_88_7 (pc' := 101) (L' := [(0, .ref 4), (1, .int x0), (2, .int y0), (3, .int x1), (4, .int y1), (5, .int m), (6, .int 0)]) (st' := [.int 0, .int (gI S 4 6), .ref 7]) (S' := (wA (wA (wA (wA (wA S 5 (upd (gA S 5) (4 * (gI S 4 6)).toNatClampNeg x0)) 5 (upd (upd (gA S 5) (4 * (gI S 4 6)).toNatClampNeg x0) ((4 * (gI S 4 6)) + 1).toNatClampNeg y0)) 5 (upd (upd (upd (gA S 5) (4 * (gI S 4 6)).toNatClampNeg x0) ((4 * (gI S 4 6)) + 1).toNatClampNeg y0) ((4 * (gI S 4 6)) + 2).toNatClampNeg x1)) 5 (upd (upd (upd (upd (gA S 5) (4 * (gI S 4 6)).toNatClampNeg x0) ((4 * (gI S 4 6)) + 1).toNatClampNeg y0) ((4 * (gI S 4 6)) + 2).toNatClampNeg x1) ((4 * (gI S 4 6)) + 3).toNatClampNeg y1)) 6 (upd (gA S 6) (gI S 4 6).toNatClampNeg m))) rfl trivial ?_
      refine fV.if_eq bX6_add_101 (fun c101 => ?_) (fun c101 => ?_)
      · refine fV.run iX6_add_108_7 oX6_add_108_7 (pc' := 120) (L' := [(0, .ref 4), (1, .int x0), (2, .int y0), (3, .int x1), (4, .int y1), (5, .int m), (6, .int 0)]) (st' := [.int 0, .int (gI S 4 6), .ref 8]) (S' := (wA (wA (wA (wA (wA (wA S 5 (upd (gA S 5) (4 * (gI S 4 6)).toNatClampNeg x0)) 5 (upd (upd (gA S 5) (4 * (gI S 4 6)).toNatClampNeg x0) ((4 * (gI S 4 6)) + 1).toNatClampNeg y0)) 5 (upd (upd (upd (gA S 5) (4 * (gI S 4 6)).toNatClampNeg x0) ((4 * (gI S 4 6)) + 1).toNatClampNeg y0) ((4 * (gI S 4 6)) + 2).toNatClampNeg x1)) 5 (upd (upd (upd (upd (gA S 5) (4 * (gI S 4 6)).toNatClampNeg x0) ((4 * (gI S 4 6)) + 1).toNatClampNeg y0) ((4 * (gI S 4 6)) + 2).toNatClampNeg x1) ((4 * (gI S 4 6)) + 3).toNatClampNeg y1)) 6 (upd (gA S 6) (gI S 4 6).toNatClampNeg m)) 7 (upd (gA S 7) (gI S 4 6).toNatClampNeg 1))) (P := vp_in (gI S 4 6) 16 ∧ True) rfl ⟨(vin (by decide) (by grind [fB]) (by grind [fB])), trivial⟩ ?_
        refine fV.if_eq bX6_add_120 (fun c120 => ?_) (fun c120 => ?_)
        · refine fV.run iX6_add_127_7 oX6_add_127_7 (pc' := 139) (L' := [(0, .ref 4), (1, .int x0), (2, .int y0), (3, .int x1), (4, .int y1), (5, .int m), (6, .int 0)]) (st' := [.int 0, .int (gI S 4 6), .ref 9]) (S' := (wA (wA (wA (wA (wA (wA (wA S 5 (upd (gA S 5) (4 * (gI S 4 6)).toNatClampNeg x0)) 5 (upd (upd (gA S 5) (4 * (gI S 4 6)).toNatClampNeg x0) ((4 * (gI S 4 6)) + 1).toNatClampNeg y0)) 5 (upd (upd (upd (gA S 5) (4 * (gI S 4 6)).toNatClampNeg x0) ((4 * (gI S 4 6)) + 1).toNatClampNeg y0) ((4 * (gI S 4 6)) + 2).toNatClampNeg x1)) 5 (upd (upd (upd (upd (gA S 5) (4 * (gI S 4 6)).toNatClampNeg x0) ((4 * (gI S 4 6)) + 1).toNatClampNeg y0) ((4 * (gI S 4 6)) + 2).toNatClampNeg x1) ((4 * (gI S 4 6)) + 3).toNatClampNeg y1)) 6 (upd (gA S 6) (gI S 4 6).toNatClampNeg m)) 7 (upd (gA S 7) (gI S 4 6).toNatClampNeg 1)) 8 (upd (gA S 8) (gI S 4 6).toNatClampNeg y0))) (P := vp_in (gI S 4 6) 16 ∧ True) rfl ⟨(vin (by decide) (by grind [fB]) (by grind [fB])), trivial⟩ ?_
          refine fV.if_eq bX6_add_139 (fun c139 => ?_) (fun c139 => ?_)
          · refine fV.run iX6_add_151_2 oX6_add_151_2 (pc' := 153) (L' := [(0, .ref 4), (1, .int x0), (2, .int y0), (3, .int x1), (4, .int y1), (5, .int m), (6, .int 0)]) (st' := [.int x1, .int x0, .int (gI S 4 6), .ref 9]) (S' := (wA (wA (wA (wA (wA (wA (wA S 5 (upd (gA S 5) (4 * (gI S 4 6)).toNatClampNeg x0)) 5 (upd (upd (gA S 5) (4 * (gI S 4 6)).toNatClampNeg x0) ((4 * (gI S 4 6)) + 1).toNatClampNeg y0)) 5 (upd (upd (upd (gA S 5) (4 * (gI S 4 6)).toNatClampNeg x0) ((4 * (gI S 4 6)) + 1).toNatClampNeg y0) ((4 * (gI S 4 6)) + 2).toNatClampNeg x1)) 5 (upd (upd (upd (upd (gA S 5) (4 * (gI S 4 6)).toNatClampNeg x0) ((4 * (gI S 4 6)) + 1).toNatClampNeg y0) ((4 * (gI S 4 6)) + 2).toNatClampNeg x1) ((4 * (gI S 4 6)) + 3).toNatClampNeg y1)) 6 (upd (gA S 6) (gI S 4 6).toNatClampNeg m)) 7 (upd (gA S 7) (gI S 4 6).toNatClampNeg 1)) 8 (upd (gA S 8) (gI S 4 6).toNatClampNeg y0))) rfl trivial ?_
            refine fV.mmin dX6_add_153 lX6_34 (fRoomN (Nat.le_of_ble_eq_true rfl)) ?_
            refine fV.run iX6_add_156_6 oX6_add_156_6 (pc' := 167) (L' := [(0, .ref 4), (1, .int x0), (2, .int y0), (3, .int x1), (4, .int y1), (5, .int m), (6, .int 0)]) (st' := [.int 0, .int (gI S 4 6), .ref 10]) (S' := (wA (wA (wA (wA (wA (wA (wA (wA S 5 (upd (gA S 5) (4 * (gI S 4 6)).toNatClampNeg x0)) 5 (upd (upd (gA S 5) (4 * (gI S 4 6)).toNatClampNeg x0) ((4 * (gI S 4 6)) + 1).toNatClampNeg y0)) 5 (upd (upd (upd (gA S 5) (4 * (gI S 4 6)).toNatClampNeg x0) ((4 * (gI S 4 6)) + 1).toNatClampNeg y0) ((4 * (gI S 4 6)) + 2).toNatClampNeg x1)) 5 (upd (upd (upd (upd (gA S 5) (4 * (gI S 4 6)).toNatClampNeg x0) ((4 * (gI S 4 6)) + 1).toNatClampNeg y0) ((4 * (gI S 4 6)) + 2).toNatClampNeg x1) ((4 * (gI S 4 6)) + 3).toNatClampNeg y1)) 6 (upd (gA S 6) (gI S 4 6).toNatClampNeg m)) 7 (upd (gA S 7) (gI S 4 6).toNatClampNeg 1)) 8 (upd (gA S 8) (gI S 4 6).toNatClampNeg y0)) 9 (upd (gA S 9) (gI S 4 6).toNatClampNeg (if x1 < x0 then x1 else x0)))) (P := vp_in (gI S 4 6) 16 ∧ True) rfl ⟨(vin (by decide) (by grind [fB]) (by grind [fB])), trivial⟩ ?_
            refine fV.if_eq bX6_add_167 (fun c167 => ?_) (fun c167 => ?_)
            · refine fV.run iX6_add_179_2 oX6_add_179_2 (pc' := 181) (L' := [(0, .ref 4), (1, .int x0), (2, .int y0), (3, .int x1), (4, .int y1), (5, .int m), (6, .int 0)]) (st' := [.int x1, .int x0, .int (gI S 4 6), .ref 10]) (S' := (wA (wA (wA (wA (wA (wA (wA (wA S 5 (upd (gA S 5) (4 * (gI S 4 6)).toNatClampNeg x0)) 5 (upd (upd (gA S 5) (4 * (gI S 4 6)).toNatClampNeg x0) ((4 * (gI S 4 6)) + 1).toNatClampNeg y0)) 5 (upd (upd (upd (gA S 5) (4 * (gI S 4 6)).toNatClampNeg x0) ((4 * (gI S 4 6)) + 1).toNatClampNeg y0) ((4 * (gI S 4 6)) + 2).toNatClampNeg x1)) 5 (upd (upd (upd (upd (gA S 5) (4 * (gI S 4 6)).toNatClampNeg x0) ((4 * (gI S 4 6)) + 1).toNatClampNeg y0) ((4 * (gI S 4 6)) + 2).toNatClampNeg x1) ((4 * (gI S 4 6)) + 3).toNatClampNeg y1)) 6 (upd (gA S 6) (gI S 4 6).toNatClampNeg m)) 7 (upd (gA S 7) (gI S 4 6).toNatClampNeg 1)) 8 (upd (gA S 8) (gI S 4 6).toNatClampNeg y0)) 9 (upd (gA S 9) (gI S 4 6).toNatClampNeg (if x1 < x0 then x1 else x0)))) rfl trivial ?_
              refine fV.mmax dX6_add_181 lX6_40 (fRoomN (Nat.le_of_ble_eq_true rfl)) ?_
              refine fV.run iX6_add_184_11 oX6_add_184_11 (pc' := 201) (L' := [(0, .ref 4), (1, .int x0), (2, .int y0), (3, .int x1), (4, .int y1), (5, .int m), (6, .int 0)]) (st' := [.int (((gI S 4 6) + 1) - 1)]) (S' := (wI (wA (wA (wA (wA (wA (wA (wA (wA (wA S 5 (upd (gA S 5) (4 * (gI S 4 6)).toNatClampNeg x0)) 5 (upd (upd (gA S 5) (4 * (gI S 4 6)).toNatClampNeg x0) ((4 * (gI S 4 6)) + 1).toNatClampNeg y0)) 5 (upd (upd (upd (gA S 5) (4 * (gI S 4 6)).toNatClampNeg x0) ((4 * (gI S 4 6)) + 1).toNatClampNeg y0) ((4 * (gI S 4 6)) + 2).toNatClampNeg x1)) 5 (upd (upd (upd (upd (gA S 5) (4 * (gI S 4 6)).toNatClampNeg x0) ((4 * (gI S 4 6)) + 1).toNatClampNeg y0) ((4 * (gI S 4 6)) + 2).toNatClampNeg x1) ((4 * (gI S 4 6)) + 3).toNatClampNeg y1)) 6 (upd (gA S 6) (gI S 4 6).toNatClampNeg m)) 7 (upd (gA S 7) (gI S 4 6).toNatClampNeg 1)) 8 (upd (gA S 8) (gI S 4 6).toNatClampNeg y0)) 9 (upd (gA S 9) (gI S 4 6).toNatClampNeg (if x1 < x0 then x1 else x0))) 10 (upd (gA S 10) (gI S 4 6).toNatClampNeg (if x0 < x1 then x1 else x0))) 4 6 ((gI S 4 6) + 1))) (P := vp_in (gI S 4 6) 16 ∧ True) rfl ⟨(vin (by decide) (by grind [fB]) (by grind [fB])), trivial⟩ ?_
              exact fV.iret rfl dX6_add_201 (by rw [if_neg (by grind)]; exact ⟨by rw [Int32.add_sub_cancel], rfl, rfl, by simp only [if_neg c81]; rfl, by simp only [if_neg c81]; rfl, by simp only [if_neg c81]; rfl, by simp only [if_neg c81]; rfl⟩)
            · exact absurd c167 (by decide)
          · exact absurd c139 (by decide)
        · exact absurd c120 (by decide)
      · exact absurd c101 (by decide)
    · refine fV.run iX6_add_84_8 oX6_add_84_8 (pc' := 101) (L' := [(0, .ref 4), (1, .int x0), (2, .int y0), (3, .int x1), (4, .int y1), (5, .int m), (6, .int 1)]) (st' := [.int 1, .int (gI S 4 6), .ref 7]) (S' := (wA (wA (wA (wA (wA S 5 (upd (gA S 5) (4 * (gI S 4 6)).toNatClampNeg x0)) 5 (upd (upd (gA S 5) (4 * (gI S 4 6)).toNatClampNeg x0) ((4 * (gI S 4 6)) + 1).toNatClampNeg y0)) 5 (upd (upd (upd (gA S 5) (4 * (gI S 4 6)).toNatClampNeg x0) ((4 * (gI S 4 6)) + 1).toNatClampNeg y0) ((4 * (gI S 4 6)) + 2).toNatClampNeg x1)) 5 (upd (upd (upd (upd (gA S 5) (4 * (gI S 4 6)).toNatClampNeg x0) ((4 * (gI S 4 6)) + 1).toNatClampNeg y0) ((4 * (gI S 4 6)) + 2).toNatClampNeg x1) ((4 * (gI S 4 6)) + 3).toNatClampNeg y1)) 6 (upd (gA S 6) (gI S 4 6).toNatClampNeg m))) rfl trivial ?_
      refine fV.if_eq bX6_add_101 (fun c101 => ?_) (fun c101 => ?_)
      · exact absurd c101 (by decide)
      · refine fV.run iX6_add_104_8 oX6_add_104_8 (pc' := 120) (L' := [(0, .ref 4), (1, .int x0), (2, .int y0), (3, .int x1), (4, .int y1), (5, .int m), (6, .int 1)]) (st' := [.int 1, .int (gI S 4 6), .ref 8]) (S' := (wA (wA (wA (wA (wA (wA S 5 (upd (gA S 5) (4 * (gI S 4 6)).toNatClampNeg x0)) 5 (upd (upd (gA S 5) (4 * (gI S 4 6)).toNatClampNeg x0) ((4 * (gI S 4 6)) + 1).toNatClampNeg y0)) 5 (upd (upd (upd (gA S 5) (4 * (gI S 4 6)).toNatClampNeg x0) ((4 * (gI S 4 6)) + 1).toNatClampNeg y0) ((4 * (gI S 4 6)) + 2).toNatClampNeg x1)) 5 (upd (upd (upd (upd (gA S 5) (4 * (gI S 4 6)).toNatClampNeg x0) ((4 * (gI S 4 6)) + 1).toNatClampNeg y0) ((4 * (gI S 4 6)) + 2).toNatClampNeg x1) ((4 * (gI S 4 6)) + 3).toNatClampNeg y1)) 6 (upd (gA S 6) (gI S 4 6).toNatClampNeg m)) 7 (upd (gA S 7) (gI S 4 6).toNatClampNeg 0))) (P := vp_in (gI S 4 6) 16 ∧ True) rfl ⟨(vin (by decide) (by grind [fB]) (by grind [fB])), trivial⟩ ?_
        refine fV.if_eq bX6_add_120 (fun c120 => ?_) (fun c120 => ?_)
        · exact absurd c120 (by decide)
        · refine fV.run iX6_add_123_8 oX6_add_123_8 (pc' := 139) (L' := [(0, .ref 4), (1, .int x0), (2, .int y0), (3, .int x1), (4, .int y1), (5, .int m), (6, .int 1)]) (st' := [.int 1, .int (gI S 4 6), .ref 9]) (S' := (wA (wA (wA (wA (wA (wA (wA S 5 (upd (gA S 5) (4 * (gI S 4 6)).toNatClampNeg x0)) 5 (upd (upd (gA S 5) (4 * (gI S 4 6)).toNatClampNeg x0) ((4 * (gI S 4 6)) + 1).toNatClampNeg y0)) 5 (upd (upd (upd (gA S 5) (4 * (gI S 4 6)).toNatClampNeg x0) ((4 * (gI S 4 6)) + 1).toNatClampNeg y0) ((4 * (gI S 4 6)) + 2).toNatClampNeg x1)) 5 (upd (upd (upd (upd (gA S 5) (4 * (gI S 4 6)).toNatClampNeg x0) ((4 * (gI S 4 6)) + 1).toNatClampNeg y0) ((4 * (gI S 4 6)) + 2).toNatClampNeg x1) ((4 * (gI S 4 6)) + 3).toNatClampNeg y1)) 6 (upd (gA S 6) (gI S 4 6).toNatClampNeg m)) 7 (upd (gA S 7) (gI S 4 6).toNatClampNeg 0)) 8 (upd (gA S 8) (gI S 4 6).toNatClampNeg x0))) (P := vp_in (gI S 4 6) 16 ∧ True) rfl ⟨(vin (by decide) (by grind [fB]) (by grind [fB])), trivial⟩ ?_
          refine fV.if_eq bX6_add_139 (fun c139 => ?_) (fun c139 => ?_)
          · exact absurd c139 (by decide)
          · refine fV.run iX6_add_142_2 oX6_add_142_2 (pc' := 145) (L' := [(0, .ref 4), (1, .int x0), (2, .int y0), (3, .int x1), (4, .int y1), (5, .int m), (6, .int 1)]) (st' := [.int y1, .int y0, .int (gI S 4 6), .ref 9]) (S' := (wA (wA (wA (wA (wA (wA (wA S 5 (upd (gA S 5) (4 * (gI S 4 6)).toNatClampNeg x0)) 5 (upd (upd (gA S 5) (4 * (gI S 4 6)).toNatClampNeg x0) ((4 * (gI S 4 6)) + 1).toNatClampNeg y0)) 5 (upd (upd (upd (gA S 5) (4 * (gI S 4 6)).toNatClampNeg x0) ((4 * (gI S 4 6)) + 1).toNatClampNeg y0) ((4 * (gI S 4 6)) + 2).toNatClampNeg x1)) 5 (upd (upd (upd (upd (gA S 5) (4 * (gI S 4 6)).toNatClampNeg x0) ((4 * (gI S 4 6)) + 1).toNatClampNeg y0) ((4 * (gI S 4 6)) + 2).toNatClampNeg x1) ((4 * (gI S 4 6)) + 3).toNatClampNeg y1)) 6 (upd (gA S 6) (gI S 4 6).toNatClampNeg m)) 7 (upd (gA S 7) (gI S 4 6).toNatClampNeg 0)) 8 (upd (gA S 8) (gI S 4 6).toNatClampNeg x0))) rfl trivial ?_
            refine fV.mmin dX6_add_145 lX6_34 (fRoomN (Nat.le_of_ble_eq_true rfl)) ?_
            refine fV.run iX6_add_148_7 oX6_add_148_7 (pc' := 167) (L' := [(0, .ref 4), (1, .int x0), (2, .int y0), (3, .int x1), (4, .int y1), (5, .int m), (6, .int 1)]) (st' := [.int 1, .int (gI S 4 6), .ref 10]) (S' := (wA (wA (wA (wA (wA (wA (wA (wA S 5 (upd (gA S 5) (4 * (gI S 4 6)).toNatClampNeg x0)) 5 (upd (upd (gA S 5) (4 * (gI S 4 6)).toNatClampNeg x0) ((4 * (gI S 4 6)) + 1).toNatClampNeg y0)) 5 (upd (upd (upd (gA S 5) (4 * (gI S 4 6)).toNatClampNeg x0) ((4 * (gI S 4 6)) + 1).toNatClampNeg y0) ((4 * (gI S 4 6)) + 2).toNatClampNeg x1)) 5 (upd (upd (upd (upd (gA S 5) (4 * (gI S 4 6)).toNatClampNeg x0) ((4 * (gI S 4 6)) + 1).toNatClampNeg y0) ((4 * (gI S 4 6)) + 2).toNatClampNeg x1) ((4 * (gI S 4 6)) + 3).toNatClampNeg y1)) 6 (upd (gA S 6) (gI S 4 6).toNatClampNeg m)) 7 (upd (gA S 7) (gI S 4 6).toNatClampNeg 0)) 8 (upd (gA S 8) (gI S 4 6).toNatClampNeg x0)) 9 (upd (gA S 9) (gI S 4 6).toNatClampNeg (if y1 < y0 then y1 else y0)))) (P := vp_in (gI S 4 6) 16 ∧ True) rfl ⟨(vin (by decide) (by grind [fB]) (by grind [fB])), trivial⟩ ?_
            refine fV.if_eq bX6_add_167 (fun c167 => ?_) (fun c167 => ?_)
            · exact absurd c167 (by decide)
            · refine fV.run iX6_add_170_2 oX6_add_170_2 (pc' := 173) (L' := [(0, .ref 4), (1, .int x0), (2, .int y0), (3, .int x1), (4, .int y1), (5, .int m), (6, .int 1)]) (st' := [.int y1, .int y0, .int (gI S 4 6), .ref 10]) (S' := (wA (wA (wA (wA (wA (wA (wA (wA S 5 (upd (gA S 5) (4 * (gI S 4 6)).toNatClampNeg x0)) 5 (upd (upd (gA S 5) (4 * (gI S 4 6)).toNatClampNeg x0) ((4 * (gI S 4 6)) + 1).toNatClampNeg y0)) 5 (upd (upd (upd (gA S 5) (4 * (gI S 4 6)).toNatClampNeg x0) ((4 * (gI S 4 6)) + 1).toNatClampNeg y0) ((4 * (gI S 4 6)) + 2).toNatClampNeg x1)) 5 (upd (upd (upd (upd (gA S 5) (4 * (gI S 4 6)).toNatClampNeg x0) ((4 * (gI S 4 6)) + 1).toNatClampNeg y0) ((4 * (gI S 4 6)) + 2).toNatClampNeg x1) ((4 * (gI S 4 6)) + 3).toNatClampNeg y1)) 6 (upd (gA S 6) (gI S 4 6).toNatClampNeg m)) 7 (upd (gA S 7) (gI S 4 6).toNatClampNeg 0)) 8 (upd (gA S 8) (gI S 4 6).toNatClampNeg x0)) 9 (upd (gA S 9) (gI S 4 6).toNatClampNeg (if y1 < y0 then y1 else y0)))) rfl trivial ?_
              refine fV.mmax dX6_add_173 lX6_40 (fRoomN (Nat.le_of_ble_eq_true rfl)) ?_
              refine fV.run iX6_add_176_12 oX6_add_176_12 (pc' := 201) (L' := [(0, .ref 4), (1, .int x0), (2, .int y0), (3, .int x1), (4, .int y1), (5, .int m), (6, .int 1)]) (st' := [.int (((gI S 4 6) + 1) - 1)]) (S' := (wI (wA (wA (wA (wA (wA (wA (wA (wA (wA S 5 (upd (gA S 5) (4 * (gI S 4 6)).toNatClampNeg x0)) 5 (upd (upd (gA S 5) (4 * (gI S 4 6)).toNatClampNeg x0) ((4 * (gI S 4 6)) + 1).toNatClampNeg y0)) 5 (upd (upd (upd (gA S 5) (4 * (gI S 4 6)).toNatClampNeg x0) ((4 * (gI S 4 6)) + 1).toNatClampNeg y0) ((4 * (gI S 4 6)) + 2).toNatClampNeg x1)) 5 (upd (upd (upd (upd (gA S 5) (4 * (gI S 4 6)).toNatClampNeg x0) ((4 * (gI S 4 6)) + 1).toNatClampNeg y0) ((4 * (gI S 4 6)) + 2).toNatClampNeg x1) ((4 * (gI S 4 6)) + 3).toNatClampNeg y1)) 6 (upd (gA S 6) (gI S 4 6).toNatClampNeg m)) 7 (upd (gA S 7) (gI S 4 6).toNatClampNeg 0)) 8 (upd (gA S 8) (gI S 4 6).toNatClampNeg x0)) 9 (upd (gA S 9) (gI S 4 6).toNatClampNeg (if y1 < y0 then y1 else y0))) 10 (upd (gA S 10) (gI S 4 6).toNatClampNeg (if y0 < y1 then y1 else y0))) 4 6 ((gI S 4 6) + 1))) (P := vp_in (gI S 4 6) 16 ∧ True) rfl ⟨(vin (by decide) (by grind [fB]) (by grind [fB])), trivial⟩ ?_
              exact fV.iret rfl dX6_add_201 (by rw [if_neg (by grind)]; exact ⟨by rw [Int32.add_sub_cancel], rfl, rfl, by simp only [if_pos c81]; rfl, by simp only [if_pos c81]; rfl, by simp only [if_pos c81]; rfl, by simp only [if_pos c81]; rfl⟩)
  · refine fV.run iX6_add_9_1 oX6_add_9_1 (pc' := 12) (L' := [(0, .ref 4), (1, .int x0), (2, .int y0), (3, .int x1), (4, .int y1), (5, .int m)]) (st' := [.int (-1004)]) (S' := S) rfl trivial ?_
    exact fV.iret rfl dX6_add_12 (by rw [if_pos (by grind)]; exact ⟨rfl, rfl⟩)
def iX7_stuff_0_3 : List Instr := [.iload_n 1, .iconst 0, .bipush 100]
theorem oX7_stuff_0_3 : fOkB cX7_stuff 0 iX7_stuff_0_3 = true := by decide +kernel
theorem dX7_stuff_4 : decode cX7_stuff 4 = .ok (.invokestatic 74, 3) := by decide +kernel
theorem bX7_stuff_7 : fBk cX7_stuff 7 (.ifCond .eq) 21 := ⟨14, by decide +kernel, by decide⟩
def iX7_stuff_21_1 : List Instr := [.sipush (-1002)]
theorem oX7_stuff_21_1 : fOkB cX7_stuff 21 iX7_stuff_21_1 = true := by decide +kernel
theorem dX7_stuff_24 : decode cX7_stuff 24 = .ok (.ireturn, 1) := by decide +kernel
def iX7_stuff_10_3 : List Instr := [.iload_n 2, .iconst 0, .sipush 1000]
theorem oX7_stuff_10_3 : fOkB cX7_stuff 10 iX7_stuff_10_3 = true := by decide +kernel
theorem dX7_stuff_15 : decode cX7_stuff 15 = .ok (.invokestatic 74, 3) := by decide +kernel
theorem bX7_stuff_18 : fBk cX7_stuff 18 (.ifCond .ne) 25 := ⟨7, by decide +kernel, by decide⟩
def iX7_stuff_25_4 : List Instr := [.aload_n 0, .getfield 10, .iload_n 1, .iload_n 2]
theorem oX7_stuff_25_4 : fOkB cX7_stuff 25 iX7_stuff_25_4 = true := by decide +kernel
set_option maxRecDepth 100000 in
theorem lX7_78 : Cond.methodLink RX7 78 yX4_add ∈ fTB := fTB_at 326 rfl rfl
theorem dX7_stuff_31 : decode cX7_stuff 31 = .ok (.invokevirtual 78, 3) := by decide +kernel
theorem dX7_stuff_34 : decode cX7_stuff 34 = .ok (.ireturn, 1) := by decide +kernel
set_option maxRecDepth 100000 in
theorem qX7_stuff {G : fG} {d : Nat} {S : fS} (s c : Int32) (h0 : 0 ≤ gI S 1 2) (h8 : gI S 1 2 ≤ 8) : fCtr G (d + 1) mX7_stuff [.ref 0, .int s, .int c] S (qC S (oStuff (hC S) s c)) := by
  refine fCtr.of bXX7_stuff (Nat.le_of_ble_eq_true rfl) rfl ?_
  refine fV.run iX7_stuff_0_3 oX7_stuff_0_3 (pc' := 4) (L' := [(0, .ref 0), (1, .int s), (2, .int c)]) (st' := [.int 100, .int 0, .int s]) (S' := S) rfl trivial ?_
  refine fV.callS (M2 := mX7_isWithin) (d := d) (av := [.int s, .int 0, .int 100]) (rest := []) kX7_isWithin dX7_stuff_4 lX7_74 rfl rfl (Nat.le_of_ble_eq_true rfl) (fRoom (by decide)) ⟨Nat.le_refl _, Nat.le_refl _⟩ (qX7_isWithin _ _ _) ?_
  rintro _ S9 ⟨rfl, h9⟩
  rw [h9]
  clear h9 S9
  refine fV.to (pc' := 7) (L' := [(0, .ref 0), (1, .int s), (2, .int c)]) (st' := [.int (fB (decide (0 ≤ s ∧ s ≤ 100)))]) (S' := S) rfl rfl rfl rfl ?_
  refine fV.if_eq bX7_stuff_7 (fun c7 => ?_) (fun c7 => ?_)
  · refine fV.run iX7_stuff_21_1 oX7_stuff_21_1 (pc' := 24) (L' := [(0, .ref 0), (1, .int s), (2, .int c)]) (st' := [.int (-1002)]) (S' := S) rfl trivial ?_
    exact fV.iret rfl dX7_stuff_24 (by unfold oStuff; rw [if_neg (by grind [fB, hC])]; exact ⟨rfl, rfl, rfl, fun _ z => z⟩)
  · refine fV.run iX7_stuff_10_3 oX7_stuff_10_3 (pc' := 15) (L' := [(0, .ref 0), (1, .int s), (2, .int c)]) (st' := [.int 1000, .int 0, .int c]) (S' := S) rfl trivial ?_
    refine fV.callS (M2 := mX7_isWithin) (d := d) (av := [.int c, .int 0, .int 1000]) (rest := []) kX7_isWithin dX7_stuff_15 lX7_74 rfl rfl (Nat.le_of_ble_eq_true rfl) (fRoom (by decide)) ⟨Nat.le_refl _, Nat.le_refl _⟩ (qX7_isWithin _ _ _) ?_
    rintro _ S9 ⟨rfl, h9⟩
    rw [h9]
    clear h9 S9
    refine fV.to (pc' := 18) (L' := [(0, .ref 0), (1, .int s), (2, .int c)]) (st' := [.int (fB (decide (0 ≤ c ∧ c ≤ 1000)))]) (S' := S) rfl rfl rfl rfl ?_
    refine fV.if_ne bX7_stuff_18 (fun c18 => ?_) (fun c18 => ?_)
    · refine fV.run iX7_stuff_25_4 oX7_stuff_25_4 (pc' := 31) (L' := [(0, .ref 0), (1, .int s), (2, .int c)]) (st' := [.int c, .int s, .ref 1]) (S' := S) rfl trivial ?_
      refine fV.callV (M2 := mX4_add) (d := d) (o := 1) (av := [.int s, .int c]) (rest := []) kX4_add dX7_stuff_31 lX7_78 rfl rfl rfl (Nat.le_of_ble_eq_true rfl) (fRoom (by decide)) ⟨Nat.le_refl _, Nat.le_refl _⟩ (qX4_add _ _ h0 h8) ?_
      rintro r9 S9 h9
      by_cases hf : (gI S 1 2) = 8
      · rw [if_pos hf] at h9
        obtain ⟨rfl, h9⟩ := h9
        rw [h9]
        clear h9 S9
        refine fV.to (pc' := 34) (L' := [(0, .ref 0), (1, .int s), (2, .int c)]) (st' := [.int (-1004)]) (S' := S) rfl rfl rfl rfl ?_
        exact fV.iret rfl dX7_stuff_34 (by unfold oStuff; rw [if_pos (by grind [fB, hC]), if_pos (by grind [fB, hC])]; exact ⟨rfl, rfl, rfl, fun _ z => z⟩)
      · rw [if_neg hf] at h9
        obtain ⟨rfl, h9⟩ := h9
        rw [h9]
        clear h9 S9
        refine fV.to (pc' := 34) (L' := [(0, .ref 0), (1, .int s), (2, .int c)]) (st' := [.int (gI S 1 2)]) (S' := (wI (wA (wA S 2 (upd (gA S 2) (gI S 1 2).toNatClampNeg s)) 3 (upd (gA S 3) (gI S 1 2).toNatClampNeg c)) 1 2 ((gI S 1 2) + 1))) rfl rfl rfl rfl ?_
        exact fV.iret rfl dX7_stuff_34 (by unfold oStuff; rw [if_pos (by grind [fB, hC]), if_neg (by grind [fB, hC])]; exact ⟨rfl, rfl, rfl, fun _ z => z⟩)
    · refine fV.run iX7_stuff_21_1 oX7_stuff_21_1 (pc' := 24) (L' := [(0, .ref 0), (1, .int s), (2, .int c)]) (st' := [.int (-1002)]) (S' := S) rfl trivial ?_
      exact fV.iret rfl dX7_stuff_24 (by unfold oStuff; rw [if_neg (by grind [fB, hC])]; exact ⟨rfl, rfl, rfl, fun _ z => z⟩)
def iX7_cover_0_3 : List Instr := [.aload_n 0, .getfield 19, .iload_n 1]
theorem oX7_cover_0_3 : fOkB cX7_cover 0 iX7_cover_0_3 = true := by decide +kernel
theorem dX7_cover_5 : decode cX7_cover 5 = .ok (.invokevirtual 93, 3) := by decide +kernel
theorem bX7_cover_8 : fBk cX7_cover 8 (.ifCond .eq) 22 := ⟨14, by decide +kernel, by decide⟩
def iX7_cover_22_1 : List Instr := [.sipush (-1001)]
theorem oX7_cover_22_1 : fOkB cX7_cover 22 iX7_cover_22_1 = true := by decide +kernel
theorem dX7_cover_25 : decode cX7_cover 25 = .ok (.ireturn, 1) := by decide +kernel
def iX7_cover_11_3 : List Instr := [.aload_n 0, .getfield 10, .iload_n 2]
theorem oX7_cover_11_3 : fOkB cX7_cover 11 iX7_cover_11_3 = true := by decide +kernel
set_option maxRecDepth 100000 in
theorem lX7_82 : Cond.methodLink RX7 82 yX4_has ∈ fTB := fTB_at 334 rfl rfl
theorem dX7_cover_16 : decode cX7_cover 16 = .ok (.invokevirtual 82, 3) := by decide +kernel
theorem bX7_cover_19 : fBk cX7_cover 19 (.ifCond .ne) 26 := ⟨7, by decide +kernel, by decide⟩
def iX7_cover_26_13 : List Instr := [.aload_n 0, .getfield 19, .getfield 94, .iload_n 1, .iaload, .istore_n 3, .aload_n 0, .getfield 19, .getfield 94, .iload_n 1, .iload_n 2, .iastore, .iload_n 3]
theorem oX7_cover_26_13 : fOkB cX7_cover 26 iX7_cover_26_13 = true := by decide +kernel
theorem dX7_cover_47 : decode cX7_cover 47 = .ok (.ireturn, 1) := by decide +kernel
set_option maxRecDepth 100000 in
theorem qX7_cover {G : fG} {d : Nat} {S : fS} (w m : Int32) (h0 : 0 ≤ gI S 4 6) (h8 : gI S 4 6 ≤ 16) : fCtr G (d + 1) mX7_cover [.ref 0, .int w, .int m] S (qC S (oCover (hC S) w m)) := by
  refine fCtr.of bXX7_cover (Nat.le_of_ble_eq_true rfl) rfl ?_
  refine fV.run iX7_cover_0_3 oX7_cover_0_3 (pc' := 5) (L' := [(0, .ref 0), (1, .int w), (2, .int m)]) (st' := [.int w, .ref 4]) (S' := S) rfl trivial ?_
  refine fV.callV (M2 := mX6_has) (d := d) (o := 4) (av := [.int w]) (rest := []) kX6_has dX7_cover_5 lX7_93 rfl rfl rfl (Nat.le_of_ble_eq_true rfl) (fRoom (by decide)) ⟨Nat.le_refl _, Nat.le_refl _⟩ (qX6_has_4 _) ?_
  rintro _ S9 ⟨rfl, h9⟩
  rw [h9]
  clear h9 S9
  refine fV.to (pc' := 8) (L' := [(0, .ref 0), (1, .int w), (2, .int m)]) (st' := [.int (fB (decide (0 ≤ w ∧ w < (gI S 4 6))))]) (S' := S) rfl rfl rfl rfl ?_
  refine fV.if_eq bX7_cover_8 (fun c8 => ?_) (fun c8 => ?_)
  · refine fV.run iX7_cover_22_1 oX7_cover_22_1 (pc' := 25) (L' := [(0, .ref 0), (1, .int w), (2, .int m)]) (st' := [.int (-1001)]) (S' := S) rfl trivial ?_
    exact fV.iret rfl dX7_cover_25 (by unfold oCover; rw [if_neg (by grind [fB, hC])]; exact ⟨rfl, rfl, rfl, fun _ z => z⟩)
  · refine fV.run iX7_cover_11_3 oX7_cover_11_3 (pc' := 16) (L' := [(0, .ref 0), (1, .int w), (2, .int m)]) (st' := [.int m, .ref 1]) (S' := S) rfl trivial ?_
    refine fV.callV (M2 := mX4_has) (d := d) (o := 1) (av := [.int m]) (rest := []) kX4_has dX7_cover_16 lX7_82 rfl rfl rfl (Nat.le_of_ble_eq_true rfl) (fRoom (by decide)) ⟨Nat.le_refl _, Nat.le_refl _⟩ (qX4_has_1 _) ?_
    rintro _ S9 ⟨rfl, h9⟩
    rw [h9]
    clear h9 S9
    refine fV.to (pc' := 19) (L' := [(0, .ref 0), (1, .int w), (2, .int m)]) (st' := [.int (fB (decide (0 ≤ m ∧ m < (gI S 1 2))))]) (S' := S) rfl rfl rfl rfl ?_
    refine fV.if_ne bX7_cover_19 (fun c19 => ?_) (fun c19 => ?_)
    · refine fV.run iX7_cover_26_13 oX7_cover_26_13 (pc' := 47) (L' := [(0, .ref 0), (1, .int w), (2, .int m), (3, .int (gA S 6 w.toNatClampNeg))]) (st' := [.int (gA S 6 w.toNatClampNeg)]) (S' := (wA S 6 (upd (gA S 6) w.toNatClampNeg m))) (P := vp_in w 16 ∧ vp_in w 16 ∧ True) rfl ⟨(vin (by decide) (by grind [fB]) (by grind [fB])), (vin (by decide) (by grind [fB]) (by grind [fB])), trivial⟩ ?_
      exact fV.iret rfl dX7_cover_47 (by unfold oCover; rw [if_pos (by grind [fB, hC])]; exact ⟨rfl, rfl, rfl, fun _ z => z⟩)
    · refine fV.run iX7_cover_22_1 oX7_cover_22_1 (pc' := 25) (L' := [(0, .ref 0), (1, .int w), (2, .int m)]) (st' := [.int (-1001)]) (S' := S) rfl trivial ?_
      exact fV.iret rfl dX7_cover_25 (by unfold oCover; rw [if_neg (by grind [fB, hC])]; exact ⟨rfl, rfl, rfl, fun _ z => z⟩)
def iX7_back_0_3 : List Instr := [.aload_n 0, .getfield 19, .getfield 97]
theorem oX7_back_0_3 : fOkB cX7_back 0 iX7_back_0_3 = true := by decide +kernel
theorem bX7_back_7 : fBk cX7_back 7 (.ifCond .ne) 14 := ⟨7, by decide +kernel, by decide⟩
def iX7_back_14_10 : List Instr := [.aload_n 0, .getfield 19, .dup, .getfield 97, .iconst 1, .isub, .putfield 97, .aload_n 0, .getfield 19, .getfield 97]
theorem oX7_back_14_10 : fOkB cX7_back 14 iX7_back_14_10 = true := by decide +kernel
theorem dX7_back_34 : decode cX7_back 34 = .ok (.ireturn, 1) := by decide +kernel
def iX7_back_10_1 : List Instr := [.sipush (-1003)]
theorem oX7_back_10_1 : fOkB cX7_back 10 iX7_back_10_1 = true := by decide +kernel
theorem dX7_back_13 : decode cX7_back 13 = .ok (.ireturn, 1) := by decide +kernel
set_option maxRecDepth 100000 in
theorem qX7_back {G : fG} {d : Nat} {S : fS}   : fCtr G (d) mX7_back [.ref 0] S (qC S (oBack (hC S))) := by
  refine fCtr.of bXX7_back (Nat.le_of_ble_eq_true rfl) rfl ?_
  refine fV.run iX7_back_0_3 oX7_back_0_3 (pc' := 7) (L' := [(0, .ref 0)]) (st' := [.int (gI S 4 6)]) (S' := S) rfl trivial ?_
  refine fV.if_ne bX7_back_7 (fun c7 => ?_) (fun c7 => ?_)
  · refine fV.run iX7_back_14_10 oX7_back_14_10 (pc' := 34) (L' := [(0, .ref 0)]) (st' := [.int ((gI S 4 6) - 1)]) (S' := (wI S 4 6 ((gI S 4 6) - 1))) rfl trivial ?_
    exact fV.iret rfl dX7_back_34 (by unfold oBack; rw [if_neg (by grind [fB, hC])]; exact ⟨rfl, rfl, rfl, fun _ z => z⟩)
  · refine fV.run iX7_back_10_1 oX7_back_10_1 (pc' := 13) (L' := [(0, .ref 0)]) (st' := [.int (-1003)]) (S' := S) rfl trivial ?_
    exact fV.iret rfl dX7_back_13 (by unfold oBack; rw [if_pos (by grind [fB, hC])]; exact ⟨rfl, rfl, rfl, fun _ z => z⟩)
def iX7_source_0_2 : List Instr := [.iload_n 1, .iload_n 2]
theorem oX7_source_0_2 : fOkB cX7_source 0 iX7_source_0_2 = true := by decide +kernel
set_option maxRecDepth 100000 in
theorem lX7_86 : Cond.methodLink RX7 86 yX7_isPoint ∈ fTB := fTB_at 338 rfl rfl
theorem dX7_source_2 : decode cX7_source 2 = .ok (.invokestatic 86, 3) := by decide +kernel
theorem bX7_source_5 : fBk cX7_source 5 (.ifCond .eq) 19 := ⟨14, by decide +kernel, by decide⟩
def iX7_source_19_1 : List Instr := [.sipush (-1002)]
theorem oX7_source_19_1 : fOkB cX7_source 19 iX7_source_19_1 = true := by decide +kernel
theorem dX7_source_22 : decode cX7_source 22 = .ok (.ireturn, 1) := by decide +kernel
def iX7_source_8_3 : List Instr := [.iload_n 3, .iconst 1, .sipush 1000]
theorem oX7_source_8_3 : fOkB cX7_source 8 iX7_source_8_3 = true := by decide +kernel
theorem dX7_source_13 : decode cX7_source 13 = .ok (.invokestatic 74, 3) := by decide +kernel
theorem bX7_source_16 : fBk cX7_source 16 (.ifCond .ne) 23 := ⟨7, by decide +kernel, by decide⟩
def iX7_source_23_4 : List Instr := [.aload_n 0, .getfield 28, .iload_n 1, .iload_n 2]
theorem oX7_source_23_4 : fOkB cX7_source 23 iX7_source_23_4 = true := by decide +kernel
set_option maxRecDepth 100000 in
theorem lX7_100 : Cond.methodLink RX7 100 yX2_add ∈ fTB := fTB_at 365 rfl rfl
theorem dX7_source_29 : decode cX7_source 29 = .ok (.invokevirtual 100, 3) := by decide +kernel
def iX7_source_32_4 : List Instr := [.istore 4, .aload_n 0, .getfield 28, .iload 4]
theorem oX7_source_32_4 : fOkB cX7_source 32 iX7_source_32_4 = true := by decide +kernel
theorem dX7_source_40 : decode cX7_source 40 = .ok (.invokevirtual 101, 3) := by decide +kernel
theorem bX7_source_43 : fBk cX7_source 43 (.ifCond .eq) 54 := ⟨11, by decide +kernel, by decide⟩
def iX7_source_54_1 : List Instr := [.iload 4]
theorem oX7_source_54_1 : fOkB cX7_source 54 iX7_source_54_1 = true := by decide +kernel
theorem dX7_source_56 : decode cX7_source 56 = .ok (.ireturn, 1) := by decide +kernel
def iX7_source_46_6 : List Instr := [.aload_n 0, .getfield 35, .iload 4, .iload_n 3, .iastore, .iload 4]
theorem oX7_source_46_6 : fOkB cX7_source 46 iX7_source_46_6 = true := by decide +kernel
set_option maxRecDepth 100000 in
theorem qX7_source {G : fG} {d : Nat} {S : fS} (x y p : Int32) (h0 : 0 ≤ gI S 11 2) (h8 : gI S 11 2 ≤ 4) : fCtr G (d + 2) mX7_source [.ref 0, .int x, .int y, .int p] S (qC S (oSource (hC S) x y p)) := by
  refine fCtr.of bXX7_source (Nat.le_of_ble_eq_true rfl) rfl ?_
  refine fV.run iX7_source_0_2 oX7_source_0_2 (pc' := 2) (L' := [(0, .ref 0), (1, .int x), (2, .int y), (3, .int p)]) (st' := [.int y, .int x]) (S' := S) rfl trivial ?_
  refine fV.callS (M2 := mX7_isPoint) (d := d + 1) (av := [.int x, .int y]) (rest := []) kX7_isPoint dX7_source_2 lX7_86 rfl rfl (Nat.le_of_ble_eq_true rfl) (fRoom (by decide)) ⟨Nat.le_refl _, Nat.le_refl _⟩ (qX7_isPoint _ _) ?_
  rintro _ S9 ⟨rfl, h9⟩
  rw [h9]
  clear h9 S9
  refine fV.to (pc' := 5) (L' := [(0, .ref 0), (1, .int x), (2, .int y), (3, .int p)]) (st' := [.int (fB (decide ((0 ≤ x ∧ x ≤ 1000) ∧ (0 ≤ y ∧ y ≤ 1000))))]) (S' := S) rfl rfl rfl rfl ?_
  refine fV.if_eq bX7_source_5 (fun c5 => ?_) (fun c5 => ?_)
  · refine fV.run iX7_source_19_1 oX7_source_19_1 (pc' := 22) (L' := [(0, .ref 0), (1, .int x), (2, .int y), (3, .int p)]) (st' := [.int (-1002)]) (S' := S) rfl trivial ?_
    exact fV.iret rfl dX7_source_22 (by unfold oSource; rw [if_neg (by grind [fB, hC])]; exact ⟨rfl, rfl, rfl, fun _ z => z⟩)
  · refine fV.run iX7_source_8_3 oX7_source_8_3 (pc' := 13) (L' := [(0, .ref 0), (1, .int x), (2, .int y), (3, .int p)]) (st' := [.int 1000, .int 1, .int p]) (S' := S) rfl trivial ?_
    refine fV.callS (M2 := mX7_isWithin) (d := d + 1) (av := [.int p, .int 1, .int 1000]) (rest := []) kX7_isWithin dX7_source_13 lX7_74 rfl rfl (Nat.le_of_ble_eq_true rfl) (fRoom (by decide)) ⟨Nat.le_refl _, Nat.le_refl _⟩ (qX7_isWithin _ _ _) ?_
    rintro _ S9 ⟨rfl, h9⟩
    rw [h9]
    clear h9 S9
    refine fV.to (pc' := 16) (L' := [(0, .ref 0), (1, .int x), (2, .int y), (3, .int p)]) (st' := [.int (fB (decide (1 ≤ p ∧ p ≤ 1000)))]) (S' := S) rfl rfl rfl rfl ?_
    refine fV.if_ne bX7_source_16 (fun c16 => ?_) (fun c16 => ?_)
    · refine fV.run iX7_source_23_4 oX7_source_23_4 (pc' := 29) (L' := [(0, .ref 0), (1, .int x), (2, .int y), (3, .int p)]) (st' := [.int y, .int x, .ref 11]) (S' := S) rfl trivial ?_
      refine fV.callV (M2 := mX2_add) (d := d + 1) (o := 11) (av := [.int x, .int y]) (rest := []) kX2_add dX7_source_29 lX7_100 rfl rfl rfl (Nat.le_of_ble_eq_true rfl) (fRoom (by decide)) ⟨Nat.le_refl _, Nat.le_refl _⟩ (qX2_add_11 _ _ h0 h8) ?_
      rintro r9 S9 h9
      by_cases hf : (gI S 11 2) = 4
      · rw [if_pos hf] at h9
        obtain ⟨rfl, h9⟩ := h9
        rw [h9]
        clear h9 S9
        refine fV.to (pc' := 32) (L' := [(0, .ref 0), (1, .int x), (2, .int y), (3, .int p)]) (st' := [.int (-1004)]) (S' := S) rfl rfl rfl rfl ?_
        refine fV.run iX7_source_32_4 oX7_source_32_4 (pc' := 40) (L' := [(0, .ref 0), (1, .int x), (2, .int y), (3, .int p), (4, .int (-1004))]) (st' := [.int (-1004), .ref 11]) (S' := S) rfl trivial ?_
        refine fV.callV (M2 := mX2_has) (d := d + 1) (o := 11) (av := [.int (-1004)]) (rest := []) kX2_has dX7_source_40 lX7_101 rfl rfl rfl (Nat.le_of_ble_eq_true rfl) (fRoom (by decide)) ⟨Nat.le_refl _, Nat.le_refl _⟩ (qX2_has_11 _) ?_
        rintro _ S9 ⟨rfl, h9⟩
        rw [h9]
        clear h9 S9
        refine fV.to (pc' := 43) (L' := [(0, .ref 0), (1, .int x), (2, .int y), (3, .int p), (4, .int (-1004))]) (st' := [.int (fB (decide (0 ≤ (-1004) ∧ (-1004) < (gI S 11 2))))]) (S' := S) rfl rfl rfl rfl ?_
        refine fV.if_eq bX7_source_43 (fun c43 => ?_) (fun c43 => ?_)
        · refine fV.run iX7_source_54_1 oX7_source_54_1 (pc' := 56) (L' := [(0, .ref 0), (1, .int x), (2, .int y), (3, .int p), (4, .int (-1004))]) (st' := [.int (-1004)]) (S' := S) rfl trivial ?_
          exact fV.iret rfl dX7_source_56 (by unfold oSource; rw [if_pos (by grind [fB, hC]), if_pos (by grind [fB, hC])]; exact ⟨rfl, rfl, rfl, fun _ z => z⟩)
        · exact absurd c43 (by grind [fB])
      · rw [if_neg hf] at h9
        obtain ⟨rfl, h9⟩ := h9
        rw [h9]
        clear h9 S9
        refine fV.to (pc' := 32) (L' := [(0, .ref 0), (1, .int x), (2, .int y), (3, .int p)]) (st' := [.int (gI S 11 2)]) (S' := (wI (wA (wA S 12 (upd (gA S 12) (gI S 11 2).toNatClampNeg x)) 13 (upd (gA S 13) (gI S 11 2).toNatClampNeg y)) 11 2 ((gI S 11 2) + 1))) rfl rfl rfl rfl ?_
        refine fV.run iX7_source_32_4 oX7_source_32_4 (pc' := 40) (L' := [(0, .ref 0), (1, .int x), (2, .int y), (3, .int p), (4, .int (gI S 11 2))]) (st' := [.int (gI S 11 2), .ref 11]) (S' := (wI (wA (wA S 12 (upd (gA S 12) (gI S 11 2).toNatClampNeg x)) 13 (upd (gA S 13) (gI S 11 2).toNatClampNeg y)) 11 2 ((gI S 11 2) + 1))) rfl trivial ?_
        refine fV.callV (M2 := mX2_has) (d := d + 1) (o := 11) (av := [.int (gI S 11 2)]) (rest := []) kX2_has dX7_source_40 lX7_101 rfl rfl rfl (Nat.le_of_ble_eq_true rfl) (fRoom (by decide)) ⟨Nat.le_refl _, Nat.le_refl _⟩ (qX2_has_11 _) ?_
        rintro _ S9 ⟨rfl, h9⟩
        rw [h9]
        clear h9 S9
        refine fV.to (pc' := 43) (L' := [(0, .ref 0), (1, .int x), (2, .int y), (3, .int p), (4, .int (gI S 11 2))]) (st' := [.int (fB (decide (0 ≤ (gI S 11 2) ∧ (gI S 11 2) < (gI S 11 2) + 1)))]) (S' := (wI (wA (wA S 12 (upd (gA S 12) (gI S 11 2).toNatClampNeg x)) 13 (upd (gA S 13) (gI S 11 2).toNatClampNeg y)) 11 2 ((gI S 11 2) + 1))) rfl rfl rfl rfl ?_
        refine fV.if_eq bX7_source_43 (fun c43 => ?_) (fun c43 => ?_)
        · exact absurd c43 (by grind [fB])
        · refine fV.run iX7_source_46_6 oX7_source_46_6 (pc' := 56) (L' := [(0, .ref 0), (1, .int x), (2, .int y), (3, .int p), (4, .int (gI S 11 2))]) (st' := [.int (gI S 11 2)]) (S' := (wA (wI (wA (wA S 12 (upd (gA S 12) (gI S 11 2).toNatClampNeg x)) 13 (upd (gA S 13) (gI S 11 2).toNatClampNeg y)) 11 2 ((gI S 11 2) + 1)) 17 (upd (gA S 17) (gI S 11 2).toNatClampNeg p))) (P := vp_in (gI S 11 2) 4 ∧ True) rfl ⟨(vin (by decide) (by grind [fB]) (by grind [fB])), trivial⟩ ?_
          exact fV.iret rfl dX7_source_56 (by unfold oSource; rw [if_pos (by grind [fB, hC]), if_neg (by grind [fB, hC])]; exact ⟨rfl, rfl, rfl, fun _ z => z⟩)
    · refine fV.run iX7_source_19_1 oX7_source_19_1 (pc' := 22) (L' := [(0, .ref 0), (1, .int x), (2, .int y), (3, .int p)]) (st' := [.int (-1002)]) (S' := S) rfl trivial ?_
      exact fV.iret rfl dX7_source_22 (by unfold oSource; rw [if_neg (by grind [fB, hC])]; exact ⟨rfl, rfl, rfl, fun _ z => z⟩)
def iX7_seat_0_2 : List Instr := [.iload_n 1, .iload_n 2]
theorem oX7_seat_0_2 : fOkB cX7_seat 0 iX7_seat_0_2 = true := by decide +kernel
theorem dX7_seat_2 : decode cX7_seat 2 = .ok (.invokestatic 86, 3) := by decide +kernel
theorem bX7_seat_5 : fBk cX7_seat 5 (.ifCond .ne) 12 := ⟨7, by decide +kernel, by decide⟩
def iX7_seat_12_4 : List Instr := [.aload_n 0, .getfield 32, .iload_n 1, .iload_n 2]
theorem oX7_seat_12_4 : fOkB cX7_seat 12 iX7_seat_12_4 = true := by decide +kernel
theorem dX7_seat_18 : decode cX7_seat 18 = .ok (.invokevirtual 100, 3) := by decide +kernel
theorem dX7_seat_21 : decode cX7_seat 21 = .ok (.ireturn, 1) := by decide +kernel
def iX7_seat_8_1 : List Instr := [.sipush (-1002)]
theorem oX7_seat_8_1 : fOkB cX7_seat 8 iX7_seat_8_1 = true := by decide +kernel
theorem dX7_seat_11 : decode cX7_seat 11 = .ok (.ireturn, 1) := by decide +kernel
set_option maxRecDepth 100000 in
theorem qX7_seat {G : fG} {d : Nat} {S : fS} (x y : Int32) (h0 : 0 ≤ gI S 14 2) (h8 : gI S 14 2 ≤ 8) : fCtr G (d + 2) mX7_seat [.ref 0, .int x, .int y] S (qC S (oSeat (hC S) x y)) := by
  refine fCtr.of bXX7_seat (Nat.le_of_ble_eq_true rfl) rfl ?_
  refine fV.run iX7_seat_0_2 oX7_seat_0_2 (pc' := 2) (L' := [(0, .ref 0), (1, .int x), (2, .int y)]) (st' := [.int y, .int x]) (S' := S) rfl trivial ?_
  refine fV.callS (M2 := mX7_isPoint) (d := d + 1) (av := [.int x, .int y]) (rest := []) kX7_isPoint dX7_seat_2 lX7_86 rfl rfl (Nat.le_of_ble_eq_true rfl) (fRoom (by decide)) ⟨Nat.le_refl _, Nat.le_refl _⟩ (qX7_isPoint _ _) ?_
  rintro _ S9 ⟨rfl, h9⟩
  rw [h9]
  clear h9 S9
  refine fV.to (pc' := 5) (L' := [(0, .ref 0), (1, .int x), (2, .int y)]) (st' := [.int (fB (decide ((0 ≤ x ∧ x ≤ 1000) ∧ (0 ≤ y ∧ y ≤ 1000))))]) (S' := S) rfl rfl rfl rfl ?_
  refine fV.if_ne bX7_seat_5 (fun c5 => ?_) (fun c5 => ?_)
  · refine fV.run iX7_seat_12_4 oX7_seat_12_4 (pc' := 18) (L' := [(0, .ref 0), (1, .int x), (2, .int y)]) (st' := [.int y, .int x, .ref 14]) (S' := S) rfl trivial ?_
    refine fV.callV (M2 := mX2_add) (d := d + 1) (o := 14) (av := [.int x, .int y]) (rest := []) kX2_add dX7_seat_18 lX7_100 rfl rfl rfl (Nat.le_of_ble_eq_true rfl) (fRoom (by decide)) ⟨Nat.le_refl _, Nat.le_refl _⟩ (qX2_add_14 _ _ h0 h8) ?_
    rintro r9 S9 h9
    by_cases hf : (gI S 14 2) = 8
    · rw [if_pos hf] at h9
      obtain ⟨rfl, h9⟩ := h9
      rw [h9]
      clear h9 S9
      refine fV.to (pc' := 21) (L' := [(0, .ref 0), (1, .int x), (2, .int y)]) (st' := [.int (-1004)]) (S' := S) rfl rfl rfl rfl ?_
      exact fV.iret rfl dX7_seat_21 (by unfold oSeat; rw [if_pos (by grind [fB, hC]), if_pos (by grind [fB, hC])]; exact ⟨rfl, rfl, rfl, fun _ z => z⟩)
    · rw [if_neg hf] at h9
      obtain ⟨rfl, h9⟩ := h9
      rw [h9]
      clear h9 S9
      refine fV.to (pc' := 21) (L' := [(0, .ref 0), (1, .int x), (2, .int y)]) (st' := [.int (gI S 14 2)]) (S' := (wI (wA (wA S 15 (upd (gA S 15) (gI S 14 2).toNatClampNeg x)) 16 (upd (gA S 16) (gI S 14 2).toNatClampNeg y)) 14 2 ((gI S 14 2) + 1))) rfl rfl rfl rfl ?_
      exact fV.iret rfl dX7_seat_21 (by unfold oSeat; rw [if_pos (by grind [fB, hC]), if_neg (by grind [fB, hC])]; exact ⟨rfl, rfl, rfl, fun _ z => z⟩)
  · refine fV.run iX7_seat_8_1 oX7_seat_8_1 (pc' := 11) (L' := [(0, .ref 0), (1, .int x), (2, .int y)]) (st' := [.int (-1002)]) (S' := S) rfl trivial ?_
    exact fV.iret rfl dX7_seat_11 (by unfold oSeat; rw [if_neg (by grind [fB, hC])]; exact ⟨rfl, rfl, rfl, fun _ z => z⟩)
def iX7_wall_0_3 : List Instr := [.aload_n 0, .getfield 10, .iload 5]
theorem oX7_wall_0_3 : fOkB cX7_wall 0 iX7_wall_0_3 = true := by decide +kernel
theorem dX7_wall_6 : decode cX7_wall 6 = .ok (.invokevirtual 82, 3) := by decide +kernel
theorem bX7_wall_9 : fBk cX7_wall 9 (.ifCond .ne) 16 := ⟨7, by decide +kernel, by decide⟩
def iX7_wall_16_2 : List Instr := [.iload_n 1, .iload_n 2]
theorem oX7_wall_16_2 : fOkB cX7_wall 16 iX7_wall_16_2 = true := by decide +kernel
theorem dX7_wall_18 : decode cX7_wall 18 = .ok (.invokestatic 86, 3) := by decide +kernel
theorem bX7_wall_21 : fBk cX7_wall 21 (.ifCond .eq) 33 := ⟨12, by decide +kernel, by decide⟩
def iX7_wall_33_1 : List Instr := [.sipush (-1002)]
theorem oX7_wall_33_1 : fOkB cX7_wall 33 iX7_wall_33_1 = true := by decide +kernel
theorem dX7_wall_36 : decode cX7_wall 36 = .ok (.ireturn, 1) := by decide +kernel
def iX7_wall_24_2 : List Instr := [.iload_n 3, .iload 4]
theorem oX7_wall_24_2 : fOkB cX7_wall 24 iX7_wall_24_2 = true := by decide +kernel
theorem dX7_wall_27 : decode cX7_wall 27 = .ok (.invokestatic 86, 3) := by decide +kernel
theorem bX7_wall_30 : fBk cX7_wall 30 (.ifCond .ne) 37 := ⟨7, by decide +kernel, by decide⟩
def iX7_wall_37_2 : List Instr := [.iload_n 1, .iload_n 3]
theorem oX7_wall_37_2 : fOkB cX7_wall 37 iX7_wall_37_2 = true := by decide +kernel
theorem bX7_wall_39 : fBk cX7_wall 39 (.if_icmp .ne) 46 := ⟨7, by decide +kernel, by decide⟩
def iX7_wall_46_4 : List Instr := [.iconst 0, .istore 6, .iload_n 2, .iload 4]
theorem oX7_wall_46_4 : fOkB cX7_wall 46 iX7_wall_46_4 = true := by decide +kernel
theorem bX7_wall_52 : fBk cX7_wall 52 (.if_icmp .ne) 59 := ⟨7, by decide +kernel, by decide⟩
def iX7_wall_59_4 : List Instr := [.iconst 0, .istore 7, .iload 6, .iload 7]
theorem oX7_wall_59_4 : fOkB cX7_wall 59 iX7_wall_59_4 = true := by decide +kernel
theorem bX7_wall_66 : fBk cX7_wall 66 (.if_icmp .ne) 73 := ⟨7, by decide +kernel, by decide⟩
def iX7_wall_69_1 : List Instr := [.sipush (-1002)]
theorem oX7_wall_69_1 : fOkB cX7_wall 69 iX7_wall_69_1 = true := by decide +kernel
theorem dX7_wall_72 : decode cX7_wall 72 = .ok (.ireturn, 1) := by decide +kernel
def iX7_wall_55_5 : List Instr := [.iconst 1, .goto 4, .istore 7, .iload 6, .iload 7]
theorem oX7_wall_55_5 : fOkB cX7_wall 55 iX7_wall_55_5 = true := by decide +kernel
def iX7_wall_73_7 : List Instr := [.aload_n 0, .getfield 19, .iload_n 1, .iload_n 2, .iload_n 3, .iload 4, .iload 5]
theorem oX7_wall_73_7 : fOkB cX7_wall 73 iX7_wall_73_7 = true := by decide +kernel
set_option maxRecDepth 100000 in
theorem lX7_90 : Cond.methodLink RX7 90 yX6_add ∈ fTB := fTB_at 341 rfl rfl
theorem dX7_wall_84 : decode cX7_wall 84 = .ok (.invokevirtual 90, 3) := by decide +kernel
theorem dX7_wall_87 : decode cX7_wall 87 = .ok (.ireturn, 1) := by decide +kernel
def iX7_wall_42_5 : List Instr := [.iconst 1, .goto 4, .istore 6, .iload_n 2, .iload 4]
theorem oX7_wall_42_5 : fOkB cX7_wall 42 iX7_wall_42_5 = true := by decide +kernel
def iX7_wall_12_1 : List Instr := [.sipush (-1001)]
theorem oX7_wall_12_1 : fOkB cX7_wall 12 iX7_wall_12_1 = true := by decide +kernel
theorem dX7_wall_15 : decode cX7_wall 15 = .ok (.ireturn, 1) := by decide +kernel
set_option maxRecDepth 100000 in
theorem qX7_wall {G : fG} {d : Nat} {S : fS} (x0 y0 x1 y1 m : Int32) (h0 : 0 ≤ gI S 4 6) (h8 : gI S 4 6 ≤ 16) : fCtr G (d + 2) mX7_wall [.ref 0, .int x0, .int y0, .int x1, .int y1, .int m] S (fun r S' => r = some (.int (oWall (hC S) x0 y0 x1 y1 m).1) ∧ hC S' = (oWall (hC S) x0 y0 x1 y1 m).2 ∧ S'.2 = S.2 ∧ ∀ b, gI S 4 6 = nI b → b < 1000 → hGeo S b → (S' = S ∨ (gI S' 4 6 = nI (b + 1) ∧ hGeo S' (b + 1)))) := by
  refine fCtr.of bXX7_wall (Nat.le_of_ble_eq_true rfl) rfl ?_
  refine fV.run iX7_wall_0_3 oX7_wall_0_3 (pc' := 6) (L' := [(0, .ref 0), (1, .int x0), (2, .int y0), (3, .int x1), (4, .int y1), (5, .int m)]) (st' := [.int m, .ref 1]) (S' := S) rfl trivial ?_
  refine fV.callV (M2 := mX4_has) (d := d + 1) (o := 1) (av := [.int m]) (rest := []) kX4_has dX7_wall_6 lX7_82 rfl rfl rfl (Nat.le_of_ble_eq_true rfl) (fRoom (by decide)) ⟨Nat.le_refl _, Nat.le_refl _⟩ (qX4_has_1 _) ?_
  rintro _ S9 ⟨rfl, h9⟩
  rw [h9]
  clear h9 S9
  refine fV.to (pc' := 9) (L' := [(0, .ref 0), (1, .int x0), (2, .int y0), (3, .int x1), (4, .int y1), (5, .int m)]) (st' := [.int (fB (decide (0 ≤ m ∧ m < (gI S 1 2))))]) (S' := S) rfl rfl rfl rfl ?_
  refine fV.if_ne bX7_wall_9 (fun c9 => ?_) (fun c9 => ?_)
  · refine fV.run iX7_wall_16_2 oX7_wall_16_2 (pc' := 18) (L' := [(0, .ref 0), (1, .int x0), (2, .int y0), (3, .int x1), (4, .int y1), (5, .int m)]) (st' := [.int y0, .int x0]) (S' := S) rfl trivial ?_
    refine fV.callS (M2 := mX7_isPoint) (d := d + 1) (av := [.int x0, .int y0]) (rest := []) kX7_isPoint dX7_wall_18 lX7_86 rfl rfl (Nat.le_of_ble_eq_true rfl) (fRoom (by decide)) ⟨Nat.le_refl _, Nat.le_refl _⟩ (qX7_isPoint _ _) ?_
    rintro _ S9 ⟨rfl, h9⟩
    rw [h9]
    clear h9 S9
    refine fV.to (pc' := 21) (L' := [(0, .ref 0), (1, .int x0), (2, .int y0), (3, .int x1), (4, .int y1), (5, .int m)]) (st' := [.int (fB (decide ((0 ≤ x0 ∧ x0 ≤ 1000) ∧ (0 ≤ y0 ∧ y0 ≤ 1000))))]) (S' := S) rfl rfl rfl rfl ?_
    refine fV.if_eq bX7_wall_21 (fun c21 => ?_) (fun c21 => ?_)
    · refine fV.run iX7_wall_33_1 oX7_wall_33_1 (pc' := 36) (L' := [(0, .ref 0), (1, .int x0), (2, .int y0), (3, .int x1), (4, .int y1), (5, .int m)]) (st' := [.int (-1002)]) (S' := S) rfl trivial ?_
      exact fV.iret rfl dX7_wall_36 (by unfold oWall; rw [if_pos (by grind [fB, hC]), if_neg (by grind [fB, hC])]; exact ⟨rfl, rfl, rfl, fun _ _ _ _ => Or.inl rfl⟩)
    · refine fV.run iX7_wall_24_2 oX7_wall_24_2 (pc' := 27) (L' := [(0, .ref 0), (1, .int x0), (2, .int y0), (3, .int x1), (4, .int y1), (5, .int m)]) (st' := [.int y1, .int x1]) (S' := S) rfl trivial ?_
      refine fV.callS (M2 := mX7_isPoint) (d := d + 1) (av := [.int x1, .int y1]) (rest := []) kX7_isPoint dX7_wall_27 lX7_86 rfl rfl (Nat.le_of_ble_eq_true rfl) (fRoom (by decide)) ⟨Nat.le_refl _, Nat.le_refl _⟩ (qX7_isPoint _ _) ?_
      rintro _ S9 ⟨rfl, h9⟩
      rw [h9]
      clear h9 S9
      refine fV.to (pc' := 30) (L' := [(0, .ref 0), (1, .int x0), (2, .int y0), (3, .int x1), (4, .int y1), (5, .int m)]) (st' := [.int (fB (decide ((0 ≤ x1 ∧ x1 ≤ 1000) ∧ (0 ≤ y1 ∧ y1 ≤ 1000))))]) (S' := S) rfl rfl rfl rfl ?_
      refine fV.if_ne bX7_wall_30 (fun c30 => ?_) (fun c30 => ?_)
      · refine fV.run iX7_wall_37_2 oX7_wall_37_2 (pc' := 39) (L' := [(0, .ref 0), (1, .int x0), (2, .int y0), (3, .int x1), (4, .int y1), (5, .int m)]) (st' := [.int x1, .int x0]) (S' := S) rfl trivial ?_
        refine fV.icmp_ne bX7_wall_39 (fun c39 => ?_) (fun c39 => ?_)
        · refine fV.run iX7_wall_46_4 oX7_wall_46_4 (pc' := 52) (L' := [(0, .ref 0), (1, .int x0), (2, .int y0), (3, .int x1), (4, .int y1), (5, .int m), (6, .int 0)]) (st' := [.int y1, .int y0]) (S' := S) rfl trivial ?_
          refine fV.icmp_ne bX7_wall_52 (fun c52 => ?_) (fun c52 => ?_)
          · refine fV.run iX7_wall_59_4 oX7_wall_59_4 (pc' := 66) (L' := [(0, .ref 0), (1, .int x0), (2, .int y0), (3, .int x1), (4, .int y1), (5, .int m), (6, .int 0), (7, .int 0)]) (st' := [.int 0, .int 0]) (S' := S) rfl trivial ?_
            refine fV.icmp_ne bX7_wall_66 (fun c66 => ?_) (fun c66 => ?_)
            · exact absurd c66 (by decide)
            · refine fV.run iX7_wall_69_1 oX7_wall_69_1 (pc' := 72) (L' := [(0, .ref 0), (1, .int x0), (2, .int y0), (3, .int x1), (4, .int y1), (5, .int m), (6, .int 0), (7, .int 0)]) (st' := [.int (-1002)]) (S' := S) rfl trivial ?_
              exact fV.iret rfl dX7_wall_72 (by unfold oWall; rw [if_pos (by grind [fB, hC]), if_pos (by grind [fB, hC]), if_neg (by grind [fB, hC])]; exact ⟨rfl, rfl, rfl, fun _ _ _ _ => Or.inl rfl⟩)
          · refine fV.run iX7_wall_55_5 oX7_wall_55_5 (pc' := 66) (L' := [(0, .ref 0), (1, .int x0), (2, .int y0), (3, .int x1), (4, .int y1), (5, .int m), (6, .int 0), (7, .int 1)]) (st' := [.int 1, .int 0]) (S' := S) rfl trivial ?_
            refine fV.icmp_ne bX7_wall_66 (fun c66 => ?_) (fun c66 => ?_)
            · refine fV.run iX7_wall_73_7 oX7_wall_73_7 (pc' := 84) (L' := [(0, .ref 0), (1, .int x0), (2, .int y0), (3, .int x1), (4, .int y1), (5, .int m), (6, .int 0), (7, .int 1)]) (st' := [.int m, .int y1, .int x1, .int y0, .int x0, .ref 4]) (S' := S) rfl trivial ?_
              refine fV.callV (M2 := mX6_add) (d := d + 1) (o := 4) (av := [.int x0, .int y0, .int x1, .int y1, .int m]) (rest := []) kX6_add dX7_wall_84 lX7_90 rfl rfl rfl (Nat.le_of_ble_eq_true rfl) (fRoom (by decide)) ⟨Nat.le_refl _, Nat.le_refl _⟩ (qX6_add _ _ _ _ _ h0 h8) ?_
              rintro r9 S9 h9
              by_cases hf : (gI S 4 6) = 16
              · rw [if_pos hf] at h9
                obtain ⟨rfl, h9⟩ := h9
                rw [h9]
                clear h9 S9
                refine fV.to (pc' := 87) (L' := [(0, .ref 0), (1, .int x0), (2, .int y0), (3, .int x1), (4, .int y1), (5, .int m), (6, .int 0), (7, .int 1)]) (st' := [.int (-1004)]) (S' := S) rfl rfl rfl rfl ?_
                exact fV.iret rfl dX7_wall_87 (by unfold oWall; rw [if_pos (by grind [fB, hC]), if_pos (by grind [fB, hC]), if_pos (by grind [fB, hC]), if_pos (by grind [fB, hC])]; exact ⟨rfl, rfl, rfl, fun _ _ _ _ => Or.inl rfl⟩)
              · rw [if_neg hf] at h9
                obtain ⟨rfl, hw⟩ := h9
                refine fV.to (pc' := 87) (L' := [(0, .ref 0), (1, .int x0), (2, .int y0), (3, .int x1), (4, .int y1), (5, .int m), (6, .int 0), (7, .int 1)]) (st' := [.int (gI S 4 6)]) (S' := S9) rfl rfl rfl rfl ?_
                exact fV.iret rfl dX7_wall_87 (by unfold oWall; rw [if_pos (by grind [fB, hC]), if_pos (by grind [fB, hC]), if_pos (by grind [fB, hC]), if_neg (by grind [fB, hC])]; exact ⟨rfl, hw.2.1, hw.1, fun b hb h1 hg => Or.inr ⟨by have z := congrArg (fun q => q.2.1.1) hw.2.1; simp only [hC] at z; rw [z, hb]; exact nI_1 b, geo_add hw hb h1 hg⟩⟩)
            · exact absurd c66 (by decide)
        · refine fV.run iX7_wall_42_5 oX7_wall_42_5 (pc' := 52) (L' := [(0, .ref 0), (1, .int x0), (2, .int y0), (3, .int x1), (4, .int y1), (5, .int m), (6, .int 1)]) (st' := [.int y1, .int y0]) (S' := S) rfl trivial ?_
          refine fV.icmp_ne bX7_wall_52 (fun c52 => ?_) (fun c52 => ?_)
          · refine fV.run iX7_wall_59_4 oX7_wall_59_4 (pc' := 66) (L' := [(0, .ref 0), (1, .int x0), (2, .int y0), (3, .int x1), (4, .int y1), (5, .int m), (6, .int 1), (7, .int 0)]) (st' := [.int 0, .int 1]) (S' := S) rfl trivial ?_
            refine fV.icmp_ne bX7_wall_66 (fun c66 => ?_) (fun c66 => ?_)
            · refine fV.run iX7_wall_73_7 oX7_wall_73_7 (pc' := 84) (L' := [(0, .ref 0), (1, .int x0), (2, .int y0), (3, .int x1), (4, .int y1), (5, .int m), (6, .int 1), (7, .int 0)]) (st' := [.int m, .int y1, .int x1, .int y0, .int x0, .ref 4]) (S' := S) rfl trivial ?_
              refine fV.callV (M2 := mX6_add) (d := d + 1) (o := 4) (av := [.int x0, .int y0, .int x1, .int y1, .int m]) (rest := []) kX6_add dX7_wall_84 lX7_90 rfl rfl rfl (Nat.le_of_ble_eq_true rfl) (fRoom (by decide)) ⟨Nat.le_refl _, Nat.le_refl _⟩ (qX6_add _ _ _ _ _ h0 h8) ?_
              rintro r9 S9 h9
              by_cases hf : (gI S 4 6) = 16
              · rw [if_pos hf] at h9
                obtain ⟨rfl, h9⟩ := h9
                rw [h9]
                clear h9 S9
                refine fV.to (pc' := 87) (L' := [(0, .ref 0), (1, .int x0), (2, .int y0), (3, .int x1), (4, .int y1), (5, .int m), (6, .int 1), (7, .int 0)]) (st' := [.int (-1004)]) (S' := S) rfl rfl rfl rfl ?_
                exact fV.iret rfl dX7_wall_87 (by unfold oWall; rw [if_pos (by grind [fB, hC]), if_pos (by grind [fB, hC]), if_pos (by grind [fB, hC]), if_pos (by grind [fB, hC])]; exact ⟨rfl, rfl, rfl, fun _ _ _ _ => Or.inl rfl⟩)
              · rw [if_neg hf] at h9
                obtain ⟨rfl, hw⟩ := h9
                refine fV.to (pc' := 87) (L' := [(0, .ref 0), (1, .int x0), (2, .int y0), (3, .int x1), (4, .int y1), (5, .int m), (6, .int 1), (7, .int 0)]) (st' := [.int (gI S 4 6)]) (S' := S9) rfl rfl rfl rfl ?_
                exact fV.iret rfl dX7_wall_87 (by unfold oWall; rw [if_pos (by grind [fB, hC]), if_pos (by grind [fB, hC]), if_pos (by grind [fB, hC]), if_neg (by grind [fB, hC])]; exact ⟨rfl, hw.2.1, hw.1, fun b hb h1 hg => Or.inr ⟨by have z := congrArg (fun q => q.2.1.1) hw.2.1; simp only [hC] at z; rw [z, hb]; exact nI_1 b, geo_add hw hb h1 hg⟩⟩)
            · exact absurd c66 (by decide)
          · refine fV.run iX7_wall_55_5 oX7_wall_55_5 (pc' := 66) (L' := [(0, .ref 0), (1, .int x0), (2, .int y0), (3, .int x1), (4, .int y1), (5, .int m), (6, .int 1), (7, .int 1)]) (st' := [.int 1, .int 1]) (S' := S) rfl trivial ?_
            refine fV.icmp_ne bX7_wall_66 (fun c66 => ?_) (fun c66 => ?_)
            · exact absurd c66 (by decide)
            · refine fV.run iX7_wall_69_1 oX7_wall_69_1 (pc' := 72) (L' := [(0, .ref 0), (1, .int x0), (2, .int y0), (3, .int x1), (4, .int y1), (5, .int m), (6, .int 1), (7, .int 1)]) (st' := [.int (-1002)]) (S' := S) rfl trivial ?_
              exact fV.iret rfl dX7_wall_72 (by unfold oWall; rw [if_pos (by grind [fB, hC]), if_pos (by grind [fB, hC]), if_neg (by grind [fB, hC])]; exact ⟨rfl, rfl, rfl, fun _ _ _ _ => Or.inl rfl⟩)
      · refine fV.run iX7_wall_33_1 oX7_wall_33_1 (pc' := 36) (L' := [(0, .ref 0), (1, .int x0), (2, .int y0), (3, .int x1), (4, .int y1), (5, .int m)]) (st' := [.int (-1002)]) (S' := S) rfl trivial ?_
        exact fV.iret rfl dX7_wall_36 (by unfold oWall; rw [if_pos (by grind [fB, hC]), if_neg (by grind [fB, hC])]; exact ⟨rfl, rfl, rfl, fun _ _ _ _ => Or.inl rfl⟩)
  · refine fV.run iX7_wall_12_1 oX7_wall_12_1 (pc' := 15) (L' := [(0, .ref 0), (1, .int x0), (2, .int y0), (3, .int x1), (4, .int y1), (5, .int m)]) (st' := [.int (-1001)]) (S' := S) rfl trivial ?_
    exact fV.iret rfl dX7_wall_15 (by unfold oWall; rw [if_neg (by grind [fB, hC])]; exact ⟨rfl, rfl, rfl, fun _ _ _ _ => Or.inl rfl⟩)
def iX7_move_0_3 : List Instr := [.iload_n 2, .iconst 0, .iconst 1]
theorem oX7_move_0_3 : fOkB cX7_move 0 iX7_move_0_3 = true := by decide +kernel
theorem dX7_move_3 : decode cX7_move 3 = .ok (.invokestatic 74, 3) := by decide +kernel
theorem bX7_move_6 : fBk cX7_move 6 (.ifCond .ne) 13 := ⟨7, by decide +kernel, by decide⟩
def iX7_move_13_1 : List Instr := [.iload_n 2]
theorem oX7_move_13_1 : fOkB cX7_move 13 iX7_move_13_1 = true := by decide +kernel
theorem bX7_move_14 : fBk cX7_move 14 (.ifCond .ne) 24 := ⟨10, by decide +kernel, by decide⟩
def iX7_move_24_5 : List Instr := [.aload_n 0, .getfield 32, .astore 5, .aload 5, .iload_n 1]
theorem oX7_move_24_5 : fOkB cX7_move 24 iX7_move_24_5 = true := by decide +kernel
theorem dX7_move_33 : decode cX7_move 33 = .ok (.invokevirtual 101, 3) := by decide +kernel
theorem bX7_move_36 : fBk cX7_move 36 (.ifCond .ne) 43 := ⟨7, by decide +kernel, by decide⟩
def iX7_move_43_2 : List Instr := [.iload_n 3, .iload 4]
theorem oX7_move_43_2 : fOkB cX7_move 43 iX7_move_43_2 = true := by decide +kernel
theorem dX7_move_46 : decode cX7_move 46 = .ok (.invokestatic 86, 3) := by decide +kernel
theorem bX7_move_49 : fBk cX7_move 49 (.ifCond .ne) 56 := ⟨7, by decide +kernel, by decide⟩
def iX7_move_56_4 : List Instr := [.aload 5, .iload_n 1, .iload_n 3, .iload 4]
theorem oX7_move_56_4 : fOkB cX7_move 56 iX7_move_56_4 = true := by decide +kernel
set_option maxRecDepth 100000 in
theorem lX7_102 : Cond.methodLink RX7 102 yX2_put ∈ fTB := fTB_at 385 rfl rfl
theorem dX7_move_62 : decode cX7_move 62 = .ok (.invokevirtual 102, 3) := by decide +kernel
def iX7_move_65_1 : List Instr := [.iconst 1]
theorem oX7_move_65_1 : fOkB cX7_move 65 iX7_move_65_1 = true := by decide +kernel
theorem dX7_move_66 : decode cX7_move 66 = .ok (.ireturn, 1) := by decide +kernel
def iX7_move_52_1 : List Instr := [.sipush (-1002)]
theorem oX7_move_52_1 : fOkB cX7_move 52 iX7_move_52_1 = true := by decide +kernel
theorem dX7_move_55 : decode cX7_move 55 = .ok (.ireturn, 1) := by decide +kernel
def iX7_move_39_1 : List Instr := [.sipush (-1001)]
theorem oX7_move_39_1 : fOkB cX7_move 39 iX7_move_39_1 = true := by decide +kernel
theorem dX7_move_42 : decode cX7_move 42 = .ok (.ireturn, 1) := by decide +kernel
def iX7_move_17_6 : List Instr := [.aload_n 0, .getfield 28, .goto 7, .astore 5, .aload 5, .iload_n 1]
theorem oX7_move_17_6 : fOkB cX7_move 17 iX7_move_17_6 = true := by decide +kernel
def iX7_move_9_1 : List Instr := [.sipush (-1002)]
theorem oX7_move_9_1 : fOkB cX7_move 9 iX7_move_9_1 = true := by decide +kernel
theorem dX7_move_12 : decode cX7_move 12 = .ok (.ireturn, 1) := by decide +kernel
set_option maxRecDepth 100000 in
theorem qX7_move {G : fG} {d : Nat} {S : fS} (k t x y : Int32) (h0 : gI S 11 2 ≤ 4) (h8 : gI S 14 2 ≤ 8) : fCtr G (d + 2) mX7_move [.ref 0, .int k, .int t, .int x, .int y] S (qC S (oMove (hC S) k t x y)) := by
  refine fCtr.of bXX7_move (Nat.le_of_ble_eq_true rfl) rfl ?_
  refine fV.run iX7_move_0_3 oX7_move_0_3 (pc' := 3) (L' := [(0, .ref 0), (1, .int k), (2, .int t), (3, .int x), (4, .int y)]) (st' := [.int 1, .int 0, .int t]) (S' := S) rfl trivial ?_
  refine fV.callS (M2 := mX7_isWithin) (d := d + 1) (av := [.int t, .int 0, .int 1]) (rest := []) kX7_isWithin dX7_move_3 lX7_74 rfl rfl (Nat.le_of_ble_eq_true rfl) (fRoom (by decide)) ⟨Nat.le_refl _, Nat.le_refl _⟩ (qX7_isWithin _ _ _) ?_
  rintro _ S9 ⟨rfl, h9⟩
  rw [h9]
  clear h9 S9
  refine fV.to (pc' := 6) (L' := [(0, .ref 0), (1, .int k), (2, .int t), (3, .int x), (4, .int y)]) (st' := [.int (fB (decide (0 ≤ t ∧ t ≤ 1)))]) (S' := S) rfl rfl rfl rfl ?_
  refine fV.if_ne bX7_move_6 (fun c6 => ?_) (fun c6 => ?_)
  · refine fV.run iX7_move_13_1 oX7_move_13_1 (pc' := 14) (L' := [(0, .ref 0), (1, .int k), (2, .int t), (3, .int x), (4, .int y)]) (st' := [.int t]) (S' := S) rfl trivial ?_
    refine fV.if_ne bX7_move_14 (fun c14 => ?_) (fun c14 => ?_)
    · refine fV.run iX7_move_24_5 oX7_move_24_5 (pc' := 33) (L' := [(0, .ref 0), (1, .int k), (2, .int t), (3, .int x), (4, .int y), (5, .ref 14)]) (st' := [.int k, .ref 14]) (S' := S) rfl trivial ?_
      refine fV.callV (M2 := mX2_has) (d := d + 1) (o := 14) (av := [.int k]) (rest := []) kX2_has dX7_move_33 lX7_101 rfl rfl rfl (Nat.le_of_ble_eq_true rfl) (fRoom (by decide)) ⟨Nat.le_refl _, Nat.le_refl _⟩ (qX2_has_14 _) ?_
      rintro _ S9 ⟨rfl, h9⟩
      rw [h9]
      clear h9 S9
      refine fV.to (pc' := 36) (L' := [(0, .ref 0), (1, .int k), (2, .int t), (3, .int x), (4, .int y), (5, .ref 14)]) (st' := [.int (fB (decide (0 ≤ k ∧ k < (gI S 14 2))))]) (S' := S) rfl rfl rfl rfl ?_
      refine fV.if_ne bX7_move_36 (fun c36 => ?_) (fun c36 => ?_)
      · refine fV.run iX7_move_43_2 oX7_move_43_2 (pc' := 46) (L' := [(0, .ref 0), (1, .int k), (2, .int t), (3, .int x), (4, .int y), (5, .ref 14)]) (st' := [.int y, .int x]) (S' := S) rfl trivial ?_
        refine fV.callS (M2 := mX7_isPoint) (d := d + 1) (av := [.int x, .int y]) (rest := []) kX7_isPoint dX7_move_46 lX7_86 rfl rfl (Nat.le_of_ble_eq_true rfl) (fRoom (by decide)) ⟨Nat.le_refl _, Nat.le_refl _⟩ (qX7_isPoint _ _) ?_
        rintro _ S9 ⟨rfl, h9⟩
        rw [h9]
        clear h9 S9
        refine fV.to (pc' := 49) (L' := [(0, .ref 0), (1, .int k), (2, .int t), (3, .int x), (4, .int y), (5, .ref 14)]) (st' := [.int (fB (decide ((0 ≤ x ∧ x ≤ 1000) ∧ (0 ≤ y ∧ y ≤ 1000))))]) (S' := S) rfl rfl rfl rfl ?_
        refine fV.if_ne bX7_move_49 (fun c49 => ?_) (fun c49 => ?_)
        · refine fV.run iX7_move_56_4 oX7_move_56_4 (pc' := 62) (L' := [(0, .ref 0), (1, .int k), (2, .int t), (3, .int x), (4, .int y), (5, .ref 14)]) (st' := [.int y, .int x, .int k, .ref 14]) (S' := S) rfl trivial ?_
          refine fV.callV (M2 := mX2_put) (d := d + 1) (o := 14) (av := [.int k, .int x, .int y]) (rest := []) kX2_put dX7_move_62 lX7_102 rfl rfl rfl (Nat.le_of_ble_eq_true rfl) (fRoom (by decide)) ⟨Nat.le_refl _, Nat.le_refl _⟩ (qX2_put_14 _ _ _ (vin (by decide) (by grind [fB]) (by grind [fB]))) ?_
          rintro _ S9 ⟨rfl, h9⟩
          rw [h9]
          clear h9 S9
          refine fV.to (pc' := 65) (L' := [(0, .ref 0), (1, .int k), (2, .int t), (3, .int x), (4, .int y), (5, .ref 14)]) (st' := []) (S' := (wA (wA S 15 (upd (gA S 15) k.toNatClampNeg x)) 16 (upd (gA S 16) k.toNatClampNeg y))) rfl rfl rfl rfl ?_
          refine fV.run iX7_move_65_1 oX7_move_65_1 (pc' := 66) (L' := [(0, .ref 0), (1, .int k), (2, .int t), (3, .int x), (4, .int y), (5, .ref 14)]) (st' := [.int 1]) (S' := (wA (wA S 15 (upd (gA S 15) k.toNatClampNeg x)) 16 (upd (gA S 16) k.toNatClampNeg y))) rfl trivial ?_
          exact fV.iret rfl dX7_move_66 (by unfold oMove; rw [if_neg (by grind [fB, hC]), if_pos (by grind [fB, hC]), if_pos (by grind [fB, hC]), if_pos (by grind [fB, hC])]; exact ⟨rfl, rfl, rfl, fun _ z => z⟩)
        · refine fV.run iX7_move_52_1 oX7_move_52_1 (pc' := 55) (L' := [(0, .ref 0), (1, .int k), (2, .int t), (3, .int x), (4, .int y), (5, .ref 14)]) (st' := [.int (-1002)]) (S' := S) rfl trivial ?_
          exact fV.iret rfl dX7_move_55 (by unfold oMove; rw [if_neg (by grind [fB, hC]), if_pos (by grind [fB, hC]), if_pos (by grind [fB, hC]), if_neg (by grind [fB, hC])]; exact ⟨rfl, rfl, rfl, fun _ z => z⟩)
      · refine fV.run iX7_move_39_1 oX7_move_39_1 (pc' := 42) (L' := [(0, .ref 0), (1, .int k), (2, .int t), (3, .int x), (4, .int y), (5, .ref 14)]) (st' := [.int (-1001)]) (S' := S) rfl trivial ?_
        exact fV.iret rfl dX7_move_42 (by unfold oMove; rw [if_neg (by grind [fB, hC]), if_pos (by grind [fB, hC]), if_neg (by grind [fB, hC])]; exact ⟨rfl, rfl, rfl, fun _ z => z⟩)
    · refine fV.run iX7_move_17_6 oX7_move_17_6 (pc' := 33) (L' := [(0, .ref 0), (1, .int k), (2, .int t), (3, .int x), (4, .int y), (5, .ref 11)]) (st' := [.int k, .ref 11]) (S' := S) rfl trivial ?_
      refine fV.callV (M2 := mX2_has) (d := d + 1) (o := 11) (av := [.int k]) (rest := []) kX2_has dX7_move_33 lX7_101 rfl rfl rfl (Nat.le_of_ble_eq_true rfl) (fRoom (by decide)) ⟨Nat.le_refl _, Nat.le_refl _⟩ (qX2_has_11 _) ?_
      rintro _ S9 ⟨rfl, h9⟩
      rw [h9]
      clear h9 S9
      refine fV.to (pc' := 36) (L' := [(0, .ref 0), (1, .int k), (2, .int t), (3, .int x), (4, .int y), (5, .ref 11)]) (st' := [.int (fB (decide (0 ≤ k ∧ k < (gI S 11 2))))]) (S' := S) rfl rfl rfl rfl ?_
      refine fV.if_ne bX7_move_36 (fun c36 => ?_) (fun c36 => ?_)
      · refine fV.run iX7_move_43_2 oX7_move_43_2 (pc' := 46) (L' := [(0, .ref 0), (1, .int k), (2, .int t), (3, .int x), (4, .int y), (5, .ref 11)]) (st' := [.int y, .int x]) (S' := S) rfl trivial ?_
        refine fV.callS (M2 := mX7_isPoint) (d := d + 1) (av := [.int x, .int y]) (rest := []) kX7_isPoint dX7_move_46 lX7_86 rfl rfl (Nat.le_of_ble_eq_true rfl) (fRoom (by decide)) ⟨Nat.le_refl _, Nat.le_refl _⟩ (qX7_isPoint _ _) ?_
        rintro _ S9 ⟨rfl, h9⟩
        rw [h9]
        clear h9 S9
        refine fV.to (pc' := 49) (L' := [(0, .ref 0), (1, .int k), (2, .int t), (3, .int x), (4, .int y), (5, .ref 11)]) (st' := [.int (fB (decide ((0 ≤ x ∧ x ≤ 1000) ∧ (0 ≤ y ∧ y ≤ 1000))))]) (S' := S) rfl rfl rfl rfl ?_
        refine fV.if_ne bX7_move_49 (fun c49 => ?_) (fun c49 => ?_)
        · refine fV.run iX7_move_56_4 oX7_move_56_4 (pc' := 62) (L' := [(0, .ref 0), (1, .int k), (2, .int t), (3, .int x), (4, .int y), (5, .ref 11)]) (st' := [.int y, .int x, .int k, .ref 11]) (S' := S) rfl trivial ?_
          refine fV.callV (M2 := mX2_put) (d := d + 1) (o := 11) (av := [.int k, .int x, .int y]) (rest := []) kX2_put dX7_move_62 lX7_102 rfl rfl rfl (Nat.le_of_ble_eq_true rfl) (fRoom (by decide)) ⟨Nat.le_refl _, Nat.le_refl _⟩ (qX2_put_11 _ _ _ (vin (by decide) (by grind [fB]) (by grind [fB]))) ?_
          rintro _ S9 ⟨rfl, h9⟩
          rw [h9]
          clear h9 S9
          refine fV.to (pc' := 65) (L' := [(0, .ref 0), (1, .int k), (2, .int t), (3, .int x), (4, .int y), (5, .ref 11)]) (st' := []) (S' := (wA (wA S 12 (upd (gA S 12) k.toNatClampNeg x)) 13 (upd (gA S 13) k.toNatClampNeg y))) rfl rfl rfl rfl ?_
          refine fV.run iX7_move_65_1 oX7_move_65_1 (pc' := 66) (L' := [(0, .ref 0), (1, .int k), (2, .int t), (3, .int x), (4, .int y), (5, .ref 11)]) (st' := [.int 1]) (S' := (wA (wA S 12 (upd (gA S 12) k.toNatClampNeg x)) 13 (upd (gA S 13) k.toNatClampNeg y))) rfl trivial ?_
          exact fV.iret rfl dX7_move_66 (by unfold oMove; rw [if_pos (by grind [fB, hC]), if_pos (by grind [fB, hC]), if_pos (by grind [fB, hC])]; exact ⟨rfl, rfl, rfl, fun _ z => z⟩)
        · refine fV.run iX7_move_52_1 oX7_move_52_1 (pc' := 55) (L' := [(0, .ref 0), (1, .int k), (2, .int t), (3, .int x), (4, .int y), (5, .ref 11)]) (st' := [.int (-1002)]) (S' := S) rfl trivial ?_
          exact fV.iret rfl dX7_move_55 (by unfold oMove; rw [if_pos (by grind [fB, hC]), if_pos (by grind [fB, hC]), if_neg (by grind [fB, hC])]; exact ⟨rfl, rfl, rfl, fun _ z => z⟩)
      · refine fV.run iX7_move_39_1 oX7_move_39_1 (pc' := 42) (L' := [(0, .ref 0), (1, .int k), (2, .int t), (3, .int x), (4, .int y), (5, .ref 11)]) (st' := [.int (-1001)]) (S' := S) rfl trivial ?_
        exact fV.iret rfl dX7_move_42 (by unfold oMove; rw [if_pos (by grind [fB, hC]), if_neg (by grind [fB, hC])]; exact ⟨rfl, rfl, rfl, fun _ z => z⟩)
  · refine fV.run iX7_move_9_1 oX7_move_9_1 (pc' := 12) (L' := [(0, .ref 0), (1, .int k), (2, .int t), (3, .int x), (4, .int y)]) (st' := [.int (-1002)]) (S' := S) rfl trivial ?_
    exact fV.iret rfl dX7_move_12 (by unfold oMove; rw [if_neg (by grind [fB, hC]), if_neg (by grind [fB, hC])]; exact ⟨rfl, rfl, rfl, fun _ z => z⟩)
def iX7_rule_0_1 : List Instr := [.iload_n 1]
theorem oX7_rule_0_1 : fOkB cX7_rule 0 iX7_rule_0_1 = true := by decide +kernel
theorem bX7_rule_1 : fBk cX7_rule 1 (.ifCond .ne) 25 := ⟨24, by decide +kernel, by decide⟩
def iX7_rule_25_2 : List Instr := [.iload_n 1, .iconst 1]
theorem oX7_rule_25_2 : fOkB cX7_rule 25 iX7_rule_25_2 = true := by decide +kernel
theorem bX7_rule_27 : fBk cX7_rule 27 (.if_icmp .ne) 52 := ⟨25, by decide +kernel, by decide⟩
def iX7_rule_52_1 : List Instr := [.sipush (-1002)]
theorem oX7_rule_52_1 : fOkB cX7_rule 52 iX7_rule_52_1 = true := by decide +kernel
theorem dX7_rule_55 : decode cX7_rule 55 = .ok (.ireturn, 1) := by decide +kernel
def iX7_rule_30_3 : List Instr := [.iload_n 2, .iconst 1, .bipush 100]
theorem oX7_rule_30_3 : fOkB cX7_rule 30 iX7_rule_30_3 = true := by decide +kernel
theorem dX7_rule_34 : decode cX7_rule 34 = .ok (.invokestatic 74, 3) := by decide +kernel
theorem bX7_rule_37 : fBk cX7_rule 37 (.ifCond .eq) 52 := ⟨15, by decide +kernel, by decide⟩
def iX7_rule_40_7 : List Instr := [.aload_n 0, .getfield 71, .istore_n 3, .aload_n 0, .iload_n 2, .putfield 71, .iload_n 3]
theorem oX7_rule_40_7 : fOkB cX7_rule 40 iX7_rule_40_7 = true := by decide +kernel
theorem dX7_rule_51 : decode cX7_rule 51 = .ok (.ireturn, 1) := by decide +kernel
def iX7_rule_4_3 : List Instr := [.iload_n 2, .iconst 0, .iconst 3]
theorem oX7_rule_4_3 : fOkB cX7_rule 4 iX7_rule_4_3 = true := by decide +kernel
theorem dX7_rule_7 : decode cX7_rule 7 = .ok (.invokestatic 74, 3) := by decide +kernel
theorem bX7_rule_10 : fBk cX7_rule 10 (.ifCond .eq) 25 := ⟨15, by decide +kernel, by decide⟩
def iX7_rule_13_7 : List Instr := [.aload_n 0, .getfield 67, .istore_n 3, .aload_n 0, .iload_n 2, .putfield 67, .iload_n 3]
theorem oX7_rule_13_7 : fOkB cX7_rule 13 iX7_rule_13_7 = true := by decide +kernel
theorem dX7_rule_24 : decode cX7_rule 24 = .ok (.ireturn, 1) := by decide +kernel
set_option maxRecDepth 100000 in
theorem qX7_rule {G : fG} {d : Nat} {S : fS} (t v : Int32)  : fCtr G (d + 1) mX7_rule [.ref 0, .int t, .int v] S (qC S (oRule (hC S) t v)) := by
  refine fCtr.of bXX7_rule (Nat.le_of_ble_eq_true rfl) rfl ?_
  refine fV.run iX7_rule_0_1 oX7_rule_0_1 (pc' := 1) (L' := [(0, .ref 0), (1, .int t), (2, .int v)]) (st' := [.int t]) (S' := S) rfl trivial ?_
  refine fV.if_ne bX7_rule_1 (fun c1 => ?_) (fun c1 => ?_)
  · refine fV.run iX7_rule_25_2 oX7_rule_25_2 (pc' := 27) (L' := [(0, .ref 0), (1, .int t), (2, .int v)]) (st' := [.int 1, .int t]) (S' := S) rfl trivial ?_
    refine fV.icmp_ne bX7_rule_27 (fun c27 => ?_) (fun c27 => ?_)
    · refine fV.run iX7_rule_52_1 oX7_rule_52_1 (pc' := 55) (L' := [(0, .ref 0), (1, .int t), (2, .int v)]) (st' := [.int (-1002)]) (S' := S) rfl trivial ?_
      exact fV.iret rfl dX7_rule_55 (by first | exact (by unfold oRule; rw [if_pos (by grind [fB, hC]), if_neg (by grind [fB, hC])]; exact ⟨rfl, rfl, rfl, fun _ z => z⟩) | exact (by unfold oRule; rw [if_neg (by grind [fB, hC]), if_pos (by grind [fB, hC]), if_neg (by grind [fB, hC])]; exact ⟨rfl, rfl, rfl, fun _ z => z⟩) | exact (by unfold oRule; rw [if_neg (by grind [fB, hC]), if_neg (by grind [fB, hC])]; exact ⟨rfl, rfl, rfl, fun _ z => z⟩) | (exfalso; grind [fB]))
    · refine fV.run iX7_rule_30_3 oX7_rule_30_3 (pc' := 34) (L' := [(0, .ref 0), (1, .int t), (2, .int v)]) (st' := [.int 100, .int 1, .int v]) (S' := S) rfl trivial ?_
      refine fV.callS (M2 := mX7_isWithin) (d := d) (av := [.int v, .int 1, .int 100]) (rest := []) kX7_isWithin dX7_rule_34 lX7_74 rfl rfl (Nat.le_of_ble_eq_true rfl) (fRoom (by decide)) ⟨Nat.le_refl _, Nat.le_refl _⟩ (qX7_isWithin _ _ _) ?_
      rintro _ S9 ⟨rfl, h9⟩
      rw [h9]
      clear h9 S9
      refine fV.to (pc' := 37) (L' := [(0, .ref 0), (1, .int t), (2, .int v)]) (st' := [.int (fB (decide (1 ≤ v ∧ v ≤ 100)))]) (S' := S) rfl rfl rfl rfl ?_
      refine fV.if_eq bX7_rule_37 (fun c37 => ?_) (fun c37 => ?_)
      · refine fV.run iX7_rule_52_1 oX7_rule_52_1 (pc' := 55) (L' := [(0, .ref 0), (1, .int t), (2, .int v)]) (st' := [.int (-1002)]) (S' := S) rfl trivial ?_
        exact fV.iret rfl dX7_rule_55 (by first | exact (by unfold oRule; rw [if_pos (by grind [fB, hC]), if_neg (by grind [fB, hC])]; exact ⟨rfl, rfl, rfl, fun _ z => z⟩) | exact (by unfold oRule; rw [if_neg (by grind [fB, hC]), if_pos (by grind [fB, hC]), if_neg (by grind [fB, hC])]; exact ⟨rfl, rfl, rfl, fun _ z => z⟩) | exact (by unfold oRule; rw [if_neg (by grind [fB, hC]), if_neg (by grind [fB, hC])]; exact ⟨rfl, rfl, rfl, fun _ z => z⟩) | (exfalso; grind [fB]))
      · refine fV.run iX7_rule_40_7 oX7_rule_40_7 (pc' := 51) (L' := [(0, .ref 0), (1, .int t), (2, .int v), (3, .int (gI S 0 10))]) (st' := [.int (gI S 0 10)]) (S' := (wI S 0 10 v)) rfl trivial ?_
        exact fV.iret rfl dX7_rule_51 (by unfold oRule; rw [if_neg (by grind [fB, hC]), if_pos (by grind [fB, hC]), if_pos (by grind [fB, hC])]; exact ⟨rfl, rfl, rfl, fun _ z => z⟩)
  · refine fV.run iX7_rule_4_3 oX7_rule_4_3 (pc' := 7) (L' := [(0, .ref 0), (1, .int t), (2, .int v)]) (st' := [.int 3, .int 0, .int v]) (S' := S) rfl trivial ?_
    refine fV.callS (M2 := mX7_isWithin) (d := d) (av := [.int v, .int 0, .int 3]) (rest := []) kX7_isWithin dX7_rule_7 lX7_74 rfl rfl (Nat.le_of_ble_eq_true rfl) (fRoom (by decide)) ⟨Nat.le_refl _, Nat.le_refl _⟩ (qX7_isWithin _ _ _) ?_
    rintro _ S9 ⟨rfl, h9⟩
    rw [h9]
    clear h9 S9
    refine fV.to (pc' := 10) (L' := [(0, .ref 0), (1, .int t), (2, .int v)]) (st' := [.int (fB (decide (0 ≤ v ∧ v ≤ 3)))]) (S' := S) rfl rfl rfl rfl ?_
    refine fV.if_eq bX7_rule_10 (fun c10 => ?_) (fun c10 => ?_)
    · refine fV.run iX7_rule_25_2 oX7_rule_25_2 (pc' := 27) (L' := [(0, .ref 0), (1, .int t), (2, .int v)]) (st' := [.int 1, .int t]) (S' := S) rfl trivial ?_
      refine fV.icmp_ne bX7_rule_27 (fun c27 => ?_) (fun c27 => ?_)
      · refine fV.run iX7_rule_52_1 oX7_rule_52_1 (pc' := 55) (L' := [(0, .ref 0), (1, .int t), (2, .int v)]) (st' := [.int (-1002)]) (S' := S) rfl trivial ?_
        exact fV.iret rfl dX7_rule_55 (by first | exact (by unfold oRule; rw [if_pos (by grind [fB, hC]), if_neg (by grind [fB, hC])]; exact ⟨rfl, rfl, rfl, fun _ z => z⟩) | exact (by unfold oRule; rw [if_neg (by grind [fB, hC]), if_pos (by grind [fB, hC]), if_neg (by grind [fB, hC])]; exact ⟨rfl, rfl, rfl, fun _ z => z⟩) | exact (by unfold oRule; rw [if_neg (by grind [fB, hC]), if_neg (by grind [fB, hC])]; exact ⟨rfl, rfl, rfl, fun _ z => z⟩) | (exfalso; grind [fB]))
      · refine fV.run iX7_rule_30_3 oX7_rule_30_3 (pc' := 34) (L' := [(0, .ref 0), (1, .int t), (2, .int v)]) (st' := [.int 100, .int 1, .int v]) (S' := S) rfl trivial ?_
        refine fV.callS (M2 := mX7_isWithin) (d := d) (av := [.int v, .int 1, .int 100]) (rest := []) kX7_isWithin dX7_rule_34 lX7_74 rfl rfl (Nat.le_of_ble_eq_true rfl) (fRoom (by decide)) ⟨Nat.le_refl _, Nat.le_refl _⟩ (qX7_isWithin _ _ _) ?_
        rintro _ S9 ⟨rfl, h9⟩
        rw [h9]
        clear h9 S9
        refine fV.to (pc' := 37) (L' := [(0, .ref 0), (1, .int t), (2, .int v)]) (st' := [.int (fB (decide (1 ≤ v ∧ v ≤ 100)))]) (S' := S) rfl rfl rfl rfl ?_
        refine fV.if_eq bX7_rule_37 (fun c37 => ?_) (fun c37 => ?_)
        · refine fV.run iX7_rule_52_1 oX7_rule_52_1 (pc' := 55) (L' := [(0, .ref 0), (1, .int t), (2, .int v)]) (st' := [.int (-1002)]) (S' := S) rfl trivial ?_
          exact fV.iret rfl dX7_rule_55 (by first | exact (by unfold oRule; rw [if_pos (by grind [fB, hC]), if_neg (by grind [fB, hC])]; exact ⟨rfl, rfl, rfl, fun _ z => z⟩) | exact (by unfold oRule; rw [if_neg (by grind [fB, hC]), if_pos (by grind [fB, hC]), if_neg (by grind [fB, hC])]; exact ⟨rfl, rfl, rfl, fun _ z => z⟩) | exact (by unfold oRule; rw [if_neg (by grind [fB, hC]), if_neg (by grind [fB, hC])]; exact ⟨rfl, rfl, rfl, fun _ z => z⟩) | (exfalso; grind [fB]))
        · refine fV.run iX7_rule_40_7 oX7_rule_40_7 (pc' := 51) (L' := [(0, .ref 0), (1, .int t), (2, .int v), (3, .int (gI S 0 10))]) (st' := [.int (gI S 0 10)]) (S' := (wI S 0 10 v)) rfl trivial ?_
          exact fV.iret rfl dX7_rule_51 (by unfold oRule; rw [if_neg (by grind [fB, hC]), if_pos (by grind [fB, hC]), if_pos (by grind [fB, hC])]; exact ⟨rfl, rfl, rfl, fun _ z => z⟩)
    · refine fV.run iX7_rule_13_7 oX7_rule_13_7 (pc' := 24) (L' := [(0, .ref 0), (1, .int t), (2, .int v), (3, .int (gI S 0 9))]) (st' := [.int (gI S 0 9)]) (S' := (wI S 0 9 v)) rfl trivial ?_
      exact fV.iret rfl dX7_rule_24 (by unfold oRule; rw [if_pos (by grind [fB, hC]), if_pos (by grind [fB, hC])]; exact ⟨rfl, rfl, rfl, fun _ z => z⟩)
def iX6_lengthOf_0_9 : List Instr := [.aload_n 0, .getfield 27, .iload_n 1, .iaload, .aload_n 0, .getfield 24, .iload_n 1, .iaload, .isub]
theorem oX6_lengthOf_0_9 : fOkB cX6_lengthOf 0 iX6_lengthOf_0_9 = true := by decide +kernel
theorem dX6_lengthOf_13 : decode cX6_lengthOf 13 = .ok (.ireturn, 1) := by decide +kernel
set_option maxRecDepth 100000 in
theorem qX6_lengthOf {G : fG} {d : Nat} {S : fS} (w : Int32) (hw : vp_in w 16) : fCtr G (d) mX6_lengthOf [.ref 4, .int w] S (fun r S' => r = some (.int (gA S 10 w.toNatClampNeg - gA S 9 w.toNatClampNeg)) ∧ S' = S) := by
  refine fCtr.of bXX6_lengthOf (Nat.le_of_ble_eq_true rfl) rfl ?_
  refine fV.run iX6_lengthOf_0_9 oX6_lengthOf_0_9 (pc' := 13) (L' := [(0, .ref 4), (1, .int w)]) (st' := [.int ((gA S 10 w.toNatClampNeg) - (gA S 9 w.toNatClampNeg))]) (S' := S) (P := vp_in w 16 ∧ vp_in w 16 ∧ True) rfl ⟨hw, hw, trivial⟩ ?_
  exact fV.iret rfl dX6_lengthOf_13 ⟨rfl, rfl⟩

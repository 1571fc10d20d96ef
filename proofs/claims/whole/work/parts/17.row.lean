/-! a row of walls: images, eyes, fractions; whether it has bounces, whether it is seen -/
theorem cm1 {j : Nat} (h : ¬ nI j < 1) (hj : j ≤ 100) : (nI j - 1).toNatClampNeg = j - 1 ∧ 1 ≤ j := by
  have h1 : 1 ≤ j := by
    rcases Nat.lt_or_ge j 1 with q | q
    · exact absurd ((nI_ltI (b := 1) (by omega) (by decide)).mpr q) h
    · exact q
  obtain ⟨i, rfl⟩ : ∃ i, j = i + 1 := ⟨j - 1, by omega⟩
  rw [nI_pred, nI_clamp (by omega)]
  exact ⟨by omega, by omega⟩
theorem jl1 {j : Nat} (h : nI j < 1) (hj : j ≤ 100) : ¬ 1 ≤ j := by
  have := (nI_ltI (b := 1) (by omega) (by decide)).mp h
  omega
theorem kl_n {x : Int32} {j k : Nat} (hk : x = nI k) (h : x ≤ nI j) (hj : j ≤ 100) (hk3 : k ≤ 100) : ¬ j < k := by
  rw [hk, nI_leI (by omega) (by omega)] at h; omega
theorem kl_p {x : Int32} {j k : Nat} (hk : x = nI k) (h : ¬ x ≤ nI j) (hj : j ≤ 100) (hk3 : k ≤ 100) : j < k := by
  rw [hk, nI_leI (by omega) (by omega)] at h; omega
def eyeD (en : Nat → Int32) (seat : zP) (r : Nat → Nat) (k : Nat) : Nat → zP
  | 0 => seat
  | m + 1 => mirP en (r (k - 1 - m)) (eyeD en seat r k m)
def imgD (en : Nat → Int32) (src : zP) (r : Nat → Nat) : Nat → zP
  | 0 => src
  | j + 1 => mirP en (r j) (imgD en src r j)
def frD (en : Nat → Int32) (src seat : zP) (r : Nat → Nat) (k : Nat) : Nat → Int64 × Int64
  | 0 => (0, 1)
  | m + 1 => if m = k then (1, 1) else (zPt en (r (k - 1 - m)) (eyeD en seat r k m) (imgD en src r (k - m)), zWh en (r (k - 1 - m)) (eyeD en seat r k m) (imgD en src r (k - m)))
def bOkD (en : Nat → Int32) (src seat : zP) (r : Nat → Nat) (k m : Nat) : Prop := zB en (r (k - 1 - m)) (eyeD en seat r k m) (imgD en src r (k - m)) (frD en src seat r k m).1 (frD en src seat r k m).2
def hasD (en : Nat → Int32) (src seat : zP) (r : Nat → Nat) (k : Nat) : Prop := ∀ m, m < k → bOkD en src seat r k m
def endsD (r : Nat → Nat) (k m w : Nat) : Prop := (m < k ∧ r (k - 1 - m) = w) ∨ (0 < m ∧ r (k - m) = w)
def mtD (en : Nat → Int32) (src seat : zP) (r : Nat → Nat) (k m w : Nat) : Prop := zM en w (eyeD en seat r k m) (imgD en src r (k - m)) (frD en src seat r k m).1 (frD en src seat r k m).2 (frD en src seat r k (m + 1)).1 (frD en src seat r k (m + 1)).2
def seenD (en : Nat → Int32) (b : Nat) (src seat : zP) (r : Nat → Nat) (k : Nat) : Prop := ∀ m, m ≤ k → ∀ w, w < b → ¬ endsD r k m w → ¬ mtD en src seat r k m w
/-- a row stands in the route, with its images -/
def rtRow (S : fS) (b : Nat) (src seat : zP) (r : Nat → Nat) (k : Nat) : Prop := gI S 18 7 = nI k ∧ k ≤ 3 ∧ (∀ i, i < k → gA S 19 i = nI (r i) ∧ r i < b) ∧ (∀ j, j ≤ k → pA (gA S 20) j = imgD (gA S 5) src r j) ∧ (gI S 18 5, gI S 18 6) = seat
/-- its eyes and fractions stand there too -/
def rtEye (en : Nat → Int32) (seat : zP) (r : Nat → Nat) (k m : Nat) (g : Nat → Int32) : Prop := ∀ i, i ≤ m → pA g (k - i) = eyeD en seat r k i
def rtFr (en : Nat → Int32) (src seat : zP) (r : Nat → Nat) (k m : Nat) (p q : Nat → Int64) : Prop := ∀ i, i ≤ m → p (k + 1 - i) = (frD en src seat r k i).1 ∧ q (k + 1 - i) = (frD en src seat r k i).2
def iX3_bouncesAtEnd_0_2 : List Instr := [.iload_n 1, .iconst 1]
theorem oX3_bouncesAtEnd_0_2 : fOkB cX3_bouncesAtEnd 0 iX3_bouncesAtEnd_0_2 = true := by decide +kernel
theorem bX3_bouncesAtEnd_2 : fBk cX3_bouncesAtEnd 2 (.if_icmp .lt) 17 := ⟨15, by decide +kernel, by decide⟩
def iX3_bouncesAtEnd_17_3 : List Instr := [.iload_n 1, .aload_n 0, .getfield 35]
theorem oX3_bouncesAtEnd_17_3 : fOkB cX3_bouncesAtEnd 17 iX3_bouncesAtEnd_17_3 = true := by decide +kernel
theorem bX3_bouncesAtEnd_22 : fBk cX3_bouncesAtEnd 22 (.if_icmp .ge) 39 := ⟨17, by decide +kernel, by decide⟩
def iX3_bouncesAtEnd_39_1 : List Instr := [.iconst 0]
theorem oX3_bouncesAtEnd_39_1 : fOkB cX3_bouncesAtEnd 39 iX3_bouncesAtEnd_39_1 = true := by decide +kernel
theorem dX3_bouncesAtEnd_40 : decode cX3_bouncesAtEnd 40 = .ok (.ireturn, 1) := by decide +kernel
def iX3_bouncesAtEnd_25_4 : List Instr := [.aload_n 0, .getfield 9, .iload_n 1, .iaload]
theorem oX3_bouncesAtEnd_25_4 : fOkB cX3_bouncesAtEnd 25 iX3_bouncesAtEnd_25_4 = true := by decide +kernel
def iX3_bouncesAtEnd_31_1 : List Instr := [.iload_n 2]
theorem oX3_bouncesAtEnd_31_1 : fOkB cX3_bouncesAtEnd 31 iX3_bouncesAtEnd_31_1 = true := by decide +kernel
theorem bX3_bouncesAtEnd_32 : fBk cX3_bouncesAtEnd 32 (.if_icmp .ne) 39 := ⟨7, by decide +kernel, by decide⟩
def iX3_bouncesAtEnd_35_2 : List Instr := [.iconst 1, .goto 4]
theorem oX3_bouncesAtEnd_35_2 : fOkB cX3_bouncesAtEnd 35 iX3_bouncesAtEnd_35_2 = true := by decide +kernel
def iX3_bouncesAtEnd_5_6 : List Instr := [.aload_n 0, .getfield 9, .iload_n 1, .iconst 1, .isub, .iaload]
theorem oX3_bouncesAtEnd_5_6 : fOkB cX3_bouncesAtEnd 5 iX3_bouncesAtEnd_5_6 = true := by decide +kernel
def iX3_bouncesAtEnd_13_1 : List Instr := [.iload_n 2]
theorem oX3_bouncesAtEnd_13_1 : fOkB cX3_bouncesAtEnd 13 iX3_bouncesAtEnd_13_1 = true := by decide +kernel
theorem bX3_bouncesAtEnd_14 : fBk cX3_bouncesAtEnd 14 (.if_icmp .eq) 35 := ⟨21, by decide +kernel, by decide⟩
set_option maxRecDepth 100000 in
theorem qX3_ends {G : fG} {d : Nat} {S : fS} {j w k : Nat} (hk : gI S 18 7 = nI k) (hk3 : k ≤ 3) (hj : j ≤ k) (hw : w < 16)  : fCtr G (d) mX3_bouncesAtEnd [.ref 18, .int (nI j), .int (nI w)] S (fun r S' => (((1 ≤ j ∧ gA S 19 (j - 1) = nI w) ∨ (j < k ∧ gA S 19 j = nI w)) ∧ r = some (.int 1) ∧ S' = S) ∨ (¬ ((1 ≤ j ∧ gA S 19 (j - 1) = nI w) ∨ (j < k ∧ gA S 19 j = nI w)) ∧ r = some (.int 0) ∧ S' = S)) := by
  refine fCtr.of bXX3_bouncesAtEnd (Nat.le_of_ble_eq_true rfl) rfl ?_
  refine fV.run iX3_bouncesAtEnd_0_2 oX3_bouncesAtEnd_0_2 (pc' := 2) (L' := [(0, .ref 18), (1, .int (nI j)), (2, .int (nI w))]) (st' := [.int 1, .int (nI j)]) (S' := S) rfl trivial ?_
  refine fV.icmp_lt bX3_bouncesAtEnd_2 (fun c2 => ?_) (fun c2 => ?_)
  · refine fV.run iX3_bouncesAtEnd_17_3 oX3_bouncesAtEnd_17_3 (pc' := 22) (L' := [(0, .ref 18), (1, .int (nI j)), (2, .int (nI w))]) (st' := [.int (gI S 18 7), .int (nI j)]) (S' := S) rfl trivial ?_
    refine fV.icmp_ge bX3_bouncesAtEnd_22 (fun c22 => ?_) (fun c22 => ?_)
    · refine fV.run iX3_bouncesAtEnd_39_1 oX3_bouncesAtEnd_39_1 (pc' := 40) (L' := [(0, .ref 18), (1, .int (nI j)), (2, .int (nI w))]) (st' := [.int 0]) (S' := S) rfl trivial ?_
      exact fV.zret rfl dX3_bouncesAtEnd_40 (by decide) (Or.inr ⟨fun z => by rcases z with ⟨z1, z2⟩ | ⟨z1, z2⟩ <;> first | exact c14 z2 | exact c32 z2 | exact jl1 c2 (by omega) z1 | exact kl_n hk c22 (by omega) (by omega) z1, rfl, rfl⟩)
    · refine fV.run iX3_bouncesAtEnd_25_4 oX3_bouncesAtEnd_25_4 (pc' := 31) (L' := [(0, .ref 18), (1, .int (nI j)), (2, .int (nI w))]) (st' := [.int (gA S 19 (nI j).toNatClampNeg)]) (S' := S) (P := vp_in (nI j) 3 ∧ True) rfl ⟨(vp_in_nI (show j < 3 by have := kl_p hk c22 (by omega) (by omega); omega) (by decide)), trivial⟩ ?_
      refine fV.to (L' := [(0, .ref 18), (1, .int (nI j)), (2, .int (nI w))]) (st' := [.int (gA S 19 j)]) rfl rfl (by rw [show (gA S 19 (nI j).toNatClampNeg : Int32) = gA S 19 j from by rw [nI_clamp (by omega)]]) rfl ?_
      refine fV.run iX3_bouncesAtEnd_31_1 oX3_bouncesAtEnd_31_1 (pc' := 32) (L' := [(0, .ref 18), (1, .int (nI j)), (2, .int (nI w))]) (st' := [.int (nI w), .int (gA S 19 j)]) (S' := S) rfl trivial ?_
      refine fV.icmp_ne bX3_bouncesAtEnd_32 (fun c32 => ?_) (fun c32 => ?_)
      · refine fV.run iX3_bouncesAtEnd_39_1 oX3_bouncesAtEnd_39_1 (pc' := 40) (L' := [(0, .ref 18), (1, .int (nI j)), (2, .int (nI w))]) (st' := [.int 0]) (S' := S) rfl trivial ?_
        exact fV.zret rfl dX3_bouncesAtEnd_40 (by decide) (Or.inr ⟨fun z => by rcases z with ⟨z1, z2⟩ | ⟨z1, z2⟩ <;> first | exact c14 z2 | exact c32 z2 | exact jl1 c2 (by omega) z1 | exact kl_n hk c22 (by omega) (by omega) z1, rfl, rfl⟩)
      · refine fV.run iX3_bouncesAtEnd_35_2 oX3_bouncesAtEnd_35_2 (pc' := 40) (L' := [(0, .ref 18), (1, .int (nI j)), (2, .int (nI w))]) (st' := [.int 1]) (S' := S) rfl trivial ?_
        exact fV.zret rfl dX3_bouncesAtEnd_40 (by decide) (by first | exact Or.inl ⟨Or.inl ⟨(cm1 c2 (by omega)).2, c14⟩, rfl, rfl⟩ | exact Or.inl ⟨Or.inr ⟨kl_p hk c22 (by omega) (by omega), c32⟩, rfl, rfl⟩)
  · refine fV.run iX3_bouncesAtEnd_5_6 oX3_bouncesAtEnd_5_6 (pc' := 13) (L' := [(0, .ref 18), (1, .int (nI j)), (2, .int (nI w))]) (st' := [.int (gA S 19 ((nI j) - 1).toNatClampNeg)]) (S' := S) (P := vp_in ((nI j) - 1) 3 ∧ True) rfl ⟨(vinN (w := j - 1) (by have := (cm1 c2 (by omega)).2; omega) (by decide) (by obtain ⟨i, rfl⟩ : ∃ i, j = i + 1 := ⟨j - 1, by have := (cm1 c2 (by omega)).2; omega⟩; rw [nI_pred]; rfl)), trivial⟩ ?_
    refine fV.to (L' := [(0, .ref 18), (1, .int (nI j)), (2, .int (nI w))]) (st' := [.int (gA S 19 (j - 1))]) rfl rfl (by rw [show (gA S 19 ((nI j) - 1).toNatClampNeg : Int32) = gA S 19 (j - 1) from by rw [(cm1 c2 (by omega)).1]]) rfl ?_
    refine fV.run iX3_bouncesAtEnd_13_1 oX3_bouncesAtEnd_13_1 (pc' := 14) (L' := [(0, .ref 18), (1, .int (nI j)), (2, .int (nI w))]) (st' := [.int (nI w), .int (gA S 19 (j - 1))]) (S' := S) rfl trivial ?_
    refine fV.icmp_eq bX3_bouncesAtEnd_14 (fun c14 => ?_) (fun c14 => ?_)
    · refine fV.run iX3_bouncesAtEnd_35_2 oX3_bouncesAtEnd_35_2 (pc' := 40) (L' := [(0, .ref 18), (1, .int (nI j)), (2, .int (nI w))]) (st' := [.int 1]) (S' := S) rfl trivial ?_
      exact fV.zret rfl dX3_bouncesAtEnd_40 (by decide) (by first | exact Or.inl ⟨Or.inl ⟨(cm1 c2 (by omega)).2, c14⟩, rfl, rfl⟩ | exact Or.inl ⟨Or.inr ⟨kl_p hk c22 (by omega) (by omega), c32⟩, rfl, rfl⟩)
    · refine fV.run iX3_bouncesAtEnd_17_3 oX3_bouncesAtEnd_17_3 (pc' := 22) (L' := [(0, .ref 18), (1, .int (nI j)), (2, .int (nI w))]) (st' := [.int (gI S 18 7), .int (nI j)]) (S' := S) rfl trivial ?_
      refine fV.icmp_ge bX3_bouncesAtEnd_22 (fun c22 => ?_) (fun c22 => ?_)
      · refine fV.run iX3_bouncesAtEnd_39_1 oX3_bouncesAtEnd_39_1 (pc' := 40) (L' := [(0, .ref 18), (1, .int (nI j)), (2, .int (nI w))]) (st' := [.int 0]) (S' := S) rfl trivial ?_
        exact fV.zret rfl dX3_bouncesAtEnd_40 (by decide) (Or.inr ⟨fun z => by rcases z with ⟨z1, z2⟩ | ⟨z1, z2⟩ <;> first | exact c14 z2 | exact c32 z2 | exact jl1 c2 (by omega) z1 | exact kl_n hk c22 (by omega) (by omega) z1, rfl, rfl⟩)
      · refine fV.run iX3_bouncesAtEnd_25_4 oX3_bouncesAtEnd_25_4 (pc' := 31) (L' := [(0, .ref 18), (1, .int (nI j)), (2, .int (nI w))]) (st' := [.int (gA S 19 (nI j).toNatClampNeg)]) (S' := S) (P := vp_in (nI j) 3 ∧ True) rfl ⟨(vp_in_nI (show j < 3 by have := kl_p hk c22 (by omega) (by omega); omega) (by decide)), trivial⟩ ?_
        refine fV.to (L' := [(0, .ref 18), (1, .int (nI j)), (2, .int (nI w))]) (st' := [.int (gA S 19 j)]) rfl rfl (by rw [show (gA S 19 (nI j).toNatClampNeg : Int32) = gA S 19 j from by rw [nI_clamp (by omega)]]) rfl ?_
        refine fV.run iX3_bouncesAtEnd_31_1 oX3_bouncesAtEnd_31_1 (pc' := 32) (L' := [(0, .ref 18), (1, .int (nI j)), (2, .int (nI w))]) (st' := [.int (nI w), .int (gA S 19 j)]) (S' := S) rfl trivial ?_
        refine fV.icmp_ne bX3_bouncesAtEnd_32 (fun c32 => ?_) (fun c32 => ?_)
        · refine fV.run iX3_bouncesAtEnd_39_1 oX3_bouncesAtEnd_39_1 (pc' := 40) (L' := [(0, .ref 18), (1, .int (nI j)), (2, .int (nI w))]) (st' := [.int 0]) (S' := S) rfl trivial ?_
          exact fV.zret rfl dX3_bouncesAtEnd_40 (by decide) (Or.inr ⟨fun z => by rcases z with ⟨z1, z2⟩ | ⟨z1, z2⟩ <;> first | exact c14 z2 | exact c32 z2 | exact jl1 c2 (by omega) z1 | exact kl_n hk c22 (by omega) (by omega) z1, rfl, rfl⟩)
        · refine fV.run iX3_bouncesAtEnd_35_2 oX3_bouncesAtEnd_35_2 (pc' := 40) (L' := [(0, .ref 18), (1, .int (nI j)), (2, .int (nI w))]) (st' := [.int 1]) (S' := S) rfl trivial ?_
          exact fV.zret rfl dX3_bouncesAtEnd_40 (by decide) (by first | exact Or.inl ⟨Or.inl ⟨(cm1 c2 (by omega)).2, c14⟩, rfl, rfl⟩ | exact Or.inl ⟨Or.inr ⟨kl_p hk c22 (by omega) (by omega), c32⟩, rfl, rfl⟩)
def iX3_start_0_16 : List Instr := [.aload_n 0, .getfield 15, .iconst 0, .iload_n 1, .iastore, .aload_n 0, .getfield 15, .iconst 1, .iload_n 2, .iastore, .aload_n 0, .iload_n 3, .putfield 28, .aload_n 0, .iload 4, .putfield 32]
theorem oX3_start_0_16 : fOkB cX3_start 0 iX3_start_0_16 = true := by decide +kernel
theorem dX3_start_25 : decode cX3_start 25 = .ok (.return_, 1) := by decide +kernel
set_option maxRecDepth 100000 in
theorem qX3_start {G : fG} {d : Nat} {S : fS} (x y p q : Int32)  : fCtr G (d) mX3_start [.ref 18, .int x, .int y, .int p, .int q] S (fun r S' => r = none ∧ S' = wI (wI (wA S 20 (upd (upd (gA S 20) 0 x) 1 y)) 18 5 p) 18 6 q) := by
  refine fCtr.of bXX3_start (Nat.le_of_ble_eq_true rfl) rfl ?_
  refine fV.run iX3_start_0_16 oX3_start_0_16 (pc' := 25) (L' := [(0, .ref 18), (1, .int x), (2, .int y), (3, .int p), (4, .int q)]) (st' := []) (S' := (wI (wI (wA (wA S 20 (upd (gA S 20) (0 : Int32).toNatClampNeg x)) 20 (upd (upd (gA S 20) (0 : Int32).toNatClampNeg x) (1 : Int32).toNatClampNeg y)) 18 5 p) 18 6 q)) (P := vp_in 0 8 ∧ vp_in 1 8 ∧ True) rfl ⟨(by unfold vp_in; decide), (by unfold vp_in; decide), trivial⟩ ?_
  exact fV.vret rfl dX3_start_25 ⟨rfl, by rw [wA_wA]; rfl⟩
def iX3_put_0_13 : List Instr := [.aload_n 0, .getfield 9, .iload_n 1, .iload_n 2, .iastore, .aload_n 0, .getfield 15, .iload_n 1, .iload_n 1, .iconst 1, .iadd, .iload_n 2, .aload_n 3]
theorem oX3_put_0_13 : fOkB cX3_put 0 iX3_put_0_13 = true := by decide +kernel
set_option maxRecDepth 100000 in
theorem lX3_38 : Cond.methodLink RX3 38 yX3_mirror ∈ fTB := fTB_at 461 rfl rfl
theorem dX3_put_17 : decode cX3_put 17 = .ok (.invokestatic 38, 3) := by decide +kernel
theorem dX3_put_20 : decode cX3_put 20 = .ok (.return_, 1) := by decide +kernel
set_option maxRecDepth 100000 in
theorem qX3_put {G : fG} {d : Nat} {S : fS} {b w i : Nat} (HG : hGeo S b) (hw : w < b) (hb : b ≤ 16) (hi : i < 3)  : fCtr G (d + 1) mX3_put [.ref 18, .int (nI i), .int (nI w), .ref 4] S (fun r S' => r = none ∧ S' = wA (wA S 19 (upd (gA S 19) i (nI w))) 20 (mirA (gA S 5) w i (i + 1) (gA S 20))) := by
  refine fCtr.of bXX3_put (Nat.le_of_ble_eq_true rfl) rfl ?_
  refine fV.run iX3_put_0_13 oX3_put_0_13 (pc' := 17) (L' := [(0, .ref 18), (1, .int (nI i)), (2, .int (nI w)), (3, .ref 4)]) (st' := [.ref 4, .int (nI w), .int ((nI i) + 1), .int (nI i), .ref 20]) (S' := (wA S 19 (upd (gA S 19) (nI i).toNatClampNeg (nI w)))) (P := vp_in (nI i) 3 ∧ True) rfl ⟨(vp_in_nI hi (by decide)), trivial⟩ ?_
  refine fV.callS (M2 := mX3_mirror) (d := d) (av := [.ref 20, .int (nI i), .int ((nI i) + 1), .int (nI w), .ref 4]) (rest := []) kX3_mirror dX3_put_17 lX3_38 rfl rfl (Nat.le_of_ble_eq_true rfl) (fRoom (by decide)) ⟨Nat.le_refl _, Nat.le_refl _⟩ (qMirE_20 (S := (wA S 19 (upd (gA S 19) (nI i).toNatClampNeg (nI w)))) (f := i) (t := i + 1) (geo_wA (by decide) HG) hw hb (by omega) (by omega) rfl (nI_1 i) rfl) ?_
  rintro _ S9 ⟨rfl, h9⟩
  rw [h9]
  clear h9 S9
  refine fV.to (pc' := 20) (L' := [(0, .ref 18), (1, .int (nI i)), (2, .int (nI w)), (3, .ref 4)]) (st' := []) (S' := (wA (wA S 19 (upd (gA S 19) (nI i).toNatClampNeg (nI w))) 20 (mirA (gA S 5) w i (i + 1) (gA S 20)))) rfl rfl rfl rfl ?_
  exact fV.vret rfl dX3_put_20 ⟨rfl, by rw [nI_clamp (by omega)]⟩
def iX3_lengthSquared_0_11 : List Instr := [.aload_n 0, .getfield 15, .iconst 2, .aload_n 0, .getfield 35, .imul, .iaload, .aload_n 0, .getfield 28, .isub, .i2l]
theorem oX3_lengthSquared_0_11 : fOkB cX3_lengthSquared 0 iX3_lengthSquared_0_11 = true := by decide +kernel
def iX3_lengthSquared_17_14 : List Instr := [.lstore_n 1, .aload_n 0, .getfield 15, .iconst 2, .aload_n 0, .getfield 35, .imul, .iconst 1, .iadd, .iaload, .aload_n 0, .getfield 32, .isub, .i2l]
theorem oX3_lengthSquared_17_14 : fOkB cX3_lengthSquared 17 iX3_lengthSquared_17_14 = true := by decide +kernel
def iX3_lengthSquared_37_8 : List Instr := [.lstore_n 3, .lload_n 1, .lload_n 1, .lmul, .lload_n 3, .lload_n 3, .lmul, .ladd]
theorem oX3_lengthSquared_37_8 : fOkB cX3_lengthSquared 37 iX3_lengthSquared_37_8 = true := by decide +kernel
theorem dX3_lengthSquared_45 : decode cX3_lengthSquared 45 = .ok (.lreturn, 1) := by decide +kernel
set_option maxRecDepth 100000 in
theorem qX3_len2 {G : fG} {d : Nat} {S : fS} {k : Nat} (hk : gI S 18 7 = nI k) (hk3 : k ≤ 3)  : fCtr G (d) mX3_lengthSquared [.ref 18] S (fun r S' => r = some (.long ((gA S 20 (2 * k) - gI S 18 5).toInt64 * (gA S 20 (2 * k) - gI S 18 5).toInt64 + (gA S 20 (2 * k + 1) - gI S 18 6).toInt64 * (gA S 20 (2 * k + 1) - gI S 18 6).toInt64)) ∧ S' = S) := by
  refine fCtr.of bXX3_lengthSquared (Nat.le_of_ble_eq_true rfl) rfl ?_
  refine fV.run iX3_lengthSquared_0_11 oX3_lengthSquared_0_11 (pc' := 17) (L' := [(0, .ref 18)]) (st' := [.long (Int32.toInt64 ((gA S 20 (2 * (gI S 18 7)).toNatClampNeg) - (gI S 18 5)))]) (S' := S) (P := vp_in (2 * (gI S 18 7)) 8 ∧ True) rfl ⟨(vinN (w := 2 * k) (by omega) (by decide) (by rw [hk]; exact nI2)), trivial⟩ ?_
  refine fV.to (L' := [(0, .ref 18)]) (st' := [.long (Int32.toInt64 (gA S 20 (2 * k) - gI S 18 5))]) rfl rfl (by rw [show (Int32.toInt64 ((gA S 20 (2 * (gI S 18 7)).toNatClampNeg) - (gI S 18 5)) : Int64) = Int32.toInt64 (gA S 20 (2 * k) - gI S 18 5) from by rw [hk, nI2, nI_clamp (by omega)]]) rfl ?_
  refine fV.run iX3_lengthSquared_17_14 oX3_lengthSquared_17_14 (pc' := 37) (L' := [(0, .ref 18), (1, .long (Int32.toInt64 (gA S 20 (2 * k) - gI S 18 5)))]) (st' := [.long (Int32.toInt64 ((gA S 20 ((2 * (gI S 18 7)) + 1).toNatClampNeg) - (gI S 18 6)))]) (S' := S) (P := vp_in ((2 * (gI S 18 7)) + 1) 8 ∧ True) rfl ⟨(vinN (w := 2 * k + 1) (by omega) (by decide) (by rw [hk, nI2]; exact nI_1 _)), trivial⟩ ?_
  refine fV.to (L' := [(0, .ref 18), (1, .long (Int32.toInt64 (gA S 20 (2 * k) - gI S 18 5)))]) (st' := [.long (Int32.toInt64 (gA S 20 (2 * k + 1) - gI S 18 6))]) rfl rfl (by rw [show (Int32.toInt64 ((gA S 20 ((2 * (gI S 18 7)) + 1).toNatClampNeg) - (gI S 18 6)) : Int64) = Int32.toInt64 (gA S 20 (2 * k + 1) - gI S 18 6) from by rw [hk, nI2, nI_1, nI_clamp (by omega)]]) rfl ?_
  refine fV.run iX3_lengthSquared_37_8 oX3_lengthSquared_37_8 (pc' := 45) (L' := [(0, .ref 18), (1, .long (Int32.toInt64 (gA S 20 (2 * k) - gI S 18 5))), (3, .long (Int32.toInt64 (gA S 20 (2 * k + 1) - gI S 18 6)))]) (st' := [.long (((Int32.toInt64 (gA S 20 (2 * k) - gI S 18 5)) * (Int32.toInt64 (gA S 20 (2 * k) - gI S 18 5))) + ((Int32.toInt64 (gA S 20 (2 * k + 1) - gI S 18 6)) * (Int32.toInt64 (gA S 20 (2 * k + 1) - gI S 18 6))))]) (S' := S) rfl trivial ?_
  exact fV.lret rfl dX3_lengthSquared_45 ⟨rfl, rfl⟩

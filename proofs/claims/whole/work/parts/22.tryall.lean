/-! the search: all rows that begin so -/
def fX (b n : Nat) (pre : List Nat) (w : Nat) : List (List Nat) := if pre.getLast? = some w then [] else rowsX b n (pre ++ [w])
theorem rng_le {α : Type} (f : Nat → List α) {w b : Nat} (h : w ≤ b) : ((List.range w).flatMap f).length ≤ ((List.range b).flatMap f).length := by
  induction b with
  | zero => (obtain rfl : w = 0 := (by omega)); exact Nat.le_refl _
  | succ b ih =>
    by_cases e : w = b + 1
    · subst e; exact Nat.le_refl _
    · have := ih (by omega)
      rw [List.range_succ, List.flatMap_append, List.length_append]
      omega
theorem rng_s {α : Type} (f : Nat → List α) (w : Nat) : (List.range (w + 1)).flatMap f = (List.range w).flatMap f ++ f w := by
  rw [List.range_succ, List.flatMap_append]; simp
noncomputable def prt (en : Nat → Int32) (b : Nat) (src seat : zP) (n : Nat) (pre : List Nat) (w : Nat) : List pTh := ((List.range w).flatMap (fX b n pre)).filterMap (pOf en b src seat)
theorem prt_s (en : Nat → Int32) (b : Nat) (src seat : zP) (n : Nat) (pre : List Nat) (w : Nat) : prt en b src seat n pre (w + 1) = prt en b src seat n pre w ++ (fX b n pre w).filterMap (pOf en b src seat) := by
  unfold prt; rw [rng_s, List.filterMap_append]
theorem prt_cap {en : Nat → Int32} {b : Nat} {src seat : zP} {n m : Nat} {pre : List Nat} {w : Nat} (hw : w < b) (h : m + (rowsX b (n + 1) pre).length ≤ 3857) : m + (prt en b src seat n pre w).length + (fX b n pre w).length ≤ 3857 := by
  have h1 := rng_le (fX b n pre) (show w + 1 ≤ b by omega)
  rw [rng_s, List.length_append] at h1
  have h2 : (prt en b src seat n pre w).length ≤ ((List.range w).flatMap (fX b n pre)).length := List.length_filterMap_le _ _
  have h3 : (rowsX b (n + 1) pre).length = ((List.range b).flatMap (fX b n pre)).length := rfl
  omega
theorem czero {n : Nat} (h : nI n = 0) (hn : n ≤ 100) : n = 0 := (nI_eq (b := 0) (by omega) (by decide)).mp h
theorem cpos {n : Nat} (h : ¬ nI n = 0) : 0 < n := Nat.pos_of_ne_zero (fun e => h (by rw [e]; rfl))
theorem cpred {n : Nat} (h : ¬ nI n = 0) (hn : n ≤ 100) : nI n - 1 = nI (n - 1) := by
  obtain ⟨i, rfl⟩ : ∃ i, n = i + 1 := ⟨n - 1, by have := cpos h; omega⟩
  rw [nI_pred]; rfl
def iX7_tryRows_52_4 : List Instr := [.iload_n 3, .aload_n 0, .getfield 19, .getfield 97]
theorem oX7_tryRows_52_4 : fOkB cX7_tryRows 52 iX7_tryRows_52_4 = true := by decide +kernel
theorem bX7_tryRows_60 : fBk cX7_tryRows 60 (.if_icmp .ge) 109 := ⟨49, by decide +kernel, by decide⟩
theorem dX7_tryRows_109 : decode cX7_tryRows 109 = .ok (.return_, 1) := by decide +kernel
def iX7_tryRows_63_1 : List Instr := [.iload_n 1]
theorem oX7_tryRows_63_1 : fOkB cX7_tryRows 63 iX7_tryRows_63_1 = true := by decide +kernel
theorem bX7_tryRows_64 : fBk cX7_tryRows 64 (.ifCond .eq) 82 := ⟨18, by decide +kernel, by decide⟩
def iX7_tryRows_82_6 : List Instr := [.aload_n 0, .getfield 42, .iload_n 1, .iload_n 3, .aload_n 0, .getfield 19]
theorem oX7_tryRows_82_6 : fOkB cX7_tryRows 82 iX7_tryRows_82_6 = true := by decide +kernel
set_option maxRecDepth 100000 in
theorem lX7_249 : Cond.methodLink RX7 249 yX3_put ∈ fTB := fTB_at 492 rfl rfl
theorem dX7_tryRows_92 : decode cX7_tryRows 92 = .ok (.invokevirtual 249, 3) := by decide +kernel
def iX7_tryRows_95_4 : List Instr := [.aload_n 0, .iload_n 1, .iconst 1, .iadd]
theorem oX7_tryRows_95_4 : fOkB cX7_tryRows 95 iX7_tryRows_95_4 = true := by decide +kernel
def iX7_tryRows_99_1 : List Instr := [.iload_n 2]
theorem oX7_tryRows_99_1 : fOkB cX7_tryRows 99 iX7_tryRows_99_1 = true := by decide +kernel
set_option maxRecDepth 100000 in
theorem lX7_255 : Cond.methodLink RX7 255 yX7_tryRows ∈ fTB := fTB_at 438 rfl rfl
theorem dX7_tryRows_100 : decode cX7_tryRows 100 = .ok (.invokevirtual 255, 3) := by decide +kernel
def iX7_tryRows_103_2 : List Instr := [.iinc 3 1, .goto (-54)]
theorem oX7_tryRows_103_2 : fOkB cX7_tryRows 103 iX7_tryRows_103_2 = true := by decide +kernel
def iX7_tryRows_67_7 : List Instr := [.aload_n 0, .getfield 42, .getfield 261, .iload_n 1, .iconst 1, .isub, .iaload]
theorem oX7_tryRows_67_7 : fOkB cX7_tryRows 67 iX7_tryRows_67_7 = true := by decide +kernel
def iX7_tryRows_78_1 : List Instr := [.iload_n 3]
theorem oX7_tryRows_78_1 : fOkB cX7_tryRows 78 iX7_tryRows_78_1 = true := by decide +kernel
theorem bX7_tryRows_79 : fBk cX7_tryRows 79 (.if_icmp .eq) 103 := ⟨24, by decide +kernel, by decide⟩
set_option maxRecDepth 100000 in
set_option maxHeartbeats 4000000 in
theorem lpX7_try {G : fG} {d : Nat} {S : fS} {b k n : Nat} {src seat : zP} {PL : List pTh} {pre : List Nat} (hb : b ≤ 16) (hk3 : k ≤ 3) (hsq : ∀ l : List Nat, l.length ≤ 3 → (∀ w ∈ l, w < b) → sqD (gA S 5) src seat l < 1073741824) (hpk : pre.length + (n + 1) = k) (hcap : PL.length + (rowsX b (n + 1) pre).length ≤ 3857) (IH : ∀ {d : Nat} {S : fS} {PL : List pTh} {pre : List Nat}, (∀ l : List Nat, l.length ≤ 3 → (∀ w ∈ l, w < b) → sqD (gA S 5) src seat l < 1073741824) → tr S b src seat k PL pre → pre.length + n = k → PL.length + (rowsX b n pre).length ≤ 3857 → fCtr G (d + n + 5) mX7_tryRows [.ref 0, .int (nI pre.length), .int (nI k)] S (fun z S' => z = none ∧ kp S S' ∧ tr S' b src seat k (PL ++ pthX (gA S 5) b src seat n pre) pre)) : ∀ (j w : Nat) (S1 : fS), w + j = b → kp S S1 → tr S1 b src seat k (PL ++ prt (gA S 5) b src seat n pre w) pre →
    fV G mX7_tryRows (fZm G (d + (n + 1) + 5) (fun z S' => z = none ∧ kp S S' ∧ tr S' b src seat k (PL ++ pthX (gA S 5) b src seat (n + 1) pre) pre)) 52 [(0, .ref 0), (1, .int (nI pre.length)), (2, .int (nI k)), (3, .int (nI w))] [] S1 := by
  intro j
  induction j with
  | zero =>
    intro w S1 hw hkp T
    obtain ⟨HG, hbn, R, F⟩ := T
    have hen : gA S1 5 = gA S 5 := hkp.en
    refine fV.run iX7_tryRows_52_4 oX7_tryRows_52_4 (pc' := 60) (L' := [(0, .ref 0), (1, .int (nI pre.length)), (2, .int (nI k)), (3, .int (nI w))]) (st' := [.int (gI S1 4 6), .int (nI w)]) (S' := S1) rfl trivial ?_
    refine fV.icmp_ge bX7_tryRows_60 (fun c60 => ?_) (fun c60 => ?_)
    · exact fV.vret rfl dX7_tryRows_109 (by obtain rfl : w = b := (by omega); exact ⟨rfl, hkp, HG, hbn, R, F⟩)
    · exact absurd c60 (by rw [hbn, nI_leI (by omega) (by omega)]; omega)
  | succ j ih =>
    intro w S1 hw hkp T
    obtain ⟨HG, hbn, R, F⟩ := T
    have hen : gA S1 5 = gA S 5 := hkp.en
    refine fV.run iX7_tryRows_52_4 oX7_tryRows_52_4 (pc' := 60) (L' := [(0, .ref 0), (1, .int (nI pre.length)), (2, .int (nI k)), (3, .int (nI w))]) (st' := [.int (gI S1 4 6), .int (nI w)]) (S' := S1) rfl trivial ?_
    refine fV.icmp_ge bX7_tryRows_60 (fun c60 => ?_) (fun c60 => ?_)
    · exact absurd c60 (by rw [hbn, nI_leI (by omega) (by omega)]; omega)
    · refine fV.run iX7_tryRows_63_1 oX7_tryRows_63_1 (pc' := 64) (L' := [(0, .ref 0), (1, .int (nI pre.length)), (2, .int (nI k)), (3, .int (nI w))]) (st' := [.int (nI pre.length)]) (S' := S1) rfl trivial ?_
      refine fV.if_eq bX7_tryRows_64 (fun c64 => ?_) (fun c64 => ?_)
      · refine fV.run iX7_tryRows_82_6 oX7_tryRows_82_6 (pc' := 92) (L' := [(0, .ref 0), (1, .int (nI pre.length)), (2, .int (nI k)), (3, .int (nI w))]) (st' := [.ref 4, .int (nI w), .int (nI pre.length), .ref 18]) (S' := S1) rfl trivial ?_
        have hnl : ¬ pre.getLast? = some w := by first | (intro y; exact c79 (by rw [(pre_last (by have := cpos c64; omega)).mp y])) | (have h0 : pre = [] := List.length_eq_zero_iff.mp (czero c64 (by omega)); rw [h0]; intro y; cases y)
        refine fV.callV (M2 := mX3_put) (d := d + (n + 1) + 4) (o := 18) (av := [.int (nI pre.length), .int (nI w), .ref 4]) (rest := []) kX3_put dX7_tryRows_92 lX7_249 rfl rfl rfl (Nat.le_of_ble_eq_true rfl) (fRoom (by decide)) ⟨Nat.le_refl _, Nat.le_refl _⟩ (qX3_put (w := w) (i := pre.length) HG (by omega) hb (by omega)) ?_
        rintro _ S9 ⟨rfl, h9⟩
        rw [h9]
        clear h9 S9
        refine fV.to (pc' := 95) (L' := [(0, .ref 0), (1, .int (nI pre.length)), (2, .int (nI k)), (3, .int (nI w))]) (st' := []) (S' := (wA (wA S1 19 (upd (gA S1 19) pre.length (nI w))) 20 (mirA (gA S1 5) w pre.length (pre.length + 1) (gA S1 20)))) rfl rfl rfl rfl ?_
        refine fV.run iX7_tryRows_95_4 oX7_tryRows_95_4 (pc' := 99) (L' := [(0, .ref 0), (1, .int (nI pre.length)), (2, .int (nI k)), (3, .int (nI w))]) (st' := [.int ((nI pre.length) + 1), .ref 0]) (S' := (wA (wA S1 19 (upd (gA S1 19) pre.length (nI w))) 20 (mirA (gA S1 5) w pre.length (pre.length + 1) (gA S1 20)))) rfl trivial ?_
        refine fV.to (L' := [(0, .ref 0), (1, .int (nI pre.length)), (2, .int (nI k)), (3, .int (nI w))]) (st' := [.int (nI (pre ++ [w]).length), .ref 0]) rfl rfl (by rw [show ((nI pre.length) + 1 : Int32) = nI (pre ++ [w]).length from by rw [nI_1, List.length_append]; rfl]) rfl ?_
        refine fV.run iX7_tryRows_99_1 oX7_tryRows_99_1 (pc' := 100) (L' := [(0, .ref 0), (1, .int (nI pre.length)), (2, .int (nI k)), (3, .int (nI w))]) (st' := [.int (nI k), .int (nI (pre ++ [w]).length), .ref 0]) (S' := (wA (wA S1 19 (upd (gA S1 19) pre.length (nI w))) 20 (mirA (gA S1 5) w pre.length (pre.length + 1) (gA S1 20)))) rfl trivial ?_
        refine fV.callV (M2 := mX7_tryRows) (d := d + (n + 1) + 4) (o := 0) (av := [.int (nI (pre ++ [w]).length), .int (nI k)]) (rest := []) kX7_tryRows dX7_tryRows_100 lX7_255 rfl rfl rfl (Nat.le_of_ble_eq_true rfl) (fRoom (by decide)) ⟨Nat.le_refl _, Nat.le_refl _⟩ (IH (d := d) (S := (wA (wA S1 19 (upd (gA S1 19) pre.length (nI w))) 20 (mirA (gA S1 5) w pre.length (pre.length + 1) (gA S1 20)))) (PL := PL ++ prt (gA S 5) b src seat n pre w) (pre := pre ++ [w]) (by rw [show gA (wA (wA S1 19 (upd (gA S1 19) pre.length (nI w))) 20 (mirA (gA S1 5) w pre.length (pre.length + 1) (gA S1 20))) 5 = gA S 5 from hen]; exact hsq) ⟨(geo_wA (by decide) (geo_wA (by decide) HG)), hbn, R.put (by omega) (by omega), F⟩ (by simp; omega) (by have h7 := prt_cap (en := gA S 5) (src := src) (seat := seat) (show w < b by omega) hcap; rw [show fX b n pre w = rowsX b n (pre ++ [w]) from if_neg hnl] at h7; rw [List.length_append]; omega)) ?_
        rintro _ S9 ⟨rfl, hk9, ht9⟩
        have kp2 : kp S1 (wA (wA S1 19 (upd (gA S1 19) pre.length (nI w))) 20 (mirA (gA S1 5) w pre.length (pre.length + 1) (gA S1 20))) := ⟨rfl, rfl, rfl, rfl, rfl, rfl⟩
        have ht9b : fdOk S9 (PL ++ prt (gA S 5) b src seat n pre w ++ pthX (gA S 5) b src seat n (pre ++ [w])) := by
          have h10 := ht9.2.2.2
          rw [show gA (wA (wA S1 19 (upd (gA S1 19) pre.length (nI w))) 20 (mirA (gA S1 5) w pre.length (pre.length + 1) (gA S1 20))) 5 = gA S 5 from hen] at h10
          exact h10
        refine fV.to (pc' := 103) (L' := [(0, .ref 0), (1, .int (nI pre.length)), (2, .int (nI k)), (3, .int (nI w))]) (st' := []) (S' := S9) rfl rfl rfl rfl ?_
        refine fV.run iX7_tryRows_103_2 oX7_tryRows_103_2 (pc' := 52) (L' := [(0, .ref 0), (1, .int (nI pre.length)), (2, .int (nI k)), (3, .int ((nI w) + 1))]) (st' := []) (S' := S9) rfl trivial ?_
        refine fV.to (L' := [(0, .ref 0), (1, .int (nI pre.length)), (2, .int (nI k)), (3, .int (nI (w + 1)))]) rfl (by rw [nI_1]) rfl rfl (ih (w + 1) S9 (by omega) (hkp.tr (kp2.tr hk9)) ?_)
        rw [prt_s, ← List.append_assoc, show fX b n pre w = rowsX b n (pre ++ [w]) from if_neg hnl]
        exact ⟨ht9.1, ht9.2.1, ht9.2.2.1.pre, ht9b⟩
      · refine fV.run iX7_tryRows_67_7 oX7_tryRows_67_7 (pc' := 78) (L' := [(0, .ref 0), (1, .int (nI pre.length)), (2, .int (nI k)), (3, .int (nI w))]) (st' := [.int (gA S1 19 ((nI pre.length) - 1).toNatClampNeg)]) (S' := S1) (P := vp_in ((nI pre.length) - 1) 3 ∧ True) rfl ⟨(vinN (w := pre.length - 1) (by have := cpos c64; omega) (by decide) (cpred c64 (by omega))), trivial⟩ ?_
        refine fV.to (L' := [(0, .ref 0), (1, .int (nI pre.length)), (2, .int (nI k)), (3, .int (nI w))]) (st' := [.int (nI (fnL pre (pre.length - 1)))]) rfl rfl (by rw [show (gA S1 19 ((nI pre.length) - 1).toNatClampNeg : Int32) = nI (fnL pre (pre.length - 1)) from by rw [cpred c64 (by omega), nI_clamp (by omega)]; exact R.2.2.2.1 _ (by have := cpos c64; omega)]) rfl ?_
        refine fV.run iX7_tryRows_78_1 oX7_tryRows_78_1 (pc' := 79) (L' := [(0, .ref 0), (1, .int (nI pre.length)), (2, .int (nI k)), (3, .int (nI w))]) (st' := [.int (nI w), .int (nI (fnL pre (pre.length - 1)))]) (S' := S1) rfl trivial ?_
        refine fV.icmp_eq bX7_tryRows_79 (fun c79 => ?_) (fun c79 => ?_)
        · refine fV.run iX7_tryRows_103_2 oX7_tryRows_103_2 (pc' := 52) (L' := [(0, .ref 0), (1, .int (nI pre.length)), (2, .int (nI k)), (3, .int ((nI w) + 1))]) (st' := []) (S' := S1) rfl trivial ?_
          refine fV.to (L' := [(0, .ref 0), (1, .int (nI pre.length)), (2, .int (nI k)), (3, .int (nI (w + 1)))]) rfl (by rw [nI_1]) rfl rfl (ih (w + 1) S1 (by omega) hkp ?_)
          have hq : fnL pre (pre.length - 1) = w := (nI_eq (by have := fnL_lt R.2.2.2.2.1 (show pre.length - 1 < pre.length by have := cpos c64; omega); omega) (by omega)).mp c79
          have hp0 : 0 < pre.length := cpos c64
          rw [prt_s, show fX b n pre w = [] from if_pos ((pre_last (by omega)).mpr hq), List.filterMap_nil, List.append_nil]
          exact ⟨HG, hbn, R, F⟩
        · refine fV.run iX7_tryRows_82_6 oX7_tryRows_82_6 (pc' := 92) (L' := [(0, .ref 0), (1, .int (nI pre.length)), (2, .int (nI k)), (3, .int (nI w))]) (st' := [.ref 4, .int (nI w), .int (nI pre.length), .ref 18]) (S' := S1) rfl trivial ?_
          have hnl : ¬ pre.getLast? = some w := by first | (intro y; exact c79 (by rw [(pre_last (by have := cpos c64; omega)).mp y])) | (have h0 : pre = [] := List.length_eq_zero_iff.mp (czero c64 (by omega)); rw [h0]; intro y; cases y)
          refine fV.callV (M2 := mX3_put) (d := d + (n + 1) + 4) (o := 18) (av := [.int (nI pre.length), .int (nI w), .ref 4]) (rest := []) kX3_put dX7_tryRows_92 lX7_249 rfl rfl rfl (Nat.le_of_ble_eq_true rfl) (fRoom (by decide)) ⟨Nat.le_refl _, Nat.le_refl _⟩ (qX3_put (w := w) (i := pre.length) HG (by omega) hb (by omega)) ?_
          rintro _ S9 ⟨rfl, h9⟩
          rw [h9]
          clear h9 S9
          refine fV.to (pc' := 95) (L' := [(0, .ref 0), (1, .int (nI pre.length)), (2, .int (nI k)), (3, .int (nI w))]) (st' := []) (S' := (wA (wA S1 19 (upd (gA S1 19) pre.length (nI w))) 20 (mirA (gA S1 5) w pre.length (pre.length + 1) (gA S1 20)))) rfl rfl rfl rfl ?_
          refine fV.run iX7_tryRows_95_4 oX7_tryRows_95_4 (pc' := 99) (L' := [(0, .ref 0), (1, .int (nI pre.length)), (2, .int (nI k)), (3, .int (nI w))]) (st' := [.int ((nI pre.length) + 1), .ref 0]) (S' := (wA (wA S1 19 (upd (gA S1 19) pre.length (nI w))) 20 (mirA (gA S1 5) w pre.length (pre.length + 1) (gA S1 20)))) rfl trivial ?_
          refine fV.to (L' := [(0, .ref 0), (1, .int (nI pre.length)), (2, .int (nI k)), (3, .int (nI w))]) (st' := [.int (nI (pre ++ [w]).length), .ref 0]) rfl rfl (by rw [show ((nI pre.length) + 1 : Int32) = nI (pre ++ [w]).length from by rw [nI_1, List.length_append]; rfl]) rfl ?_
          refine fV.run iX7_tryRows_99_1 oX7_tryRows_99_1 (pc' := 100) (L' := [(0, .ref 0), (1, .int (nI pre.length)), (2, .int (nI k)), (3, .int (nI w))]) (st' := [.int (nI k), .int (nI (pre ++ [w]).length), .ref 0]) (S' := (wA (wA S1 19 (upd (gA S1 19) pre.length (nI w))) 20 (mirA (gA S1 5) w pre.length (pre.length + 1) (gA S1 20)))) rfl trivial ?_
          refine fV.callV (M2 := mX7_tryRows) (d := d + (n + 1) + 4) (o := 0) (av := [.int (nI (pre ++ [w]).length), .int (nI k)]) (rest := []) kX7_tryRows dX7_tryRows_100 lX7_255 rfl rfl rfl (Nat.le_of_ble_eq_true rfl) (fRoom (by decide)) ⟨Nat.le_refl _, Nat.le_refl _⟩ (IH (d := d) (S := (wA (wA S1 19 (upd (gA S1 19) pre.length (nI w))) 20 (mirA (gA S1 5) w pre.length (pre.length + 1) (gA S1 20)))) (PL := PL ++ prt (gA S 5) b src seat n pre w) (pre := pre ++ [w]) (by rw [show gA (wA (wA S1 19 (upd (gA S1 19) pre.length (nI w))) 20 (mirA (gA S1 5) w pre.length (pre.length + 1) (gA S1 20))) 5 = gA S 5 from hen]; exact hsq) ⟨(geo_wA (by decide) (geo_wA (by decide) HG)), hbn, R.put (by omega) (by omega), F⟩ (by simp; omega) (by have h7 := prt_cap (en := gA S 5) (src := src) (seat := seat) (show w < b by omega) hcap; rw [show fX b n pre w = rowsX b n (pre ++ [w]) from if_neg hnl] at h7; rw [List.length_append]; omega)) ?_
          rintro _ S9 ⟨rfl, hk9, ht9⟩
          have kp2 : kp S1 (wA (wA S1 19 (upd (gA S1 19) pre.length (nI w))) 20 (mirA (gA S1 5) w pre.length (pre.length + 1) (gA S1 20))) := ⟨rfl, rfl, rfl, rfl, rfl, rfl⟩
          have ht9b : fdOk S9 (PL ++ prt (gA S 5) b src seat n pre w ++ pthX (gA S 5) b src seat n (pre ++ [w])) := by
            have h10 := ht9.2.2.2
            rw [show gA (wA (wA S1 19 (upd (gA S1 19) pre.length (nI w))) 20 (mirA (gA S1 5) w pre.length (pre.length + 1) (gA S1 20))) 5 = gA S 5 from hen] at h10
            exact h10
          refine fV.to (pc' := 103) (L' := [(0, .ref 0), (1, .int (nI pre.length)), (2, .int (nI k)), (3, .int (nI w))]) (st' := []) (S' := S9) rfl rfl rfl rfl ?_
          refine fV.run iX7_tryRows_103_2 oX7_tryRows_103_2 (pc' := 52) (L' := [(0, .ref 0), (1, .int (nI pre.length)), (2, .int (nI k)), (3, .int ((nI w) + 1))]) (st' := []) (S' := S9) rfl trivial ?_
          refine fV.to (L' := [(0, .ref 0), (1, .int (nI pre.length)), (2, .int (nI k)), (3, .int (nI (w + 1)))]) rfl (by rw [nI_1]) rfl rfl (ih (w + 1) S9 (by omega) (hkp.tr (kp2.tr hk9)) ?_)
          rw [prt_s, ← List.append_assoc, show fX b n pre w = rowsX b n (pre ++ [w]) from if_neg hnl]
          exact ⟨ht9.1, ht9.2.1, ht9.2.2.1.pre, ht9b⟩
def iX7_tryRows_5_2 : List Instr := [.iload_n 1, .iconst 3]
theorem oX7_tryRows_5_2 : fOkB cX7_tryRows 5 iX7_tryRows_5_2 = true := by decide +kernel
theorem bX7_tryRows_7 : fBk cX7_tryRows 7 (.if_icmp .lt) 50 := ⟨43, by decide +kernel, by decide⟩
def iX7_tryRows_50_2 : List Instr := [.iconst 0, .istore_n 3]
theorem oX7_tryRows_50_2 : fOkB cX7_tryRows 50 iX7_tryRows_50_2 = true := by decide +kernel
set_option maxRecDepth 100000 in
theorem qX7_try {G : fG} {b k : Nat} {src seat : zP} (hb : b ≤ 16) : ∀ (n : Nat) {d : Nat} {S : fS} {PL : List pTh} {pre : List Nat}, (∀ l : List Nat, l.length ≤ 3 → (∀ w ∈ l, w < b) → sqD (gA S 5) src seat l < 1073741824) → tr S b src seat k PL pre → pre.length + n = k → PL.length + (rowsX b n pre).length ≤ 3857 → fCtr G (d + n + 5) mX7_tryRows [.ref 0, .int (nI pre.length), .int (nI k)] S (fun z S' => z = none ∧ kp S S' ∧ tr S' b src seat k (PL ++ pthX (gA S 5) b src seat n pre) pre) := by
  intro n
  induction n with
  | zero =>
    intro d S PL pre hsq T hpk hcap
    exact qX7_try0 hb hsq T (by omega) hcap
  | succ n ih =>
    intro d S PL pre hsq T hpk hcap
    have hk3 : k ≤ 3 := T.2.2.1.2.1
    refine fCtr.of bXX7_tryRows (Nat.le_of_ble_eq_true rfl) rfl ?_
    refine fV.run iX7_tryRows_0_2 oX7_tryRows_0_2 (pc' := 2) (L' := [(0, .ref 0), (1, .int (nI pre.length)), (2, .int (nI k))]) (st' := [.int (nI k), .int (nI pre.length)]) (S' := S) rfl trivial ?_
    refine fV.icmp_ge bX7_tryRows_2 (fun c2 => ?_) (fun c2 => ?_)
    · exact absurd c2 (by rw [nI_leI (by omega) (by omega)]; omega)
    · refine fV.run iX7_tryRows_5_2 oX7_tryRows_5_2 (pc' := 7) (L' := [(0, .ref 0), (1, .int (nI pre.length)), (2, .int (nI k))]) (st' := [.int 3, .int (nI pre.length)]) (S' := S) rfl trivial ?_
      refine fV.icmp_lt bX7_tryRows_7 (fun c7 => ?_) (fun c7 => ?_)
      · refine fV.run iX7_tryRows_50_2 oX7_tryRows_50_2 (pc' := 52) (L' := [(0, .ref 0), (1, .int (nI pre.length)), (2, .int (nI k)), (3, .int 0)]) (st' := []) (S' := S) rfl trivial ?_
        exact lpX7_try hb T.2.2.1.2.1 hsq hpk hcap ih b 0 S (by omega) kp.rf (by simpa [prt] using T)
      · exact absurd c7 (fun z => z ((nI_ltI (b := 3) (by omega) (by decide)).mpr (by omega)))

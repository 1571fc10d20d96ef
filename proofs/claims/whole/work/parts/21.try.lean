/-! the search for paths -/
def sqD (en : Nat → Int32) (src seat : zP) (l : List Nat) : Int64 := ((imgD en src (fnL l) l.length).1 - seat.1).toInt64 * ((imgD en src (fnL l) l.length).1 - seat.1).toInt64 + ((imgD en src (fnL l) l.length).2 - seat.2).toInt64 * ((imgD en src (fnL l) l.length).2 - seat.2).toInt64
noncomputable def pOf (en : Nat → Int32) (b : Nat) (src seat : zP) (l : List Nat) : Option pTh := @ite _ (hasD en src seat (fnL l) l.length ∧ seenD en b src seat (fnL l) l.length) (Classical.propDecidable _) (some (l, sqD en src seat l)) none
theorem pOf_y {en : Nat → Int32} {b : Nat} {src seat : zP} {l : List Nat} (h : hasD en src seat (fnL l) l.length) (h2 : seenD en b src seat (fnL l) l.length) : pOf en b src seat l = some (l, sqD en src seat l) := by unfold pOf; rw [if_pos ⟨h, h2⟩]
theorem pOf_n {en : Nat → Int32} {b : Nat} {src seat : zP} {l : List Nat} (h : ¬ (hasD en src seat (fnL l) l.length ∧ seenD en b src seat (fnL l) l.length)) : pOf en b src seat l = none := by unfold pOf; rw [if_neg h]
/-- the rows that begin with some walls and have n more, no wall twice side by side, in their order -/
def rowsX (b : Nat) : Nat → List Nat → List (List Nat)
  | 0, pre => [pre]
  | n + 1, pre => (List.range b).flatMap (fun w => if pre.getLast? = some w then [] else rowsX b n (pre ++ [w]))
noncomputable def pthX (en : Nat → Int32) (b : Nat) (src seat : zP) (n : Nat) (pre : List Nat) : List pTh := (rowsX b n pre).filterMap (pOf en b src seat)
def kp (S S' : fS) : Prop := hC S' = hC S ∧ S'.2 = S.2 ∧ gA S' 7 = gA S 7 ∧ gA S' 8 = gA S 8 ∧ gA S' 9 = gA S 9 ∧ gA S' 10 = gA S 10
theorem kp.rf {S : fS} : kp S S := ⟨rfl, rfl, rfl, rfl, rfl, rfl⟩
theorem kp.tr {S S1 S2 : fS} (h : kp S S1) (h2 : kp S1 S2) : kp S S2 := ⟨h2.1.trans h.1, h2.2.1.trans h.2.1, h2.2.2.1.trans h.2.2.1, h2.2.2.2.1.trans h.2.2.2.1, h2.2.2.2.2.1.trans h.2.2.2.2.1, h2.2.2.2.2.2.trans h.2.2.2.2.2⟩
theorem kp.en {S S' : fS} (h : kp S S') : gA S' 5 = gA S 5 := congrArg (fun q => q.2.1.2.1) h.1
theorem kp.nw {S S' : fS} (h : kp S S') : gI S' 4 6 = gI S 4 6 := congrArg (fun q => q.2.1.1) h.1
theorem kp.geo {S S' : fS} (h : kp S S') {b : Nat} (g : hGeo S b) : hGeo S' b := by
  intro w hw
  rw [h.2.2.1, h.2.2.2.1, h.2.2.2.2.1, h.2.2.2.2.2, h.en]
  exact g w hw
def rtPre (S : fS) (b : Nat) (src seat : zP) (pre : List Nat) (k : Nat) : Prop := gI S 18 7 = nI k ∧ k ≤ 3 ∧ pre.length ≤ k ∧ (∀ i, i < pre.length → gA S 19 i = nI (fnL pre i)) ∧ (∀ w ∈ pre, w < b) ∧ (∀ j, j ≤ pre.length → pA (gA S 20) j = imgD (gA S 5) src (fnL pre) j) ∧ (gI S 18 5, gI S 18 6) = seat
theorem rtPre.row {S : fS} {b k : Nat} {src seat : zP} {pre : List Nat} (h : rtPre S b src seat pre k) (hk : pre.length = k) : rtRow S b src seat (fnL pre) k := by
  obtain ⟨h1, h2, h3, h4, h5, h6, h7⟩ := h
  subst hk
  exact ⟨h1, h2, fun i hi => ⟨h4 i hi, fnL_lt h5 hi⟩, h6, h7⟩
theorem imgD_congr {en : Nat → Int32} {src : zP} {r r2 : Nat → Nat} : ∀ {j : Nat}, (∀ i, i < j → r i = r2 i) → imgD en src r j = imgD en src r2 j
  | 0, _ => rfl
  | j + 1, h => by
    show mirP en (r j) _ = mirP en (r2 j) _
    rw [h j (by omega), imgD_congr (fun i hi => h i (by omega))]
theorem fnL_app {l : List Nat} {w i : Nat} (h : i < l.length) : fnL (l ++ [w]) i = fnL l i := by
  unfold fnL
  rw [List.getD_eq_getElem?_getD, List.getD_eq_getElem?_getD, List.getElem?_append_left h]
theorem fnL_last {l : List Nat} {w : Nat} : fnL (l ++ [w]) l.length = w := by
  unfold fnL
  rw [List.getD_eq_getElem?_getD, List.getElem?_append_right (Nat.le_refl _), Nat.sub_self]
  rfl
theorem rtPre.put {S : fS} {b k w : Nat} {src seat : zP} {pre : List Nat} (h : rtPre S b src seat pre k) (hp : pre.length < k) (hw : w < b) : rtPre (wA (wA S 19 (upd (gA S 19) pre.length (nI w))) 20 (mirA (gA S 5) w pre.length (pre.length + 1) (gA S 20))) b src seat (pre ++ [w]) k := by
  obtain ⟨h1, h2, h3, h4, h5, h6, h7⟩ := h
  have hl : (pre ++ [w]).length = pre.length + 1 := by simp
  refine ⟨h1, h2, by omega, fun i hi => ?_, fun v hv => ?_, fun j hj => ?_, h7⟩
  · show upd (gA S 19) pre.length (nI w) i = _
    by_cases e : i = pre.length
    · subst e; rw [upd_at, fnL_last]
    · rw [upd_ne e, fnL_app (by omega)]; exact h4 i (by omega)
  · rcases List.mem_append.mp hv with q | q
    · exact h5 v q
    · rw [List.mem_singleton.mp q]; exact hw
  · show pA (mirA (gA S 5) w pre.length (pre.length + 1) (gA S 20)) j = imgD (gA S 5) src (fnL (pre ++ [w])) j
    by_cases e : j = pre.length + 1
    · subst e
      rw [mirA_at (by omega), h6 _ (Nat.le_refl _)]
      show _ = mirP (gA S 5) (fnL (pre ++ [w]) pre.length) (imgD (gA S 5) src (fnL (pre ++ [w])) pre.length)
      rw [fnL_last, imgD_congr (fun i hi => fnL_app hi)]
    · rw [mirA_ne (by omega) e, h6 j (by omega), imgD_congr (fun i hi => fnL_app (by omega))]
theorem rtPre.pre {S : fS} {b k w : Nat} {src seat : zP} {pre : List Nat} (h : rtPre S b src seat (pre ++ [w]) k) : rtPre S b src seat pre k := by
  obtain ⟨h1, h2, h3, h4, h5, h6, h7⟩ := h
  have hl : (pre ++ [w]).length = pre.length + 1 := by simp
  refine ⟨h1, h2, by omega, fun i hi => ?_, fun v hv => h5 v (List.mem_append_left _ hv), fun j hj => ?_, h7⟩
  · rw [h4 i (by omega), fnL_app hi]
  · rw [h6 j (by omega), imgD_congr (fun i hi => fnL_app (by omega))]
theorem pre_last {l : List Nat} {w : Nat} (h : 0 < l.length) : l.getLast? = some w ↔ fnL l (l.length - 1) = w := by
  rw [List.getLast?_eq_getElem?]
  unfold fnL
  rw [List.getD_eq_getElem?_getD, List.getElem?_eq_getElem (by omega)]
  simp
/-- a state in the midst of the search -/
def tr (S : fS) (b : Nat) (src seat : zP) (k : Nat) (PL : List pTh) (pre : List Nat) : Prop := hGeo S b ∧ gI S 4 6 = nI b ∧ rtPre S b src seat pre k ∧ fdOk S PL
theorem sq_eq {S : fS} {b k : Nat} {src seat : zP} {pre : List Nat} (R : rtPre S b src seat pre k) (hk : pre.length = k) : sqD (gA S 5) src seat pre = (gA S 20 (2 * k) - gI S 18 5).toInt64 * (gA S 20 (2 * k) - gI S 18 5).toInt64 + (gA S 20 (2 * k + 1) - gI S 18 6).toInt64 * (gA S 20 (2 * k + 1) - gI S 18 6).toInt64 := by
  unfold sqD
  rw [← R.2.2.2.2.2.1 _ (Nat.le_refl _), ← R.2.2.2.2.2.2, hk]
  rfl
def iX7_tryRows_0_2 : List Instr := [.iload_n 1, .iload_n 2]
theorem oX7_tryRows_0_2 : fOkB cX7_tryRows 0 iX7_tryRows_0_2 = true := by decide +kernel
theorem bX7_tryRows_2 : fBk cX7_tryRows 2 (.if_icmp .ge) 10 := ⟨8, by decide +kernel, by decide⟩
def iX7_tryRows_10_4 : List Instr := [.aload_n 0, .getfield 42, .aload_n 0, .getfield 19]
theorem oX7_tryRows_10_4 : fOkB cX7_tryRows 10 iX7_tryRows_10_4 = true := by decide +kernel
set_option maxRecDepth 100000 in
theorem lX7_169 : Cond.methodLink RX7 169 yX3_hasBounces ∈ fTB := fTB_at 442 rfl rfl
theorem dX7_tryRows_18 : decode cX7_tryRows 18 = .ok (.invokevirtual 169, 3) := by decide +kernel
theorem bX7_tryRows_21 : fBk cX7_tryRows 21 (.ifCond .eq) 49 := ⟨28, by decide +kernel, by decide⟩
def iX7_tryRows_24_4 : List Instr := [.aload_n 0, .getfield 42, .aload_n 0, .getfield 19]
theorem oX7_tryRows_24_4 : fOkB cX7_tryRows 24 iX7_tryRows_24_4 = true := by decide +kernel
set_option maxRecDepth 100000 in
theorem lX7_173 : Cond.methodLink RX7 173 yX3_isSeen ∈ fTB := fTB_at 464 rfl rfl
theorem dX7_tryRows_32 : decode cX7_tryRows 32 = .ok (.invokevirtual 173, 3) := by decide +kernel
theorem bX7_tryRows_35 : fBk cX7_tryRows 35 (.ifCond .eq) 49 := ⟨14, by decide +kernel, by decide⟩
def iX7_tryRows_38_4 : List Instr := [.aload_n 0, .getfield 49, .aload_n 0, .getfield 42]
theorem oX7_tryRows_38_4 : fOkB cX7_tryRows 38 iX7_tryRows_38_4 = true := by decide +kernel
set_option maxRecDepth 100000 in
theorem lX7_258 : Cond.methodLink RX7 258 yX1_add ∈ fTB := fTB_at 480 rfl rfl
theorem dX7_tryRows_46 : decode cX7_tryRows 46 = .ok (.invokevirtual 258, 3) := by decide +kernel
theorem dX7_tryRows_49 : decode cX7_tryRows 49 = .ok (.return_, 1) := by decide +kernel
set_option maxRecDepth 100000 in
theorem qX7_try0 {G : fG} {d : Nat} {S : fS} {b k : Nat} {src seat : zP} {PL : List pTh} {pre : List Nat} (hb : b ≤ 16) (hsq : ∀ l : List Nat, l.length ≤ 3 → (∀ w ∈ l, w < b) → sqD (gA S 5) src seat l < 1073741824) (T : tr S b src seat k PL pre) (hpk : pre.length = k) (hcap : PL.length + (rowsX b 0 pre).length ≤ 3857) : fCtr G (d + 5) mX7_tryRows [.ref 0, .int (nI pre.length), .int (nI k)] S (fun z S' => z = none ∧ kp S S' ∧ tr S' b src seat k (PL ++ pthX (gA S 5) b src seat 0 pre) pre) := by
  obtain ⟨HG, hbn, R, F⟩ := T
  have hk3 : k ≤ 3 := R.2.1
  refine fCtr.of bXX7_tryRows (Nat.le_of_ble_eq_true rfl) rfl ?_
  refine fV.run iX7_tryRows_0_2 oX7_tryRows_0_2 (pc' := 2) (L' := [(0, .ref 0), (1, .int (nI pre.length)), (2, .int (nI k))]) (st' := [.int (nI k), .int (nI pre.length)]) (S' := S) rfl trivial ?_
  refine fV.icmp_ge bX7_tryRows_2 (fun c2 => ?_) (fun c2 => ?_)
  · refine fV.run iX7_tryRows_10_4 oX7_tryRows_10_4 (pc' := 18) (L' := [(0, .ref 0), (1, .int (nI pre.length)), (2, .int (nI k))]) (st' := [.ref 4, .ref 18]) (S' := S) rfl trivial ?_
    refine fV.callV (M2 := mX3_hasBounces) (d := d + 4) (o := 18) (av := [.ref 4]) (rest := []) kX3_hasBounces dX7_tryRows_18 lX7_169 rfl rfl rfl (Nat.le_of_ble_eq_true rfl) (fRoom (by decide)) ⟨Nat.le_refl _, Nat.le_refl _⟩ (qX3_has HG hb (R.row hpk)) ?_
    rintro r9 S9 h9
    obtain ⟨e, p, q, rfl, h9⟩ := h9
    rcases h9 with ⟨hh, rfl, he, hf⟩ | ⟨hh, rfl⟩
    · skip
      refine fV.to (pc' := 21) (L' := [(0, .ref 0), (1, .int (nI pre.length)), (2, .int (nI k))]) (st' := [.int 1]) (S' := (wB (wB (wA S 21 e) 22 p) 23 q)) rfl rfl rfl rfl ?_
      refine fV.if_eq bX7_tryRows_21 (fun c21 => ?_) (fun c21 => ?_)
      · exact absurd c21 (by decide)
      · refine fV.run iX7_tryRows_24_4 oX7_tryRows_24_4 (pc' := 32) (L' := [(0, .ref 0), (1, .int (nI pre.length)), (2, .int (nI k))]) (st' := [.ref 4, .ref 18]) (S' := (wB (wB (wA S 21 e) 22 p) 23 q)) rfl trivial ?_
        refine fV.callV (M2 := mX3_isSeen) (d := d + 4) (o := 18) (av := [.ref 4]) (rest := []) kX3_isSeen dX7_tryRows_32 lX7_173 rfl rfl rfl (Nat.le_of_ble_eq_true rfl) (fRoom (by decide)) ⟨Nat.le_refl _, Nat.le_refl _⟩ (qX3_seen (S := (wB (wB (wA S 21 e) 22 p) 23 q)) (geo_wB (geo_wB (geo_wA (by decide) HG))) hb hbn (R.row hpk) he hf) ?_
        rintro r9 S9 h9
        rcases h9 with ⟨hs, rfl, h9⟩ | ⟨hs, rfl, h9⟩
        · rw [h9]
          clear h9 S9
          refine fV.to (pc' := 35) (L' := [(0, .ref 0), (1, .int (nI pre.length)), (2, .int (nI k))]) (st' := [.int 1]) (S' := (wB (wB (wA S 21 e) 22 p) 23 q)) rfl rfl rfl rfl ?_
          refine fV.if_eq bX7_tryRows_35 (fun c35 => ?_) (fun c35 => ?_)
          · exact absurd c35 (by decide)
          · refine fV.run iX7_tryRows_38_4 oX7_tryRows_38_4 (pc' := 46) (L' := [(0, .ref 0), (1, .int (nI pre.length)), (2, .int (nI k))]) (st' := [.ref 18, .ref 24]) (S' := (wB (wB (wA S 21 e) 22 p) 23 q)) rfl trivial ?_
            refine fV.callV (M2 := mX1_add) (d := d + 4) (o := 24) (av := [.ref 18]) (rest := []) kX1_add dX7_tryRows_46 lX7_258 rfl rfl rfl (Nat.le_of_ble_eq_true rfl) (fRoom (by decide)) ⟨Nat.le_refl _, Nat.le_refl _⟩ (qX1_add (S := (wB (wB (wA S 21 e) 22 p) 23 q)) (sq := sqD (gA S 5) src seat pre) hb (R.row hpk) F (by simp only [rowsX, List.length_cons, List.length_nil] at hcap; omega) (sq_eq R hpk) (hsq pre (by omega) R.2.2.2.2.1)) ?_
            rintro _ S9 ⟨rfl, h9⟩
            rw [h9]
            clear h9 S9
            refine fV.to (pc' := 49) (L' := [(0, .ref 0), (1, .int (nI pre.length)), (2, .int (nI k))]) (st' := []) (S' := (fAdd (wB (wB (wA S 21 e) 22 p) 23 q) PL.length (nI (pkN (fnL pre) k)) (sqD (gA S 5) src seat pre) (tickF (sqD (gA S 5) src seat pre)) (lsF (gI S 24 3) (tickF (sqD (gA S 5) src seat pre))))) rfl rfl rfl rfl ?_
            exact fV.vret rfl dX7_tryRows_49 (by
          refine ⟨rfl, ⟨rfl, rfl, rfl, rfl, rfl, rfl⟩, HG, hbn, R, ?_⟩
          subst hpk
          rw [show pthX (gA S 5) b src seat 0 pre = [(pre, sqD (gA S 5) src seat pre)] by simp only [pthX, rowsX, List.filterMap_cons, List.filterMap_nil, pOf_y hh hs]]
          exact fd_add (x := (pre, sqD (gA S 5) src seat pre)) (show fdOk (wB (wB (wA S 21 e) 22 p) 23 q) PL from F) (by simp only [rowsX, List.length_cons, List.length_nil] at hcap; omega))
        · rw [h9]
          clear h9 S9
          refine fV.to (pc' := 35) (L' := [(0, .ref 0), (1, .int (nI pre.length)), (2, .int (nI k))]) (st' := [.int 0]) (S' := (wB (wB (wA S 21 e) 22 p) 23 q)) rfl rfl rfl rfl ?_
          refine fV.if_eq bX7_tryRows_35 (fun c35 => ?_) (fun c35 => ?_)
          · exact fV.vret rfl dX7_tryRows_49 (by
          refine ⟨rfl, ⟨rfl, rfl, rfl, rfl, rfl, rfl⟩, HG, hbn, R, ?_⟩
          subst hpk
          rw [show pthX (gA S 5) b src seat 0 pre = [] by simp only [pthX, rowsX, List.filterMap_cons, List.filterMap_nil]; rw [pOf_n (by first | exact fun y => hs y.2 | exact fun y => hh y.1)], List.append_nil]
          exact F)
          · exact absurd c35 (by decide)
    · skip
      refine fV.to (pc' := 21) (L' := [(0, .ref 0), (1, .int (nI pre.length)), (2, .int (nI k))]) (st' := [.int 0]) (S' := (wB (wB (wA S 21 e) 22 p) 23 q)) rfl rfl rfl rfl ?_
      refine fV.if_eq bX7_tryRows_21 (fun c21 => ?_) (fun c21 => ?_)
      · exact fV.vret rfl dX7_tryRows_49 (by
          refine ⟨rfl, ⟨rfl, rfl, rfl, rfl, rfl, rfl⟩, HG, hbn, R, ?_⟩
          subst hpk
          rw [show pthX (gA S 5) b src seat 0 pre = [] by simp only [pthX, rowsX, List.filterMap_cons, List.filterMap_nil]; rw [pOf_n (by first | exact fun y => hs y.2 | exact fun y => hh y.1)], List.append_nil]
          exact F)
      · exact absurd c21 (by decide)
  · exact absurd c2 (by rw [hpk]; grind)

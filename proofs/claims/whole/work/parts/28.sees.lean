/-! sees: the landed program -/
noncomputable def seeV (en : Nat → Int32) (b : Nat) (src seat : zP) (l : List Nat) : Int32 := @ite _ (hasD en src seat (fnL l) l.length) (Classical.propDecidable _) (@ite _ (seenD en b src seat (fnL l) l.length) (Classical.propDecidable _) 1 0) (-1)
def wl (p q r : Int32) : List Nat := if p = -1 then [] else if q = -1 then [p.toNatClampNeg] else if r = -1 then [p.toNatClampNeg, q.toNatClampNeg] else [p.toNatClampNeg, q.toNatClampNeg, r.toNatClampNeg]
abbrev isW (h : hH) (p : Int32) : Prop := p = -1 ∨ (0 ≤ p ∧ p < h.2.1.1)
noncomputable def oSees (h : hH) (b : Nat) (x y p q r : Int32) : Int32 := if (thr h x y ∧ isW h p) ∧ (isW h q ∧ isW h r) then (if (p = -1 ∧ ¬ q = -1) ∨ (q = -1 ∧ ¬ r = -1) then -1002 else if (p = q ∧ ¬ q = -1) ∨ (q = r ∧ ¬ r = -1) then -1 else seeV h.2.1.2.1 b (hSrc h x.toNatClampNeg) (hSeat h y.toNatClampNeg) (wl p q r)) else -1001
theorem wl_ok {h : hH} {b : Nat} {p q r : Int32} (hb : h.2.1.1 = nI b) (hb16 : b ≤ 16) (hp : isW h p) (hq : isW h q) (hr : isW h r) (hn : ¬ ((p = -1 ∧ ¬ q = -1) ∨ (q = -1 ∧ ¬ r = -1))) : (wl p q r).length ≤ 3 ∧ (∀ w ∈ wl p q r, w < b) ∧ wOf (wl p q r) 0 = p ∧ wOf (wl p q r) 1 = q ∧ wOf (wl p q r) 2 = r := by
  have key : ∀ z : Int32, isW h z → ¬ z = -1 → z.toNatClampNeg < b ∧ nI z.toNatClampNeg = z := fun z hz h1 => by
    rcases hz with e | ⟨e1, e2⟩
    · exact absurd e h1
    · rw [hb] at e2
      obtain ⟨i, hi, rfl⟩ := n_in (by omega) e1 e2
      rw [nI_clamp (by omega)]
      exact ⟨hi, rfl⟩
  unfold wl
  by_cases h1 : p = -1
  · rw [if_pos h1]
    have h2 : q = -1 := Classical.byContradiction fun z => hn (Or.inl ⟨h1, z⟩)
    have h3 : r = -1 := Classical.byContradiction fun z => hn (Or.inr ⟨h2, z⟩)
    rw [h1, h2, h3]
    exact ⟨by simp, by simp, rfl, rfl, rfl⟩
  · rw [if_neg h1]
    obtain ⟨p1, p2⟩ := key p hp h1
    by_cases h2 : q = -1
    · rw [if_pos h2]
      have h3 : r = -1 := Classical.byContradiction fun z => hn (Or.inr ⟨h2, z⟩)
      rw [h2, h3]
      exact ⟨by simp, by simpa using p1, by simp [wOf, fnL, p2], rfl, rfl⟩
    · rw [if_neg h2]
      obtain ⟨q1, q2⟩ := key q hq h2
      by_cases h3 : r = -1
      · rw [if_pos h3, h3]
        exact ⟨by simp, by simp; exact ⟨p1, q1⟩, by simp [wOf, fnL, p2], by simp [wOf, fnL, q2], rfl⟩
      · rw [if_neg h3]
        obtain ⟨r1, r2⟩ := key r hr h3
        exact ⟨by simp, by simp; exact ⟨p1, q1, r1⟩, by simp [wOf, fnL, p2], by simp [wOf, fnL, q2], by simp [wOf, fnL, r2]⟩
theorem rtPre.ord {S : fS} {b k k2 : Nat} {src seat : zP} {pre : List Nat} (h : rtPre S b src seat pre k) (h1 : pre.length ≤ k2) (h2 : k2 ≤ 3) : rtPre (wI S 18 7 (nI k2)) b src seat pre k2 := ⟨rfl, h2, h1, h.2.2.2.1, h.2.2.2.2.1, h.2.2.2.2.2.1, h.2.2.2.2.2.2⟩
theorem rtPre.more {S : fS} {b k w : Nat} {src seat : zP} {pre : List Nat} (h : rtPre S b src seat pre k) (hp : pre.length < 3) (hw : w < b) : rtPre (wI (wA (wA S 19 (upd (gA S 19) pre.length (nI w))) 20 (mirA (gA S 5) w pre.length (pre.length + 1) (gA S 20))) 18 7 (nI (pre.length + 1))) b src seat (pre ++ [w]) (pre.length + 1) := by
  have h3 := (h.ord (k2 := 3) (by omega) (by omega)).put (w := w) hp hw
  exact ⟨rfl, by omega, by simp, h3.2.2.2.1, h3.2.2.2.2.1, h3.2.2.2.2.2.1, h3.2.2.2.2.2.2⟩
theorem take_fn {l : List Nat} {t : Nat} (h : t < l.length) : l.take (t + 1) = l.take t ++ [fnL l t] := by
  rw [List.take_succ, List.getElem?_eq_getElem h]
  unfold fnL
  rw [List.getD_eq_getElem?_getD, List.getElem?_eq_getElem h]
  rfl
def iX7_lengthenRoute_0_2 : List Instr := [.iload_n 1, .iconst (-1)]
theorem oX7_lengthenRoute_0_2 : fOkB cX7_lengthenRoute 0 iX7_lengthenRoute_0_2 = true := by decide +kernel
theorem bX7_lengthenRoute_2 : fBk cX7_lengthenRoute 2 (.if_icmp .eq) 48 := ⟨46, by decide +kernel, by decide⟩
theorem dX7_lengthenRoute_48 : decode cX7_lengthenRoute 48 = .ok (.return_, 1) := by decide +kernel
def iX7_lengthenRoute_5_4 : List Instr := [.aload_n 0, .getfield 42, .getfield 163, .iconst 3]
theorem oX7_lengthenRoute_5_4 : fOkB cX7_lengthenRoute 5 iX7_lengthenRoute_5_4 = true := by decide +kernel
theorem bX7_lengthenRoute_13 : fBk cX7_lengthenRoute 13 (.if_icmp .ge) 48 := ⟨35, by decide +kernel, by decide⟩
def iX7_lengthenRoute_16_5 : List Instr := [.aload_n 0, .getfield 42, .aload_n 0, .getfield 42, .getfield 163]
theorem oX7_lengthenRoute_16_5 : fOkB cX7_lengthenRoute 16 iX7_lengthenRoute_16_5 = true := by decide +kernel
def iX7_lengthenRoute_27_3 : List Instr := [.iload_n 1, .aload_n 0, .getfield 19]
theorem oX7_lengthenRoute_27_3 : fOkB cX7_lengthenRoute 27 iX7_lengthenRoute_27_3 = true := by decide +kernel
theorem dX7_lengthenRoute_32 : decode cX7_lengthenRoute 32 = .ok (.invokevirtual 249, 3) := by decide +kernel
def iX7_lengthenRoute_35_7 : List Instr := [.aload_n 0, .getfield 42, .dup, .getfield 163, .iconst 1, .iadd, .putfield 163]
theorem oX7_lengthenRoute_35_7 : fOkB cX7_lengthenRoute 35 iX7_lengthenRoute_35_7 = true := by decide +kernel
set_option maxRecDepth 100000 in
theorem qX7_lengthen {G : fG} {d : Nat} {S : fS} {b t : Nat} {l : List Nat} {src seat : zP} (HG : hGeo S b) (hb : b ≤ 16) (ht : t < 3) (hl : l.length ≤ 3) (hlb : ∀ w ∈ l, w < b) (R : rtPre S b src seat (l.take t) (l.take t).length)  : fCtr G (d + 2) mX7_lengthenRoute [.ref 0, .int (wOf l t)] S (fun z S' => z = none ∧ kp S S' ∧ rtPre S' b src seat (l.take (t + 1)) (l.take (t + 1)).length) := by
  refine fCtr.of bXX7_lengthenRoute (Nat.le_of_ble_eq_true rfl) rfl ?_
  have hp2 : ∀ j, j < l.length → fnL l j < 16 := fun j hj => Nat.lt_of_lt_of_le (fnL_lt hlb hj) hb
  refine fV.run iX7_lengthenRoute_0_2 oX7_lengthenRoute_0_2 (pc' := 2) (L' := [(0, .ref 0), (1, .int (wOf l t))]) (st' := [.int (-1), .int (wOf l t)]) (S' := S) rfl trivial ?_
  refine fV.icmp_eq bX7_lengthenRoute_2 (fun c2 => ?_) (fun c2 => ?_)
  · exact fV.vret rfl dX7_lengthenRoute_48 ⟨rfl, kp.rf, by rw [show l.take (t + 1) = l.take t by rw [List.take_of_length_le ((wOf_n hp2).mp c2), List.take_of_length_le (by have := (wOf_n hp2).mp c2; omega)]]; exact R⟩
  · refine fV.to (L' := [(0, .ref 0), (1, .int (nI (fnL l t)))]) (st' := []) rfl (by rw [show ((wOf l t) : Int32) = nI (fnL l t) from (wOf_y hp2 c2).1]) rfl rfl ?_
    refine fV.run iX7_lengthenRoute_5_4 oX7_lengthenRoute_5_4 (pc' := 13) (L' := [(0, .ref 0), (1, .int (nI (fnL l t)))]) (st' := [.int 3, .int (gI S 18 7)]) (S' := S) rfl trivial ?_
    refine fV.icmp_ge bX7_lengthenRoute_13 (fun c13 => ?_) (fun c13 => ?_)
    · exact absurd c13 (fun z => by rw [R.1, show (3 : Int32) = nI 3 from rfl, nI_leI (by decide) (by rw [List.length_take]; omega), List.length_take] at z; omega)
    · refine fV.run iX7_lengthenRoute_16_5 oX7_lengthenRoute_16_5 (pc' := 27) (L' := [(0, .ref 0), (1, .int (nI (fnL l t)))]) (st' := [.int (gI S 18 7), .ref 18]) (S' := S) rfl trivial ?_
      refine fV.to (L' := [(0, .ref 0), (1, .int (nI (fnL l t)))]) (st' := [.int (nI t), .ref 18]) rfl rfl (by rw [show ((gI S 18 7) : Int32) = nI t from by rw [R.1, List.length_take, Nat.min_eq_left (Nat.le_of_lt (wOf_y hp2 c2).2)]]) rfl ?_
      refine fV.run iX7_lengthenRoute_27_3 oX7_lengthenRoute_27_3 (pc' := 32) (L' := [(0, .ref 0), (1, .int (nI (fnL l t)))]) (st' := [.ref 4, .int (nI (fnL l t)), .int (nI t), .ref 18]) (S' := S) rfl trivial ?_
      refine fV.callV (M2 := mX3_put) (d := d + 1) (o := 18) (av := [.int (nI t), .int (nI (fnL l t)), .ref 4]) (rest := []) kX3_put dX7_lengthenRoute_32 lX7_249 rfl rfl rfl (Nat.le_of_ble_eq_true rfl) (fRoom (by decide)) ⟨Nat.le_refl _, Nat.le_refl _⟩ (qX3_put (w := fnL l t) (i := t) HG (fnL_lt hlb (wOf_y hp2 c2).2) hb ht) ?_
      rintro _ S9 ⟨rfl, h9⟩
      rw [h9]
      clear h9 S9
      refine fV.to (pc' := 35) (L' := [(0, .ref 0), (1, .int (nI (fnL l t)))]) (st' := []) (S' := (wA (wA S 19 (upd (gA S 19) t (nI (fnL l t)))) 20 (mirA (gA S 5) (fnL l t) t (t + 1) (gA S 20)))) rfl rfl rfl rfl ?_
      refine fV.run iX7_lengthenRoute_35_7 oX7_lengthenRoute_35_7 (pc' := 48) (L' := [(0, .ref 0), (1, .int (nI (fnL l t)))]) (st' := []) (S' := (wI (wA (wA S 19 (upd (gA S 19) t (nI (fnL l t)))) 20 (mirA (gA S 5) (fnL l t) t (t + 1) (gA S 20))) 18 7 ((gI S 18 7) + 1))) rfl trivial ?_
      exact fV.vret rfl dX7_lengthenRoute_48 ⟨rfl, ⟨rfl, rfl, rfl, rfl, rfl, rfl⟩, by (have htl := (wOf_y hp2 c2).2); (have hle : (l.take t).length = t := by rw [List.length_take, Nat.min_eq_left (Nat.le_of_lt htl)]); (have h9 := R.more (w := fnL l t) (by omega) (fnL_lt hlb htl)); rw [hle] at h9; rw [take_fn htl, List.length_append, hle, R.1, hle, nI_1]; exact h9⟩
def iX7_sees_93_3 : List Instr := [.aload_n 0, .iload_n 1, .iload_n 2]
theorem oX7_sees_93_3 : fOkB cX7_sees 93 iX7_sees_93_3 = true := by decide +kernel
theorem dX7_sees_96 : decode cX7_sees 96 = .ok (.invokevirtual 159, 3) := by decide +kernel
def iX7_sees_99_6 : List Instr := [.aload_n 0, .getfield 42, .iconst 0, .putfield 163, .aload_n 0, .iload_n 3]
theorem oX7_sees_99_6 : fOkB cX7_sees 99 iX7_sees_99_6 = true := by decide +kernel
set_option maxRecDepth 100000 in
theorem lX7_166 : Cond.methodLink RX7 166 yX7_lengthenRoute ∈ fTB := fTB_at 530 rfl rfl
theorem dX7_sees_109 : decode cX7_sees 109 = .ok (.invokevirtual 166, 3) := by decide +kernel
def iX7_sees_112_2 : List Instr := [.aload_n 0, .iload 4]
theorem oX7_sees_112_2 : fOkB cX7_sees 112 iX7_sees_112_2 = true := by decide +kernel
theorem dX7_sees_115 : decode cX7_sees 115 = .ok (.invokevirtual 166, 3) := by decide +kernel
def iX7_sees_118_2 : List Instr := [.aload_n 0, .iload 5]
theorem oX7_sees_118_2 : fOkB cX7_sees 118 iX7_sees_118_2 = true := by decide +kernel
theorem dX7_sees_121 : decode cX7_sees 121 = .ok (.invokevirtual 166, 3) := by decide +kernel
def iX7_sees_124_4 : List Instr := [.aload_n 0, .getfield 42, .aload_n 0, .getfield 19]
theorem oX7_sees_124_4 : fOkB cX7_sees 124 iX7_sees_124_4 = true := by decide +kernel
theorem dX7_sees_132 : decode cX7_sees 132 = .ok (.invokevirtual 169, 3) := by decide +kernel
theorem bX7_sees_135 : fBk cX7_sees 135 (.ifCond .ne) 140 := ⟨5, by decide +kernel, by decide⟩
def iX7_sees_140_4 : List Instr := [.aload_n 0, .getfield 42, .aload_n 0, .getfield 19]
theorem oX7_sees_140_4 : fOkB cX7_sees 140 iX7_sees_140_4 = true := by decide +kernel
theorem dX7_sees_148 : decode cX7_sees 148 = .ok (.invokevirtual 173, 3) := by decide +kernel
theorem bX7_sees_151 : fBk cX7_sees 151 (.ifCond .eq) 158 := ⟨7, by decide +kernel, by decide⟩
def iX7_sees_154_2 : List Instr := [.iconst 1, .goto 4]
theorem oX7_sees_154_2 : fOkB cX7_sees 154 iX7_sees_154_2 = true := by decide +kernel
theorem dX7_sees_159 : decode cX7_sees 159 = .ok (.ireturn, 1) := by decide +kernel
def iX7_sees_158_1 : List Instr := [.iconst 0]
theorem oX7_sees_158_1 : fOkB cX7_sees 158 iX7_sees_158_1 = true := by decide +kernel
def iX7_sees_138_1 : List Instr := [.iconst (-1)]
theorem oX7_sees_138_1 : fOkB cX7_sees 138 iX7_sees_138_1 = true := by decide +kernel
theorem dX7_sees_139 : decode cX7_sees 139 = .ok (.ireturn, 1) := by decide +kernel
set_option maxRecDepth 100000 in
theorem tlX7_sees {G : fG} {d : Nat} {S : fS} {a b c e si ei : Nat} {l : List Nat} (H : hOk (hC S) a b c e) (HG : hGeo S b) (hsi : si < c) (hei : ei < e) (hl : l.length ≤ 3) (hlb : ∀ w ∈ l, w < b) : fV G mX7_sees (fZm G (d + 4) (fun r S' => r = some (.int (seeV (gA S 5) b (gA S 12 si, gA S 13 si) (gA S 15 ei, gA S 16 ei) l)) ∧ kp S S')) 93 [(0, .ref 0), (1, .int (nI si)), (2, .int (nI ei)), (3, .int (wOf l 0)), (4, .int (wOf l 1)), (5, .int (wOf l 2))] [] S := by
  have hb16 : b ≤ 16 := H.2.1.2.1
  have hc4 : c ≤ 4 := H.2.2.1.2.1
  have he8 : e ≤ 8 := H.2.2.2.1.2.1
  refine fV.run iX7_sees_93_3 oX7_sees_93_3 (pc' := 96) (L' := [(0, .ref 0), (1, .int (nI si)), (2, .int (nI ei)), (3, .int (wOf l 0)), (4, .int (wOf l 1)), (5, .int (wOf l 2))]) (st' := [.int (nI ei), .int (nI si), .ref 0]) (S' := S) rfl trivial ?_
  refine fV.callV (M2 := mX7_startRoute) (d := d + 3) (o := 0) (av := [.int (nI si), .int (nI ei)]) (rest := []) kX7_startRoute dX7_sees_96 lX7_159 rfl rfl rfl (Nat.le_of_ble_eq_true rfl) (fRoom (by decide)) ⟨Nat.le_refl _, Nat.le_refl _⟩ (qX7_start (S := S) (si := si) (ei := ei) (by omega) (by omega)) ?_
  rintro _ S9 ⟨rfl, h9⟩
  rw [h9]
  clear h9 S9
  refine fV.to (pc' := 99) (L' := [(0, .ref 0), (1, .int (nI si)), (2, .int (nI ei)), (3, .int (wOf l 0)), (4, .int (wOf l 1)), (5, .int (wOf l 2))]) (st' := []) (S' := (wI (wI (wA S 20 (upd (upd (gA S 20) 0 (gA S 12 si)) 1 (gA S 13 si))) 18 5 (gA S 15 ei)) 18 6 (gA S 16 ei))) rfl rfl rfl rfl ?_
  refine fV.run iX7_sees_99_6 oX7_sees_99_6 (pc' := 109) (L' := [(0, .ref 0), (1, .int (nI si)), (2, .int (nI ei)), (3, .int (wOf l 0)), (4, .int (wOf l 1)), (5, .int (wOf l 2))]) (st' := [.int (wOf l 0), .ref 0]) (S' := (wI (wI (wI (wA S 20 (upd (upd (gA S 20) 0 (gA S 12 si)) 1 (gA S 13 si))) 18 5 (gA S 15 ei)) 18 6 (gA S 16 ei)) 18 7 0)) rfl trivial ?_
  have R0 : rtPre (wI (wI (wI (wA S 20 (upd (upd (gA S 20) 0 (gA S 12 si)) 1 (gA S 13 si))) 18 5 (gA S 15 ei)) 18 6 (gA S 16 ei)) 18 7 0) b (gA S 12 si, gA S 13 si) (gA S 15 ei, gA S 16 ei) (l.take 0) (l.take 0).length := by
    refine ⟨rfl, by simp, by simp, fun i hi => absurd hi (by simp), fun w hw => by simp at hw, fun j hj => ?_, rfl⟩
    obtain rfl : j = 0 := by simpa using hj
    rfl
  refine fV.callV (M2 := mX7_lengthenRoute) (d := d + 3) (o := 0) (av := [.int (wOf l 0)]) (rest := []) kX7_lengthenRoute dX7_sees_109 lX7_166 rfl rfl rfl (Nat.le_of_ble_eq_true rfl) (fRoom (by decide)) ⟨Nat.le_refl _, Nat.le_refl _⟩ (qX7_lengthen (S := (wI (wI (wI (wA S 20 (upd (upd (gA S 20) 0 (gA S 12 si)) 1 (gA S 13 si))) 18 5 (gA S 15 ei)) 18 6 (gA S 16 ei)) 18 7 0)) (t := 0) (l := l) (src := (gA S 12 si, gA S 13 si)) (seat := (gA S 15 ei, gA S 16 ei)) (geo_wI (geo_wI (geo_wI (geo_wA (by decide) HG)))) hb16 (by omega) hl hlb R0) ?_
  rintro _ S1 ⟨rfl, hk9, r1⟩
  have k1 : kp S S1 := kp.tr (S1 := (wI (wI (wI (wA S 20 (upd (upd (gA S 20) 0 (gA S 12 si)) 1 (gA S 13 si))) 18 5 (gA S 15 ei)) 18 6 (gA S 16 ei)) 18 7 0)) ⟨rfl, rfl, rfl, rfl, rfl, rfl⟩ hk9
  refine fV.to (pc' := 112) (L' := [(0, .ref 0), (1, .int (nI si)), (2, .int (nI ei)), (3, .int (wOf l 0)), (4, .int (wOf l 1)), (5, .int (wOf l 2))]) (st' := []) (S' := S1) rfl rfl rfl rfl ?_
  refine fV.run iX7_sees_112_2 oX7_sees_112_2 (pc' := 115) (L' := [(0, .ref 0), (1, .int (nI si)), (2, .int (nI ei)), (3, .int (wOf l 0)), (4, .int (wOf l 1)), (5, .int (wOf l 2))]) (st' := [.int (wOf l 1), .ref 0]) (S' := S1) rfl trivial ?_
  refine fV.callV (M2 := mX7_lengthenRoute) (d := d + 3) (o := 0) (av := [.int (wOf l 1)]) (rest := []) kX7_lengthenRoute dX7_sees_115 lX7_166 rfl rfl rfl (Nat.le_of_ble_eq_true rfl) (fRoom (by decide)) ⟨Nat.le_refl _, Nat.le_refl _⟩ (qX7_lengthen (S := S1) (t := 1) (l := l) (src := (gA S 12 si, gA S 13 si)) (seat := (gA S 15 ei, gA S 16 ei)) (k1.geo HG) hb16 (by omega) hl hlb r1) ?_
  rintro _ S2 ⟨rfl, hk9, r2⟩
  have k2 : kp S S2 := k1.tr hk9
  refine fV.to (pc' := 118) (L' := [(0, .ref 0), (1, .int (nI si)), (2, .int (nI ei)), (3, .int (wOf l 0)), (4, .int (wOf l 1)), (5, .int (wOf l 2))]) (st' := []) (S' := S2) rfl rfl rfl rfl ?_
  refine fV.run iX7_sees_118_2 oX7_sees_118_2 (pc' := 121) (L' := [(0, .ref 0), (1, .int (nI si)), (2, .int (nI ei)), (3, .int (wOf l 0)), (4, .int (wOf l 1)), (5, .int (wOf l 2))]) (st' := [.int (wOf l 2), .ref 0]) (S' := S2) rfl trivial ?_
  refine fV.callV (M2 := mX7_lengthenRoute) (d := d + 3) (o := 0) (av := [.int (wOf l 2)]) (rest := []) kX7_lengthenRoute dX7_sees_121 lX7_166 rfl rfl rfl (Nat.le_of_ble_eq_true rfl) (fRoom (by decide)) ⟨Nat.le_refl _, Nat.le_refl _⟩ (qX7_lengthen (S := S2) (t := 2) (l := l) (src := (gA S 12 si, gA S 13 si)) (seat := (gA S 15 ei, gA S 16 ei)) (k2.geo HG) hb16 (by omega) hl hlb r2) ?_
  rintro _ S3 ⟨rfl, hk9, r3⟩
  have k3 : kp S S3 := k2.tr hk9
  refine fV.to (pc' := 124) (L' := [(0, .ref 0), (1, .int (nI si)), (2, .int (nI ei)), (3, .int (wOf l 0)), (4, .int (wOf l 1)), (5, .int (wOf l 2))]) (st' := []) (S' := S3) rfl rfl rfl rfl ?_
  refine fV.run iX7_sees_124_4 oX7_sees_124_4 (pc' := 132) (L' := [(0, .ref 0), (1, .int (nI si)), (2, .int (nI ei)), (3, .int (wOf l 0)), (4, .int (wOf l 1)), (5, .int (wOf l 2))]) (st' := [.ref 4, .ref 18]) (S' := S3) rfl trivial ?_
  rw [List.take_of_length_le (show l.length ≤ 2 + 1 by omega)] at r3
  have RR : rtRow S3 b (gA S 12 si, gA S 13 si) (gA S 15 ei, gA S 16 ei) (fnL l) l.length := r3.row rfl
  refine fV.callV (M2 := mX3_hasBounces) (d := d + 3) (o := 18) (av := [.ref 4]) (rest := []) kX3_hasBounces dX7_sees_132 lX7_169 rfl rfl rfl (Nat.le_of_ble_eq_true rfl) (fRoom (by decide)) ⟨Nat.le_refl _, Nat.le_refl _⟩ (qX3_has (S := S3) (k3.geo HG) hb16 RR) ?_
  rintro r9 S9 h9
  obtain ⟨e9, p9, q9, rfl, h9⟩ := h9
  rcases h9 with ⟨hh, rfl, he, hf⟩ | ⟨hh, rfl⟩
  · rw [k3.en] at hh
    refine fV.to (pc' := 135) (L' := [(0, .ref 0), (1, .int (nI si)), (2, .int (nI ei)), (3, .int (wOf l 0)), (4, .int (wOf l 1)), (5, .int (wOf l 2))]) (st' := [.int 1]) (S' := (wB (wB (wA S3 21 e9) 22 p9) 23 q9)) rfl rfl rfl rfl ?_
    refine fV.if_ne bX7_sees_135 (fun c135 => ?_) (fun c135 => ?_)
    · refine fV.run iX7_sees_140_4 oX7_sees_140_4 (pc' := 148) (L' := [(0, .ref 0), (1, .int (nI si)), (2, .int (nI ei)), (3, .int (wOf l 0)), (4, .int (wOf l 1)), (5, .int (wOf l 2))]) (st' := [.ref 4, .ref 18]) (S' := (wB (wB (wA S3 21 e9) 22 p9) 23 q9)) rfl trivial ?_
      refine fV.callV (M2 := mX3_isSeen) (d := d + 3) (o := 18) (av := [.ref 4]) (rest := []) kX3_isSeen dX7_sees_148 lX7_173 rfl rfl rfl (Nat.le_of_ble_eq_true rfl) (fRoom (by decide)) ⟨Nat.le_refl _, Nat.le_refl _⟩ (qX3_seen (S := (wB (wB (wA S3 21 e9) 22 p9) 23 q9)) (src := (gA S 12 si, gA S 13 si)) (seat := (gA S 15 ei, gA S 16 ei)) (geo_wB (geo_wB (geo_wA (by decide) (k3.geo HG)))) hb16 (show gI S3 4 6 = nI b by rw [k3.nw]; exact H.2.1.1) RR he hf) ?_
      rintro r9 S9 h9
      rcases h9 with ⟨hs, rfl, h9⟩ | ⟨hs, rfl, h9⟩
      · rw [h9]
        clear h9 S9
        rw [show gA (wB (wB (wA S3 21 e9) 22 p9) 23 q9) 5 = gA S 5 from k3.en] at hs
        refine fV.to (pc' := 151) (L' := [(0, .ref 0), (1, .int (nI si)), (2, .int (nI ei)), (3, .int (wOf l 0)), (4, .int (wOf l 1)), (5, .int (wOf l 2))]) (st' := [.int 1]) (S' := (wB (wB (wA S3 21 e9) 22 p9) 23 q9)) rfl rfl rfl rfl ?_
        refine fV.if_eq bX7_sees_151 (fun c151 => ?_) (fun c151 => ?_)
        · exact absurd c151 (by decide)
        · refine fV.run iX7_sees_154_2 oX7_sees_154_2 (pc' := 159) (L' := [(0, .ref 0), (1, .int (nI si)), (2, .int (nI ei)), (3, .int (wOf l 0)), (4, .int (wOf l 1)), (5, .int (wOf l 2))]) (st' := [.int 1]) (S' := (wB (wB (wA S3 21 e9) 22 p9) 23 q9)) rfl trivial ?_
          exact fV.iret rfl dX7_sees_159 ⟨by unfold seeV; rw [if_pos hh, if_pos hs], k3.tr ⟨rfl, rfl, rfl, rfl, rfl, rfl⟩⟩
      · rw [h9]
        clear h9 S9
        rw [show gA (wB (wB (wA S3 21 e9) 22 p9) 23 q9) 5 = gA S 5 from k3.en] at hs
        refine fV.to (pc' := 151) (L' := [(0, .ref 0), (1, .int (nI si)), (2, .int (nI ei)), (3, .int (wOf l 0)), (4, .int (wOf l 1)), (5, .int (wOf l 2))]) (st' := [.int 0]) (S' := (wB (wB (wA S3 21 e9) 22 p9) 23 q9)) rfl rfl rfl rfl ?_
        refine fV.if_eq bX7_sees_151 (fun c151 => ?_) (fun c151 => ?_)
        · refine fV.run iX7_sees_158_1 oX7_sees_158_1 (pc' := 159) (L' := [(0, .ref 0), (1, .int (nI si)), (2, .int (nI ei)), (3, .int (wOf l 0)), (4, .int (wOf l 1)), (5, .int (wOf l 2))]) (st' := [.int 0]) (S' := (wB (wB (wA S3 21 e9) 22 p9) 23 q9)) rfl trivial ?_
          exact fV.iret rfl dX7_sees_159 ⟨by unfold seeV; rw [if_pos hh, if_neg hs], k3.tr ⟨rfl, rfl, rfl, rfl, rfl, rfl⟩⟩
        · exact absurd c151 (by decide)
    · exact absurd c135 (by decide)
  · rw [k3.en] at hh
    refine fV.to (pc' := 135) (L' := [(0, .ref 0), (1, .int (nI si)), (2, .int (nI ei)), (3, .int (wOf l 0)), (4, .int (wOf l 1)), (5, .int (wOf l 2))]) (st' := [.int 0]) (S' := (wB (wB (wA S3 21 e9) 22 p9) 23 q9)) rfl rfl rfl rfl ?_
    refine fV.if_ne bX7_sees_135 (fun c135 => ?_) (fun c135 => ?_)
    · exact absurd c135 (by decide)
    · refine fV.run iX7_sees_138_1 oX7_sees_138_1 (pc' := 139) (L' := [(0, .ref 0), (1, .int (nI si)), (2, .int (nI ei)), (3, .int (wOf l 0)), (4, .int (wOf l 1)), (5, .int (wOf l 2))]) (st' := [.int (-1)]) (S' := (wB (wB (wA S3 21 e9) 22 p9) 23 q9)) rfl trivial ?_
      exact fV.iret rfl dX7_sees_139 ⟨by unfold seeV; rw [if_neg hh], k3.tr ⟨rfl, rfl, rfl, rfl, rfl, rfl⟩⟩
def iX7_sees_0_3 : List Instr := [.aload_n 0, .iload_n 1, .iload_n 2]
theorem oX7_sees_0_3 : fOkB cX7_sees 0 iX7_sees_0_3 = true := by decide +kernel
theorem dX7_sees_3 : decode cX7_sees 3 = .ok (.invokevirtual 125, 3) := by decide +kernel
theorem bX7_sees_6 : fBk cX7_sees 6 (.ifCond .eq) 35 := ⟨29, by decide +kernel, by decide⟩
def iX7_sees_35_1 : List Instr := [.sipush (-1001)]
theorem oX7_sees_35_1 : fOkB cX7_sees 35 iX7_sees_35_1 = true := by decide +kernel
theorem dX7_sees_38 : decode cX7_sees 38 = .ok (.ireturn, 1) := by decide +kernel
def iX7_sees_9_2 : List Instr := [.aload_n 0, .iload_n 3]
theorem oX7_sees_9_2 : fOkB cX7_sees 9 iX7_sees_9_2 = true := by decide +kernel
set_option maxRecDepth 100000 in
theorem lX7_156 : Cond.methodLink RX7 156 yX7_isWallOrNone ∈ fTB := fTB_at 526 rfl rfl
theorem dX7_sees_11 : decode cX7_sees 11 = .ok (.invokevirtual 156, 3) := by decide +kernel
theorem bX7_sees_14 : fBk cX7_sees 14 (.ifCond .eq) 35 := ⟨21, by decide +kernel, by decide⟩
def iX7_sees_17_2 : List Instr := [.aload_n 0, .iload 4]
theorem oX7_sees_17_2 : fOkB cX7_sees 17 iX7_sees_17_2 = true := by decide +kernel
theorem dX7_sees_20 : decode cX7_sees 20 = .ok (.invokevirtual 156, 3) := by decide +kernel
theorem bX7_sees_23 : fBk cX7_sees 23 (.ifCond .eq) 35 := ⟨12, by decide +kernel, by decide⟩
def iX7_sees_26_2 : List Instr := [.aload_n 0, .iload 5]
theorem oX7_sees_26_2 : fOkB cX7_sees 26 iX7_sees_26_2 = true := by decide +kernel
theorem dX7_sees_29 : decode cX7_sees 29 = .ok (.invokevirtual 156, 3) := by decide +kernel
theorem bX7_sees_32 : fBk cX7_sees 32 (.ifCond .ne) 39 := ⟨7, by decide +kernel, by decide⟩
def iX7_sees_39_2 : List Instr := [.iload_n 3, .iconst (-1)]
theorem oX7_sees_39_2 : fOkB cX7_sees 39 iX7_sees_39_2 = true := by decide +kernel
theorem bX7_sees_41 : fBk cX7_sees 41 (.if_icmp .ne) 50 := ⟨9, by decide +kernel, by decide⟩
def iX7_sees_50_2 : List Instr := [.iload 4, .iconst (-1)]
theorem oX7_sees_50_2 : fOkB cX7_sees 50 iX7_sees_50_2 = true := by decide +kernel
theorem bX7_sees_53 : fBk cX7_sees 53 (.if_icmp .ne) 66 := ⟨13, by decide +kernel, by decide⟩
def iX7_sees_66_2 : List Instr := [.iload_n 3, .iload 4]
theorem oX7_sees_66_2 : fOkB cX7_sees 66 iX7_sees_66_2 = true := by decide +kernel
theorem bX7_sees_69 : fBk cX7_sees 69 (.if_icmp .ne) 78 := ⟨9, by decide +kernel, by decide⟩
def iX7_sees_78_2 : List Instr := [.iload 4, .iload 5]
theorem oX7_sees_78_2 : fOkB cX7_sees 78 iX7_sees_78_2 = true := by decide +kernel
theorem bX7_sees_82 : fBk cX7_sees 82 (.if_icmp .ne) 93 := ⟨11, by decide +kernel, by decide⟩
def iX7_sees_85_2 : List Instr := [.iload 5, .iconst (-1)]
theorem oX7_sees_85_2 : fOkB cX7_sees 85 iX7_sees_85_2 = true := by decide +kernel
theorem bX7_sees_88 : fBk cX7_sees 88 (.if_icmp .eq) 93 := ⟨5, by decide +kernel, by decide⟩
def iX7_sees_91_1 : List Instr := [.iconst (-1)]
theorem oX7_sees_91_1 : fOkB cX7_sees 91 iX7_sees_91_1 = true := by decide +kernel
theorem dX7_sees_92 : decode cX7_sees 92 = .ok (.ireturn, 1) := by decide +kernel
def iX7_sees_72_2 : List Instr := [.iload 4, .iconst (-1)]
theorem oX7_sees_72_2 : fOkB cX7_sees 72 iX7_sees_72_2 = true := by decide +kernel
theorem bX7_sees_75 : fBk cX7_sees 75 (.if_icmp .ne) 91 := ⟨16, by decide +kernel, by decide⟩
def iX7_sees_56_2 : List Instr := [.iload 5, .iconst (-1)]
theorem oX7_sees_56_2 : fOkB cX7_sees 56 iX7_sees_56_2 = true := by decide +kernel
theorem bX7_sees_59 : fBk cX7_sees 59 (.if_icmp .eq) 66 := ⟨7, by decide +kernel, by decide⟩
def iX7_sees_62_1 : List Instr := [.sipush (-1002)]
theorem oX7_sees_62_1 : fOkB cX7_sees 62 iX7_sees_62_1 = true := by decide +kernel
theorem dX7_sees_65 : decode cX7_sees 65 = .ok (.ireturn, 1) := by decide +kernel
def iX7_sees_44_2 : List Instr := [.iload 4, .iconst (-1)]
theorem oX7_sees_44_2 : fOkB cX7_sees 44 iX7_sees_44_2 = true := by decide +kernel
theorem bX7_sees_47 : fBk cX7_sees 47 (.if_icmp .ne) 62 := ⟨15, by decide +kernel, by decide⟩
set_option maxRecDepth 100000 in
theorem qX7_sees {G : fG} {d : Nat} {S : fS} (x y p q r : Int32) {a b c e : Nat} (H : hOk (hC S) a b c e) (HG : hGeo S b) : fCtr G (d + 4) mX7_sees [.ref 0, .int x, .int y, .int p, .int q, .int r] S (fun z S' => z = some (.int (oSees (hC S) b x y p q r)) ∧ kp S S') := by
  refine fCtr.of bXX7_sees (Nat.le_of_ble_eq_true rfl) rfl ?_
  have hb : gI S 4 6 = nI b := H.2.1.1
  have hb16 : b ≤ 16 := H.2.1.2.1
  have ha8 : a ≤ 8 := H.1.2.2.1
  have hc4 : c ≤ 4 := H.2.2.1.2.1
  have he8 : e ≤ 8 := H.2.2.2.1.2.1
  have hm3 : gI S 0 9 ≤ 3 := H.2.2.2.2.1.2
  have hm := most_N (m := gI S 0 9) H.2.2.2.2.1.1 hm3
  refine fV.run iX7_sees_0_3 oX7_sees_0_3 (pc' := 3) (L' := [(0, .ref 0), (1, .int x), (2, .int y), (3, .int p), (4, .int q), (5, .int r)]) (st' := [.int y, .int x, .ref 0]) (S' := S) rfl trivial ?_
  refine fV.callV (M2 := mX7_areThere) (d := d + 3) (o := 0) (av := [.int x, .int y]) (rest := []) kX7_areThere dX7_sees_3 lX7_125 rfl rfl rfl (Nat.le_of_ble_eq_true rfl) (fRoom (by decide)) ⟨Nat.le_refl _, Nat.le_refl _⟩ (qX7_areThere _ _) ?_
  rintro _ S9 ⟨rfl, h9⟩
  rw [h9]
  clear h9 S9
  refine fV.to (pc' := 6) (L' := [(0, .ref 0), (1, .int x), (2, .int y), (3, .int p), (4, .int q), (5, .int r)]) (st' := [.int (fB (decide ((0 ≤ x ∧ x < (gI S 11 2)) ∧ (0 ≤ y ∧ y < (gI S 14 2)))))]) (S' := S) rfl rfl rfl rfl ?_
  refine fV.if_eq bX7_sees_6 (fun c6 => ?_) (fun c6 => ?_)
  · refine fV.run iX7_sees_35_1 oX7_sees_35_1 (pc' := 38) (L' := [(0, .ref 0), (1, .int x), (2, .int y), (3, .int p), (4, .int q), (5, .int r)]) (st' := [.int (-1001)]) (S' := S) rfl trivial ?_
    exact fV.iret rfl dX7_sees_38 ⟨by unfold oSees; rw [if_neg (show ¬ ((thr (hC S) x y ∧ isW (hC S) p) ∧ (isW (hC S) q ∧ isW (hC S) r)) from by unfold thr isW; grind [fB, hC])], kp.rf⟩
  · refine fV.run iX7_sees_9_2 oX7_sees_9_2 (pc' := 11) (L' := [(0, .ref 0), (1, .int x), (2, .int y), (3, .int p), (4, .int q), (5, .int r)]) (st' := [.int p, .ref 0]) (S' := S) rfl trivial ?_
    refine fV.callV (M2 := mX7_isWallOrNone) (d := d + 3) (o := 0) (av := [.int p]) (rest := []) kX7_isWallOrNone dX7_sees_11 lX7_156 rfl rfl rfl (Nat.le_of_ble_eq_true rfl) (fRoom (by decide)) ⟨Nat.le_refl _, Nat.le_refl _⟩ (qX7_isWallOrNone _) ?_
    rintro _ S9 ⟨rfl, h9⟩
    rw [h9]
    clear h9 S9
    refine fV.to (pc' := 14) (L' := [(0, .ref 0), (1, .int x), (2, .int y), (3, .int p), (4, .int q), (5, .int r)]) (st' := [.int (fB (decide (p = -1 ∨ (0 ≤ p ∧ p < (gI S 4 6)))))]) (S' := S) rfl rfl rfl rfl ?_
    refine fV.if_eq bX7_sees_14 (fun c14 => ?_) (fun c14 => ?_)
    · refine fV.run iX7_sees_35_1 oX7_sees_35_1 (pc' := 38) (L' := [(0, .ref 0), (1, .int x), (2, .int y), (3, .int p), (4, .int q), (5, .int r)]) (st' := [.int (-1001)]) (S' := S) rfl trivial ?_
      exact fV.iret rfl dX7_sees_38 ⟨by unfold oSees; rw [if_neg (show ¬ ((thr (hC S) x y ∧ isW (hC S) p) ∧ (isW (hC S) q ∧ isW (hC S) r)) from by unfold thr isW; grind [fB, hC])], kp.rf⟩
    · refine fV.run iX7_sees_17_2 oX7_sees_17_2 (pc' := 20) (L' := [(0, .ref 0), (1, .int x), (2, .int y), (3, .int p), (4, .int q), (5, .int r)]) (st' := [.int q, .ref 0]) (S' := S) rfl trivial ?_
      refine fV.callV (M2 := mX7_isWallOrNone) (d := d + 3) (o := 0) (av := [.int q]) (rest := []) kX7_isWallOrNone dX7_sees_20 lX7_156 rfl rfl rfl (Nat.le_of_ble_eq_true rfl) (fRoom (by decide)) ⟨Nat.le_refl _, Nat.le_refl _⟩ (qX7_isWallOrNone _) ?_
      rintro _ S9 ⟨rfl, h9⟩
      rw [h9]
      clear h9 S9
      refine fV.to (pc' := 23) (L' := [(0, .ref 0), (1, .int x), (2, .int y), (3, .int p), (4, .int q), (5, .int r)]) (st' := [.int (fB (decide (q = -1 ∨ (0 ≤ q ∧ q < (gI S 4 6)))))]) (S' := S) rfl rfl rfl rfl ?_
      refine fV.if_eq bX7_sees_23 (fun c23 => ?_) (fun c23 => ?_)
      · refine fV.run iX7_sees_35_1 oX7_sees_35_1 (pc' := 38) (L' := [(0, .ref 0), (1, .int x), (2, .int y), (3, .int p), (4, .int q), (5, .int r)]) (st' := [.int (-1001)]) (S' := S) rfl trivial ?_
        exact fV.iret rfl dX7_sees_38 ⟨by unfold oSees; rw [if_neg (show ¬ ((thr (hC S) x y ∧ isW (hC S) p) ∧ (isW (hC S) q ∧ isW (hC S) r)) from by unfold thr isW; grind [fB, hC])], kp.rf⟩
      · refine fV.run iX7_sees_26_2 oX7_sees_26_2 (pc' := 29) (L' := [(0, .ref 0), (1, .int x), (2, .int y), (3, .int p), (4, .int q), (5, .int r)]) (st' := [.int r, .ref 0]) (S' := S) rfl trivial ?_
        refine fV.callV (M2 := mX7_isWallOrNone) (d := d + 3) (o := 0) (av := [.int r]) (rest := []) kX7_isWallOrNone dX7_sees_29 lX7_156 rfl rfl rfl (Nat.le_of_ble_eq_true rfl) (fRoom (by decide)) ⟨Nat.le_refl _, Nat.le_refl _⟩ (qX7_isWallOrNone _) ?_
        rintro _ S9 ⟨rfl, h9⟩
        rw [h9]
        clear h9 S9
        refine fV.to (pc' := 32) (L' := [(0, .ref 0), (1, .int x), (2, .int y), (3, .int p), (4, .int q), (5, .int r)]) (st' := [.int (fB (decide (r = -1 ∨ (0 ≤ r ∧ r < (gI S 4 6)))))]) (S' := S) rfl rfl rfl rfl ?_
        refine fV.if_ne bX7_sees_32 (fun c32 => ?_) (fun c32 => ?_)
        · refine fV.run iX7_sees_39_2 oX7_sees_39_2 (pc' := 41) (L' := [(0, .ref 0), (1, .int x), (2, .int y), (3, .int p), (4, .int q), (5, .int r)]) (st' := [.int (-1), .int p]) (S' := S) rfl trivial ?_
          refine fV.icmp_ne bX7_sees_41 (fun c41 => ?_) (fun c41 => ?_)
          · refine fV.run iX7_sees_50_2 oX7_sees_50_2 (pc' := 53) (L' := [(0, .ref 0), (1, .int x), (2, .int y), (3, .int p), (4, .int q), (5, .int r)]) (st' := [.int (-1), .int q]) (S' := S) rfl trivial ?_
            refine fV.icmp_ne bX7_sees_53 (fun c53 => ?_) (fun c53 => ?_)
            · refine fV.run iX7_sees_66_2 oX7_sees_66_2 (pc' := 69) (L' := [(0, .ref 0), (1, .int x), (2, .int y), (3, .int p), (4, .int q), (5, .int r)]) (st' := [.int q, .int p]) (S' := S) rfl trivial ?_
              refine fV.icmp_ne bX7_sees_69 (fun c69 => ?_) (fun c69 => ?_)
              · refine fV.run iX7_sees_78_2 oX7_sees_78_2 (pc' := 82) (L' := [(0, .ref 0), (1, .int x), (2, .int y), (3, .int p), (4, .int q), (5, .int r)]) (st' := [.int r, .int q]) (S' := S) rfl trivial ?_
                refine fV.icmp_ne bX7_sees_82 (fun c82 => ?_) (fun c82 => ?_)
                · have hcn := (show (thr (hC S) x y ∧ isW (hC S) p) ∧ (isW (hC S) q ∧ isW (hC S) r) from by unfold thr isW; grind [fB, hC])
                  have hno : ¬ ((p = -1 ∧ ¬ q = -1) ∨ (q = -1 ∧ ¬ r = -1)) := by grind
                  rw [show oSees (hC S) b x y p q r = seeV (gA S 5) b (hSrc (hC S) x.toNatClampNeg) (hSeat (hC S) y.toNatClampNeg) (wl p q r) by unfold oSees; rw [if_pos hcn, if_neg hno, if_neg (by grind)]; rfl]
                  obtain ⟨w1, w2, w3, w4, w5⟩ := wl_ok H.2.1.1 hb16 hcn.1.2 hcn.2.1 hcn.2.2 hno
                  generalize wl p q r = l at *
                  subst w3 w4 w5
                  obtain ⟨si, hsi, rfl⟩ := n_in (x := x) (n := c) (by omega) hcn.1.1.1.1 (by rw [← show (hC S).2.2.1.1 = nI c from H.2.2.1.1]; exact hcn.1.1.1.2)
                  obtain ⟨ei, hei, rfl⟩ := n_in (x := y) (n := e) (by omega) hcn.1.1.2.1 (by rw [← show (hC S).2.2.2.1.1 = nI e from H.2.2.2.1.1]; exact hcn.1.1.2.2)
                  rw [nI_clamp (by omega), nI_clamp (by omega)]
                  exact tlX7_sees H HG hsi hei w1 w2
                · refine fV.run iX7_sees_85_2 oX7_sees_85_2 (pc' := 88) (L' := [(0, .ref 0), (1, .int x), (2, .int y), (3, .int p), (4, .int q), (5, .int r)]) (st' := [.int (-1), .int r]) (S' := S) rfl trivial ?_
                  refine fV.icmp_eq bX7_sees_88 (fun c88 => ?_) (fun c88 => ?_)
                  · have hcn := (show (thr (hC S) x y ∧ isW (hC S) p) ∧ (isW (hC S) q ∧ isW (hC S) r) from by unfold thr isW; grind [fB, hC])
                    have hno : ¬ ((p = -1 ∧ ¬ q = -1) ∨ (q = -1 ∧ ¬ r = -1)) := by grind
                    rw [show oSees (hC S) b x y p q r = seeV (gA S 5) b (hSrc (hC S) x.toNatClampNeg) (hSeat (hC S) y.toNatClampNeg) (wl p q r) by unfold oSees; rw [if_pos hcn, if_neg hno, if_neg (by grind)]; rfl]
                    obtain ⟨w1, w2, w3, w4, w5⟩ := wl_ok H.2.1.1 hb16 hcn.1.2 hcn.2.1 hcn.2.2 hno
                    generalize wl p q r = l at *
                    subst w3 w4 w5
                    obtain ⟨si, hsi, rfl⟩ := n_in (x := x) (n := c) (by omega) hcn.1.1.1.1 (by rw [← show (hC S).2.2.1.1 = nI c from H.2.2.1.1]; exact hcn.1.1.1.2)
                    obtain ⟨ei, hei, rfl⟩ := n_in (x := y) (n := e) (by omega) hcn.1.1.2.1 (by rw [← show (hC S).2.2.2.1.1 = nI e from H.2.2.2.1.1]; exact hcn.1.1.2.2)
                    rw [nI_clamp (by omega), nI_clamp (by omega)]
                    exact tlX7_sees H HG hsi hei w1 w2
                  · refine fV.run iX7_sees_91_1 oX7_sees_91_1 (pc' := 92) (L' := [(0, .ref 0), (1, .int x), (2, .int y), (3, .int p), (4, .int q), (5, .int r)]) (st' := [.int (-1)]) (S' := S) rfl trivial ?_
                    exact fV.iret rfl dX7_sees_92 ⟨by unfold oSees; rw [if_pos (show (thr (hC S) x y ∧ isW (hC S) p) ∧ (isW (hC S) q ∧ isW (hC S) r) from by unfold thr isW; grind [fB, hC]), if_neg (by grind), if_pos (by grind)], kp.rf⟩
              · refine fV.run iX7_sees_72_2 oX7_sees_72_2 (pc' := 75) (L' := [(0, .ref 0), (1, .int x), (2, .int y), (3, .int p), (4, .int q), (5, .int r)]) (st' := [.int (-1), .int q]) (S' := S) rfl trivial ?_
                refine fV.icmp_ne bX7_sees_75 (fun c75 => ?_) (fun c75 => ?_)
                · refine fV.run iX7_sees_91_1 oX7_sees_91_1 (pc' := 92) (L' := [(0, .ref 0), (1, .int x), (2, .int y), (3, .int p), (4, .int q), (5, .int r)]) (st' := [.int (-1)]) (S' := S) rfl trivial ?_
                  exact fV.iret rfl dX7_sees_92 ⟨by unfold oSees; rw [if_pos (show (thr (hC S) x y ∧ isW (hC S) p) ∧ (isW (hC S) q ∧ isW (hC S) r) from by unfold thr isW; grind [fB, hC]), if_neg (by grind), if_pos (by grind)], kp.rf⟩
                · refine fV.run iX7_sees_78_2 oX7_sees_78_2 (pc' := 82) (L' := [(0, .ref 0), (1, .int x), (2, .int y), (3, .int p), (4, .int q), (5, .int r)]) (st' := [.int r, .int q]) (S' := S) rfl trivial ?_
                  refine fV.icmp_ne bX7_sees_82 (fun c82 => ?_) (fun c82 => ?_)
                  · have hcn := (show (thr (hC S) x y ∧ isW (hC S) p) ∧ (isW (hC S) q ∧ isW (hC S) r) from by unfold thr isW; grind [fB, hC])
                    have hno : ¬ ((p = -1 ∧ ¬ q = -1) ∨ (q = -1 ∧ ¬ r = -1)) := by grind
                    rw [show oSees (hC S) b x y p q r = seeV (gA S 5) b (hSrc (hC S) x.toNatClampNeg) (hSeat (hC S) y.toNatClampNeg) (wl p q r) by unfold oSees; rw [if_pos hcn, if_neg hno, if_neg (by grind)]; rfl]
                    obtain ⟨w1, w2, w3, w4, w5⟩ := wl_ok H.2.1.1 hb16 hcn.1.2 hcn.2.1 hcn.2.2 hno
                    generalize wl p q r = l at *
                    subst w3 w4 w5
                    obtain ⟨si, hsi, rfl⟩ := n_in (x := x) (n := c) (by omega) hcn.1.1.1.1 (by rw [← show (hC S).2.2.1.1 = nI c from H.2.2.1.1]; exact hcn.1.1.1.2)
                    obtain ⟨ei, hei, rfl⟩ := n_in (x := y) (n := e) (by omega) hcn.1.1.2.1 (by rw [← show (hC S).2.2.2.1.1 = nI e from H.2.2.2.1.1]; exact hcn.1.1.2.2)
                    rw [nI_clamp (by omega), nI_clamp (by omega)]
                    exact tlX7_sees H HG hsi hei w1 w2
                  · refine fV.run iX7_sees_85_2 oX7_sees_85_2 (pc' := 88) (L' := [(0, .ref 0), (1, .int x), (2, .int y), (3, .int p), (4, .int q), (5, .int r)]) (st' := [.int (-1), .int r]) (S' := S) rfl trivial ?_
                    refine fV.icmp_eq bX7_sees_88 (fun c88 => ?_) (fun c88 => ?_)
                    · have hcn := (show (thr (hC S) x y ∧ isW (hC S) p) ∧ (isW (hC S) q ∧ isW (hC S) r) from by unfold thr isW; grind [fB, hC])
                      have hno : ¬ ((p = -1 ∧ ¬ q = -1) ∨ (q = -1 ∧ ¬ r = -1)) := by grind
                      rw [show oSees (hC S) b x y p q r = seeV (gA S 5) b (hSrc (hC S) x.toNatClampNeg) (hSeat (hC S) y.toNatClampNeg) (wl p q r) by unfold oSees; rw [if_pos hcn, if_neg hno, if_neg (by grind)]; rfl]
                      obtain ⟨w1, w2, w3, w4, w5⟩ := wl_ok H.2.1.1 hb16 hcn.1.2 hcn.2.1 hcn.2.2 hno
                      generalize wl p q r = l at *
                      subst w3 w4 w5
                      obtain ⟨si, hsi, rfl⟩ := n_in (x := x) (n := c) (by omega) hcn.1.1.1.1 (by rw [← show (hC S).2.2.1.1 = nI c from H.2.2.1.1]; exact hcn.1.1.1.2)
                      obtain ⟨ei, hei, rfl⟩ := n_in (x := y) (n := e) (by omega) hcn.1.1.2.1 (by rw [← show (hC S).2.2.2.1.1 = nI e from H.2.2.2.1.1]; exact hcn.1.1.2.2)
                      rw [nI_clamp (by omega), nI_clamp (by omega)]
                      exact tlX7_sees H HG hsi hei w1 w2
                    · refine fV.run iX7_sees_91_1 oX7_sees_91_1 (pc' := 92) (L' := [(0, .ref 0), (1, .int x), (2, .int y), (3, .int p), (4, .int q), (5, .int r)]) (st' := [.int (-1)]) (S' := S) rfl trivial ?_
                      exact fV.iret rfl dX7_sees_92 ⟨by unfold oSees; rw [if_pos (show (thr (hC S) x y ∧ isW (hC S) p) ∧ (isW (hC S) q ∧ isW (hC S) r) from by unfold thr isW; grind [fB, hC]), if_neg (by grind), if_pos (by grind)], kp.rf⟩
            · refine fV.run iX7_sees_56_2 oX7_sees_56_2 (pc' := 59) (L' := [(0, .ref 0), (1, .int x), (2, .int y), (3, .int p), (4, .int q), (5, .int r)]) (st' := [.int (-1), .int r]) (S' := S) rfl trivial ?_
              refine fV.icmp_eq bX7_sees_59 (fun c59 => ?_) (fun c59 => ?_)
              · refine fV.run iX7_sees_66_2 oX7_sees_66_2 (pc' := 69) (L' := [(0, .ref 0), (1, .int x), (2, .int y), (3, .int p), (4, .int q), (5, .int r)]) (st' := [.int q, .int p]) (S' := S) rfl trivial ?_
                refine fV.icmp_ne bX7_sees_69 (fun c69 => ?_) (fun c69 => ?_)
                · refine fV.run iX7_sees_78_2 oX7_sees_78_2 (pc' := 82) (L' := [(0, .ref 0), (1, .int x), (2, .int y), (3, .int p), (4, .int q), (5, .int r)]) (st' := [.int r, .int q]) (S' := S) rfl trivial ?_
                  refine fV.icmp_ne bX7_sees_82 (fun c82 => ?_) (fun c82 => ?_)
                  · have hcn := (show (thr (hC S) x y ∧ isW (hC S) p) ∧ (isW (hC S) q ∧ isW (hC S) r) from by unfold thr isW; grind [fB, hC])
                    have hno : ¬ ((p = -1 ∧ ¬ q = -1) ∨ (q = -1 ∧ ¬ r = -1)) := by grind
                    rw [show oSees (hC S) b x y p q r = seeV (gA S 5) b (hSrc (hC S) x.toNatClampNeg) (hSeat (hC S) y.toNatClampNeg) (wl p q r) by unfold oSees; rw [if_pos hcn, if_neg hno, if_neg (by grind)]; rfl]
                    obtain ⟨w1, w2, w3, w4, w5⟩ := wl_ok H.2.1.1 hb16 hcn.1.2 hcn.2.1 hcn.2.2 hno
                    generalize wl p q r = l at *
                    subst w3 w4 w5
                    obtain ⟨si, hsi, rfl⟩ := n_in (x := x) (n := c) (by omega) hcn.1.1.1.1 (by rw [← show (hC S).2.2.1.1 = nI c from H.2.2.1.1]; exact hcn.1.1.1.2)
                    obtain ⟨ei, hei, rfl⟩ := n_in (x := y) (n := e) (by omega) hcn.1.1.2.1 (by rw [← show (hC S).2.2.2.1.1 = nI e from H.2.2.2.1.1]; exact hcn.1.1.2.2)
                    rw [nI_clamp (by omega), nI_clamp (by omega)]
                    exact tlX7_sees H HG hsi hei w1 w2
                  · refine fV.run iX7_sees_85_2 oX7_sees_85_2 (pc' := 88) (L' := [(0, .ref 0), (1, .int x), (2, .int y), (3, .int p), (4, .int q), (5, .int r)]) (st' := [.int (-1), .int r]) (S' := S) rfl trivial ?_
                    refine fV.icmp_eq bX7_sees_88 (fun c88 => ?_) (fun c88 => ?_)
                    · have hcn := (show (thr (hC S) x y ∧ isW (hC S) p) ∧ (isW (hC S) q ∧ isW (hC S) r) from by unfold thr isW; grind [fB, hC])
                      have hno : ¬ ((p = -1 ∧ ¬ q = -1) ∨ (q = -1 ∧ ¬ r = -1)) := by grind
                      rw [show oSees (hC S) b x y p q r = seeV (gA S 5) b (hSrc (hC S) x.toNatClampNeg) (hSeat (hC S) y.toNatClampNeg) (wl p q r) by unfold oSees; rw [if_pos hcn, if_neg hno, if_neg (by grind)]; rfl]
                      obtain ⟨w1, w2, w3, w4, w5⟩ := wl_ok H.2.1.1 hb16 hcn.1.2 hcn.2.1 hcn.2.2 hno
                      generalize wl p q r = l at *
                      subst w3 w4 w5
                      obtain ⟨si, hsi, rfl⟩ := n_in (x := x) (n := c) (by omega) hcn.1.1.1.1 (by rw [← show (hC S).2.2.1.1 = nI c from H.2.2.1.1]; exact hcn.1.1.1.2)
                      obtain ⟨ei, hei, rfl⟩ := n_in (x := y) (n := e) (by omega) hcn.1.1.2.1 (by rw [← show (hC S).2.2.2.1.1 = nI e from H.2.2.2.1.1]; exact hcn.1.1.2.2)
                      rw [nI_clamp (by omega), nI_clamp (by omega)]
                      exact tlX7_sees H HG hsi hei w1 w2
                    · refine fV.run iX7_sees_91_1 oX7_sees_91_1 (pc' := 92) (L' := [(0, .ref 0), (1, .int x), (2, .int y), (3, .int p), (4, .int q), (5, .int r)]) (st' := [.int (-1)]) (S' := S) rfl trivial ?_
                      exact fV.iret rfl dX7_sees_92 ⟨by unfold oSees; rw [if_pos (show (thr (hC S) x y ∧ isW (hC S) p) ∧ (isW (hC S) q ∧ isW (hC S) r) from by unfold thr isW; grind [fB, hC]), if_neg (by grind), if_pos (by grind)], kp.rf⟩
                · refine fV.run iX7_sees_72_2 oX7_sees_72_2 (pc' := 75) (L' := [(0, .ref 0), (1, .int x), (2, .int y), (3, .int p), (4, .int q), (5, .int r)]) (st' := [.int (-1), .int q]) (S' := S) rfl trivial ?_
                  refine fV.icmp_ne bX7_sees_75 (fun c75 => ?_) (fun c75 => ?_)
                  · refine fV.run iX7_sees_91_1 oX7_sees_91_1 (pc' := 92) (L' := [(0, .ref 0), (1, .int x), (2, .int y), (3, .int p), (4, .int q), (5, .int r)]) (st' := [.int (-1)]) (S' := S) rfl trivial ?_
                    exact fV.iret rfl dX7_sees_92 ⟨by unfold oSees; rw [if_pos (show (thr (hC S) x y ∧ isW (hC S) p) ∧ (isW (hC S) q ∧ isW (hC S) r) from by unfold thr isW; grind [fB, hC]), if_neg (by grind), if_pos (by grind)], kp.rf⟩
                  · refine fV.run iX7_sees_78_2 oX7_sees_78_2 (pc' := 82) (L' := [(0, .ref 0), (1, .int x), (2, .int y), (3, .int p), (4, .int q), (5, .int r)]) (st' := [.int r, .int q]) (S' := S) rfl trivial ?_
                    refine fV.icmp_ne bX7_sees_82 (fun c82 => ?_) (fun c82 => ?_)
                    · have hcn := (show (thr (hC S) x y ∧ isW (hC S) p) ∧ (isW (hC S) q ∧ isW (hC S) r) from by unfold thr isW; grind [fB, hC])
                      have hno : ¬ ((p = -1 ∧ ¬ q = -1) ∨ (q = -1 ∧ ¬ r = -1)) := by grind
                      rw [show oSees (hC S) b x y p q r = seeV (gA S 5) b (hSrc (hC S) x.toNatClampNeg) (hSeat (hC S) y.toNatClampNeg) (wl p q r) by unfold oSees; rw [if_pos hcn, if_neg hno, if_neg (by grind)]; rfl]
                      obtain ⟨w1, w2, w3, w4, w5⟩ := wl_ok H.2.1.1 hb16 hcn.1.2 hcn.2.1 hcn.2.2 hno
                      generalize wl p q r = l at *
                      subst w3 w4 w5
                      obtain ⟨si, hsi, rfl⟩ := n_in (x := x) (n := c) (by omega) hcn.1.1.1.1 (by rw [← show (hC S).2.2.1.1 = nI c from H.2.2.1.1]; exact hcn.1.1.1.2)
                      obtain ⟨ei, hei, rfl⟩ := n_in (x := y) (n := e) (by omega) hcn.1.1.2.1 (by rw [← show (hC S).2.2.2.1.1 = nI e from H.2.2.2.1.1]; exact hcn.1.1.2.2)
                      rw [nI_clamp (by omega), nI_clamp (by omega)]
                      exact tlX7_sees H HG hsi hei w1 w2
                    · refine fV.run iX7_sees_85_2 oX7_sees_85_2 (pc' := 88) (L' := [(0, .ref 0), (1, .int x), (2, .int y), (3, .int p), (4, .int q), (5, .int r)]) (st' := [.int (-1), .int r]) (S' := S) rfl trivial ?_
                      refine fV.icmp_eq bX7_sees_88 (fun c88 => ?_) (fun c88 => ?_)
                      · have hcn := (show (thr (hC S) x y ∧ isW (hC S) p) ∧ (isW (hC S) q ∧ isW (hC S) r) from by unfold thr isW; grind [fB, hC])
                        have hno : ¬ ((p = -1 ∧ ¬ q = -1) ∨ (q = -1 ∧ ¬ r = -1)) := by grind
                        rw [show oSees (hC S) b x y p q r = seeV (gA S 5) b (hSrc (hC S) x.toNatClampNeg) (hSeat (hC S) y.toNatClampNeg) (wl p q r) by unfold oSees; rw [if_pos hcn, if_neg hno, if_neg (by grind)]; rfl]
                        obtain ⟨w1, w2, w3, w4, w5⟩ := wl_ok H.2.1.1 hb16 hcn.1.2 hcn.2.1 hcn.2.2 hno
                        generalize wl p q r = l at *
                        subst w3 w4 w5
                        obtain ⟨si, hsi, rfl⟩ := n_in (x := x) (n := c) (by omega) hcn.1.1.1.1 (by rw [← show (hC S).2.2.1.1 = nI c from H.2.2.1.1]; exact hcn.1.1.1.2)
                        obtain ⟨ei, hei, rfl⟩ := n_in (x := y) (n := e) (by omega) hcn.1.1.2.1 (by rw [← show (hC S).2.2.2.1.1 = nI e from H.2.2.2.1.1]; exact hcn.1.1.2.2)
                        rw [nI_clamp (by omega), nI_clamp (by omega)]
                        exact tlX7_sees H HG hsi hei w1 w2
                      · refine fV.run iX7_sees_91_1 oX7_sees_91_1 (pc' := 92) (L' := [(0, .ref 0), (1, .int x), (2, .int y), (3, .int p), (4, .int q), (5, .int r)]) (st' := [.int (-1)]) (S' := S) rfl trivial ?_
                        exact fV.iret rfl dX7_sees_92 ⟨by unfold oSees; rw [if_pos (show (thr (hC S) x y ∧ isW (hC S) p) ∧ (isW (hC S) q ∧ isW (hC S) r) from by unfold thr isW; grind [fB, hC]), if_neg (by grind), if_pos (by grind)], kp.rf⟩
              · refine fV.run iX7_sees_62_1 oX7_sees_62_1 (pc' := 65) (L' := [(0, .ref 0), (1, .int x), (2, .int y), (3, .int p), (4, .int q), (5, .int r)]) (st' := [.int (-1002)]) (S' := S) rfl trivial ?_
                exact fV.iret rfl dX7_sees_65 ⟨by unfold oSees; rw [if_pos (show (thr (hC S) x y ∧ isW (hC S) p) ∧ (isW (hC S) q ∧ isW (hC S) r) from by unfold thr isW; grind [fB, hC]), if_pos (by grind)], kp.rf⟩
          · refine fV.run iX7_sees_44_2 oX7_sees_44_2 (pc' := 47) (L' := [(0, .ref 0), (1, .int x), (2, .int y), (3, .int p), (4, .int q), (5, .int r)]) (st' := [.int (-1), .int q]) (S' := S) rfl trivial ?_
            refine fV.icmp_ne bX7_sees_47 (fun c47 => ?_) (fun c47 => ?_)
            · refine fV.run iX7_sees_62_1 oX7_sees_62_1 (pc' := 65) (L' := [(0, .ref 0), (1, .int x), (2, .int y), (3, .int p), (4, .int q), (5, .int r)]) (st' := [.int (-1002)]) (S' := S) rfl trivial ?_
              exact fV.iret rfl dX7_sees_65 ⟨by unfold oSees; rw [if_pos (show (thr (hC S) x y ∧ isW (hC S) p) ∧ (isW (hC S) q ∧ isW (hC S) r) from by unfold thr isW; grind [fB, hC]), if_pos (by grind)], kp.rf⟩
            · refine fV.run iX7_sees_50_2 oX7_sees_50_2 (pc' := 53) (L' := [(0, .ref 0), (1, .int x), (2, .int y), (3, .int p), (4, .int q), (5, .int r)]) (st' := [.int (-1), .int q]) (S' := S) rfl trivial ?_
              refine fV.icmp_ne bX7_sees_53 (fun c53 => ?_) (fun c53 => ?_)
              · refine fV.run iX7_sees_66_2 oX7_sees_66_2 (pc' := 69) (L' := [(0, .ref 0), (1, .int x), (2, .int y), (3, .int p), (4, .int q), (5, .int r)]) (st' := [.int q, .int p]) (S' := S) rfl trivial ?_
                refine fV.icmp_ne bX7_sees_69 (fun c69 => ?_) (fun c69 => ?_)
                · refine fV.run iX7_sees_78_2 oX7_sees_78_2 (pc' := 82) (L' := [(0, .ref 0), (1, .int x), (2, .int y), (3, .int p), (4, .int q), (5, .int r)]) (st' := [.int r, .int q]) (S' := S) rfl trivial ?_
                  refine fV.icmp_ne bX7_sees_82 (fun c82 => ?_) (fun c82 => ?_)
                  · have hcn := (show (thr (hC S) x y ∧ isW (hC S) p) ∧ (isW (hC S) q ∧ isW (hC S) r) from by unfold thr isW; grind [fB, hC])
                    have hno : ¬ ((p = -1 ∧ ¬ q = -1) ∨ (q = -1 ∧ ¬ r = -1)) := by grind
                    rw [show oSees (hC S) b x y p q r = seeV (gA S 5) b (hSrc (hC S) x.toNatClampNeg) (hSeat (hC S) y.toNatClampNeg) (wl p q r) by unfold oSees; rw [if_pos hcn, if_neg hno, if_neg (by grind)]; rfl]
                    obtain ⟨w1, w2, w3, w4, w5⟩ := wl_ok H.2.1.1 hb16 hcn.1.2 hcn.2.1 hcn.2.2 hno
                    generalize wl p q r = l at *
                    subst w3 w4 w5
                    obtain ⟨si, hsi, rfl⟩ := n_in (x := x) (n := c) (by omega) hcn.1.1.1.1 (by rw [← show (hC S).2.2.1.1 = nI c from H.2.2.1.1]; exact hcn.1.1.1.2)
                    obtain ⟨ei, hei, rfl⟩ := n_in (x := y) (n := e) (by omega) hcn.1.1.2.1 (by rw [← show (hC S).2.2.2.1.1 = nI e from H.2.2.2.1.1]; exact hcn.1.1.2.2)
                    rw [nI_clamp (by omega), nI_clamp (by omega)]
                    exact tlX7_sees H HG hsi hei w1 w2
                  · refine fV.run iX7_sees_85_2 oX7_sees_85_2 (pc' := 88) (L' := [(0, .ref 0), (1, .int x), (2, .int y), (3, .int p), (4, .int q), (5, .int r)]) (st' := [.int (-1), .int r]) (S' := S) rfl trivial ?_
                    refine fV.icmp_eq bX7_sees_88 (fun c88 => ?_) (fun c88 => ?_)
                    · have hcn := (show (thr (hC S) x y ∧ isW (hC S) p) ∧ (isW (hC S) q ∧ isW (hC S) r) from by unfold thr isW; grind [fB, hC])
                      have hno : ¬ ((p = -1 ∧ ¬ q = -1) ∨ (q = -1 ∧ ¬ r = -1)) := by grind
                      rw [show oSees (hC S) b x y p q r = seeV (gA S 5) b (hSrc (hC S) x.toNatClampNeg) (hSeat (hC S) y.toNatClampNeg) (wl p q r) by unfold oSees; rw [if_pos hcn, if_neg hno, if_neg (by grind)]; rfl]
                      obtain ⟨w1, w2, w3, w4, w5⟩ := wl_ok H.2.1.1 hb16 hcn.1.2 hcn.2.1 hcn.2.2 hno
                      generalize wl p q r = l at *
                      subst w3 w4 w5
                      obtain ⟨si, hsi, rfl⟩ := n_in (x := x) (n := c) (by omega) hcn.1.1.1.1 (by rw [← show (hC S).2.2.1.1 = nI c from H.2.2.1.1]; exact hcn.1.1.1.2)
                      obtain ⟨ei, hei, rfl⟩ := n_in (x := y) (n := e) (by omega) hcn.1.1.2.1 (by rw [← show (hC S).2.2.2.1.1 = nI e from H.2.2.2.1.1]; exact hcn.1.1.2.2)
                      rw [nI_clamp (by omega), nI_clamp (by omega)]
                      exact tlX7_sees H HG hsi hei w1 w2
                    · refine fV.run iX7_sees_91_1 oX7_sees_91_1 (pc' := 92) (L' := [(0, .ref 0), (1, .int x), (2, .int y), (3, .int p), (4, .int q), (5, .int r)]) (st' := [.int (-1)]) (S' := S) rfl trivial ?_
                      exact fV.iret rfl dX7_sees_92 ⟨by unfold oSees; rw [if_pos (show (thr (hC S) x y ∧ isW (hC S) p) ∧ (isW (hC S) q ∧ isW (hC S) r) from by unfold thr isW; grind [fB, hC]), if_neg (by grind), if_pos (by grind)], kp.rf⟩
                · refine fV.run iX7_sees_72_2 oX7_sees_72_2 (pc' := 75) (L' := [(0, .ref 0), (1, .int x), (2, .int y), (3, .int p), (4, .int q), (5, .int r)]) (st' := [.int (-1), .int q]) (S' := S) rfl trivial ?_
                  refine fV.icmp_ne bX7_sees_75 (fun c75 => ?_) (fun c75 => ?_)
                  · refine fV.run iX7_sees_91_1 oX7_sees_91_1 (pc' := 92) (L' := [(0, .ref 0), (1, .int x), (2, .int y), (3, .int p), (4, .int q), (5, .int r)]) (st' := [.int (-1)]) (S' := S) rfl trivial ?_
                    exact fV.iret rfl dX7_sees_92 ⟨by unfold oSees; rw [if_pos (show (thr (hC S) x y ∧ isW (hC S) p) ∧ (isW (hC S) q ∧ isW (hC S) r) from by unfold thr isW; grind [fB, hC]), if_neg (by grind), if_pos (by grind)], kp.rf⟩
                  · refine fV.run iX7_sees_78_2 oX7_sees_78_2 (pc' := 82) (L' := [(0, .ref 0), (1, .int x), (2, .int y), (3, .int p), (4, .int q), (5, .int r)]) (st' := [.int r, .int q]) (S' := S) rfl trivial ?_
                    refine fV.icmp_ne bX7_sees_82 (fun c82 => ?_) (fun c82 => ?_)
                    · have hcn := (show (thr (hC S) x y ∧ isW (hC S) p) ∧ (isW (hC S) q ∧ isW (hC S) r) from by unfold thr isW; grind [fB, hC])
                      have hno : ¬ ((p = -1 ∧ ¬ q = -1) ∨ (q = -1 ∧ ¬ r = -1)) := by grind
                      rw [show oSees (hC S) b x y p q r = seeV (gA S 5) b (hSrc (hC S) x.toNatClampNeg) (hSeat (hC S) y.toNatClampNeg) (wl p q r) by unfold oSees; rw [if_pos hcn, if_neg hno, if_neg (by grind)]; rfl]
                      obtain ⟨w1, w2, w3, w4, w5⟩ := wl_ok H.2.1.1 hb16 hcn.1.2 hcn.2.1 hcn.2.2 hno
                      generalize wl p q r = l at *
                      subst w3 w4 w5
                      obtain ⟨si, hsi, rfl⟩ := n_in (x := x) (n := c) (by omega) hcn.1.1.1.1 (by rw [← show (hC S).2.2.1.1 = nI c from H.2.2.1.1]; exact hcn.1.1.1.2)
                      obtain ⟨ei, hei, rfl⟩ := n_in (x := y) (n := e) (by omega) hcn.1.1.2.1 (by rw [← show (hC S).2.2.2.1.1 = nI e from H.2.2.2.1.1]; exact hcn.1.1.2.2)
                      rw [nI_clamp (by omega), nI_clamp (by omega)]
                      exact tlX7_sees H HG hsi hei w1 w2
                    · refine fV.run iX7_sees_85_2 oX7_sees_85_2 (pc' := 88) (L' := [(0, .ref 0), (1, .int x), (2, .int y), (3, .int p), (4, .int q), (5, .int r)]) (st' := [.int (-1), .int r]) (S' := S) rfl trivial ?_
                      refine fV.icmp_eq bX7_sees_88 (fun c88 => ?_) (fun c88 => ?_)
                      · have hcn := (show (thr (hC S) x y ∧ isW (hC S) p) ∧ (isW (hC S) q ∧ isW (hC S) r) from by unfold thr isW; grind [fB, hC])
                        have hno : ¬ ((p = -1 ∧ ¬ q = -1) ∨ (q = -1 ∧ ¬ r = -1)) := by grind
                        rw [show oSees (hC S) b x y p q r = seeV (gA S 5) b (hSrc (hC S) x.toNatClampNeg) (hSeat (hC S) y.toNatClampNeg) (wl p q r) by unfold oSees; rw [if_pos hcn, if_neg hno, if_neg (by grind)]; rfl]
                        obtain ⟨w1, w2, w3, w4, w5⟩ := wl_ok H.2.1.1 hb16 hcn.1.2 hcn.2.1 hcn.2.2 hno
                        generalize wl p q r = l at *
                        subst w3 w4 w5
                        obtain ⟨si, hsi, rfl⟩ := n_in (x := x) (n := c) (by omega) hcn.1.1.1.1 (by rw [← show (hC S).2.2.1.1 = nI c from H.2.2.1.1]; exact hcn.1.1.1.2)
                        obtain ⟨ei, hei, rfl⟩ := n_in (x := y) (n := e) (by omega) hcn.1.1.2.1 (by rw [← show (hC S).2.2.2.1.1 = nI e from H.2.2.2.1.1]; exact hcn.1.1.2.2)
                        rw [nI_clamp (by omega), nI_clamp (by omega)]
                        exact tlX7_sees H HG hsi hei w1 w2
                      · refine fV.run iX7_sees_91_1 oX7_sees_91_1 (pc' := 92) (L' := [(0, .ref 0), (1, .int x), (2, .int y), (3, .int p), (4, .int q), (5, .int r)]) (st' := [.int (-1)]) (S' := S) rfl trivial ?_
                        exact fV.iret rfl dX7_sees_92 ⟨by unfold oSees; rw [if_pos (show (thr (hC S) x y ∧ isW (hC S) p) ∧ (isW (hC S) q ∧ isW (hC S) r) from by unfold thr isW; grind [fB, hC]), if_neg (by grind), if_pos (by grind)], kp.rf⟩
              · refine fV.run iX7_sees_56_2 oX7_sees_56_2 (pc' := 59) (L' := [(0, .ref 0), (1, .int x), (2, .int y), (3, .int p), (4, .int q), (5, .int r)]) (st' := [.int (-1), .int r]) (S' := S) rfl trivial ?_
                refine fV.icmp_eq bX7_sees_59 (fun c59 => ?_) (fun c59 => ?_)
                · refine fV.run iX7_sees_66_2 oX7_sees_66_2 (pc' := 69) (L' := [(0, .ref 0), (1, .int x), (2, .int y), (3, .int p), (4, .int q), (5, .int r)]) (st' := [.int q, .int p]) (S' := S) rfl trivial ?_
                  refine fV.icmp_ne bX7_sees_69 (fun c69 => ?_) (fun c69 => ?_)
                  · refine fV.run iX7_sees_78_2 oX7_sees_78_2 (pc' := 82) (L' := [(0, .ref 0), (1, .int x), (2, .int y), (3, .int p), (4, .int q), (5, .int r)]) (st' := [.int r, .int q]) (S' := S) rfl trivial ?_
                    refine fV.icmp_ne bX7_sees_82 (fun c82 => ?_) (fun c82 => ?_)
                    · have hcn := (show (thr (hC S) x y ∧ isW (hC S) p) ∧ (isW (hC S) q ∧ isW (hC S) r) from by unfold thr isW; grind [fB, hC])
                      have hno : ¬ ((p = -1 ∧ ¬ q = -1) ∨ (q = -1 ∧ ¬ r = -1)) := by grind
                      rw [show oSees (hC S) b x y p q r = seeV (gA S 5) b (hSrc (hC S) x.toNatClampNeg) (hSeat (hC S) y.toNatClampNeg) (wl p q r) by unfold oSees; rw [if_pos hcn, if_neg hno, if_neg (by grind)]; rfl]
                      obtain ⟨w1, w2, w3, w4, w5⟩ := wl_ok H.2.1.1 hb16 hcn.1.2 hcn.2.1 hcn.2.2 hno
                      generalize wl p q r = l at *
                      subst w3 w4 w5
                      obtain ⟨si, hsi, rfl⟩ := n_in (x := x) (n := c) (by omega) hcn.1.1.1.1 (by rw [← show (hC S).2.2.1.1 = nI c from H.2.2.1.1]; exact hcn.1.1.1.2)
                      obtain ⟨ei, hei, rfl⟩ := n_in (x := y) (n := e) (by omega) hcn.1.1.2.1 (by rw [← show (hC S).2.2.2.1.1 = nI e from H.2.2.2.1.1]; exact hcn.1.1.2.2)
                      rw [nI_clamp (by omega), nI_clamp (by omega)]
                      exact tlX7_sees H HG hsi hei w1 w2
                    · refine fV.run iX7_sees_85_2 oX7_sees_85_2 (pc' := 88) (L' := [(0, .ref 0), (1, .int x), (2, .int y), (3, .int p), (4, .int q), (5, .int r)]) (st' := [.int (-1), .int r]) (S' := S) rfl trivial ?_
                      refine fV.icmp_eq bX7_sees_88 (fun c88 => ?_) (fun c88 => ?_)
                      · have hcn := (show (thr (hC S) x y ∧ isW (hC S) p) ∧ (isW (hC S) q ∧ isW (hC S) r) from by unfold thr isW; grind [fB, hC])
                        have hno : ¬ ((p = -1 ∧ ¬ q = -1) ∨ (q = -1 ∧ ¬ r = -1)) := by grind
                        rw [show oSees (hC S) b x y p q r = seeV (gA S 5) b (hSrc (hC S) x.toNatClampNeg) (hSeat (hC S) y.toNatClampNeg) (wl p q r) by unfold oSees; rw [if_pos hcn, if_neg hno, if_neg (by grind)]; rfl]
                        obtain ⟨w1, w2, w3, w4, w5⟩ := wl_ok H.2.1.1 hb16 hcn.1.2 hcn.2.1 hcn.2.2 hno
                        generalize wl p q r = l at *
                        subst w3 w4 w5
                        obtain ⟨si, hsi, rfl⟩ := n_in (x := x) (n := c) (by omega) hcn.1.1.1.1 (by rw [← show (hC S).2.2.1.1 = nI c from H.2.2.1.1]; exact hcn.1.1.1.2)
                        obtain ⟨ei, hei, rfl⟩ := n_in (x := y) (n := e) (by omega) hcn.1.1.2.1 (by rw [← show (hC S).2.2.2.1.1 = nI e from H.2.2.2.1.1]; exact hcn.1.1.2.2)
                        rw [nI_clamp (by omega), nI_clamp (by omega)]
                        exact tlX7_sees H HG hsi hei w1 w2
                      · refine fV.run iX7_sees_91_1 oX7_sees_91_1 (pc' := 92) (L' := [(0, .ref 0), (1, .int x), (2, .int y), (3, .int p), (4, .int q), (5, .int r)]) (st' := [.int (-1)]) (S' := S) rfl trivial ?_
                        exact fV.iret rfl dX7_sees_92 ⟨by unfold oSees; rw [if_pos (show (thr (hC S) x y ∧ isW (hC S) p) ∧ (isW (hC S) q ∧ isW (hC S) r) from by unfold thr isW; grind [fB, hC]), if_neg (by grind), if_pos (by grind)], kp.rf⟩
                  · refine fV.run iX7_sees_72_2 oX7_sees_72_2 (pc' := 75) (L' := [(0, .ref 0), (1, .int x), (2, .int y), (3, .int p), (4, .int q), (5, .int r)]) (st' := [.int (-1), .int q]) (S' := S) rfl trivial ?_
                    refine fV.icmp_ne bX7_sees_75 (fun c75 => ?_) (fun c75 => ?_)
                    · refine fV.run iX7_sees_91_1 oX7_sees_91_1 (pc' := 92) (L' := [(0, .ref 0), (1, .int x), (2, .int y), (3, .int p), (4, .int q), (5, .int r)]) (st' := [.int (-1)]) (S' := S) rfl trivial ?_
                      exact fV.iret rfl dX7_sees_92 ⟨by unfold oSees; rw [if_pos (show (thr (hC S) x y ∧ isW (hC S) p) ∧ (isW (hC S) q ∧ isW (hC S) r) from by unfold thr isW; grind [fB, hC]), if_neg (by grind), if_pos (by grind)], kp.rf⟩
                    · refine fV.run iX7_sees_78_2 oX7_sees_78_2 (pc' := 82) (L' := [(0, .ref 0), (1, .int x), (2, .int y), (3, .int p), (4, .int q), (5, .int r)]) (st' := [.int r, .int q]) (S' := S) rfl trivial ?_
                      refine fV.icmp_ne bX7_sees_82 (fun c82 => ?_) (fun c82 => ?_)
                      · have hcn := (show (thr (hC S) x y ∧ isW (hC S) p) ∧ (isW (hC S) q ∧ isW (hC S) r) from by unfold thr isW; grind [fB, hC])
                        have hno : ¬ ((p = -1 ∧ ¬ q = -1) ∨ (q = -1 ∧ ¬ r = -1)) := by grind
                        rw [show oSees (hC S) b x y p q r = seeV (gA S 5) b (hSrc (hC S) x.toNatClampNeg) (hSeat (hC S) y.toNatClampNeg) (wl p q r) by unfold oSees; rw [if_pos hcn, if_neg hno, if_neg (by grind)]; rfl]
                        obtain ⟨w1, w2, w3, w4, w5⟩ := wl_ok H.2.1.1 hb16 hcn.1.2 hcn.2.1 hcn.2.2 hno
                        generalize wl p q r = l at *
                        subst w3 w4 w5
                        obtain ⟨si, hsi, rfl⟩ := n_in (x := x) (n := c) (by omega) hcn.1.1.1.1 (by rw [← show (hC S).2.2.1.1 = nI c from H.2.2.1.1]; exact hcn.1.1.1.2)
                        obtain ⟨ei, hei, rfl⟩ := n_in (x := y) (n := e) (by omega) hcn.1.1.2.1 (by rw [← show (hC S).2.2.2.1.1 = nI e from H.2.2.2.1.1]; exact hcn.1.1.2.2)
                        rw [nI_clamp (by omega), nI_clamp (by omega)]
                        exact tlX7_sees H HG hsi hei w1 w2
                      · refine fV.run iX7_sees_85_2 oX7_sees_85_2 (pc' := 88) (L' := [(0, .ref 0), (1, .int x), (2, .int y), (3, .int p), (4, .int q), (5, .int r)]) (st' := [.int (-1), .int r]) (S' := S) rfl trivial ?_
                        refine fV.icmp_eq bX7_sees_88 (fun c88 => ?_) (fun c88 => ?_)
                        · have hcn := (show (thr (hC S) x y ∧ isW (hC S) p) ∧ (isW (hC S) q ∧ isW (hC S) r) from by unfold thr isW; grind [fB, hC])
                          have hno : ¬ ((p = -1 ∧ ¬ q = -1) ∨ (q = -1 ∧ ¬ r = -1)) := by grind
                          rw [show oSees (hC S) b x y p q r = seeV (gA S 5) b (hSrc (hC S) x.toNatClampNeg) (hSeat (hC S) y.toNatClampNeg) (wl p q r) by unfold oSees; rw [if_pos hcn, if_neg hno, if_neg (by grind)]; rfl]
                          obtain ⟨w1, w2, w3, w4, w5⟩ := wl_ok H.2.1.1 hb16 hcn.1.2 hcn.2.1 hcn.2.2 hno
                          generalize wl p q r = l at *
                          subst w3 w4 w5
                          obtain ⟨si, hsi, rfl⟩ := n_in (x := x) (n := c) (by omega) hcn.1.1.1.1 (by rw [← show (hC S).2.2.1.1 = nI c from H.2.2.1.1]; exact hcn.1.1.1.2)
                          obtain ⟨ei, hei, rfl⟩ := n_in (x := y) (n := e) (by omega) hcn.1.1.2.1 (by rw [← show (hC S).2.2.2.1.1 = nI e from H.2.2.2.1.1]; exact hcn.1.1.2.2)
                          rw [nI_clamp (by omega), nI_clamp (by omega)]
                          exact tlX7_sees H HG hsi hei w1 w2
                        · refine fV.run iX7_sees_91_1 oX7_sees_91_1 (pc' := 92) (L' := [(0, .ref 0), (1, .int x), (2, .int y), (3, .int p), (4, .int q), (5, .int r)]) (st' := [.int (-1)]) (S' := S) rfl trivial ?_
                          exact fV.iret rfl dX7_sees_92 ⟨by unfold oSees; rw [if_pos (show (thr (hC S) x y ∧ isW (hC S) p) ∧ (isW (hC S) q ∧ isW (hC S) r) from by unfold thr isW; grind [fB, hC]), if_neg (by grind), if_pos (by grind)], kp.rf⟩
                · refine fV.run iX7_sees_62_1 oX7_sees_62_1 (pc' := 65) (L' := [(0, .ref 0), (1, .int x), (2, .int y), (3, .int p), (4, .int q), (5, .int r)]) (st' := [.int (-1002)]) (S' := S) rfl trivial ?_
                  exact fV.iret rfl dX7_sees_65 ⟨by unfold oSees; rw [if_pos (show (thr (hC S) x y ∧ isW (hC S) p) ∧ (isW (hC S) q ∧ isW (hC S) r) from by unfold thr isW; grind [fB, hC]), if_pos (by grind)], kp.rf⟩
        · refine fV.run iX7_sees_35_1 oX7_sees_35_1 (pc' := 38) (L' := [(0, .ref 0), (1, .int x), (2, .int y), (3, .int p), (4, .int q), (5, .int r)]) (st' := [.int (-1001)]) (S' := S) rfl trivial ?_
          exact fV.iret rfl dX7_sees_38 ⟨by unfold oSees; rw [if_neg (show ¬ ((thr (hC S) x y ∧ isW (hC S) p) ∧ (isW (hC S) q ∧ isW (hC S) r)) from by unfold thr isW; grind [fB, hC])], kp.rf⟩

/-! the reference: the search -/
def iX8_tryRow_0_3 : List Instr := [.aload_n 0, .iload_n 1, .iload_n 2]
theorem oX8_tryRow_0_3 : fOkB cX8_tryRow 0 iX8_tryRow_0_3 = true := by decide +kernel
set_option maxRecDepth 100000 in
theorem lX8_174 : Cond.methodLink RX8 174 yX8_findBounces ∈ fTB := fTB_at 813 rfl rfl
theorem dX8_tryRow_3 : decode cX8_tryRow 3 = .ok (.invokevirtual 174, 3) := by decide +kernel
theorem bX8_tryRow_6 : fBk cX8_tryRow 6 (.ifCond .eq) 85 := ⟨79, by decide +kernel, by decide⟩
def iX8_tryRow_9_1 : List Instr := [.aload_n 0]
theorem oX8_tryRow_9_1 : fOkB cX8_tryRow 9 iX8_tryRow_9_1 = true := by decide +kernel
set_option maxRecDepth 100000 in
theorem lX8_177 : Cond.methodLink RX8 177 yX8_isSeen ∈ fTB := fTB_at 846 rfl rfl
theorem dX8_tryRow_10 : decode cX8_tryRow 10 = .ok (.invokevirtual 177, 3) := by decide +kernel
theorem bX8_tryRow_13 : fBk cX8_tryRow 13 (.ifCond .eq) 85 := ⟨72, by decide +kernel, by decide⟩
def iX8_tryRow_16_43 : List Instr := [.aload_n 0, .getfield 66, .aload_n 0, .getfield 181, .iload_n 3, .iastore, .aload_n 0, .getfield 69, .aload_n 0, .getfield 181, .aload_n 0, .getfield 159, .iastore, .aload_n 0, .getfield 72, .aload_n 0, .getfield 181, .aload_n 0, .getfield 48, .iconst 0, .laload, .aload_n 0, .getfield 48, .iconst 0, .laload, .lmul, .aload_n 0, .getfield 48, .iconst 1, .laload, .aload_n 0, .getfield 48, .iconst 1, .laload, .lmul, .ladd, .lastore, .aload_n 0, .dup, .getfield 181, .iconst 1, .iadd, .putfield 181]
theorem oX8_tryRow_16_43 : fOkB cX8_tryRow 16 iX8_tryRow_16_43 = true := by decide +kernel
theorem dX8_tryRow_85 : decode cX8_tryRow 85 = .ok (.return_, 1) := by decide +kernel
set_option maxRecDepth 100000 in
theorem qX8_try {G : fG} {d : Nat} {S : fS} {a b c e si ei n : Nat} {l : List Nat} {PL : List pTh} (H : hOk (hD S) a b c e) (hsi : si < c) (hei : ei < e) (R : rfRow S b (fnL l) l.length) (hl : l = dgs b l.length n) (hc : n < b ^ l.length) (F : fdR S b PL) (hcap : (PL ++ (qH (hD S) b si ei l).toList).length ≤ 3857)  : fCtr G (d + 6) mX8_tryRow [.ref 35, .int (nI si), .int (nI ei), .int (nI n)] S (fun z S' => z = none ∧ kO S S' l.length ∧ fdR S' b (PL ++ (qH (hD S) b si ei l).toList)) := by
  refine fCtr.of bXX8_tryRow (Nat.le_of_ble_eq_true rfl) rfl ?_
  refine fV.run iX8_tryRow_0_3 oX8_tryRow_0_3 (pc' := 3) (L' := [(0, .ref 35), (1, .int (nI si)), (2, .int (nI ei)), (3, .int (nI n))]) (st' := [.int (nI ei), .int (nI si), .ref 35]) (S' := S) rfl trivial ?_
  refine fV.callV (M2 := mX8_findBounces) (d := d + 5) (o := 35) (av := [.int (nI si), .int (nI ei)]) (rest := []) kX8_findBounces dX8_tryRow_3 lX8_174 rfl rfl rfl (Nat.le_of_ble_eq_true rfl) (fRoom (by decide)) ⟨Nat.le_refl _, Nat.le_refl _⟩ (qX8_bounces H R hsi hei) ?_
  rintro _ S9 ⟨hk9, h9⟩
  rcases h9 with ⟨hh, hna, rfl, LG, FR, wy⟩ | ⟨hn, rfl⟩
  · skip
    refine fV.to (pc' := 6) (L' := [(0, .ref 35), (1, .int (nI si)), (2, .int (nI ei)), (3, .int (nI n))]) (st' := [.int 1]) (S' := S9) rfl rfl rfl rfl ?_
    refine fV.if_eq bX8_tryRow_6 (fun c6 => ?_) (fun c6 => ?_)
    · exact absurd c6 (by decide)
    · refine fV.run iX8_tryRow_9_1 oX8_tryRow_9_1 (pc' := 10) (L' := [(0, .ref 35), (1, .int (nI si)), (2, .int (nI ei)), (3, .int (nI n))]) (st' := [.ref 35]) (S' := S9) rfl trivial ?_
      refine fV.callV (M2 := mX8_isSeen) (d := d + 5) (o := 35) (av := []) (rest := []) kX8_isSeen dX8_tryRow_10 lX8_177 rfl rfl rfl (Nat.le_of_ble_eq_true rfl) (fRoom (by decide)) ⟨Nat.le_refl _, Nat.le_refl _⟩ (qX8_seen (S := S9) (src := (gA S 40 si, gA S 41 si)) (seat := (gA S 43 ei, gA S 44 ei)) (by rw [hk9.1]; exact H) (hk9.row R) (by rw [hk9.en]; exact LG) (by rw [hk9.en]; exact FR)) ?_
      rintro _ S8 ⟨nn, dd, rfl, h8⟩
      rw [hk9.en] at h8
      rcases h8 with ⟨hse, rfl⟩ | ⟨hse, rfl⟩
      · skip
        refine fV.to (pc' := 13) (L' := [(0, .ref 35), (1, .int (nI si)), (2, .int (nI ei)), (3, .int (nI n))]) (st' := [.int 1]) (S' := (wJ (wJ S9 35 23 nn) 35 24 dd)) rfl rfl rfl rfl ?_
        refine fV.if_eq bX8_tryRow_13 (fun c13 => ?_) (fun c13 => ?_)
        · exact absurd c13 (by decide)
        · refine fV.run iX8_tryRow_16_43 oX8_tryRow_16_43 (pc' := 85) (L' := [(0, .ref 35), (1, .int (nI si)), (2, .int (nI ei)), (3, .int (nI n))]) (st' := []) (S' := (wI (wB (wA (wA (wJ (wJ S9 35 23 nn) 35 24 dd) 52 (upd (gA S9 52) (gI S9 35 25).toNatClampNeg (nI n))) 53 (upd (gA S9 53) (gI S9 35 25).toNatClampNeg (gI S9 35 22))) 54 (vp_updL (gB S9 54) (gI S9 35 25).toNatClampNeg (((gB S9 46 (0 : Int32).toNatClampNeg) * (gB S9 46 (0 : Int32).toNatClampNeg)) + ((gB S9 46 (1 : Int32).toNatClampNeg) * (gB S9 46 (1 : Int32).toNatClampNeg))))) 35 25 ((gI S9 35 25) + 1))) (P := vp_in (gI S9 35 25) 4000 ∧ vp_in (gI S9 35 25) 4000 ∧ vp_in 0 2 ∧ vp_in 0 2 ∧ vp_in 1 2 ∧ vp_in 1 2 ∧ vp_in (gI S9 35 25) 4000 ∧ True) rfl ⟨(by rw [hk9.2.2.2.1, F.1]; exact vp_in_nI (by have := F.2.1; omega) (by decide)), (by rw [hk9.2.2.2.1, F.1]; exact vp_in_nI (by have := F.2.1; omega) (by decide)), (by unfold vp_in; decide), (by unfold vp_in; decide), (by unfold vp_in; decide), (by unfold vp_in; decide), (by rw [hk9.2.2.2.1, F.1]; exact vp_in_nI (by have := F.2.1; omega) (by decide)), trivial⟩ ?_
          exact fV.vret rfl dX8_tryRow_85 ⟨rfl, ⟨hk9.1, hk9.2.1, hk9.2.2.1.trans R.1⟩, try_add F hk9 hl hc R.1 (show qH (hD S) b si ei l = _ from (qOf_y hh hna hse).trans (by rw [← sq_way H hsi hei R.2.1 (fun i hi => (R.2.2 i hi).2) wy]; rfl)) hcap rfl rfl rfl rfl⟩
      · skip
        refine fV.to (pc' := 13) (L' := [(0, .ref 35), (1, .int (nI si)), (2, .int (nI ei)), (3, .int (nI n))]) (st' := [.int 0]) (S' := (wJ (wJ S9 35 23 nn) 35 24 dd)) rfl rfl rfl rfl ?_
        refine fV.if_eq bX8_tryRow_13 (fun c13 => ?_) (fun c13 => ?_)
        · exact fV.vret rfl dX8_tryRow_85 ⟨rfl, ⟨hk9.1, hk9.2.1, hk9.2.2.1.trans R.1⟩, (by rw [show (qH (hD S) b si ei l).toList = [] by rw [show qH (hD S) b si ei l = none from qOf_n2 hse]; rfl, List.append_nil]; exact F.kd hk9.2.2.2.1 hk9.2.2.2.2.2.1 hk9.2.2.2.2.2.2.1 hk9.2.2.2.2.2.2.2)⟩
        · exact absurd c13 (by decide)
  · skip
    refine fV.to (pc' := 6) (L' := [(0, .ref 35), (1, .int (nI si)), (2, .int (nI ei)), (3, .int (nI n))]) (st' := [.int 0]) (S' := S9) rfl rfl rfl rfl ?_
    refine fV.if_eq bX8_tryRow_6 (fun c6 => ?_) (fun c6 => ?_)
    · exact fV.vret rfl dX8_tryRow_85 ⟨rfl, ⟨hk9.1, hk9.2.1, hk9.2.2.1.trans R.1⟩, (by rw [show (qH (hD S) b si ei l).toList = [] by rw [show qH (hD S) b si ei l = none from qOf_n1 hn]; rfl, List.append_nil]; exact F.kd hk9.2.2.2.1 hk9.2.2.2.2.2.1 hk9.2.2.2.2.2.2.1 hk9.2.2.2.2.2.2.2)⟩
    · exact absurd c6 (by decide)
theorem i32_m1 (x : Int32) : x + -1 = x - 1 := by grind
theorem dd_s {n b k j : Nat} (hj : j + 1 ≤ k) : n / b ^ (k - (j + 1)) / b = n / b ^ (k - j) := by
  rw [Nat.div_div_eq_div_mul, ← Nat.pow_succ, show (k - (j + 1)).succ = k - j by omega]
theorem dg_row {f : Nat → Int32} {x : Int32} {n b k j : Nat} (hj : j + 1 ≤ k) (hx : x = nI b) (hb : 0 < b) (hb16 : b ≤ 16) (hk : n < 2 ^ 31) (hj31 : j < 2 ^ 31) (hr : ∀ i, j + 1 ≤ i → i < k → f i = nI (fnL (dgs b k n) i)) : ∀ i, j ≤ i → i < k → upd f (nI j).toNatClampNeg (nI (n / b ^ (k - (j + 1))) - nI (n / b ^ (k - (j + 1))) / x * x) i = nI (fnL (dgs b k n) i) := by
  intro i h1 h2
  rw [nI_clamp hj31]
  by_cases e : i = j
  · subst e
    rw [pk_us, hx, nI_rem (Nat.lt_of_le_of_lt (Nat.div_le_self _ _) hk) (by omega) hb, dgs_at b k n i h2, show k - (i + 1) = k - 1 - i by omega]
  · rw [pk_un e]; exact hr i (by omega) h2
def iX8_findOrder_77_1 : List Instr := [.iload 7]
theorem oX8_findOrder_77_1 : fOkB cX8_findOrder 77 iX8_findOrder_77_1 = true := by decide +kernel
theorem bX8_findOrder_79 : fBk cX8_findOrder 79 (.ifCond .lt) 111 := ⟨32, by decide +kernel, by decide⟩
def iX8_findOrder_111_4 : List Instr := [.aload_n 0, .iload_n 1, .iload_n 2, .iload 5]
theorem oX8_findOrder_111_4 : fOkB cX8_findOrder 111 iX8_findOrder_111_4 = true := by decide +kernel
set_option maxRecDepth 100000 in
theorem lX8_184 : Cond.methodLink RX8 184 yX8_tryRow ∈ fTB := fTB_at 809 rfl rfl
theorem dX8_findOrder_116 : decode cX8_findOrder 116 = .ok (.invokevirtual 184, 3) := by decide +kernel
def iX8_findOrder_119_2 : List Instr := [.iinc 5 1, .goto (-61)]
theorem oX8_findOrder_119_2 : fOkB cX8_findOrder 119 iX8_findOrder_119_2 = true := by decide +kernel
def iX8_findOrder_82_15 : List Instr := [.aload_n 0, .getfield 63, .iload 7, .iload 6, .aload_n 0, .getfield 89, .irem, .iastore, .iload 6, .aload_n 0, .getfield 89, .idiv, .istore 6, .iinc 7 (-1), .goto (-31)]
theorem oX8_findOrder_82_15 : fOkB cX8_findOrder 82 iX8_findOrder_82_15 = true := by decide +kernel
set_option maxRecDepth 100000 in
theorem lpX8_dig {G : fG} {d : Nat} {S : fS} {a b c e si ei k : Nat} {PL : List pTh} (H : hOk (hD S) a b c e) (hsi : si < c) (hei : ei < e) (hk : k ≤ 3) {n : Nat} {Q : Option Value → fS → Prop} (hn : n < b ^ k) (hb0 : 0 < k → 0 < b) (hcn : (PL ++ qCd (hD S) b si ei k (n + 1)).length ≤ 3857) (back : ∀ S2, kO S S2 k → fdR S2 b (PL ++ qCd (hD S) b si ei k (n + 1)) → fV G mX8_findOrder (fZm G (d + 7) Q) 61 [(0, .ref 35), (1, .int (nI si)), (2, .int (nI ei)), (3, .int (nI k)), (4, .int (nI (b ^ k))), (5, .int (nI (n + 1)))] [] S2) : ∀ (j : Nat) {S1 : fS}, j ≤ k → kO S S1 k → fdR S1 b (PL ++ qCd (hD S) b si ei k n) → (∀ i, j ≤ i → i < k → gA S1 51 i = nI (fnL (dgs b k n) i)) → fV G mX8_findOrder (fZm G (d + 7) Q) 77 [(0, .ref 35), (1, .int (nI si)), (2, .int (nI ei)), (3, .int (nI k)), (4, .int (nI (b ^ k))), (5, .int (nI n)), (6, .int (nI (n / b ^ (k - j)))), (7, .int (nI j - 1))] [] S1 := by
  have hb16 : b ≤ 16 := H.2.1.2.1
  have hpw := pw_lt (b := b) (k := k) hb16 hk
  intro j
  induction j with
  | zero =>
    intro S1 hj K1 F1 hr
    have H1 : hOk (hD S1) a b c e := by rw [K1.1]; exact H
    refine fV.run iX8_findOrder_77_1 oX8_findOrder_77_1 (pc' := 79) (L' := [(0, .ref 35), (1, .int (nI si)), (2, .int (nI ei)), (3, .int (nI k)), (4, .int (nI (b ^ k))), (5, .int (nI n)), (6, .int (nI (n / b ^ (k - 0)))), (7, .int (nI 0 - 1))]) (st' := [.int (nI 0 - 1)]) (S' := S1) rfl trivial ?_
    refine fV.if_lt bX8_findOrder_79 (fun c79 => ?_) (fun c79 => ?_)
    · refine fV.run iX8_findOrder_111_4 oX8_findOrder_111_4 (pc' := 116) (L' := [(0, .ref 35), (1, .int (nI si)), (2, .int (nI ei)), (3, .int (nI k)), (4, .int (nI (b ^ k))), (5, .int (nI n)), (6, .int (nI (n / b ^ (k - 0)))), (7, .int (nI 0 - 1))]) (st' := [.int (nI n), .int (nI ei), .int (nI si), .ref 35]) (S' := S1) rfl trivial ?_
      refine fV.callV (M2 := mX8_tryRow) (d := d + 6) (o := 35) (av := [.int (nI si), .int (nI ei), .int (nI n)]) (rest := []) kX8_tryRow dX8_findOrder_116 lX8_184 rfl rfl rfl (Nat.le_of_ble_eq_true rfl) (fRoom (by decide)) ⟨Nat.le_refl _, Nat.le_refl _⟩ (qX8_try (S := S1) (l := dgs b k n) (PL := PL ++ qCd (hD S) b si ei k n) H1 hsi hei (by rw [dgs_len]; exact ⟨K1.2.2, hk, fun i hi => ⟨hr i (Nat.zero_le _) hi, fnL_lt (dgs_lt (hb0 (by omega)) k n) (by rw [dgs_len]; exact hi)⟩⟩) (by rw [dgs_len]) (by rw [dgs_len]; exact hn) F1 (by rw [K1.1, List.append_assoc, ← qCd_s]; exact hcn)) ?_
      rintro _ S9 ⟨rfl, k9, F9⟩
      rw [K1.1, List.append_assoc, ← qCd_s] at F9
      rw [dgs_len] at k9
      refine fV.to (pc' := 119) (L' := [(0, .ref 35), (1, .int (nI si)), (2, .int (nI ei)), (3, .int (nI k)), (4, .int (nI (b ^ k))), (5, .int (nI n)), (6, .int (nI (n / b ^ (k - 0)))), (7, .int (nI 0 - 1))]) (st' := []) (S' := S9) rfl rfl rfl rfl ?_
      refine fV.run iX8_findOrder_119_2 oX8_findOrder_119_2 (pc' := 61) (L' := [(0, .ref 35), (1, .int (nI si)), (2, .int (nI ei)), (3, .int (nI k)), (4, .int (nI (b ^ k))), (5, .int ((nI n) + 1)), (6, .int (nI (n / b ^ (k - 0)))), (7, .int (nI 0 - 1))]) (st' := []) (S' := S9) rfl trivial ?_
      refine fV.pick (L' := [(0, .ref 35), (1, .int (nI si)), (2, .int (nI ei)), (3, .int (nI k)), (4, .int (nI (b ^ k))), (5, .int (nI n + 1))]) [0, 1, 2, 3, 4, 5] rfl ?_
      exact fV.to (L' := [(0, .ref 35), (1, .int (nI si)), (2, .int (nI ei)), (3, .int (nI k)), (4, .int (nI (b ^ k))), (5, .int (nI (n + 1)))]) rfl (by rw [nI_1]) rfl rfl (back _ ⟨k9.1.trans K1.1, k9.2.1.trans K1.2.1, k9.2.2⟩ F9)
    · exact absurd c79 (by decide)
  | succ j ih =>
    intro S1 hj K1 F1 hr
    have w3 : gI S1 35 3 = nI b := (congrArg (fun q => q.2.1.1) K1.1).trans H.2.1.1
    have hb0 := hb0 (by omega)
    have hq := Nat.div_le_self n (b ^ (k - (j + 1)))
    refine fV.to (L' := [(0, .ref 35), (1, .int (nI si)), (2, .int (nI ei)), (3, .int (nI k)), (4, .int (nI (b ^ k))), (5, .int (nI n)), (6, .int (nI (n / b ^ (k - (j + 1))))), (7, .int (nI j))]) rfl (by rw [nI_pred]) rfl rfl ?_
    refine fV.run iX8_findOrder_77_1 oX8_findOrder_77_1 (pc' := 79) (L' := [(0, .ref 35), (1, .int (nI si)), (2, .int (nI ei)), (3, .int (nI k)), (4, .int (nI (b ^ k))), (5, .int (nI n)), (6, .int (nI (n / b ^ (k - (j + 1))))), (7, .int (nI j))]) (st' := [.int (nI j)]) (S' := S1) rfl trivial ?_
    refine fV.if_lt bX8_findOrder_79 (fun c79 => ?_) (fun c79 => ?_)
    · exact absurd c79 (nI_pos (by omega))
    · refine fV.run iX8_findOrder_82_15 oX8_findOrder_82_15 (pc' := 77) (L' := [(0, .ref 35), (1, .int (nI si)), (2, .int (nI ei)), (3, .int (nI k)), (4, .int (nI (b ^ k))), (5, .int (nI n)), (6, .int ((nI (n / b ^ (k - (j + 1)))) / (gI S1 35 3))), (7, .int ((nI j) + (-1)))]) (st' := []) (S' := (wA S1 51 (upd (gA S1 51) (nI j).toNatClampNeg ((nI (n / b ^ (k - (j + 1)))) - (nI (n / b ^ (k - (j + 1)))) / (gI S1 35 3) * (gI S1 35 3))))) (P := ¬ (gI S1 35 3) = 0 ∧ vp_in (nI j) 3 ∧ ¬ (gI S1 35 3) = 0 ∧ True) rfl ⟨(by rw [w3]; exact nI_ne0 hb0 (by omega)), (vp_in_nI (show j < 3 by omega) (by decide)), (by rw [w3]; exact nI_ne0 hb0 (by omega)), trivial⟩ ?_
      refine fV.to (L' := [(0, .ref 35), (1, .int (nI si)), (2, .int (nI ei)), (3, .int (nI k)), (4, .int (nI (b ^ k))), (5, .int (nI n)), (6, .int (nI (n / b ^ (k - j)))), (7, .int (nI j - 1))]) rfl (by rw [w3, nI_div (by omega) (by omega) hb0, dd_s hj, i32_m1]) rfl rfl (ih (by omega) ⟨K1.1, K1.2.1, K1.2.2⟩ (F1.kd rfl rfl rfl rfl) (dg_row hj w3 hb0 hb16 (by omega) (by omega) (fun i h1 h2 => hr i (by omega) h2)))
def iX8_findOrder_61_2 : List Instr := [.iload 5, .iload 4]
theorem oX8_findOrder_61_2 : fOkB cX8_findOrder 61 iX8_findOrder_61_2 = true := by decide +kernel
theorem bX8_findOrder_65 : fBk cX8_findOrder 65 (.if_icmp .ge) 125 := ⟨60, by decide +kernel, by decide⟩
theorem dX8_findOrder_125 : decode cX8_findOrder 125 = .ok (.return_, 1) := by decide +kernel
def iX8_findOrder_68_6 : List Instr := [.iload 5, .istore 6, .iload_n 3, .iconst 1, .isub, .istore 7]
theorem oX8_findOrder_68_6 : fOkB cX8_findOrder 68 iX8_findOrder_68_6 = true := by decide +kernel
set_option maxRecDepth 100000 in
theorem lpX8_code {G : fG} {d : Nat} {S : fS} {a b c e si ei k : Nat} {PL : List pTh} (H : hOk (hD S) a b c e) (hsi : si < c) (hei : ei < e) (hk : k ≤ 3) (hcap : (PL ++ qCd (hD S) b si ei k (b ^ k)).length ≤ 3857) : ∀ (u n : Nat) {S1 : fS}, kO S S1 k → fdR S1 b (PL ++ qCd (hD S) b si ei k n) → n + u = b ^ k → fV G mX8_findOrder (fZm G (d + 7) (fun z S' => z = none ∧ kO S S' k ∧ fdR S' b (PL ++ qCd (hD S) b si ei k (b ^ k)))) 61 [(0, .ref 35), (1, .int (nI si)), (2, .int (nI ei)), (3, .int (nI k)), (4, .int (nI (b ^ k))), (5, .int (nI n))] [] S1 := by
  have hb16 : b ≤ 16 := H.2.1.2.1
  have hpw := pw_lt (b := b) (k := k) hb16 hk
  intro u
  induction u with
  | zero =>
    intro n S1 K1 F1 hu
    refine fV.run iX8_findOrder_61_2 oX8_findOrder_61_2 (pc' := 65) (L' := [(0, .ref 35), (1, .int (nI si)), (2, .int (nI ei)), (3, .int (nI k)), (4, .int (nI (b ^ k))), (5, .int (nI n))]) (st' := [.int (nI (b ^ k)), .int (nI n)]) (S' := S1) rfl trivial ?_
    refine fV.icmp_ge bX8_findOrder_65 (fun c65 => ?_) (fun c65 => ?_)
    · exact fV.vret rfl dX8_findOrder_125 ⟨rfl, K1, by obtain rfl : n = b ^ k := (by omega); exact F1⟩
    · exact absurd c65 (fun z => absurd (show b ^ k ≤ n by omega) (by rw [nI_leI (by omega) (by omega)] at z; omega))
  | succ u ih =>
    intro n S1 K1 F1 hu
    refine fV.run iX8_findOrder_61_2 oX8_findOrder_61_2 (pc' := 65) (L' := [(0, .ref 35), (1, .int (nI si)), (2, .int (nI ei)), (3, .int (nI k)), (4, .int (nI (b ^ k))), (5, .int (nI n))]) (st' := [.int (nI (b ^ k)), .int (nI n)]) (S' := S1) rfl trivial ?_
    refine fV.icmp_ge bX8_findOrder_65 (fun c65 => ?_) (fun c65 => ?_)
    · exact absurd c65 (by rw [nI_leI (by omega) (by omega)]; omega)
    · refine fV.run iX8_findOrder_68_6 oX8_findOrder_68_6 (pc' := 77) (L' := [(0, .ref 35), (1, .int (nI si)), (2, .int (nI ei)), (3, .int (nI k)), (4, .int (nI (b ^ k))), (5, .int (nI n)), (6, .int (nI n)), (7, .int ((nI k) - 1))]) (st' := []) (S' := S1) rfl trivial ?_
      refine fV.to (L' := [(0, .ref 35), (1, .int (nI si)), (2, .int (nI ei)), (3, .int (nI k)), (4, .int (nI (b ^ k))), (5, .int (nI n)), (6, .int (nI (n / b ^ (k - k)))), (7, .int (nI k - 1))]) rfl (by rw [Nat.sub_self, Nat.pow_zero, Nat.div_one]) rfl rfl (lpX8_dig H hsi hei hk (by omega) (fun h0 => Nat.pos_of_ne_zero (fun z => by rw [z, Nat.zero_pow h0] at hu; omega)) (Nat.le_trans (by rw [List.length_append, List.length_append]; exact Nat.add_le_add_left (qCd_le _ _ _ _ _ (by omega)) _) hcap) (fun S2 k2 F2 => ih (n + 1) k2 F2 (by omega)) k (Nat.le_refl _) K1 F1 (fun i h1 h2 => absurd h2 (by omega)))
def iX8_findOrder_0_4 : List Instr := [.aload_n 0, .iload_n 3, .putfield 159, .iload_n 3]
theorem oX8_findOrder_0_4 : fOkB cX8_findOrder 0 iX8_findOrder_0_4 = true := by decide +kernel
theorem bX8_findOrder_6 : fBk cX8_findOrder 6 (.ifCond .ne) 13 := ⟨7, by decide +kernel, by decide⟩
def iX8_findOrder_13_2 : List Instr := [.iload_n 3, .iconst 1]
theorem oX8_findOrder_13_2 : fOkB cX8_findOrder 13 iX8_findOrder_13_2 = true := by decide +kernel
theorem bX8_findOrder_15 : fBk cX8_findOrder 15 (.if_icmp .ne) 25 := ⟨10, by decide +kernel, by decide⟩
def iX8_findOrder_25_2 : List Instr := [.iload_n 3, .iconst 2]
theorem oX8_findOrder_25_2 : fOkB cX8_findOrder 25 iX8_findOrder_25_2 = true := by decide +kernel
theorem bX8_findOrder_27 : fBk cX8_findOrder 27 (.if_icmp .ne) 42 := ⟨15, by decide +kernel, by decide⟩
def iX8_findOrder_42_9 : List Instr := [.aload_n 0, .getfield 89, .aload_n 0, .getfield 89, .imul, .aload_n 0, .getfield 89, .imul, .istore 4]
theorem oX8_findOrder_42_9 : fOkB cX8_findOrder 42 iX8_findOrder_42_9 = true := by decide +kernel
def iX8_findOrder_58_2 : List Instr := [.iconst 0, .istore 5]
theorem oX8_findOrder_58_2 : fOkB cX8_findOrder 58 iX8_findOrder_58_2 = true := by decide +kernel
def iX8_findOrder_30_7 : List Instr := [.aload_n 0, .getfield 89, .aload_n 0, .getfield 89, .imul, .goto 17, .istore 4]
theorem oX8_findOrder_30_7 : fOkB cX8_findOrder 30 iX8_findOrder_30_7 = true := by decide +kernel
def iX8_findOrder_18_4 : List Instr := [.aload_n 0, .getfield 89, .goto 34, .istore 4]
theorem oX8_findOrder_18_4 : fOkB cX8_findOrder 18 iX8_findOrder_18_4 = true := by decide +kernel
def iX8_findOrder_9_3 : List Instr := [.iconst 1, .goto 46, .istore 4]
theorem oX8_findOrder_9_3 : fOkB cX8_findOrder 9 iX8_findOrder_9_3 = true := by decide +kernel
set_option maxRecDepth 100000 in
theorem qX8_order {G : fG} {d : Nat} {S : fS} {a b c e si ei k : Nat} {PL : List pTh} (H : hOk (hD S) a b c e) (hsi : si < c) (hei : ei < e) (hk : k ≤ 3) (F : fdR S b PL) (hcap : (PL ++ pthX (hD S).2.1.2.1 b (hSrc (hD S) si) (hSeat (hD S) ei) k []).length ≤ 3857)  : fCtr G (d + 7) mX8_findOrder [.ref 35, .int (nI si), .int (nI ei), .int (nI k)] S (fun z S' => z = none ∧ kO S S' k ∧ fdR S' b (PL ++ pthX (hD S).2.1.2.1 b (hSrc (hD S) si) (hSeat (hD S) ei) k [])) := by
  refine fCtr.of bXX8_findOrder (Nat.le_of_ble_eq_true rfl) rfl ?_
  refine fV.run iX8_findOrder_0_4 oX8_findOrder_0_4 (pc' := 6) (L' := [(0, .ref 35), (1, .int (nI si)), (2, .int (nI ei)), (3, .int (nI k))]) (st' := [.int (nI k)]) (S' := (wI S 35 22 (nI k))) rfl trivial ?_
  refine fV.if_ne bX8_findOrder_6 (fun c6 => ?_) (fun c6 => ?_)
  · refine fV.run iX8_findOrder_13_2 oX8_findOrder_13_2 (pc' := 15) (L' := [(0, .ref 35), (1, .int (nI si)), (2, .int (nI ei)), (3, .int (nI k))]) (st' := [.int 1, .int (nI k)]) (S' := (wI S 35 22 (nI k))) rfl trivial ?_
    refine fV.icmp_ne bX8_findOrder_15 (fun c15 => ?_) (fun c15 => ?_)
    · refine fV.run iX8_findOrder_25_2 oX8_findOrder_25_2 (pc' := 27) (L' := [(0, .ref 35), (1, .int (nI si)), (2, .int (nI ei)), (3, .int (nI k))]) (st' := [.int 2, .int (nI k)]) (S' := (wI S 35 22 (nI k))) rfl trivial ?_
      refine fV.icmp_ne bX8_findOrder_27 (fun c27 => ?_) (fun c27 => ?_)
      · refine fV.run iX8_findOrder_42_9 oX8_findOrder_42_9 (pc' := 58) (L' := [(0, .ref 35), (1, .int (nI si)), (2, .int (nI ei)), (3, .int (nI k)), (4, .int (((gI S 35 3) * (gI S 35 3)) * (gI S 35 3)))]) (st' := []) (S' := (wI S 35 22 (nI k))) rfl trivial ?_
        refine fV.to (L' := [(0, .ref 35), (1, .int (nI si)), (2, .int (nI ei)), (3, .int (nI k)), (4, .int (nI (b ^ k)))]) (st' := []) rfl (by rw [show (((gI S 35 3) * (gI S 35 3)) * (gI S 35 3) : Int32) = nI (b ^ k) from by first | exact (all_k hk H.2.1.1).1 c6 | exact (all_k hk H.2.1.1).2.1 c15 | exact (all_k hk H.2.1.1).2.2.1 c27 | exact (all_k hk H.2.1.1).2.2.2 c6 c15 c27]) rfl rfl ?_
        refine fV.run iX8_findOrder_58_2 oX8_findOrder_58_2 (pc' := 61) (L' := [(0, .ref 35), (1, .int (nI si)), (2, .int (nI ei)), (3, .int (nI k)), (4, .int (nI (b ^ k))), (5, .int 0)]) (st' := []) (S' := (wI S 35 22 (nI k))) rfl trivial ?_
        rw [← qCd_all] at hcap ⊢
        exact lpX8_code (S := S) (PL := PL) H hsi hei hk hcap (b ^ k) 0 (S1 := (wI S 35 22 (nI k))) ⟨rfl, rfl, rfl⟩ (by show fdR _ b (PL ++ []); rw [List.append_nil]; exact F.kd rfl rfl rfl rfl) (by omega)
      · refine fV.run iX8_findOrder_30_7 oX8_findOrder_30_7 (pc' := 58) (L' := [(0, .ref 35), (1, .int (nI si)), (2, .int (nI ei)), (3, .int (nI k)), (4, .int ((gI S 35 3) * (gI S 35 3)))]) (st' := []) (S' := (wI S 35 22 (nI k))) rfl trivial ?_
        refine fV.to (L' := [(0, .ref 35), (1, .int (nI si)), (2, .int (nI ei)), (3, .int (nI k)), (4, .int (nI (b ^ k)))]) (st' := []) rfl (by rw [show ((gI S 35 3) * (gI S 35 3) : Int32) = nI (b ^ k) from by first | exact (all_k hk H.2.1.1).1 c6 | exact (all_k hk H.2.1.1).2.1 c15 | exact (all_k hk H.2.1.1).2.2.1 c27 | exact (all_k hk H.2.1.1).2.2.2 c6 c15 c27]) rfl rfl ?_
        refine fV.run iX8_findOrder_58_2 oX8_findOrder_58_2 (pc' := 61) (L' := [(0, .ref 35), (1, .int (nI si)), (2, .int (nI ei)), (3, .int (nI k)), (4, .int (nI (b ^ k))), (5, .int 0)]) (st' := []) (S' := (wI S 35 22 (nI k))) rfl trivial ?_
        rw [← qCd_all] at hcap ⊢
        exact lpX8_code (S := S) (PL := PL) H hsi hei hk hcap (b ^ k) 0 (S1 := (wI S 35 22 (nI k))) ⟨rfl, rfl, rfl⟩ (by show fdR _ b (PL ++ []); rw [List.append_nil]; exact F.kd rfl rfl rfl rfl) (by omega)
    · refine fV.run iX8_findOrder_18_4 oX8_findOrder_18_4 (pc' := 58) (L' := [(0, .ref 35), (1, .int (nI si)), (2, .int (nI ei)), (3, .int (nI k)), (4, .int (gI S 35 3))]) (st' := []) (S' := (wI S 35 22 (nI k))) rfl trivial ?_
      refine fV.to (L' := [(0, .ref 35), (1, .int (nI si)), (2, .int (nI ei)), (3, .int (nI k)), (4, .int (nI (b ^ k)))]) (st' := []) rfl (by rw [show ((gI S 35 3) : Int32) = nI (b ^ k) from by first | exact (all_k hk H.2.1.1).1 c6 | exact (all_k hk H.2.1.1).2.1 c15 | exact (all_k hk H.2.1.1).2.2.1 c27 | exact (all_k hk H.2.1.1).2.2.2 c6 c15 c27]) rfl rfl ?_
      refine fV.run iX8_findOrder_58_2 oX8_findOrder_58_2 (pc' := 61) (L' := [(0, .ref 35), (1, .int (nI si)), (2, .int (nI ei)), (3, .int (nI k)), (4, .int (nI (b ^ k))), (5, .int 0)]) (st' := []) (S' := (wI S 35 22 (nI k))) rfl trivial ?_
      rw [← qCd_all] at hcap ⊢
      exact lpX8_code (S := S) (PL := PL) H hsi hei hk hcap (b ^ k) 0 (S1 := (wI S 35 22 (nI k))) ⟨rfl, rfl, rfl⟩ (by show fdR _ b (PL ++ []); rw [List.append_nil]; exact F.kd rfl rfl rfl rfl) (by omega)
  · refine fV.run iX8_findOrder_9_3 oX8_findOrder_9_3 (pc' := 58) (L' := [(0, .ref 35), (1, .int (nI si)), (2, .int (nI ei)), (3, .int (nI k)), (4, .int 1)]) (st' := []) (S' := (wI S 35 22 (nI k))) rfl trivial ?_
    refine fV.to (L' := [(0, .ref 35), (1, .int (nI si)), (2, .int (nI ei)), (3, .int (nI k)), (4, .int (nI (b ^ k)))]) (st' := []) rfl (by rw [show (1 : Int32) = nI (b ^ k) from by first | exact (all_k hk H.2.1.1).1 c6 | exact (all_k hk H.2.1.1).2.1 c15 | exact (all_k hk H.2.1.1).2.2.1 c27 | exact (all_k hk H.2.1.1).2.2.2 c6 c15 c27]) rfl rfl ?_
    refine fV.run iX8_findOrder_58_2 oX8_findOrder_58_2 (pc' := 61) (L' := [(0, .ref 35), (1, .int (nI si)), (2, .int (nI ei)), (3, .int (nI k)), (4, .int (nI (b ^ k))), (5, .int 0)]) (st' := []) (S' := (wI S 35 22 (nI k))) rfl trivial ?_
    rw [← qCd_all] at hcap ⊢
    exact lpX8_code (S := S) (PL := PL) H hsi hei hk hcap (b ^ k) 0 (S1 := (wI S 35 22 (nI k))) ⟨rfl, rfl, rfl⟩ (by show fdR _ b (PL ++ []); rw [List.append_nil]; exact F.kd rfl rfl rfl rfl) (by omega)
def iX8_findPaths_7_3 : List Instr := [.iload_n 3, .aload_n 0, .getfield 37]
theorem oX8_findPaths_7_3 : fOkB cX8_findPaths 7 iX8_findPaths_7_3 = true := by decide +kernel
theorem bX8_findPaths_12 : fBk cX8_findPaths 12 (.if_icmp .gt) 28 := ⟨16, by decide +kernel, by decide⟩
theorem dX8_findPaths_28 : decode cX8_findPaths 28 = .ok (.return_, 1) := by decide +kernel
def iX8_findPaths_15_4 : List Instr := [.aload_n 0, .iload_n 1, .iload_n 2, .iload_n 3]
theorem oX8_findPaths_15_4 : fOkB cX8_findPaths 15 iX8_findPaths_15_4 = true := by decide +kernel
set_option maxRecDepth 100000 in
theorem lX8_188 : Cond.methodLink RX8 188 yX8_findOrder ∈ fTB := fTB_at 805 rfl rfl
theorem dX8_findPaths_19 : decode cX8_findPaths 19 = .ok (.invokevirtual 188, 3) := by decide +kernel
def iX8_findPaths_22_2 : List Instr := [.iinc 3 1, .goto (-18)]
theorem oX8_findPaths_22_2 : fOkB cX8_findPaths 22 iX8_findPaths_22_2 = true := by decide +kernel
set_option maxRecDepth 100000 in
theorem lpX8_paths {G : fG} {d : Nat} {S : fS} {a b c e si ei : Nat} (H : hOk (hD S) a b c e) (hsi : si < c) (hei : ei < e) {N : Nat} (hN : N ≤ 4) (hx : gI S 35 13 + 1 = nI N) (hx1 : -1 ≤ gI S 35 13) (hx2 : gI S 35 13 ≤ 3) : ∀ (u k : Nat) {S1 : fS}, k + u = N → (hD S1 = hD S ∧ S1.1 = S.1) → fdR S1 b (plR (hD S).2.1.2.1 b (hSrc (hD S) si) (hSeat (hD S) ei) 0 k) → fV G mX8_findPaths (fZm G (d + 8) (fun z S' => z = none ∧ (hD S' = hD S ∧ S'.1 = S.1) ∧ fdR S' b (plR (hD S).2.1.2.1 b (hSrc (hD S) si) (hSeat (hD S) ei) 0 N))) 7 [(0, .ref 35), (1, .int (nI si)), (2, .int (nI ei)), (3, .int (nI k))] [] S1 := by
  intro u
  induction u with
  | zero =>
    intro k S1 hu B F1
    have m1 : gI S1 35 13 = gI S 35 13 := congrArg (fun q => q.2.2.2.2.1) B.1
    refine fV.run iX8_findPaths_7_3 oX8_findPaths_7_3 (pc' := 12) (L' := [(0, .ref 35), (1, .int (nI si)), (2, .int (nI ei)), (3, .int (nI k))]) (st' := [.int (gI S1 35 13), .int (nI k)]) (S' := S1) rfl trivial ?_
    refine fV.icmp_gt bX8_findPaths_12 (fun c12 => ?_) (fun c12 => ?_)
    · exact fV.vret rfl dX8_findPaths_28 (by obtain rfl : k = N := (by omega); exact ⟨rfl, B, F1⟩)
    · exact absurd c12 (fun z => z (by rw [m1]; exact (x_gt hx hx1 hx2 (by omega) (by omega)).mpr (by omega)))
  | succ u ih =>
    intro k S1 hu B F1
    have m1 : gI S1 35 13 = gI S 35 13 := congrArg (fun q => q.2.2.2.2.1) B.1
    have p_s := plR_s (hD S).2.1.2.1 b (hSrc (hD S) si) (hSeat (hD S) ei) 0 k
    rw [Nat.zero_add] at p_s
    refine fV.run iX8_findPaths_7_3 oX8_findPaths_7_3 (pc' := 12) (L' := [(0, .ref 35), (1, .int (nI si)), (2, .int (nI ei)), (3, .int (nI k))]) (st' := [.int (gI S1 35 13), .int (nI k)]) (S' := S1) rfl trivial ?_
    refine fV.icmp_gt bX8_findPaths_12 (fun c12 => ?_) (fun c12 => ?_)
    · exact absurd c12 (fun z => absurd ((x_gt (m := k) hx hx1 hx2 (by omega) (by omega)).mp (by rw [← m1]; exact z)) (by omega))
    · refine fV.run iX8_findPaths_15_4 oX8_findPaths_15_4 (pc' := 19) (L' := [(0, .ref 35), (1, .int (nI si)), (2, .int (nI ei)), (3, .int (nI k))]) (st' := [.int (nI k), .int (nI ei), .int (nI si), .ref 35]) (S' := S1) rfl trivial ?_
      refine fV.callV (M2 := mX8_findOrder) (d := d + 7) (o := 35) (av := [.int (nI si), .int (nI ei), .int (nI k)]) (rest := []) kX8_findOrder dX8_findPaths_19 lX8_188 rfl rfl rfl (Nat.le_of_ble_eq_true rfl) (fRoom (by decide)) ⟨Nat.le_refl _, Nat.le_refl _⟩ (qX8_order (S := S1) (k := k) (PL := plR (hD S).2.1.2.1 b (hSrc (hD S) si) (hSeat (hD S) ei) 0 k) (by rw [B.1]; exact H) hsi hei (by omega) F1 (by rw [B.1, ← p_s]; exact Nat.le_trans (plR_len H.2.1.2.1 (k + 1) (by omega)) (cum_le _))) ?_
      rintro _ S9 ⟨rfl, k9, F9⟩
      rw [B.1, ← p_s] at F9
      refine fV.to (pc' := 22) (L' := [(0, .ref 35), (1, .int (nI si)), (2, .int (nI ei)), (3, .int (nI k))]) (st' := []) (S' := S9) rfl rfl rfl rfl ?_
      refine fV.run iX8_findPaths_22_2 oX8_findPaths_22_2 (pc' := 7) (L' := [(0, .ref 35), (1, .int (nI si)), (2, .int (nI ei)), (3, .int ((nI k) + 1))]) (st' := []) (S' := S9) rfl trivial ?_
      exact fV.to (L' := [(0, .ref 35), (1, .int (nI si)), (2, .int (nI ei)), (3, .int (nI (k + 1)))]) rfl (by rw [nI_1]) rfl rfl (ih (k + 1) (by omega) ⟨k9.1.trans B.1, k9.2.1.trans B.2⟩ F9)
def iX8_findPaths_0_5 : List Instr := [.aload_n 0, .iconst 0, .putfield 181, .iconst 0, .istore_n 3]
theorem oX8_findPaths_0_5 : fOkB cX8_findPaths 0 iX8_findPaths_0_5 = true := by decide +kernel
set_option maxRecDepth 100000 in
theorem qX8_find {G : fG} {d : Nat} {S : fS} {a b c e si ei : Nat} (H : hOk (hD S) a b c e) (hsi : si < c) (hei : ei < e) {N : Nat} (hN : N ≤ 4) (hx : gI S 35 13 + 1 = nI N) (hx1 : -1 ≤ gI S 35 13) (hx2 : gI S 35 13 ≤ 3)  : fCtr G (d + 8) mX8_findPaths [.ref 35, .int (nI si), .int (nI ei)] S (fun z S' => z = none ∧ (hD S' = hD S ∧ S'.1 = S.1) ∧ fdR S' b (plR (hD S).2.1.2.1 b (hSrc (hD S) si) (hSeat (hD S) ei) 0 N)) := by
  refine fCtr.of bXX8_findPaths (Nat.le_of_ble_eq_true rfl) rfl ?_
  refine fV.run iX8_findPaths_0_5 oX8_findPaths_0_5 (pc' := 7) (L' := [(0, .ref 35), (1, .int (nI si)), (2, .int (nI ei)), (3, .int 0)]) (st' := []) (S' := (wI S 35 25 0)) rfl trivial ?_
  exact lpX8_paths H hsi hei hN hx hx1 hx2 N 0 (S1 := (wI S 35 25 0)) (by omega) ⟨rfl, rfl⟩ ⟨rfl, by simp [plR], fun i x hx => by simp [plR] at hx⟩

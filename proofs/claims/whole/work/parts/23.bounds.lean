/-! bounds of images and of the number of rows -/
theorem line_bd {h : hH} {a b c e : Nat} (H : hOk h a b c e) {w : Nat} (hw : w < b) : 0 ≤ (hLine h.2.1.2.1 w).toInt ∧ (hLine h.2.1.2.1 w).toInt ≤ 1000 := by
  obtain ⟨hb, -⟩ := H.wall hw
  have h0 := hb 0 (by omega)
  have h1 := hb 1 (by omega)
  simp only [Nat.add_zero] at h0
  have t1 : (1000 : Int32).toInt = 1000 := by decide
  have t0 : (0 : Int32).toInt = 0 := by decide
  simp only [t_le, t1, t0] at h0 h1
  unfold hLine
  split <;> omega
theorem img_bd {h : hH} {a b c e : Nat} (H : hOk h a b c e) {src : zP} (hs : (0 ≤ src.1.toInt ∧ src.1.toInt ≤ 1000) ∧ (0 ≤ src.2.toInt ∧ src.2.toInt ≤ 1000)) {r : Nat → Nat} : ∀ (j : Nat), j ≤ 3 → (∀ i, i < j → r i < b) → (-(1000 * (j : Int)) ≤ (imgD h.2.1.2.1 src r j).1.toInt ∧ (imgD h.2.1.2.1 src r j).1.toInt ≤ 1000 * (j + 1)) ∧ (-(1000 * (j : Int)) ≤ (imgD h.2.1.2.1 src r j).2.toInt ∧ (imgD h.2.1.2.1 src r j).2.toInt ≤ 1000 * (j + 1))
  | 0, _, _ => by simp only [imgD]; omega
  | j + 1, hj, hr => by
    obtain ⟨⟨a1, a2⟩, a3, a4⟩ := img_bd H hs (r := r) j (by omega) (fun i hi => hr i (by omega))
    obtain ⟨l1, l2⟩ := line_bd H (hr j (by omega))
    simp only [imgD]
    generalize imgD h.2.1.2.1 src r j = p at *
    have t2 : (2 : Int32).toInt = 2 := by decide
    unfold mirP
    split
    · simp only
      rw [show (2 * hLine h.2.1.2.1 (r j) - p.1).toInt = 2 * (hLine h.2.1.2.1 (r j)).toInt - p.1.toInt from by
        obtain ⟨l1, l2⟩ := line_bd H (hr j (by omega))
        have e1 : (2 * hLine h.2.1.2.1 (r j)).toInt = 2 * (hLine h.2.1.2.1 (r j)).toInt := by rw [i_mul (by rw [t2]; omega) (by rw [t2]; omega), t2]
        rw [i_sub (by omega) (by omega), e1]]
      obtain ⟨l1, l2⟩ := line_bd H (hr j (by omega))
      omega
    · simp only
      rw [show (2 * hLine h.2.1.2.1 (r j) - p.2).toInt = 2 * (hLine h.2.1.2.1 (r j)).toInt - p.2.toInt from by
        obtain ⟨l1, l2⟩ := line_bd H (hr j (by omega))
        have e1 : (2 * hLine h.2.1.2.1 (r j)).toInt = 2 * (hLine h.2.1.2.1 (r j)).toInt := by rw [i_mul (by rw [t2]; omega) (by rw [t2]; omega), t2]
        rw [i_sub (by omega) (by omega), e1]]
      obtain ⟨l1, l2⟩ := line_bd H (hr j (by omega))
      omega
def ptOk (p : zP) : Prop := (0 ≤ p.1.toInt ∧ p.1.toInt ≤ 1000) ∧ (0 ≤ p.2.toInt ∧ p.2.toInt ≤ 1000)
theorem sq_1 {x y : Int32} (h1 : -3000 ≤ x.toInt) (h2 : x.toInt ≤ 4000) (h3 : 0 ≤ y.toInt) (h4 : y.toInt ≤ 1000) : 0 ≤ ((x - y).toInt64 * (x - y).toInt64).toInt ∧ ((x - y).toInt64 * (x - y).toInt64).toInt ≤ 16000000 := by
  have e : (x - y).toInt64.toInt = x.toInt - y.toInt := by rw [Int32.toInt_toInt64, i_sub (by omega) (by omega)]
  generalize (x - y).toInt64 = z at *
  have b1 : -4000 ≤ z.toInt := by omega
  have b2 : z.toInt ≤ 4000 := by omega
  have m1 : 0 ≤ z.toInt * z.toInt := by
    rcases Int.le_total 0 z.toInt with q | q
    · exact Int.mul_nonneg q q
    · exact Int.mul_nonneg_of_nonpos_of_nonpos q q
  have m2 : z.toInt * z.toInt ≤ 16000000 := by
    rcases Int.le_total 0 z.toInt with q | q
    · exact Int.le_trans (Int.mul_le_mul b2 b2 q (by omega)) (by decide)
    · have := Int.mul_le_mul (show -z.toInt ≤ 4000 by omega) (show -z.toInt ≤ 4000 by omega) (by omega) (by omega)
      rw [Int.neg_mul_neg] at this
      omega
  rw [j_mul (by omega) (by omega)]
  exact ⟨m1, m2⟩
theorem sq_bd {h : hH} {a b c e : Nat} (H : hOk h a b c e) {src seat : zP} (hs : ptOk src) (ht : ptOk seat) {l : List Nat} (hl : l.length ≤ 3) (hw : ∀ w ∈ l, w < b) : sqD h.2.1.2.1 src seat l < 1073741824 ∧ 0 ≤ sqD h.2.1.2.1 src seat l := by
  obtain ⟨⟨a1, a2⟩, a3, a4⟩ := img_bd H hs (r := fnL l) l.length hl (fun i hi => fnL_lt hw hi)
  unfold sqD
  generalize imgD h.2.1.2.1 src (fnL l) l.length = p at *
  obtain ⟨q1, q2⟩ := sq_1 (x := p.1) (y := seat.1) (by omega) (by omega) ht.1.1 ht.1.2
  obtain ⟨q3, q4⟩ := sq_1 (x := p.2) (y := seat.2) (by omega) (by omega) ht.2.1 ht.2.2
  have t1 : (1073741824 : Int64).toInt = 1073741824 := by decide
  have t0 : (0 : Int64).toInt = 0 := by decide
  rw [Int64.lt_iff_toInt_lt, Int64.le_iff_toInt_le, j_add (by omega) (by omega), t1, t0]
  omega
theorem len_all {α : Type} (f : Nat → List α) {c : Nat} : ∀ m : Nat, (∀ w, w < m → (f w).length ≤ c) → ((List.range m).flatMap f).length ≤ m * c
  | 0, _ => by simp
  | m + 1, h => by
    have := len_all f m (fun w hw => h w (by omega))
    have h2 := h m (by omega)
    rw [rng_s, List.length_append, Nat.succ_mul]
    omega
theorem len_ex {α : Type} (f : Nat → List α) {c l : Nat} : ∀ m : Nat, l < m → (∀ w, w < m → (f w).length ≤ c) → (f l).length = 0 → ((List.range m).flatMap f).length ≤ (m - 1) * c
  | 0, h, _, _ => absurd h (by omega)
  | m + 1, h, hc, h0 => by
    rw [rng_s, List.length_append, Nat.add_sub_cancel]
    by_cases e : l = m
    · subst e
      have := len_all f l (fun w hw => hc w (by omega))
      omega
    · have := len_ex f m (by omega) (fun w hw => hc w (by omega)) h0
      have h2 := hc m (by omega)
      have h3 : (m - 1) * c + c = m * c := by
        obtain ⟨i, rfl⟩ : ∃ i, m = i + 1 := ⟨m - 1, by omega⟩
        rw [Nat.add_sub_cancel, Nat.succ_mul]
      omega
theorem rows_ne {b : Nat} (hb : b ≤ 16) : ∀ (n : Nat) (pre : List Nat), (∃ l, pre.getLast? = some l ∧ l < b) → (rowsX b n pre).length ≤ 15 ^ n
  | 0, pre, _ => by simp [rowsX]
  | n + 1, pre, ⟨l, h1, h2⟩ => by
    have := len_ex (fun w => if pre.getLast? = some w then [] else rowsX b n (pre ++ [w])) (c := 15 ^ n) (l := l) b h2 (fun w hw => by
      split
      · simp
      · exact rows_ne hb n (pre ++ [w]) ⟨w, by simp, hw⟩) (by simp [h1])
    show ((List.range b).flatMap _).length ≤ _
    refine Nat.le_trans this ?_
    rw [Nat.pow_succ, Nat.mul_comm]
    exact Nat.mul_le_mul_left _ (by omega)
def cumR (n : Nat) : Nat := match n with
  | 0 => 0
  | 1 => 1
  | 2 => 17
  | 3 => 257
  | _ => 3857
theorem rows_0 {b n : Nat} (hb : b ≤ 16) (hn : n ≤ 3) : cumR n + (rowsX b n []).length ≤ cumR (n + 1) := by
  have key : ∀ m, (rowsX b (m + 1) []).length ≤ 16 * 15 ^ m := fun m => by
    have := len_all (fun w => if ([] : List Nat).getLast? = some w then [] else rowsX b m ([] ++ [w])) (c := 15 ^ m) b (fun w hw => by
      split
      · simp
      · exact rows_ne hb m _ ⟨w, by simp, hw⟩)
    exact Nat.le_trans this (Nat.mul_le_mul_right _ hb)
  match n, hn with
  | 0, _ => simp [rowsX, cumR]
  | 1, _ => have : (rowsX b 1 []).length ≤ 16 * 15 ^ 0 := key 0; simp only [cumR]; omega
  | 2, _ => have : (rowsX b 2 []).length ≤ 16 * 15 ^ 1 := key 1; simp only [cumR]; omega
  | 3, _ => have : (rowsX b 3 []).length ≤ 16 * 15 ^ 2 := key 2; simp only [cumR]; omega
noncomputable def plR (en : Nat → Int32) (b : Nat) (src seat : zP) (lo n : Nat) : List pTh := (List.range' lo n).flatMap (fun o => pthX en b src seat o [])
theorem plR_s (en : Nat → Int32) (b : Nat) (src seat : zP) (lo n : Nat) : plR en b src seat lo (n + 1) = plR en b src seat lo n ++ pthX en b src seat (lo + n) [] := by
  unfold plR
  rw [List.range'_1_concat, List.flatMap_append]; simp
theorem rows_mem {b : Nat} : ∀ (n : Nat) (pre : List Nat), (∀ w ∈ pre, w < b) → ∀ l ∈ rowsX b n pre, l.length = pre.length + n ∧ ∀ w ∈ l, w < b
  | 0, pre, h, l, hl => by
    simp only [rowsX, List.mem_singleton] at hl
    subst hl
    exact ⟨rfl, h⟩
  | n + 1, pre, h, l, hl => by
    simp only [rowsX, List.mem_flatMap, List.mem_range] at hl
    obtain ⟨w, hw, hl⟩ := hl
    split at hl
    · cases hl
    · obtain ⟨h1, h2⟩ := rows_mem n (pre ++ [w]) (fun v hv => by
        rcases List.mem_append.mp hv with q | q
        · exact h v q
        · rw [List.mem_singleton.mp q]; exact hw) l hl
      refine ⟨?_, h2⟩
      rw [h1, List.length_append]
      simp only [List.length_cons, List.length_nil]
      omega
theorem pth_mem {en : Nat → Int32} {b : Nat} {src seat : zP} {n : Nat} {x : pTh} (h : x ∈ pthX en b src seat n []) : x.1.length = n ∧ (∀ w ∈ x.1, w < b) ∧ x.2 = sqD en src seat x.1 := by
  unfold pthX at h
  obtain ⟨l, hl, e⟩ := List.mem_filterMap.mp h
  obtain ⟨h1, h2⟩ := rows_mem n [] (fun w hw => by cases hw) l hl
  unfold pOf at e
  split at e
  · cases e
    exact ⟨by simpa using h1, h2, rfl⟩
  · cases e
theorem plR_ok {en : Nat → Int32} {b : Nat} {src seat : zP} {lo n : Nat} (h : lo + n ≤ 4) : plOk b (plR en b src seat lo n) := by
  intro x hx
  unfold plR at hx
  obtain ⟨o, ho, hx⟩ := List.mem_flatMap.mp hx
  obtain ⟨h1, h2, -⟩ := pth_mem hx
  have := List.mem_range'.mp ho
  exact ⟨by omega, h2⟩
theorem plR_len {en : Nat → Int32} {b : Nat} {src seat : zP} (hb : b ≤ 16) {lo : Nat} : ∀ (n : Nat), lo + n ≤ 4 → (plR en b src seat lo n).length ≤ cumR (lo + n)
  | 0, _ => by simp [plR]
  | n + 1, h => by
    have := plR_len (en := en) (src := src) (seat := seat) hb (lo := lo) n (by omega)
    have h2 := rows_0 hb (n := lo + n) (by omega)
    have h3 : (pthX en b src seat (lo + n) []).length ≤ (rowsX b (lo + n) []).length := List.length_filterMap_le _ _
    rw [plR_s, List.length_append, show lo + (n + 1) = lo + n + 1 by omega]
    omega
def iX7_startRoute_0_22 : List Instr := [.aload_n 0, .getfield 42, .aload_n 0, .getfield 28, .getfield 240, .iload_n 1, .iaload, .aload_n 0, .getfield 28, .getfield 243, .iload_n 1, .iaload, .aload_n 0, .getfield 32, .getfield 240, .iload_n 2, .iaload, .aload_n 0, .getfield 32, .getfield 243, .iload_n 2, .iaload]
theorem oX7_startRoute_0_22 : fOkB cX7_startRoute 0 iX7_startRoute_0_22 = true := by decide +kernel
set_option maxRecDepth 100000 in
theorem lX7_246 : Cond.methodLink RX7 246 yX3_start ∈ fTB := fTB_at 434 rfl rfl
theorem dX7_startRoute_40 : decode cX7_startRoute 40 = .ok (.invokevirtual 246, 3) := by decide +kernel
theorem dX7_startRoute_43 : decode cX7_startRoute 43 = .ok (.return_, 1) := by decide +kernel
set_option maxRecDepth 100000 in
theorem qX7_start {G : fG} {d : Nat} {S : fS} {si ei : Nat} (hsi : si < 4) (hei : ei < 8)  : fCtr G (d + 1) mX7_startRoute [.ref 0, .int (nI si), .int (nI ei)] S (fun r S' => r = none ∧ S' = wI (wI (wA S 20 (upd (upd (gA S 20) 0 (gA S 12 si)) 1 (gA S 13 si))) 18 5 (gA S 15 ei)) 18 6 (gA S 16 ei)) := by
  refine fCtr.of bXX7_startRoute (Nat.le_of_ble_eq_true rfl) rfl ?_
  refine fV.run iX7_startRoute_0_22 oX7_startRoute_0_22 (pc' := 40) (L' := [(0, .ref 0), (1, .int (nI si)), (2, .int (nI ei))]) (st' := [.int (gA S 16 (nI ei).toNatClampNeg), .int (gA S 15 (nI ei).toNatClampNeg), .int (gA S 13 (nI si).toNatClampNeg), .int (gA S 12 (nI si).toNatClampNeg), .ref 18]) (S' := S) (P := vp_in (nI si) 4 ∧ vp_in (nI si) 4 ∧ vp_in (nI ei) 8 ∧ vp_in (nI ei) 8 ∧ True) rfl ⟨(vp_in_nI (by omega) (by decide)), (vp_in_nI (by omega) (by decide)), (vp_in_nI (by omega) (by decide)), (vp_in_nI (by omega) (by decide)), trivial⟩ ?_
  refine fV.callV (M2 := mX3_start) (d := d) (o := 18) (av := [.int (gA S 12 (nI si).toNatClampNeg), .int (gA S 13 (nI si).toNatClampNeg), .int (gA S 15 (nI ei).toNatClampNeg), .int (gA S 16 (nI ei).toNatClampNeg)]) (rest := []) kX3_start dX7_startRoute_40 lX7_246 rfl rfl rfl (Nat.le_of_ble_eq_true rfl) (fRoom (by decide)) ⟨Nat.le_refl _, Nat.le_refl _⟩ (qX3_start _ _ _ _) ?_
  rintro _ S9 ⟨rfl, h9⟩
  rw [h9]
  clear h9 S9
  refine fV.to (pc' := 43) (L' := [(0, .ref 0), (1, .int (nI si)), (2, .int (nI ei))]) (st' := []) (S' := (wI (wI (wA S 20 (upd (upd (gA S 20) 0 (gA S 12 (nI si).toNatClampNeg)) 1 (gA S 13 (nI si).toNatClampNeg))) 18 5 (gA S 15 (nI ei).toNatClampNeg)) 18 6 (gA S 16 (nI ei).toNatClampNeg))) rfl rfl rfl rfl ?_
  exact fV.vret rfl dX7_startRoute_43 ⟨rfl, by rw [nI_clamp (by omega), nI_clamp (by omega)]⟩
/-- a state between two orders -/
def bt (S S1 : fS) (b : Nat) (src seat : zP) (PL : List pTh) : Prop := kp S S1 ∧ pA (gA S1 20) 0 = src ∧ (gI S1 18 5, gI S1 18 6) = seat ∧ fdOk S1 PL
theorem bt_tr {S S1 : fS} {b k : Nat} {src seat : zP} {PL : List pTh} (HG : hGeo S b) (hbn : gI S 4 6 = nI b) (h : bt S S1 b src seat PL) (hk : k ≤ 3) : tr (wI S1 18 7 (nI k)) b src seat k PL [] := by
  obtain ⟨h1, h2, h3, h4⟩ := h
  refine ⟨geo_wI (h1.geo HG), ?_, ⟨rfl, hk, by simp, fun i hi => absurd hi (by simp), fun w hw => (by cases hw), fun j hj => ?_, h3⟩, h4⟩
  · show gI S1 4 6 = _
    rw [h1.nw, hbn]
  · obtain rfl : j = 0 := by simpa using hj
    exact h2
theorem src_ok {h : hH} {a b c e si : Nat} (H : hOk h a b c e) (hs : si < c) : ptOk (h.2.2.1.2.1 si, h.2.2.1.2.2.1 si) := by
  obtain ⟨⟨a1, a2⟩, ⟨a3, a4⟩, -⟩ := H.2.2.1.2.2 si hs
  have t1 : (1000 : Int32).toInt = 1000 := by decide
  have t0 : (0 : Int32).toInt = 0 := by decide
  simp only [t_le, t1, t0] at a1 a2 a3 a4
  exact ⟨⟨a1, a2⟩, a3, a4⟩
theorem seat_ok {h : hH} {a b c e ei : Nat} (H : hOk h a b c e) (hs : ei < e) : ptOk (h.2.2.2.1.2.1 ei, h.2.2.2.1.2.2 ei) := by
  obtain ⟨⟨a1, a2⟩, a3, a4⟩ := H.2.2.2.1.2.2 ei hs
  have t1 : (1000 : Int32).toInt = 1000 := by decide
  have t0 : (0 : Int32).toInt = 0 := by decide
  simp only [t_le, t1, t0] at a1 a2 a3 a4
  exact ⟨⟨a1, a2⟩, a3, a4⟩
theorem x_gt {x : Int32} {n m : Nat} (hx : x + 1 = nI n) (h1 : -1 ≤ x) (h2 : x ≤ 3) (hn : n ≤ 4) (hm : m ≤ 4) : x < nI m ↔ n ≤ m := by
  have e : x = nI n - 1 := by rw [← hx, Int32.add_sub_cancel]
  have t1 : (1 : Int32).toInt = 1 := by decide
  have en := nI_toInt (n := n) (by omega)
  have em := nI_toInt (n := m) (by omega)
  have ex : x.toInt = (n : Int) - 1 := by rw [e, i_sub (by omega) (by omega), en, t1]
  rw [t_lt, ex, em]
  omega
theorem qX7_try8 {G : fG} {d : Nat} {S : fS} {b k : Nat} {src seat : zP} {PL : List pTh} (hb : b ≤ 16) (hsq : ∀ l : List Nat, l.length ≤ 3 → (∀ w ∈ l, w < b) → sqD (gA S 5) src seat l < 1073741824) (T : tr S b src seat k PL []) (hcap : PL.length + (rowsX b k []).length ≤ 3857) : fCtr G (d + 8) mX7_tryRows [.ref 0, .int 0, .int (nI k)] S (fun z S' => z = none ∧ kp S S' ∧ tr S' b src seat k (PL ++ pthX (gA S 5) b src seat k []) []) := by
  have hk3 : k ≤ 3 := T.2.2.1.2.1
  have e9 : d + (3 - k) + k + 5 = d + 8 := by omega
  have := qX7_try (G := G) hb k (d := d + (3 - k)) hsq T (by simp) hcap
  rw [e9] at this
  exact this
theorem cum_le (n : Nat) : cumR n ≤ 3857 := by unfold cumR; split <;> omega
def iX7_find_16_2 : List Instr := [.iload 5, .iload 4]
theorem oX7_find_16_2 : fOkB cX7_find 16 iX7_find_16_2 = true := by decide +kernel
theorem bX7_find_20 : fBk cX7_find 20 (.if_icmp .gt) 45 := ⟨25, by decide +kernel, by decide⟩
theorem dX7_find_45 : decode cX7_find 45 = .ok (.return_, 1) := by decide +kernel
def iX7_find_23_7 : List Instr := [.aload_n 0, .getfield 42, .iload 5, .putfield 163, .aload_n 0, .iconst 0, .iload 5]
theorem oX7_find_23_7 : fOkB cX7_find 23 iX7_find_23_7 = true := by decide +kernel
theorem dX7_find_36 : decode cX7_find 36 = .ok (.invokevirtual 255, 3) := by decide +kernel
def iX7_find_39_2 : List Instr := [.iinc 5 1, .goto (-26)]
theorem oX7_find_39_2 : fOkB cX7_find 39 iX7_find_39_2 = true := by decide +kernel
set_option maxRecDepth 100000 in
theorem lpX7_find {G : fG} {d : Nat} {S : fS} {a b c e si ei : Nat} (H : hOk (hC S) a b c e) (HG : hGeo S b) (hsi : si < c) (hei : ei < e) {lo N : Nat} {x : Int32} (hlo : lo + N ≤ 4) (hx : x + 1 = nI (lo + N)) (hx1 : -1 ≤ x) (hx2 : x ≤ 3) : ∀ (j i : Nat) (S1 : fS), i + j = N → bt S S1 b (gA S 12 si, gA S 13 si) (gA S 15 ei, gA S 16 ei) (plR (gA S 5) b (gA S 12 si, gA S 13 si) (gA S 15 ei, gA S 16 ei) lo i) →
    fV G mX7_find (fZm G (d + 9) (fun z S' => z = none ∧ kp S S' ∧ fdOk S' (plR (gA S 5) b (gA S 12 si, gA S 13 si) (gA S 15 ei, gA S 16 ei) lo N))) 16 [(0, .ref 0), (1, .int (nI si)), (2, .int (nI ei)), (3, .int (nI lo)), (4, .int x), (5, .int (nI (lo + i)))] [] S1 := by
  have hb16 : b ≤ 16 := H.2.1.2.1
  have hc4 : c ≤ 4 := H.2.2.1.2.1
  have he8 : e ≤ 8 := H.2.2.2.1.2.1
  have hsq : ∀ l : List Nat, l.length ≤ 3 → (∀ w ∈ l, w < b) → sqD (gA S 5) (gA S 12 si, gA S 13 si) (gA S 15 ei, gA S 16 ei) l < 1073741824 := fun l h1 h2 => (sq_bd H (src_ok H hsi) (seat_ok H hei) h1 h2).1
  intro j
  induction j with
  | zero =>
    intro i S1 hi B
    refine fV.run iX7_find_16_2 oX7_find_16_2 (pc' := 20) (L' := [(0, .ref 0), (1, .int (nI si)), (2, .int (nI ei)), (3, .int (nI lo)), (4, .int x), (5, .int (nI (lo + i)))]) (st' := [.int x, .int (nI (lo + i))]) (S' := S1) rfl trivial ?_
    refine fV.icmp_gt bX7_find_20 (fun c20 => ?_) (fun c20 => ?_)
    · exact fV.vret rfl dX7_find_45 (by obtain rfl : i = N := (by omega); exact ⟨rfl, B.1, B.2.2.2⟩)
    · exact absurd c20 (fun z => z ((x_gt hx hx1 hx2 (by omega) (by omega)).mpr (by omega)))
  | succ j ih =>
    intro i S1 hi B
    refine fV.run iX7_find_16_2 oX7_find_16_2 (pc' := 20) (L' := [(0, .ref 0), (1, .int (nI si)), (2, .int (nI ei)), (3, .int (nI lo)), (4, .int x), (5, .int (nI (lo + i)))]) (st' := [.int x, .int (nI (lo + i))]) (S' := S1) rfl trivial ?_
    refine fV.icmp_gt bX7_find_20 (fun c20 => ?_) (fun c20 => ?_)
    · exact absurd c20 (fun z => by have := (x_gt hx hx1 hx2 (by omega) (by omega)).mp z; omega)
    · refine fV.run iX7_find_23_7 oX7_find_23_7 (pc' := 36) (L' := [(0, .ref 0), (1, .int (nI si)), (2, .int (nI ei)), (3, .int (nI lo)), (4, .int x), (5, .int (nI (lo + i)))]) (st' := [.int (nI (lo + i)), .int 0, .ref 0]) (S' := (wI S1 18 7 (nI (lo + i)))) rfl trivial ?_
      refine fV.callV (M2 := mX7_tryRows) (d := d + 8) (o := 0) (av := [.int 0, .int (nI (lo + i))]) (rest := []) kX7_tryRows dX7_find_36 lX7_255 rfl rfl rfl (Nat.le_of_ble_eq_true rfl) (fRoom (by decide)) ⟨Nat.le_refl _, Nat.le_refl _⟩ (qX7_try8 (k := lo + i) (S := (wI S1 18 7 (nI (lo + i)))) (PL := plR (gA S 5) b (gA S 12 si, gA S 13 si) (gA S 15 ei, gA S 16 ei) lo i) hb16 (by rw [show gA (wI S1 18 7 (nI (lo + i))) 5 = gA S 5 from B.1.en]; exact hsq) (bt_tr HG H.2.1.1 B (by omega)) (by have h7 := plR_len (en := gA S 5) (src := (gA S 12 si, gA S 13 si)) (seat := (gA S 15 ei, gA S 16 ei)) hb16 (lo := lo) i (by omega); have h8 := rows_0 hb16 (n := lo + i) (by omega); have h9 : cumR (lo + i + 1) ≤ 3857 := cum_le _; omega)) ?_
      rintro _ S9 ⟨rfl, hk9, ht9⟩
      have kp2 : kp S1 (wI S1 18 7 (nI (lo + i))) := ⟨rfl, rfl, rfl, rfl, rfl, rfl⟩
      have ht9b : fdOk S9 (plR (gA S 5) b (gA S 12 si, gA S 13 si) (gA S 15 ei, gA S 16 ei) lo (i + 1)) := by
        have h10 := ht9.2.2.2
        rw [show gA (wI S1 18 7 (nI (lo + i))) 5 = gA S 5 from B.1.en] at h10
        rw [plR_s]
        exact h10
      refine fV.to (pc' := 39) (L' := [(0, .ref 0), (1, .int (nI si)), (2, .int (nI ei)), (3, .int (nI lo)), (4, .int x), (5, .int (nI (lo + i)))]) (st' := []) (S' := S9) rfl rfl rfl rfl ?_
      refine fV.run iX7_find_39_2 oX7_find_39_2 (pc' := 16) (L' := [(0, .ref 0), (1, .int (nI si)), (2, .int (nI ei)), (3, .int (nI lo)), (4, .int x), (5, .int ((nI (lo + i)) + 1))]) (st' := []) (S' := S9) rfl trivial ?_
      refine fV.to (L' := [(0, .ref 0), (1, .int (nI si)), (2, .int (nI ei)), (3, .int (nI lo)), (4, .int x), (5, .int (nI (lo + (i + 1))))]) rfl (by rw [nI_1, show lo + i + 1 = lo + (i + 1) by omega]) rfl rfl (ih (i + 1) S9 (by omega) ⟨B.1.tr (kp2.tr hk9), ?_, ?_, ht9b⟩)
      · exact ht9.2.2.1.2.2.2.2.2.1 0 (by simp)
      · exact ht9.2.2.1.2.2.2.2.2.2
def iX7_find_0_2 : List Instr := [.aload_n 0, .getfield 49]
theorem oX7_find_0_2 : fOkB cX7_find 0 iX7_find_0_2 = true := by decide +kernel
set_option maxRecDepth 100000 in
theorem lX7_252 : Cond.methodLink RX7 252 yX1_clear ∈ fTB := fTB_at 426 rfl rfl
theorem dX7_find_4 : decode cX7_find 4 = .ok (.invokevirtual 252, 3) := by decide +kernel
def iX7_find_7_3 : List Instr := [.aload_n 0, .iload_n 1, .iload_n 2]
theorem oX7_find_7_3 : fOkB cX7_find 7 iX7_find_7_3 = true := by decide +kernel
set_option maxRecDepth 100000 in
theorem lX7_159 : Cond.methodLink RX7 159 yX7_startRoute ∈ fTB := fTB_at 430 rfl rfl
theorem dX7_find_10 : decode cX7_find 10 = .ok (.invokevirtual 159, 3) := by decide +kernel
def iX7_find_13_2 : List Instr := [.iload_n 3, .istore 5]
theorem oX7_find_13_2 : fOkB cX7_find 13 iX7_find_13_2 = true := by decide +kernel
set_option maxRecDepth 100000 in
theorem qX7_find {G : fG} {d : Nat} {S : fS} {a b c e si ei : Nat} (H : hOk (hC S) a b c e) (HG : hGeo S b) (hsi : si < c) (hei : ei < e) {lo N : Nat} {x : Int32} (hlo : lo + N ≤ 4) (hx : x + 1 = nI (lo + N)) (hx1 : -1 ≤ x) (hx2 : x ≤ 3)  : fCtr G (d + 9) mX7_find [.ref 0, .int (nI si), .int (nI ei), .int (nI lo), .int x] S (fun z S' => z = none ∧ kp S S' ∧ fdOk S' (plR (gA S 5) b (gA S 12 si, gA S 13 si) (gA S 15 ei, gA S 16 ei) lo N)) := by
  refine fCtr.of bXX7_find (Nat.le_of_ble_eq_true rfl) rfl ?_
  have hb16 : b ≤ 16 := H.2.1.2.1
  have hc4 : c ≤ 4 := H.2.2.1.2.1
  have he8 : e ≤ 8 := H.2.2.2.1.2.1
  have hsq : ∀ l : List Nat, l.length ≤ 3 → (∀ w ∈ l, w < b) → sqD (gA S 5) (gA S 12 si, gA S 13 si) (gA S 15 ei, gA S 16 ei) l < 1073741824 := fun l h1 h2 => (sq_bd H (src_ok H hsi) (seat_ok H hei) h1 h2).1
  refine fV.run iX7_find_0_2 oX7_find_0_2 (pc' := 4) (L' := [(0, .ref 0), (1, .int (nI si)), (2, .int (nI ei)), (3, .int (nI lo)), (4, .int x)]) (st' := [.ref 24]) (S' := S) rfl trivial ?_
  refine fV.callV (M2 := mX1_clear) (d := d + 8) (o := 24) (av := []) (rest := []) kX1_clear dX7_find_4 lX7_252 rfl rfl rfl (Nat.le_of_ble_eq_true rfl) (fRoom (by decide)) ⟨Nat.le_refl _, Nat.le_refl _⟩ (qX1_clear) ?_
  rintro _ S9 ⟨rfl, h9⟩
  rw [h9]
  clear h9 S9
  refine fV.to (pc' := 7) (L' := [(0, .ref 0), (1, .int (nI si)), (2, .int (nI ei)), (3, .int (nI lo)), (4, .int x)]) (st' := []) (S' := (wI (wI S 24 2 0) 24 3 (-1))) rfl rfl rfl rfl ?_
  refine fV.run iX7_find_7_3 oX7_find_7_3 (pc' := 10) (L' := [(0, .ref 0), (1, .int (nI si)), (2, .int (nI ei)), (3, .int (nI lo)), (4, .int x)]) (st' := [.int (nI ei), .int (nI si), .ref 0]) (S' := (wI (wI S 24 2 0) 24 3 (-1))) rfl trivial ?_
  refine fV.callV (M2 := mX7_startRoute) (d := d + 8) (o := 0) (av := [.int (nI si), .int (nI ei)]) (rest := []) kX7_startRoute dX7_find_10 lX7_159 rfl rfl rfl (Nat.le_of_ble_eq_true rfl) (fRoom (by decide)) ⟨Nat.le_refl _, Nat.le_refl _⟩ (qX7_start (S := (wI (wI S 24 2 0) 24 3 (-1))) (si := si) (ei := ei) (by omega) (by omega)) ?_
  rintro _ S9 ⟨rfl, h9⟩
  rw [h9]
  clear h9 S9
  refine fV.to (pc' := 13) (L' := [(0, .ref 0), (1, .int (nI si)), (2, .int (nI ei)), (3, .int (nI lo)), (4, .int x)]) (st' := []) (S' := (wI (wI (wA (wI (wI S 24 2 0) 24 3 (-1)) 20 (upd (upd (gA S 20) 0 (gA S 12 si)) 1 (gA S 13 si))) 18 5 (gA S 15 ei)) 18 6 (gA S 16 ei))) rfl rfl rfl rfl ?_
  refine fV.run iX7_find_13_2 oX7_find_13_2 (pc' := 16) (L' := [(0, .ref 0), (1, .int (nI si)), (2, .int (nI ei)), (3, .int (nI lo)), (4, .int x), (5, .int (nI lo))]) (st' := []) (S' := (wI (wI (wA (wI (wI S 24 2 0) 24 3 (-1)) 20 (upd (upd (gA S 20) 0 (gA S 12 si)) 1 (gA S 13 si))) 18 5 (gA S 15 ei)) 18 6 (gA S 16 ei))) rfl trivial ?_
  refine lpX7_find H HG hsi hei hlo hx hx1 hx2 N 0 _ (by omega) ⟨⟨rfl, rfl, rfl, rfl, rfl, rfl⟩, rfl, rfl, rfl, by simp [plR], rfl, fun i x hx => by simp [plR] at hx⟩

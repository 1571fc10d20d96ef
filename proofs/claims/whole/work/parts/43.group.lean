/-! the landed program: the paths grouped -/
def ixP (gr : pTh → Nat) (PL : List pTh) (g j : Nat) : Bool := match PL[j]? with
  | some x => Nat.beq (gr x) g
  | none => false
def ixB (gr : pTh → Nat) (PL : List pTh) (g j : Nat) : Bool := match PL[j]? with
  | some x => Nat.blt (gr x) g
  | none => false
def ixG (gr : pTh → Nat) (PL : List pTh) (g i : Nat) : List Nat := (List.range i).filter (ixP gr PL g)
theorem ixG_s (gr : pTh → Nat) (PL : List pTh) (g i : Nat) : ixG gr PL g (i + 1) = ixG gr PL g i ++ (if ixP gr PL g i = true then [i] else []) := by
  unfold ixG
  rw [List.range_succ, List.filter_append]
  congr 1
  by_cases h : ixP gr PL g i = true
  · rw [if_pos h]; simp [h]
  · rw [if_neg h]; simp [h]
theorem ixG_le (gr : pTh → Nat) (PL : List pTh) (g : Nat) {i j : Nat} (h : i ≤ j) : (ixG gr PL g i).length ≤ (ixG gr PL g j).length := ((List.range_sublist.mpr h).filter _).length_le
def ct (gr : pTh → Nat) (PL : List pTh) : Nat → List Nat
  | 0 => []
  | g + 1 => ct gr PL g ++ ixG gr PL g PL.length
theorem fl_add {p q r : Nat → Bool} (h : ∀ x, r x = (p x || q x)) (h2 : ∀ x, p x = true → q x = false) : ∀ l : List Nat, (l.filter r).length = (l.filter p).length + (l.filter q).length
  | [] => rfl
  | x :: l => by
    have ih := fl_add h h2 l
    rw [List.filter_cons, List.filter_cons, List.filter_cons, h x]
    cases hp : p x
    · cases hq : q x
      · simpa using ih
      · simp only [Bool.false_or, if_true, List.length_cons, Bool.false_eq_true, if_false]; omega
    · rw [h2 x hp]
      simp only [Bool.true_or, if_true, List.length_cons, Bool.false_eq_true, if_false]; omega
theorem ct_len (gr : pTh → Nat) (PL : List pTh) : ∀ g, (ct gr PL g).length = ((List.range PL.length).filter (ixB gr PL g)).length
  | 0 => by
    have : ∀ l : List Nat, l.filter (ixB gr PL 0) = [] := fun l => by
      rw [List.filter_eq_nil_iff]
      intro j _
      unfold ixB
      split
      · rw [Bool.not_eq_true]
        exact Bool.eq_false_iff.mpr (fun z => absurd (Nat.blt_eq.mp z) (by omega))
      · decide
    rw [this]; rfl
  | g + 1 => by
    show (ct gr PL g ++ ixG gr PL g PL.length).length = _
    rw [List.length_append, ct_len gr PL g]
    refine (fl_add (fun x => ?_) (fun x => ?_) _).symm
    · unfold ixB ixP
      split
      · rw [Bool.eq_iff_iff, Bool.or_eq_true, Nat.blt_eq, Nat.blt_eq, Nat.beq_eq]; omega
      · rfl
    · unfold ixB ixP
      split
      · rw [Nat.blt_eq, ← Bool.not_eq_true, Nat.beq_eq]; omega
      · intro z; exact absurd z (by decide)
theorem ct_le (gr : pTh → Nat) (PL : List pTh) (g : Nat) : (ct gr PL g).length ≤ PL.length := by
  rw [ct_len]
  have := List.length_filter_le (ixB gr PL g) (List.range PL.length)
  rwa [List.length_range] at this
theorem ct_ex (gr : pTh → Nat) (PL : List pTh) (g : Nat) : ∀ n, ∃ r, ct gr PL (g + n) = ct gr PL g ++ r
  | 0 => ⟨[], by simp⟩
  | n + 1 => by
    obtain ⟨r, hr⟩ := ct_ex gr PL g n
    exact ⟨r ++ ixG gr PL (g + n) PL.length, by rw [← Nat.add_assoc, ← List.append_assoc, ← hr]; rfl⟩
theorem fnL_l {l r : List Nat} {j : Nat} (h : j < l.length) : fnL (l ++ r) j = fnL l j := by
  unfold fnL
  rw [List.getD_eq_getElem?_getD, List.getD_eq_getElem?_getD, List.getElem?_append_left h]
theorem fnL_r {l r : List Nat} {j : Nat} : fnL (l ++ r) (l.length + j) = fnL r j := by
  unfold fnL
  rw [List.getD_eq_getElem?_getD, List.getD_eq_getElem?_getD, List.getElem?_append_right (by omega), Nat.add_sub_cancel_left]
theorem ix_at (gr : pTh → Nat) (PL : List pTh) (g : Nat) : ∀ i, i ≤ PL.length → (ixG gr PL g i).length = ((PL.take i).filter (fun x => Nat.beq (gr x) g)).length ∧ ∀ j x, ((PL.take i).filter (fun x => Nat.beq (gr x) g))[j]? = some x → PL[fnL (ixG gr PL g i) j]? = some x
  | 0, _ => ⟨rfl, fun j x h => by simp at h⟩
  | i + 1, hi => by
    obtain ⟨h1, h2⟩ := ix_at gr PL g i (by omega)
    obtain ⟨y, hy⟩ : ∃ y, PL[i]? = some y := ⟨_, List.getElem?_eq_getElem (by omega)⟩
    have hp : ixP gr PL g i = Nat.beq (gr y) g := by unfold ixP; rw [hy]
    rw [ixG_s, take_s hy, List.filter_append, hp]
    cases hq : Nat.beq (gr y) g
    · rw [if_neg (by decide), List.append_nil, show [y].filter (fun x => Nat.beq (gr x) g) = [] by simp [hq], List.append_nil]
      exact ⟨h1, h2⟩
    · rw [if_pos rfl, show [y].filter (fun x => Nat.beq (gr x) g) = [y] by simp [hq]]
      refine ⟨by rw [List.length_append, List.length_append, h1]; rfl, fun j x hj => ?_⟩
      by_cases e : j < (ixG gr PL g i).length
      · rw [List.getElem?_append_left (by omega)] at hj
        rw [fnL_l e]
        exact h2 j x hj
      · by_cases e2 : j = (ixG gr PL g i).length
        · rw [List.getElem?_append_right (by omega), e2, h1, Nat.sub_self] at hj
          rw [e2, fnL_last, hy]
          exact hj
        · rw [List.getElem?_append_right (by omega), List.getElem?_eq_none (by simp; omega)] at hj
          exact absurd hj (by simp)
theorem ix_all (gr : pTh → Nat) (PL : List pTh) (g : Nat) : (ixG gr PL g PL.length).length = (atG gr PL g).length ∧ ∀ j x, (atG gr PL g)[j]? = some x → PL[fnL (ixG gr PL g PL.length) j]? = some x := by
  have := ix_at gr PL g PL.length (Nat.le_refl _)
  rw [List.take_length] at this
  exact this
def kg (S S' : fS) : Prop := kf S S' ∧ (∀ k, gI S' 28 k = gI S 28 k) ∧ gA S' 29 = gA S 29 ∧ gA S' 30 = gA S 30
theorem kg.rf {S : fS} : kg S S := ⟨kf.rf, fun _ => rfl, rfl, rfl⟩
theorem kg.tr {S S1 S2 : fS} (h : kg S S1) (h2 : kg S1 S2) : kg S S2 := ⟨h.1.tr h2.1, fun k => (h2.2.1 k).trans (h.2.1 k), h2.2.2.1.trans h.2.2.1, h2.2.2.2.trans h.2.2.2⟩
theorem kg.cx {S S' : fS} (h : kg S S') {ws : List Nat} (c : cxW S ws) : cxW S' ws := ⟨by rw [h.2.1]; exact c.1, fun k hk => by rw [h.2.2.1]; exact c.2 k hk⟩
def gpI (S S1 : fS) (gr : pTh → Nat) (PL : List pTh) (g : Nat) (l : List Nat) : Prop := kg S S1 ∧ (∀ q, q < g → gA S1 32 q = nI (ct gr PL q).length) ∧ ∀ j, j < l.length → gA S1 31 j = nI (fnL l j)
theorem gpI_st {S S1 : fS} {gr : pTh → Nat} {PL : List pTh} {g : Nat} {l : List Nat} (h : gpI S S1 gr PL g l) : gpI S (wA S1 32 (upd (gA S1 32) g (nI (ct gr PL g).length))) gr PL (g + 1) l := by
  obtain ⟨h1, h2, h3⟩ := h
  refine ⟨h1.tr ⟨⟨⟨rfl, rfl, rfl, rfl, rfl, rfl⟩, rfl, rfl, rfl, rfl⟩, fun _ => rfl, rfl, rfl⟩, fun q hq => ?_, h3⟩
  show upd (gA S1 32) g (nI (ct gr PL g).length) q = _
  by_cases e : q = g
  · subst e; rw [upd_y]
  · rw [upd_n _ _ e]; exact h2 q (by omega)
theorem gpI_ad {S S1 : fS} {gr : pTh → Nat} {PL : List pTh} {g i : Nat} {l : List Nat} (h : gpI S S1 gr PL g l) : gpI S (wA S1 31 (upd (gA S1 31) l.length (nI i))) gr PL g (l ++ [i]) := by
  obtain ⟨h1, h2, h3⟩ := h
  refine ⟨h1.tr ⟨⟨⟨rfl, rfl, rfl, rfl, rfl, rfl⟩, rfl, rfl, rfl, rfl⟩, fun _ => rfl, rfl, rfl⟩, h2, fun j hj => ?_⟩
  show upd (gA S1 31) l.length (nI i) j = _
  rw [List.length_append] at hj
  have hj : j < l.length + 1 := hj
  by_cases e : j = l.length
  · subst e; rw [upd_y, fnL_last]
  · rw [upd_n _ _ e, fnL_app (by omega)]; exact h3 j (by omega)
/-- the paths stand in their groups -/
def gpd (S : fS) (gr : pTh → Nat) (PL : List pTh) : Prop := ∃ st : Nat → Nat, (∀ g, g < 6 → gA S 32 g = nI (st g) ∧ st g ≤ 3857) ∧ ∀ g, g < 5 → st (g + 1) = st g + (atG gr PL g).length ∧ ∀ j x, (atG gr PL g)[j]? = some x → ∃ i, gA S 31 (st g + j) = nI i ∧ PL[i]? = some x
theorem gpI_end {S S1 : fS} {gr : pTh → Nat} {PL : List pTh} (hl : PL.length ≤ 3857) (h : gpI S S1 gr PL 6 (ct gr PL 5)) : kg S S1 ∧ gpd S1 gr PL := by
  obtain ⟨h1, h2, h3⟩ := h
  refine ⟨h1, fun q => (ct gr PL q).length, fun g hg => ⟨h2 g hg, Nat.le_trans (ct_le gr PL g) hl⟩, fun g hg => ?_⟩
  obtain ⟨a1, a2⟩ := ix_all gr PL g
  refine ⟨?_, fun j x hj => ?_⟩
  · show (ct gr PL g ++ ixG gr PL g PL.length).length = _
    rw [List.length_append, a1]
  · have hjl : j < (ixG gr PL g PL.length).length := by
      rw [a1]
      exact (List.getElem?_eq_some_iff.mp hj).1
    refine ⟨fnL (ixG gr PL g PL.length) j, ?_, a2 j x hj⟩
    obtain ⟨r, hr⟩ := ct_ex gr PL (g + 1) (5 - (g + 1))
    rw [show g + 1 + (5 - (g + 1)) = 5 by omega] at hr
    have hr : ct gr PL 5 = ct gr PL g ++ ixG gr PL g PL.length ++ r := hr
    have e : fnL (ct gr PL 5) ((ct gr PL g).length + j) = fnL (ixG gr PL g PL.length) j := by
      rw [hr, List.append_assoc, fnL_r, fnL_l hjl]
    rw [← e]
    refine h3 _ ?_
    show (ct gr PL g).length + j < _
    rw [hr, List.length_append, List.length_append]
    omega
def iX0_group_19_3 : List Instr := [.iload 4, .aload_n 1, .getfield 57]
theorem oX0_group_19_3 : fOkB cX0_group 19 iX0_group_19_3 = true := by decide +kernel
theorem bX0_group_25 : fBk cX0_group 25 (.if_icmp .ge) 56 := ⟨31, by decide +kernel, by decide⟩
def iX0_group_28_3 : List Instr := [.aload_n 0, .aload_n 1, .iload 4]
theorem oX0_group_28_3 : fOkB cX0_group 28 iX0_group_28_3 = true := by decide +kernel
set_option maxRecDepth 100000 in
theorem lX0_62 : Cond.methodLink RX0 62 yX0_groupOf ∈ fTB := fTB_at 593 rfl rfl
theorem dX0_group_32 : decode cX0_group 32 = .ok (.invokevirtual 62, 3) := by decide +kernel
def iX0_group_35_1 : List Instr := [.iload_n 3]
theorem oX0_group_35_1 : fOkB cX0_group 35 iX0_group_35_1 = true := by decide +kernel
theorem bX0_group_36 : fBk cX0_group 36 (.if_icmp .ne) 50 := ⟨14, by decide +kernel, by decide⟩
def iX0_group_50_2 : List Instr := [.iinc 4 1, .goto (-34)]
theorem oX0_group_50_2 : fOkB cX0_group 50 iX0_group_50_2 = true := by decide +kernel
def iX0_group_39_8 : List Instr := [.aload_n 0, .getfield 18, .iload_n 2, .iload 4, .iastore, .iinc 2 1, .iinc 4 1, .goto (-34)]
theorem oX0_group_39_8 : fOkB cX0_group 39 iX0_group_39_8 = true := by decide +kernel
theorem nI_eqI {a b : Nat} (ha : a < 2 ^ 31) (hb : b < 2 ^ 31) : nI a = nI b ↔ a = b := by
  constructor
  · intro h
    have := congrArg Int32.toInt h
    rw [nI_toInt ha, nI_toInt hb] at this
    omega
  · intro h; rw [h]
set_option maxRecDepth 100000 in
theorem lpX0_gi {G : fG} {d : Nat} {S : fS} {g : Nat} {b : Nat} {PL : List pTh} {ws : List Nat} (hb : b ≤ 16) (F : fdOk S PL) (hp : plOk b PL) (hW : cxW S ws) (h4 : ws.length ≤ 4) (hg : g < 5) (kk : ∀ S2, gpI S S2 (gr3 ws) PL (g + 1) (ct (gr3 ws) PL g ++ ixG (gr3 ws) PL g PL.length) → fV G mX0_group (fZm G (d + 2) (fun r S' => r = none ∧ kg S S' ∧ gpd S' (gr3 ws) PL)) 56 [(0, .ref 28), (1, .ref 24), (2, .int (nI (ct (gr3 ws) PL g ++ ixG (gr3 ws) PL g PL.length).length)), (3, .int (nI g)), (4, .int (nI PL.length))] [] S2) : ∀ (u i : Nat) (S1 : fS), i + u = PL.length → gpI S S1 (gr3 ws) PL (g + 1) (ct (gr3 ws) PL g ++ ixG (gr3 ws) PL g i) → fV G mX0_group (fZm G (d + 2) (fun r S' => r = none ∧ kg S S' ∧ gpd S' (gr3 ws) PL)) 19 [(0, .ref 28), (1, .ref 24), (2, .int (nI (ct (gr3 ws) PL g ++ ixG (gr3 ws) PL g i).length)), (3, .int (nI g)), (4, .int (nI i))] [] S1 := by
  have hl : PL.length ≤ 3857 := F.2.1
  have hcl : ∀ i, i ≤ PL.length → (ct (gr3 ws) PL g ++ ixG (gr3 ws) PL g i).length ≤ 3857 := fun i hi => by
    have q1 := ixG_le (gr3 ws) PL g hi
    have q2 := ct_le (gr3 ws) PL (g + 1)
    have q3 : (ct (gr3 ws) PL (g + 1)).length = (ct (gr3 ws) PL g).length + (ixG (gr3 ws) PL g PL.length).length := List.length_append
    rw [List.length_append]; omega
  intro u
  induction u with
  | zero =>
    intro i S1 hu hI
    have hh : gI S1 24 2 = nI PL.length := hI.1.1.2.1.trans F.1
    refine fV.run iX0_group_19_3 oX0_group_19_3 (pc' := 25) (L' := [(0, .ref 28), (1, .ref 24), (2, .int (nI (ct (gr3 ws) PL g ++ ixG (gr3 ws) PL g i).length)), (3, .int (nI g)), (4, .int (nI i))]) (st' := [.int (gI S1 24 2), .int (nI i)]) (S' := S1) rfl trivial ?_
    refine fV.icmp_ge bX0_group_25 (fun c25 => ?_) (fun c25 => ?_)
    · obtain rfl : i = PL.length := by omega
      exact kk _ hI
    · exact absurd c25 (by rw [hh, nI_leI (by omega) (by omega)]; omega)
  | succ u ih =>
    intro i S1 hu hI
    have hh : gI S1 24 2 = nI PL.length := hI.1.1.2.1.trans F.1
    have hci := hcl i (by omega)
    obtain ⟨x, hx⟩ : ∃ x, PL[i]? = some x := ⟨_, List.getElem?_eq_getElem (by omega)⟩
    refine fV.run iX0_group_19_3 oX0_group_19_3 (pc' := 25) (L' := [(0, .ref 28), (1, .ref 24), (2, .int (nI (ct (gr3 ws) PL g ++ ixG (gr3 ws) PL g i).length)), (3, .int (nI g)), (4, .int (nI i))]) (st' := [.int (gI S1 24 2), .int (nI i)]) (S' := S1) rfl trivial ?_
    refine fV.icmp_ge bX0_group_25 (fun c25 => ?_) (fun c25 => ?_)
    · exact absurd c25 (by rw [hh, nI_leI (by omega) (by omega)]; omega)
    · refine fV.run iX0_group_28_3 oX0_group_28_3 (pc' := 32) (L' := [(0, .ref 28), (1, .ref 24), (2, .int (nI (ct (gr3 ws) PL g ++ ixG (gr3 ws) PL g i).length)), (3, .int (nI g)), (4, .int (nI i))]) (st' := [.int (nI i), .ref 24, .ref 28]) (S' := S1) rfl trivial ?_
      refine fV.callV (M2 := mX0_groupOf) (d := d + 1) (o := 28) (av := [.ref 24, .int (nI i)]) (rest := []) kX0_groupOf dX0_group_32 lX0_62 rfl rfl rfl (Nat.le_of_ble_eq_true rfl) (fRoom (by decide)) ⟨Nat.le_refl _, Nat.le_refl _⟩ (qX0_groupOf (S := S1) hb (hI.1.1.fd F) hp hx (hI.1.cx hW) h4) ?_
      rintro _ S9 ⟨rfl, h9⟩
      rw [h9]
      clear h9 S9
      have hgx := gr3_le ws x
      refine fV.to (pc' := 35) (L' := [(0, .ref 28), (1, .ref 24), (2, .int (nI (ct (gr3 ws) PL g ++ ixG (gr3 ws) PL g i).length)), (3, .int (nI g)), (4, .int (nI i))]) (st' := [.int (nI (gr3 ws x))]) (S' := S1) rfl rfl rfl rfl ?_
      refine fV.run iX0_group_35_1 oX0_group_35_1 (pc' := 36) (L' := [(0, .ref 28), (1, .ref 24), (2, .int (nI (ct (gr3 ws) PL g ++ ixG (gr3 ws) PL g i).length)), (3, .int (nI g)), (4, .int (nI i))]) (st' := [.int (nI g), .int (nI (gr3 ws x))]) (S' := S1) rfl trivial ?_
      refine fV.icmp_ne bX0_group_36 (fun c36 => ?_) (fun c36 => ?_)
      · refine fV.run iX0_group_50_2 oX0_group_50_2 (pc' := 19) (L' := [(0, .ref 28), (1, .ref 24), (2, .int (nI (ct (gr3 ws) PL g ++ ixG (gr3 ws) PL g i).length)), (3, .int (nI g)), (4, .int ((nI i) + 1))]) (st' := []) (S' := S1) rfl trivial ?_
        have hnn : ¬ ixP (gr3 ws) PL g i = true := by unfold ixP; rw [hx]; exact fun z => (by grind : ¬ nI (gr3 ws x) = nI g) (by rw [Nat.beq_eq.mp z])
        exact fV.to (L' := [(0, .ref 28), (1, .ref 24), (2, .int (nI (ct (gr3 ws) PL g ++ ixG (gr3 ws) PL g (i + 1)).length)), (3, .int (nI g)), (4, .int (nI (i + 1)))]) rfl (by rw [ixG_s, if_neg hnn, List.append_nil, nI_1]) rfl rfl (ih (i + 1) _ (by omega) (by rw [ixG_s, if_neg hnn, List.append_nil]; exact hI))
      · refine fV.run iX0_group_39_8 oX0_group_39_8 (pc' := 19) (L' := [(0, .ref 28), (1, .ref 24), (2, .int ((nI (ct (gr3 ws) PL g ++ ixG (gr3 ws) PL g i).length) + 1)), (3, .int (nI g)), (4, .int ((nI i) + 1))]) (st' := []) (S' := (wA S1 31 (upd (gA S1 31) (nI (ct (gr3 ws) PL g ++ ixG (gr3 ws) PL g i).length).toNatClampNeg (nI i)))) (P := vp_in (nI (ct (gr3 ws) PL g ++ ixG (gr3 ws) PL g i).length) 3857 ∧ True) rfl ⟨(by (have hyy : ixP (gr3 ws) PL g i = true := by unfold ixP; rw [hx]; exact Nat.beq_eq.mpr ((nI_eqI (by omega) (by omega)).mp (by grind))); (have q1 := ixG_le (gr3 ws) PL g (show i + 1 ≤ PL.length by omega)); rw [ixG_s, if_pos hyy, List.length_append] at q1; (have q2 := ct_le (gr3 ws) PL (g + 1)); (have q3 : (ct (gr3 ws) PL (g + 1)).length = (ct (gr3 ws) PL g).length + (ixG (gr3 ws) PL g PL.length).length := List.length_append); (have q4 : (ixG (gr3 ws) PL g i).length + 1 ≤ (ixG (gr3 ws) PL g PL.length).length := q1); exact vp_in_nI (by rw [List.length_append]; omega) (by decide)), trivial⟩ ?_
        have hyy : ixP (gr3 ws) PL g i = true := by unfold ixP; rw [hx]; exact Nat.beq_eq.mpr ((nI_eqI (by omega) (by omega)).mp (by grind))
        refine fV.to (L' := [(0, .ref 28), (1, .ref 24), (2, .int (nI (ct (gr3 ws) PL g ++ ixG (gr3 ws) PL g (i + 1)).length)), (3, .int (nI g)), (4, .int (nI (i + 1)))]) (S' := wA S1 31 (upd (gA S1 31) (ct (gr3 ws) PL g ++ ixG (gr3 ws) PL g i).length (nI i))) rfl (by rw [ixG_s, if_pos hyy, ← List.append_assoc, show ((ct (gr3 ws) PL g ++ ixG (gr3 ws) PL g i) ++ [i]).length = (ct (gr3 ws) PL g ++ ixG (gr3 ws) PL g i).length + 1 from List.length_append, nI_1, nI_1]) rfl (by rw [nI_clamp (by omega)]) (ih (i + 1) _ (by omega) (by rw [ixG_s, if_pos hyy, ← List.append_assoc]; exact gpI_ad hI))
def iX0_group_4_2 : List Instr := [.iload_n 3, .iconst 4]
theorem oX0_group_4_2 : fOkB cX0_group 4 iX0_group_4_2 = true := by decide +kernel
theorem bX0_group_6 : fBk cX0_group 6 (.if_icmp .gt) 62 := ⟨56, by decide +kernel, by decide⟩
def iX0_group_62_5 : List Instr := [.aload_n 0, .getfield 21, .iconst 5, .iload_n 2, .iastore]
theorem oX0_group_62_5 : fOkB cX0_group 62 iX0_group_62_5 = true := by decide +kernel
theorem dX0_group_69 : decode cX0_group 69 = .ok (.return_, 1) := by decide +kernel
def iX0_group_9_7 : List Instr := [.aload_n 0, .getfield 21, .iload_n 3, .iload_n 2, .iastore, .iconst 0, .istore 4]
theorem oX0_group_9_7 : fOkB cX0_group 9 iX0_group_9_7 = true := by decide +kernel
def iX0_group_56_2 : List Instr := [.iinc 3 1, .goto (-55)]
theorem oX0_group_56_2 : fOkB cX0_group 56 iX0_group_56_2 = true := by decide +kernel
set_option maxRecDepth 100000 in
theorem lpX0_go {G : fG} {d : Nat} {S : fS} {b : Nat} {PL : List pTh} {ws : List Nat} (hb : b ≤ 16) (F : fdOk S PL) (hp : plOk b PL) (hW : cxW S ws) (h4 : ws.length ≤ 4) : ∀ (u g : Nat) (S1 : fS), g + u = 5 → gpI S S1 (gr3 ws) PL g (ct (gr3 ws) PL g) → fV G mX0_group (fZm G (d + 2) (fun r S' => r = none ∧ kg S S' ∧ gpd S' (gr3 ws) PL)) 4 [(0, .ref 28), (1, .ref 24), (2, .int (nI (ct (gr3 ws) PL g).length)), (3, .int (nI g))] [] S1 := by
  have hl : PL.length ≤ 3857 := F.2.1
  intro u
  induction u with
  | zero =>
    intro g S1 hu hI
    refine fV.run iX0_group_4_2 oX0_group_4_2 (pc' := 6) (L' := [(0, .ref 28), (1, .ref 24), (2, .int (nI (ct (gr3 ws) PL g).length)), (3, .int (nI g))]) (st' := [.int 4, .int (nI g)]) (S' := S1) rfl trivial ?_
    refine fV.icmp_gt bX0_group_6 (fun c6 => ?_) (fun c6 => ?_)
    · refine fV.run iX0_group_62_5 oX0_group_62_5 (pc' := 69) (L' := [(0, .ref 28), (1, .ref 24), (2, .int (nI (ct (gr3 ws) PL g).length)), (3, .int (nI g))]) (st' := []) (S' := (wA S1 32 (upd (gA S1 32) (5 : Int32).toNatClampNeg (nI (ct (gr3 ws) PL g).length)))) (P := vp_in 5 6 ∧ True) rfl ⟨(by unfold vp_in; decide), trivial⟩ ?_
      exact fV.vret rfl dX0_group_69 ⟨rfl, gpI_end hl (by rw [show g = 5 by omega] at hI ⊢; exact gpI_st hI)⟩
    · exact absurd c6 (by rw [show (4 : Int32) = nI 4 from rfl, nI_ltI (by omega) (by omega)]; omega)
  | succ u ih =>
    intro g S1 hu hI
    refine fV.run iX0_group_4_2 oX0_group_4_2 (pc' := 6) (L' := [(0, .ref 28), (1, .ref 24), (2, .int (nI (ct (gr3 ws) PL g).length)), (3, .int (nI g))]) (st' := [.int 4, .int (nI g)]) (S' := S1) rfl trivial ?_
    refine fV.icmp_gt bX0_group_6 (fun c6 => ?_) (fun c6 => ?_)
    · exact absurd c6 (by rw [show (4 : Int32) = nI 4 from rfl, nI_ltI (by omega) (by omega)]; omega)
    · refine fV.run iX0_group_9_7 oX0_group_9_7 (pc' := 19) (L' := [(0, .ref 28), (1, .ref 24), (2, .int (nI (ct (gr3 ws) PL g).length)), (3, .int (nI g)), (4, .int 0)]) (st' := []) (S' := (wA S1 32 (upd (gA S1 32) (nI g).toNatClampNeg (nI (ct (gr3 ws) PL g).length)))) (P := vp_in (nI g) 6 ∧ True) rfl ⟨(vp_in_nI (by omega) (by decide)), trivial⟩ ?_
      refine fV.to (L' := [(0, .ref 28), (1, .ref 24), (2, .int (nI (ct (gr3 ws) PL g ++ ixG (gr3 ws) PL g 0).length)), (3, .int (nI g)), (4, .int (nI 0))]) (S' := wA S1 32 (upd (gA S1 32) g (nI (ct (gr3 ws) PL g).length))) rfl (by rw [show (ct (gr3 ws) PL g ++ ixG (gr3 ws) PL g 0) = ct (gr3 ws) PL g from List.append_nil _]; rfl) rfl (by rw [nI_clamp (by omega)]) ?_
      exact lpX0_gi hb F hp hW h4 (by omega) (fun S2 h2 => by
            refine fV.run iX0_group_56_2 oX0_group_56_2 (pc' := 4) (L' := [(0, .ref 28), (1, .ref 24), (2, .int (nI (ct (gr3 ws) PL g ++ ixG (gr3 ws) PL g PL.length).length)), (3, .int ((nI g) + 1)), (4, .int (nI PL.length))]) (st' := []) (S' := S2) rfl trivial ?_
            refine fV.pick (L' := [(0, .ref 28), (1, .ref 24), (2, .int (nI (ct (gr3 ws) PL g ++ ixG (gr3 ws) PL g PL.length).length)), (3, .int ((nI g) + 1))]) [0, 1, 2, 3] rfl ?_
            exact fV.to (L' := [(0, .ref 28), (1, .ref 24), (2, .int (nI (ct (gr3 ws) PL (g + 1)).length)), (3, .int (nI (g + 1)))]) rfl (by rw [nI_1]; rfl) rfl rfl (ih (g + 1) _ (by omega) h2)) PL.length 0 _ (by omega) (by rw [show (ct (gr3 ws) PL g ++ ixG (gr3 ws) PL g 0) = ct (gr3 ws) PL g from List.append_nil _]; exact gpI_st hI)
def iX0_group_0_4 : List Instr := [.iconst 0, .istore_n 2, .iconst 0, .istore_n 3]
theorem oX0_group_0_4 : fOkB cX0_group 0 iX0_group_0_4 = true := by decide +kernel
set_option maxRecDepth 100000 in
theorem qX0_group {G : fG} {d : Nat} {S : fS} {b : Nat} {PL : List pTh} {ws : List Nat} (hb : b ≤ 16) (F : fdOk S PL) (hp : plOk b PL) (hW : cxW S ws) (h4 : ws.length ≤ 4)  : fCtr G (d + 2) mX0_group [.ref 28, .ref 24] S (fun r S' => r = none ∧ kg S S' ∧ gpd S' (gr3 ws) PL) := by
  refine fCtr.of bXX0_group (Nat.le_of_ble_eq_true rfl) rfl ?_
  refine fV.run iX0_group_0_4 oX0_group_0_4 (pc' := 4) (L' := [(0, .ref 28), (1, .ref 24), (2, .int 0), (3, .int 0)]) (st' := []) (S' := S) rfl trivial ?_
  exact lpX0_go hb F hp hW h4 5 0 S (by omega) ⟨kg.rf, fun q hq => absurd hq (by omega), fun j hj => absurd hj (by simp [ct])⟩

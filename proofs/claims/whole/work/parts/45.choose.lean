/-! the landed program: the walls chosen -/
def e0 (f : Nat → Int64) : Nat → Int64
  | 0 => 0
  | g + 1 => f g
theorem qX7_hear {G : fG} {d : Nat} {S : fS} {st : Nat → Nat} {PL : List pTh} {gr : pTh → Nat} {b : Nat} : ∀ (g : Nat) (hb : b ≤ 16) (F : fdOk S PL) (hp : plOk b PL) (hq : plSq PL) (hsf : ∀ w, w < b → ∃ j, j < 8 ∧ gA S 30 w = nI j) (hg : g < 5) (h33 : ∀ q, q < 6 → gA S 32 q = nI (st q) ∧ st q ≤ 3857) (hst : st (g + 1) = st g + (atG gr PL g).length) (h32 : ∀ j x, (atG gr PL g)[j]? = some x → ∃ i, gA S 31 (st g + j) = nI i ∧ PL[i]? = some x), fCtr G (d + 3) mX7_hearGroup [.ref 0, .int (nI g)] S (fun r S' => r = none ∧ S' = wB (wB S 33 (vp_updL (gB S 33) g (e0 (gB S 33) g + smE (enF (gA S 2) (gA S 30) (gI S 28 8)) (erl (gI S 0 10) (leastF PL)) (atG gr PL g)))) 34 (vp_updL (gB S 34) g (e0 (gB S 34) g + smE (enF (gA S 2) (gA S 30) (gI S 28 8)) (fun x => !(erl (gI S 0 10) (leastF PL)) x) (atG gr PL g))))
  | 0, hb, F, hp, hq, hsf, hg, h33, hst, h32 => qX7_hg0 hb F hp hq hsf hg h33 hst h32
  | g + 1, hb, F, hp, hq, hsf, hg, h33, hst, h32 => qX7_hgs hb F hp hq hsf hg h33 hst h32
def clV (sh : Nat → Int32) (pw : Int32) (er : pTh → Bool) (PL : List pTh) (sf : Nat → Int32) : Int32 := clF (smE (enF sh sf pw) er PL) (smE (enF sh sf pw) (fun x => !er x) PL)
/-- what stands while walls are chosen -/
def cBF (S : fS) (a b c e : Nat) (PL : List pTh) (ws : List Nat) : Prop := hOk (hC S) a b c e ∧ hGeo S b ∧ fdOk S PL ∧ plOk b PL ∧ plSq PL ∧ cxW S ws ∧ gpd S (gr3 ws) PL ∧ ws.length ≤ 4 ∧ (∀ w ∈ ws, w < b) ∧ ws.Nodup
def cI (S0 S : fS) (b : Nat) (PL : List pTh) (ws pre : List Nat) (n : Nat) (o : sel) : Prop := kc S0 S ∧ (∀ w, w < b → w ∉ ws.drop pre.length → gA S 30 w = asg (gA S0 6) ws pre w) ∧ (∀ w, w < b → ∃ j, j < 8 ∧ gA S 30 w = nI j) ∧ (∀ g, g < n → gB S 33 g = upG (enF (gA S0 2) (asg (gA S0 6) ws pre) (gI S0 28 8)) (erl (gI S0 0 10) (leastF PL)) (gr3 ws) PL g ∧ gB S 34 g = upG (enF (gA S0 2) (asg (gA S0 6) ws pre) (gI S0 28 8)) (fun x => !erl (gI S0 0 10) (leastF PL) x) (gr3 ws) PL g) ∧ selR S o
theorem mem_drp {ws : List Nat} {w n : Nat} (h : w ∈ ws.drop n) : ∃ k, n ≤ k ∧ k < ws.length ∧ fnL ws k = w := by
  obtain ⟨i, hi, e⟩ := List.mem_iff_getElem.mp h
  rw [List.length_drop] at hi
  rw [List.getElem_drop] at e
  refine ⟨n + i, by omega, by omega, ?_⟩
  have := fnL_get (l := ws) (j := n + i) (by omega)
  rw [List.getElem?_eq_getElem (by omega), e] at this
  exact (Option.some.inj this).symm
theorem drp_s {ws : List Nat} {n : Nat} (h : n < ws.length) : ws.drop n = fnL ws n :: ws.drop (n + 1) := by
  rw [List.drop_eq_getElem_cons h]
  congr 1
  have := fnL_get h
  rw [List.getElem?_eq_getElem h] at this
  exact Option.some.inj this
theorem cI_hear {S0 S : fS} {a b c e : Nat} {PL : List pTh} {ws pre : List Nat} {o : sel} (B : cBF S0 a b c e PL ws) (I : cI S0 S b PL ws pre pre.length o) (hl : pre.length ≤ ws.length) : cI S0 (wB (wB S 33 (vp_updL (gB S 33) pre.length (e0 (gB S 33) pre.length + smE (enF (gA S 2) (gA S 30) (gI S 28 8)) (erl (gI S 0 10) (leastF PL)) (atG (gr3 ws) PL pre.length)))) 34 (vp_updL (gB S 34) pre.length (e0 (gB S 34) pre.length + smE (enF (gA S 2) (gA S 30) (gI S 28 8)) (fun x => !(erl (gI S 0 10) (leastF PL)) x) (atG (gr3 ws) PL pre.length)))) b PL ws pre (pre.length + 1) o := by
  obtain ⟨i1, i2, i3, i4, i5⟩ := I
  obtain ⟨b1, b2, b3, b4, b5, b6, b7, b8, b9, b10⟩ := B
  refine ⟨i1.tr ⟨⟨⟨rfl, rfl, rfl, rfl, rfl, rfl⟩, rfl, rfl, rfl, rfl⟩, ⟨rfl, rfl, rfl⟩, rfl, rfl, rfl⟩, i2, i3, ?_, i5⟩
  have e2 : gA S 2 = gA S0 2 := congrArg (fun q => q.1.2.1) i1.1.1.1
  have e8 : gI S 28 8 = gI S0 28 8 := i1.2.1.2.2
  have ebo : gI S 0 10 = gI S0 0 10 := congrArg (fun q => q.2.2.2.2.2) i1.1.1.1
  have key : ∀ p : pTh → Bool, smE (enF (gA S 2) (gA S 30) (gI S 28 8)) p (atG (gr3 ws) PL pre.length) = smE (enF (gA S0 2) (asg (gA S0 6) ws pre) (gI S0 28 8)) p (atG (gr3 ws) PL pre.length) := fun p => by
    refine smE_congr (fun x _ => rfl) (fun x hx _ => ?_)
    obtain ⟨hx1, hx2⟩ := List.mem_filter.mp hx
    have hx2 := Nat.beq_eq.mp hx2
    rw [e2, e8]
    refine enF_congr (fun w hw => i2 w ((b4 x hx1).2 w hw) (fun z => ?_))
    obtain ⟨k, k1, k2, k3⟩ := mem_drp z
    exact gr3_no (b4 x hx1).1 (show gr3 ws x ≤ k by omega) k2 (by rw [k3]; exact hw)
  intro g hg
  show vp_updL (gB S 33) pre.length _ g = _ ∧ vp_updL (gB S 34) pre.length _ g = _
  unfold vp_updL
  by_cases eg : g = pre.length
  · rw [if_pos eg, if_pos eg, key, key, ebo, eg]
    rcases Nat.eq_zero_or_eq_succ_pred pre.length with z | z
    · rw [z, upG_0, upG_0]
      exact ⟨rfl, rfl⟩
    · obtain ⟨q1, q2⟩ := i4 (pre.length - 1) (by omega)
      rw [show pre.length = (pre.length - 1) + 1 by omega, upG_s, upG_s, ← q1, ← q2]
      exact ⟨rfl, rfl⟩
  · rw [if_neg eg, if_neg eg]
    exact i4 g (by omega)
theorem cI_eq {S0 : fS} {a b c e : Nat} {PL : List pTh} {ws pre : List Nat} {f : Nat} (B : cBF S0 a b c e PL ws) (hl : pre.length < ws.length) {p : pTh → Bool} {g : Nat} (hg : g ≤ pre.length) : upG (enF (gA S0 2) (asg (gA S0 6) ws (pre ++ [f])) (gI S0 28 8)) p (gr3 ws) PL g = upG (enF (gA S0 2) (asg (gA S0 6) ws pre) (gI S0 28 8)) p (gr3 ws) PL g := by
  obtain ⟨b1, b2, b3, b4, b5, b6, b7, b8, b9, b10⟩ := B
  refine upG_congr (fun x hx hr => enF_congr (fun w hw => ?_))
  rw [asg_app hl, upd_n]
  intro z
  exact gr3_no (b4 x hx).1 (show gr3 ws x ≤ pre.length by omega) hl (by rw [← z]; exact hw)
theorem cI_in {S0 S : fS} {a b c e : Nat} {PL : List pTh} {ws pre : List Nat} {o : sel} {f i : Nat} (B : cBF S0 a b c e PL ws) (I : cI S0 S b PL ws pre (pre.length + 1) o) (hl : pre.length < ws.length) (hf : f < 8) (hi : i = fnL ws pre.length) : cI S0 (wA S 30 (upd (gA S 30) i (nI f))) b PL ws (pre ++ [f]) (pre ++ [f]).length o := by
  subst hi
  obtain ⟨i1, i2, i3, i4, i5⟩ := I
  refine ⟨i1.tr ⟨⟨⟨rfl, rfl, rfl, rfl, rfl, rfl⟩, rfl, rfl, rfl, rfl⟩, ⟨rfl, rfl, rfl⟩, rfl, rfl, rfl⟩, fun w hw hd => ?_, upd_lt i3 hf, fun g hg => ?_, i5⟩
  · show upd (gA S 30) (fnL ws pre.length) (nI f) w = _
    rw [asg_app hl]
    by_cases ew : w = fnL ws pre.length
    · rw [ew, upd_y, upd_y]
    · rw [upd_n _ _ ew, upd_n _ _ ew]
      refine i2 w hw (fun z => ?_)
      rw [drp_s hl] at z
      rcases List.mem_cons.mp z with q | q
      · exact ew q
      · exact hd (by rw [List.length_append]; exact q)
  · rw [List.length_append] at hg
    have hg : g < pre.length + 1 := hg
    rw [cI_eq B hl (by omega), cI_eq B hl (by omega)]
    exact i4 g hg
theorem cI_out {S0 S : fS} {a b c e : Nat} {PL : List pTh} {ws pre : List Nat} {o : sel} {f : Nat} (B : cBF S0 a b c e PL ws) (hl : pre.length < ws.length) (I : cI S0 S b PL ws (pre ++ [f]) (pre ++ [f]).length o) : cI S0 S b PL ws pre (pre.length + 1) o := by
  obtain ⟨i1, i2, i3, i4, i5⟩ := I
  have hL : (pre ++ [f]).length = pre.length + 1 := List.length_append
  rw [hL] at i2 i4
  refine ⟨i1, fun w hw hd => ?_, i3, fun g hg => ?_, i5⟩
  · rw [drp_s hl] at hd
    rw [i2 w hw (fun z => hd (List.mem_cons_of_mem _ z)), asg_app hl, upd_n]
    exact fun z => hd (by rw [z]; exact List.mem_cons_self)
  · have := i4 g hg
    rw [cI_eq B hl (by omega), cI_eq B hl (by omega)] at this
    exact this
theorem cI_dn {S0 S : fS} {b : Nat} {PL : List pTh} {ws pre : List Nat} {n m : Nat} {o : sel} (I : cI S0 S b PL ws pre n o) (h : m ≤ n) : cI S0 S b PL ws pre m o := ⟨I.1, I.2.1, I.2.2.1, fun g hg => I.2.2.2.1 g (by omega), I.2.2.2.2⟩
theorem cI_kw {S0 S S' : fS} {b : Nat} {PL : List pTh} {ws pre : List Nat} {n : Nat} {o o' : sel} (I : cI S0 S b PL ws pre n o) (k : kw S S') (hs : selR S' o') : cI S0 S' b PL ws pre n o' := by
  obtain ⟨i1, i2, i3, i4, i5⟩ := I
  obtain ⟨k1, k2, k3, k4⟩ := k
  refine ⟨i1.tr k1, ?_, ?_, ?_, hs⟩
  · rw [k2]; exact i2
  · rw [k2]; exact i3
  · rw [k3, k4]; exact i4
theorem cI_cl {S0 S : fS} {a b c e : Nat} {PL : List pTh} {ws pre : List Nat} {o : sel} (B : cBF S0 a b c e PL ws) (I : cI S0 S b PL ws pre (pre.length + 1) o) (hl : pre.length = ws.length) : clF (gB S 33 pre.length) (gB S 34 pre.length) = clV (gA S0 2) (gI S0 28 8) (erl (gI S0 0 10) (leastF PL)) PL (asg (gA S0 6) ws pre) := by
  obtain ⟨q1, q2⟩ := I.2.2.2.1 pre.length (by omega)
  rw [q1, q2, upG_all (fun x _ => by rw [hl]; exact gr3_le ws x), upG_all (fun x _ => by rw [hl]; exact gr3_le ws x)]
  rfl
def iX7_choose_0_2 : List Instr := [.aload_n 0, .iload_n 1]
theorem oX7_choose_0_2 : fOkB cX7_choose 0 iX7_choose_0_2 = true := by decide +kernel
set_option maxRecDepth 100000 in
theorem lX7_272 : Cond.methodLink RX7 272 yX7_hearGroup ∈ fTB := fTB_at 602 rfl rfl
theorem dX7_choose_2 : decode cX7_choose 2 = .ok (.invokevirtual 272, 3) := by decide +kernel
def iX7_choose_5_4 : List Instr := [.iload_n 1, .aload_n 0, .getfield 63, .getfield 275]
theorem oX7_choose_5_4 : fOkB cX7_choose 5 iX7_choose_5_4 = true := by decide +kernel
theorem bX7_choose_13 : fBk cX7_choose 13 (.if_icmp .ge) 21 := ⟨8, by decide +kernel, by decide⟩
def iX7_choose_21_12 : List Instr := [.aload_n 0, .getfield 63, .aload_n 0, .getfield 63, .getfield 278, .iload_n 1, .laload, .aload_n 0, .getfield 63, .getfield 280, .iload_n 1, .laload]
theorem oX7_choose_21_12 : fOkB cX7_choose 21 iX7_choose_21_12 = true := by decide +kernel
theorem dX7_choose_43 : decode cX7_choose 43 = .ok (.invokestatic 186, 3) := by decide +kernel
def iX7_choose_46_1 : List Instr := [.iload_n 2]
theorem oX7_choose_46_1 : fOkB cX7_choose 46 iX7_choose_46_1 = true := by decide +kernel
set_option maxRecDepth 100000 in
theorem lX7_282 : Cond.methodLink RX7 282 yX0_weigh ∈ fTB := fTB_at 606 rfl rfl
theorem dX7_choose_47 : decode cX7_choose 47 = .ok (.invokevirtual 282, 3) := by decide +kernel
theorem dX7_choose_50 : decode cX7_choose 50 = .ok (.return_, 1) := by decide +kernel
set_option maxRecDepth 100000 in
theorem qX7_ch0 {G : fG} {d : Nat} {S0 S : fS} {a b c e : Nat} {PL : List pTh} {ws pre : List Nat} {o : sel} (B : cBF S0 a b c e PL ws) (I : cI S0 S b PL ws pre pre.length o) (hr : pre.length = ws.length) (hf : ∀ f ∈ pre, f < a) (hc : cst (hC S0) ws pre ≤ gI S0 28 7) : fCtr G (d + 4) mX7_choose [.ref 0, .int (nI pre.length), .int (cst (hC S0) ws pre)] S (fun z S' => z = none ∧ cI S0 S' b PL ws pre pre.length (chs (clV (gA S0 2) (gI S0 28 8) (erl (gI S0 0 10) (leastF PL)) PL) (hC S0) ws (gI S0 28 7) a 0 pre o)) := by
  refine fCtr.of bXX7_choose (Nat.le_of_ble_eq_true rfl) rfl ?_
  have hb16 : b ≤ 16 := B.1.2.1.2.1
  have ha8 : a ≤ 8 := B.1.1.2.2.1
  have hw4 : ws.length ≤ 4 := B.2.2.2.2.2.2.2.1
  obtain ⟨st, h33, hgp⟩ := I.1.gp B.2.2.2.2.2.2.1
  refine fV.run iX7_choose_0_2 oX7_choose_0_2 (pc' := 2) (L' := [(0, .ref 0), (1, .int (nI pre.length)), (2, .int (cst (hC S0) ws pre))]) (st' := [.int (nI pre.length), .ref 0]) (S' := S) rfl trivial ?_
  refine fV.callV (M2 := mX7_hearGroup) (d := d + 3) (o := 0) (av := [.int (nI pre.length)]) (rest := []) kX7_hearGroup dX7_choose_2 lX7_272 rfl rfl rfl (Nat.le_of_ble_eq_true rfl) (fRoom (by decide)) ⟨Nat.le_refl _, Nat.le_refl _⟩ (qX7_hear (gr := gr3 ws) pre.length hb16 (I.1.1.fd B.2.2.1) B.2.2.2.1 B.2.2.2.2.1 I.2.2.1 (by omega) h33 (hgp pre.length (by omega)).1 (hgp pre.length (by omega)).2) ?_
  rintro _ S1 ⟨rfl, h9⟩
  have J : cI S0 S1 b PL ws pre (pre.length + 1) o := by
    rw [h9]
    exact cI_hear B I (by omega)
  clear h9
  have h6 : gI S1 28 6 = nI ws.length := (J.1.cx B.2.2.2.2.2.1).1
  refine fV.to (pc' := 5) (L' := [(0, .ref 0), (1, .int (nI pre.length)), (2, .int (cst (hC S0) ws pre))]) (st' := []) (S' := S1) rfl rfl rfl rfl ?_
  refine fV.run iX7_choose_5_4 oX7_choose_5_4 (pc' := 13) (L' := [(0, .ref 0), (1, .int (nI pre.length)), (2, .int (cst (hC S0) ws pre))]) (st' := [.int (gI S1 28 6), .int (nI pre.length)]) (S' := S1) rfl trivial ?_
  refine fV.icmp_ge bX7_choose_13 (fun c13 => ?_) (fun c13 => ?_)
  · refine fV.run iX7_choose_21_12 oX7_choose_21_12 (pc' := 43) (L' := [(0, .ref 0), (1, .int (nI pre.length)), (2, .int (cst (hC S0) ws pre))]) (st' := [.long (gB S1 34 (nI pre.length).toNatClampNeg), .long (gB S1 33 (nI pre.length).toNatClampNeg), .ref 28]) (S' := S1) (P := vp_in (nI pre.length) 5 ∧ vp_in (nI pre.length) 5 ∧ True) rfl ⟨(vp_in_nI (by omega) (by decide)), (vp_in_nI (by omega) (by decide)), trivial⟩ ?_
    refine fV.callS (M2 := mX7_clarityOf) (d := d + 3) (av := [.long (gB S1 33 (nI pre.length).toNatClampNeg), .long (gB S1 34 (nI pre.length).toNatClampNeg)]) (rest := [.ref 28]) kX7_clarityOf dX7_choose_43 lX7_186 rfl rfl (Nat.le_of_ble_eq_true rfl) (fRoom (by decide)) ⟨Nat.le_refl _, Nat.le_refl _⟩ (qX7_cl _ _) ?_
    rintro _ S9 ⟨rfl, h9⟩
    rw [h9]
    clear h9 S9
    refine fV.to (pc' := 46) (L' := [(0, .ref 0), (1, .int (nI pre.length)), (2, .int (cst (hC S0) ws pre))]) (st' := [.int (clF (gB S1 33 (nI pre.length).toNatClampNeg) (gB S1 34 (nI pre.length).toNatClampNeg)), .ref 28]) (S' := S1) rfl rfl rfl rfl ?_
    refine fV.run iX7_choose_46_1 oX7_choose_46_1 (pc' := 47) (L' := [(0, .ref 0), (1, .int (nI pre.length)), (2, .int (cst (hC S0) ws pre))]) (st' := [.int (cst (hC S0) ws pre), .int (clF (gB S1 33 (nI pre.length).toNatClampNeg) (gB S1 34 (nI pre.length).toNatClampNeg)), .ref 28]) (S' := S1) rfl trivial ?_
    refine fV.callV (M2 := mX0_weigh) (d := d + 3) (o := 28) (av := [.int (clF (gB S1 33 (nI pre.length).toNatClampNeg) (gB S1 34 (nI pre.length).toNatClampNeg)), .int (cst (hC S0) ws pre)]) (rest := []) kX0_weigh dX7_choose_47 lX7_282 rfl rfl rfl (Nat.le_of_ble_eq_true rfl) (fRoom (by decide)) ⟨Nat.le_refl _, Nat.le_refl _⟩ (qX0_weigh (ws := ws) (fs := pre) (o := o) (J.1.cx B.2.2.2.2.2.1) hw4 hr (fun w hw => by have := B.2.2.2.2.2.2.2.2.1 w hw; omega) (fun j hj => by rw [J.2.1 _ (B.2.2.2.2.2.2.2.2.1 _ (fnL_mem hj)) (by rw [hr, List.drop_length]; simp)]; exact asg_at B.2.2.2.2.2.2.2.2.2 (by omega) hj) J.2.2.2.2) ?_
    rintro _ S2 ⟨rfl, hk2, hs2⟩
    refine fV.to (pc' := 50) (L' := [(0, .ref 0), (1, .int (nI pre.length)), (2, .int (cst (hC S0) ws pre))]) (st' := []) (S' := S2) rfl rfl rfl rfl ?_
    exact fV.vret rfl dX7_choose_50 ⟨rfl, cI_dn (cI_kw J hk2 (by rw [nI_clamp (by omega), cI_cl B J hr] at hs2; rw [show chs (clV (gA S0 2) (gI S0 28 8) (erl (gI S0 0 10) (leastF PL)) PL) (hC S0) ws (gI S0 28 7) a 0 pre o = bsp (clV (gA S0 2) (gI S0 28 8) (erl (gI S0 0 10) (leastF PL)) PL) (hC S0) ws (gI S0 28 7) o pre from rfl]; unfold bsp; rw [if_pos hc]; exact hs2)) (by omega)⟩
  · exact absurd c13 (fun z => z (by rw [h6, nI_leI (by omega) (by omega)]; omega))
def iX7_choose_64_4 : List Instr := [.iload 4, .aload_n 0, .getfield 10, .getfield 113]
theorem oX7_choose_64_4 : fOkB cX7_choose 64 iX7_choose_64_4 = true := by decide +kernel
theorem bX7_choose_73 : fBk cX7_choose 73 (.if_icmp .ge) 140 := ⟨67, by decide +kernel, by decide⟩
theorem dX7_choose_140 : decode cX7_choose 140 = .ok (.return_, 1) := by decide +kernel
def iX7_choose_76_9 : List Instr := [.iload_n 2, .aload_n 0, .getfield 10, .getfield 287, .iload 4, .iaload, .aload_n 0, .getfield 19, .iload_n 3]
theorem oX7_choose_76_9 : fOkB cX7_choose 76 iX7_choose_76_9 = true := by decide +kernel
theorem dX7_choose_92 : decode cX7_choose 92 = .ok (.invokevirtual 106, 3) := by decide +kernel
def iX7_choose_95_5 : List Instr := [.imul, .bipush 100, .idiv, .iadd, .istore 5]
theorem oX7_choose_95_5 : fOkB cX7_choose 95 iX7_choose_95_5 = true := by decide +kernel
def iX7_choose_102_4 : List Instr := [.iload 5, .aload_n 0, .getfield 63, .getfield 290]
theorem oX7_choose_102_4 : fOkB cX7_choose 102 iX7_choose_102_4 = true := by decide +kernel
theorem bX7_choose_111 : fBk cX7_choose 111 (.if_icmp .gt) 134 := ⟨23, by decide +kernel, by decide⟩
def iX7_choose_134_2 : List Instr := [.iinc 4 1, .goto (-73)]
theorem oX7_choose_134_2 : fOkB cX7_choose 134 iX7_choose_134_2 = true := by decide +kernel
def iX7_choose_114_10 : List Instr := [.aload_n 0, .getfield 63, .getfield 293, .iload_n 3, .iload 4, .iastore, .aload_n 0, .iload_n 1, .iconst 1, .iadd]
theorem oX7_choose_114_10 : fOkB cX7_choose 114 iX7_choose_114_10 = true := by decide +kernel
def iX7_choose_129_1 : List Instr := [.iload 5]
theorem oX7_choose_129_1 : fOkB cX7_choose 129 iX7_choose_129_1 = true := by decide +kernel
set_option maxRecDepth 100000 in
theorem lX7_216 : Cond.methodLink RX7 216 yX7_choose ∈ fTB := fTB_at 598 rfl rfl
theorem dX7_choose_131 : decode cX7_choose 131 = .ok (.invokevirtual 216, 3) := by decide +kernel
set_option maxRecDepth 100000 in
theorem lpX7_ch {G : fG} {d r : Nat} {S0 : fS} {a b c e : Nat} {PL : List pTh} {ws pre : List Nat} {o : sel} (B : cBF S0 a b c e PL ws) (hr : pre.length + (r + 1) = ws.length) (hf : ∀ f ∈ pre, f < a) (hc : cst (hC S0) ws pre ≤ gI S0 28 7) (IH : ∀ {d : Nat} {S : fS} {pre : List Nat} {o : sel}, cI S0 S b PL ws pre pre.length o → pre.length + r = ws.length → (∀ f ∈ pre, f < a) → cst (hC S0) ws pre ≤ gI S0 28 7 → fCtr G (d + r + 4) mX7_choose [.ref 0, .int (nI pre.length), .int (cst (hC S0) ws pre)] S (fun z S' => z = none ∧ cI S0 S' b PL ws pre pre.length (chs (clV (gA S0 2) (gI S0 28 8) (erl (gI S0 0 10) (leastF PL)) PL) (hC S0) ws (gI S0 28 7) a r pre o))) : ∀ (u f : Nat) (S1 : fS), f + u = a → cI S0 S1 b PL ws pre (pre.length + 1) ((List.range f).foldl (fun o f => chs (clV (gA S0 2) (gI S0 28 8) (erl (gI S0 0 10) (leastF PL)) PL) (hC S0) ws (gI S0 28 7) a r (pre ++ [f]) o) o) → fV G mX7_choose (fZm G (d + (r + 1) + 4) (fun z S' => z = none ∧ cI S0 S' b PL ws pre pre.length (chs (clV (gA S0 2) (gI S0 28 8) (erl (gI S0 0 10) (leastF PL)) PL) (hC S0) ws (gI S0 28 7) a (r + 1) pre o))) 64 [(0, .ref 0), (1, .int (nI pre.length)), (2, .int (cst (hC S0) ws pre)), (3, .int (nI (fnL ws pre.length))), (4, .int (nI f))] [] S1 := by
  have hb16 : b ≤ 16 := B.1.2.1.2.1
  have ha8 : a ≤ 8 := B.1.1.2.2.1
  have hw4 : ws.length ≤ 4 := B.2.2.2.2.2.2.2.1
  have hlt : pre.length < ws.length := by omega
  have hwl : (fnL ws pre.length) < b := B.2.2.2.2.2.2.2.2.1 _ (fnL_mem hlt)
  intro u
  induction u with
  | zero =>
    intro f S1 hu J
    have ha : gI S1 1 2 = nI a := (congrArg (fun q => q.1.1) J.1.1.1.1).trans B.1.1.1
    refine fV.run iX7_choose_64_4 oX7_choose_64_4 (pc' := 73) (L' := [(0, .ref 0), (1, .int (nI pre.length)), (2, .int (cst (hC S0) ws pre)), (3, .int (nI (fnL ws pre.length))), (4, .int (nI f))]) (st' := [.int (gI S1 1 2), .int (nI f)]) (S' := S1) rfl trivial ?_
    refine fV.icmp_ge bX7_choose_73 (fun c73 => ?_) (fun c73 => ?_)
    · exact fV.vret rfl dX7_choose_140 ⟨rfl, by obtain rfl : f = a := (by omega); exact cI_dn J (by omega)⟩
    · exact absurd c73 (by rw [ha, nI_leI (by omega) (by omega)]; omega)
  | succ u ih =>
    intro f S1 hu J
    have ha : gI S1 1 2 = nI a := (congrArg (fun q => q.1.1) J.1.1.1.1).trans B.1.1.1
    have h7 : gI S1 28 7 = gI S0 28 7 := J.1.2.1.2.1
    have e3 : gA S1 3 = (hC S0).1.2.2 := congrArg (fun q => q.1.2.2) J.1.1.1.1
    have e5 : gA S1 5 = (hC S0).2.1.2.1 := congrArg (fun q => q.2.1.2.1) J.1.1.1.1
    refine fV.run iX7_choose_64_4 oX7_choose_64_4 (pc' := 73) (L' := [(0, .ref 0), (1, .int (nI pre.length)), (2, .int (cst (hC S0) ws pre)), (3, .int (nI (fnL ws pre.length))), (4, .int (nI f))]) (st' := [.int (gI S1 1 2), .int (nI f)]) (S' := S1) rfl trivial ?_
    refine fV.icmp_ge bX7_choose_73 (fun c73 => ?_) (fun c73 => ?_)
    · exact absurd c73 (by rw [ha, nI_leI (by omega) (by omega)]; omega)
    · refine fV.run iX7_choose_76_9 oX7_choose_76_9 (pc' := 92) (L' := [(0, .ref 0), (1, .int (nI pre.length)), (2, .int (cst (hC S0) ws pre)), (3, .int (nI (fnL ws pre.length))), (4, .int (nI f))]) (st' := [.int (nI (fnL ws pre.length)), .ref 4, .int (gA S1 3 (nI f).toNatClampNeg), .int (cst (hC S0) ws pre)]) (S' := S1) (P := vp_in (nI f) 8 ∧ True) rfl ⟨(vp_in_nI (by omega) (by decide)), trivial⟩ ?_
      refine fV.callV (M2 := mX6_lengthOf) (d := d + (r + 1) + 3) (o := 4) (av := [.int (nI (fnL ws pre.length))]) (rest := [.int (gA S1 3 (nI f).toNatClampNeg), .int (cst (hC S0) ws pre)]) kX6_lengthOf dX7_choose_92 lX7_106 rfl rfl rfl (Nat.le_of_ble_eq_true rfl) (fRoom (by decide)) ⟨Nat.le_refl _, Nat.le_refl _⟩ (qX6_len (J.1.1.1.geo B.2.1) (by omega) hb16) ?_
      rintro _ S9 ⟨rfl, h9⟩
      rw [h9]
      clear h9 S9
      refine fV.to (pc' := 95) (L' := [(0, .ref 0), (1, .int (nI pre.length)), (2, .int (cst (hC S0) ws pre)), (3, .int (nI (fnL ws pre.length))), (4, .int (nI f))]) (st' := [.int (hLen (gA S1 5) (fnL ws pre.length)), .int (gA S1 3 (nI f).toNatClampNeg), .int (cst (hC S0) ws pre)]) (S' := S1) rfl rfl rfl rfl ?_
      refine fV.run iX7_choose_95_5 oX7_choose_95_5 (pc' := 102) (L' := [(0, .ref 0), (1, .int (nI pre.length)), (2, .int (cst (hC S0) ws pre)), (3, .int (nI (fnL ws pre.length))), (4, .int (nI f)), (5, .int ((cst (hC S0) ws pre) + (((gA S1 3 (nI f).toNatClampNeg) * (hLen (gA S1 5) (fnL ws pre.length))) / 100)))]) (st' := []) (S' := S1) (P := ¬ 100 = 0 ∧ True) rfl ⟨(by decide), trivial⟩ ?_
      refine fV.to (L' := [(0, .ref 0), (1, .int (nI pre.length)), (2, .int (cst (hC S0) ws pre)), (3, .int (nI (fnL ws pre.length))), (4, .int (nI f)), (5, .int (cst (hC S0) ws (pre ++ [f])))]) (st' := []) rfl (by rw [show ((cst (hC S0) ws pre) + (((gA S1 3 (nI f).toNatClampNeg) * (hLen (gA S1 5) (fnL ws pre.length))) / 100) : Int32) = cst (hC S0) ws (pre ++ [f]) from by rw [cst_app hlt, nI_clamp (by omega), e3, e5]; rfl]) rfl rfl ?_
      refine fV.run iX7_choose_102_4 oX7_choose_102_4 (pc' := 111) (L' := [(0, .ref 0), (1, .int (nI pre.length)), (2, .int (cst (hC S0) ws pre)), (3, .int (nI (fnL ws pre.length))), (4, .int (nI f)), (5, .int (cst (hC S0) ws (pre ++ [f])))]) (st' := [.int (gI S1 28 7), .int (cst (hC S0) ws (pre ++ [f]))]) (S' := S1) rfl trivial ?_
      refine fV.icmp_gt bX7_choose_111 (fun c111 => ?_) (fun c111 => ?_)
      · refine fV.run iX7_choose_134_2 oX7_choose_134_2 (pc' := 64) (L' := [(0, .ref 0), (1, .int (nI pre.length)), (2, .int (cst (hC S0) ws pre)), (3, .int (nI (fnL ws pre.length))), (4, .int ((nI f) + 1)), (5, .int (cst (hC S0) ws (pre ++ [f])))]) (st' := []) (S' := S1) rfl trivial ?_
        refine fV.pick (L' := [(0, .ref 0), (1, .int (nI pre.length)), (2, .int (cst (hC S0) ws pre)), (3, .int (nI (fnL ws pre.length))), (4, .int ((nI f) + 1))]) [0, 1, 2, 3, 4] rfl ?_
        exact fV.to (L' := [(0, .ref 0), (1, .int (nI pre.length)), (2, .int (cst (hC S0) ws pre)), (3, .int (nI (fnL ws pre.length))), (4, .int (nI (f + 1)))]) rfl (by rw [nI_1]) rfl rfl (ih (f + 1) S1 (by omega) (by rw [List.range_succ, List.foldl_append]; show cI S0 S1 b PL ws pre (pre.length + 1) (chs (clV (gA S0 2) (gI S0 28 8) (erl (gI S0 0 10) (leastF PL)) PL) (hC S0) ws (gI S0 28 7) a r (pre ++ [f]) ((List.range f).foldl (fun o f => chs (clV (gA S0 2) (gI S0 28 8) (erl (gI S0 0 10) (leastF PL)) PL) (hC S0) ws (gI S0 28 7) a r (pre ++ [f]) o) o)); rw [chs_big B.1 hw4 B.2.2.2.2.2.2.2.2.1 r (by simp; omega) (pre_app hf (by omega)) (by rw [← h7]; exact c111)]; exact J))
      · refine fV.run iX7_choose_114_10 oX7_choose_114_10 (pc' := 129) (L' := [(0, .ref 0), (1, .int (nI pre.length)), (2, .int (cst (hC S0) ws pre)), (3, .int (nI (fnL ws pre.length))), (4, .int (nI f)), (5, .int (cst (hC S0) ws (pre ++ [f])))]) (st' := [.int ((nI pre.length) + 1), .ref 0]) (S' := (wA S1 30 (upd (gA S1 30) (nI (fnL ws pre.length)).toNatClampNeg (nI f)))) (P := vp_in (nI (fnL ws pre.length)) 16 ∧ True) rfl ⟨(vp_in_nI (by omega) (by decide)), trivial⟩ ?_
        refine fV.to (L' := [(0, .ref 0), (1, .int (nI pre.length)), (2, .int (cst (hC S0) ws pre)), (3, .int (nI (fnL ws pre.length))), (4, .int (nI f)), (5, .int (cst (hC S0) ws (pre ++ [f])))]) (st' := [.int (nI (pre ++ [f]).length), .ref 0]) rfl rfl (by rw [show ((nI pre.length) + 1 : Int32) = nI (pre ++ [f]).length from by rw [nI_1, List.length_append]; rfl]) rfl ?_
        refine fV.run iX7_choose_129_1 oX7_choose_129_1 (pc' := 131) (L' := [(0, .ref 0), (1, .int (nI pre.length)), (2, .int (cst (hC S0) ws pre)), (3, .int (nI (fnL ws pre.length))), (4, .int (nI f)), (5, .int (cst (hC S0) ws (pre ++ [f])))]) (st' := [.int (cst (hC S0) ws (pre ++ [f])), .int (nI (pre ++ [f]).length), .ref 0]) (S' := (wA S1 30 (upd (gA S1 30) (nI (fnL ws pre.length)).toNatClampNeg (nI f)))) rfl trivial ?_
        refine fV.callV (M2 := mX7_choose) (d := d + (r + 1) + 3) (o := 0) (av := [.int (nI (pre ++ [f]).length), .int (cst (hC S0) ws (pre ++ [f]))]) (rest := []) kX7_choose dX7_choose_131 lX7_216 rfl rfl rfl (Nat.le_of_ble_eq_true rfl) (fRoom (by decide)) ⟨Nat.le_refl _, Nat.le_refl _⟩ (IH (d := d) (pre := pre ++ [f]) (o := ((List.range f).foldl (fun o f => chs (clV (gA S0 2) (gI S0 28 8) (erl (gI S0 0 10) (leastF PL)) PL) (hC S0) ws (gI S0 28 7) a r (pre ++ [f]) o) o)) (cI_in B J hlt (by omega) (nI_clamp (by omega))) (by simp; omega) (pre_app hf (by omega)) (by rw [← h7]; grind)) ?_
        rintro _ S3 ⟨rfl, h3⟩
        refine fV.to (pc' := 134) (L' := [(0, .ref 0), (1, .int (nI pre.length)), (2, .int (cst (hC S0) ws pre)), (3, .int (nI (fnL ws pre.length))), (4, .int (nI f)), (5, .int (cst (hC S0) ws (pre ++ [f])))]) (st' := []) (S' := S3) rfl rfl rfl rfl ?_
        refine fV.run iX7_choose_134_2 oX7_choose_134_2 (pc' := 64) (L' := [(0, .ref 0), (1, .int (nI pre.length)), (2, .int (cst (hC S0) ws pre)), (3, .int (nI (fnL ws pre.length))), (4, .int ((nI f) + 1)), (5, .int (cst (hC S0) ws (pre ++ [f])))]) (st' := []) (S' := S3) rfl trivial ?_
        refine fV.pick (L' := [(0, .ref 0), (1, .int (nI pre.length)), (2, .int (cst (hC S0) ws pre)), (3, .int (nI (fnL ws pre.length))), (4, .int ((nI f) + 1))]) [0, 1, 2, 3, 4] rfl ?_
        exact fV.to (L' := [(0, .ref 0), (1, .int (nI pre.length)), (2, .int (cst (hC S0) ws pre)), (3, .int (nI (fnL ws pre.length))), (4, .int (nI (f + 1)))]) rfl (by rw [nI_1]) rfl rfl (ih (f + 1) S3 (by omega) (by rw [List.range_succ, List.foldl_append]; exact cI_out B hlt h3))
def iX7_choose_16_2 : List Instr := [.iload_n 1, .iconst 4]
theorem oX7_choose_16_2 : fOkB cX7_choose 16 iX7_choose_16_2 = true := by decide +kernel
theorem bX7_choose_18 : fBk cX7_choose 18 (.if_icmp .lt) 51 := ⟨33, by decide +kernel, by decide⟩
def iX7_choose_51_5 : List Instr := [.aload_n 0, .getfield 63, .getfield 285, .iload_n 1, .iaload]
theorem oX7_choose_51_5 : fOkB cX7_choose 51 iX7_choose_51_5 = true := by decide +kernel
def iX7_choose_60_3 : List Instr := [.istore_n 3, .iconst 0, .istore 4]
theorem oX7_choose_60_3 : fOkB cX7_choose 60 iX7_choose_60_3 = true := by decide +kernel
set_option maxRecDepth 100000 in
theorem qX7_choose {G : fG} {S0 : fS} {a b c e : Nat} {PL : List pTh} {ws : List Nat} : ∀ (r : Nat) {d : Nat} {S : fS} {pre : List Nat} {o : sel} (B : cBF S0 a b c e PL ws) (I : cI S0 S b PL ws pre pre.length o), pre.length + r = ws.length → (∀ f ∈ pre, f < a) → cst (hC S0) ws pre ≤ gI S0 28 7 → fCtr G (d + r + 4) mX7_choose [.ref 0, .int (nI pre.length), .int (cst (hC S0) ws pre)] S (fun z S' => z = none ∧ cI S0 S' b PL ws pre pre.length (chs (clV (gA S0 2) (gI S0 28 8) (erl (gI S0 0 10) (leastF PL)) PL) (hC S0) ws (gI S0 28 7) a r pre o)) := by
  intro r
  induction r with
  | zero =>
    intro d S pre o B I hr hf hc
    exact qX7_ch0 B I (by omega) hf hc
  | succ r ih =>
    intro d S pre o B I hr hf hc
    have hb16 : b ≤ 16 := B.1.2.1.2.1
    have ha8 : a ≤ 8 := B.1.1.2.2.1
    have hw4 : ws.length ≤ 4 := B.2.2.2.2.2.2.2.1
    obtain ⟨st, h33, hgp⟩ := I.1.gp B.2.2.2.2.2.2.1
    refine fCtr.of bXX7_choose (Nat.le_of_ble_eq_true rfl) rfl ?_
    refine fV.run iX7_choose_0_2 oX7_choose_0_2 (pc' := 2) (L' := [(0, .ref 0), (1, .int (nI pre.length)), (2, .int (cst (hC S0) ws pre))]) (st' := [.int (nI pre.length), .ref 0]) (S' := S) rfl trivial ?_
    refine fV.callV (M2 := mX7_hearGroup) (d := d + (r + 1) + 3) (o := 0) (av := [.int (nI pre.length)]) (rest := []) kX7_hearGroup dX7_choose_2 lX7_272 rfl rfl rfl (Nat.le_of_ble_eq_true rfl) (fRoom (by decide)) ⟨Nat.le_refl _, Nat.le_refl _⟩ (qX7_hear (gr := gr3 ws) pre.length hb16 (I.1.1.fd B.2.2.1) B.2.2.2.1 B.2.2.2.2.1 I.2.2.1 (by omega) h33 (hgp pre.length (by omega)).1 (hgp pre.length (by omega)).2) ?_
    rintro _ S1 ⟨rfl, h9⟩
    have J : cI S0 S1 b PL ws pre (pre.length + 1) o := by
      rw [h9]
      exact cI_hear B I (by omega)
    clear h9
    have h6 : gI S1 28 6 = nI ws.length := (J.1.cx B.2.2.2.2.2.1).1
    refine fV.to (pc' := 5) (L' := [(0, .ref 0), (1, .int (nI pre.length)), (2, .int (cst (hC S0) ws pre))]) (st' := []) (S' := S1) rfl rfl rfl rfl ?_
    refine fV.run iX7_choose_5_4 oX7_choose_5_4 (pc' := 13) (L' := [(0, .ref 0), (1, .int (nI pre.length)), (2, .int (cst (hC S0) ws pre))]) (st' := [.int (gI S1 28 6), .int (nI pre.length)]) (S' := S1) rfl trivial ?_
    refine fV.icmp_ge bX7_choose_13 (fun c13 => ?_) (fun c13 => ?_)
    · exact absurd c13 (by rw [h6, nI_leI (by omega) (by omega)]; omega)
    · refine fV.run iX7_choose_16_2 oX7_choose_16_2 (pc' := 18) (L' := [(0, .ref 0), (1, .int (nI pre.length)), (2, .int (cst (hC S0) ws pre))]) (st' := [.int 4, .int (nI pre.length)]) (S' := S1) rfl trivial ?_
      refine fV.icmp_lt bX7_choose_18 (fun c18 => ?_) (fun c18 => ?_)
      · refine fV.run iX7_choose_51_5 oX7_choose_51_5 (pc' := 60) (L' := [(0, .ref 0), (1, .int (nI pre.length)), (2, .int (cst (hC S0) ws pre))]) (st' := [.int (gA S1 29 (nI pre.length).toNatClampNeg)]) (S' := S1) (P := vp_in (nI pre.length) 4 ∧ True) rfl ⟨(vp_in_nI (by omega) (by decide)), trivial⟩ ?_
        refine fV.to (L' := [(0, .ref 0), (1, .int (nI pre.length)), (2, .int (cst (hC S0) ws pre))]) (st' := [.int (nI (fnL ws pre.length))]) rfl rfl (by rw [show (gA S1 29 (nI pre.length).toNatClampNeg : Int32) = nI (fnL ws pre.length) from by rw [nI_clamp (by omega)]; exact (J.1.cx B.2.2.2.2.2.1).2 _ (by omega)]) rfl ?_
        refine fV.run iX7_choose_60_3 oX7_choose_60_3 (pc' := 64) (L' := [(0, .ref 0), (1, .int (nI pre.length)), (2, .int (cst (hC S0) ws pre)), (3, .int (nI (fnL ws pre.length))), (4, .int 0)]) (st' := []) (S' := S1) rfl trivial ?_
        exact lpX7_ch B hr hf hc (fun z1 z2 z3 z4 => ih B z1 z2 z3 z4) a 0 S1 (by omega) J
      · exact absurd c18 (fun z => z (by rw [show (4 : Int32) = nI 4 from rfl, nI_ltI (by omega) (by omega)]; omega))

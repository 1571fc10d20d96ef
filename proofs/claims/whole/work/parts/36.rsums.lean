/-! the reference: walls, energies and ticks of paths -/
theorem wOf_p {l : List Nat} {t : Nat} (h : t < l.length) : wOf l t = nI (fnL l t) := if_pos h
theorem wOf_q {l : List Nat} {t : Nat} (h : l.length ≤ t) : wOf l t = -1 := if_neg (by omega)
theorem lm1 {k t : Nat} (h : k ≤ t) (ht : t < 100) : nI k - 1 ≤ nI t := by
  cases k with
  | zero =>
    have := nI_pos' (n := t) (by omega)
    have e : nI 0 - 1 = -1 := by decide
    rw [e]; grind
  | succ k => rw [nI_pred]; exact nI_le (by omega) (by omega)
def iX8_wallOf_20_2 : List Instr := [.iload 5, .iload_n 2]
theorem oX8_wallOf_20_2 : fOkB cX8_wallOf 20 iX8_wallOf_20_2 = true := by decide +kernel
theorem bX8_wallOf_23 : fBk cX8_wallOf 23 (.if_icmp .le) 41 := ⟨18, by decide +kernel, by decide⟩
def iX8_wallOf_41_2 : List Instr := [.iload_n 2, .iload_n 3]
theorem oX8_wallOf_41_2 : fOkB cX8_wallOf 41 iX8_wallOf_41_2 = true := by decide +kernel
theorem bX8_wallOf_43 : fBk cX8_wallOf 43 (.if_icmp .ge) 56 := ⟨13, by decide +kernel, by decide⟩
def iX8_wallOf_46_5 : List Instr := [.iload 4, .aload_n 0, .getfield 89, .irem, .goto 4]
theorem oX8_wallOf_46_5 : fOkB cX8_wallOf 46 iX8_wallOf_46_5 = true := by decide +kernel
theorem dX8_wallOf_57 : decode cX8_wallOf 57 = .ok (.ireturn, 1) := by decide +kernel
def iX8_wallOf_26_7 : List Instr := [.iload 4, .aload_n 0, .getfield 89, .idiv, .istore 4, .iinc 5 (-1), .goto (-18)]
theorem oX8_wallOf_26_7 : fOkB cX8_wallOf 26 iX8_wallOf_26_7 = true := by decide +kernel
set_option maxRecDepth 100000 in
theorem lpX8_wall {G : fG} {d : Nat} {S : fS} {b n : Nat} {PL : List pTh} {x : pTh} (hb : b ≤ 16) (w3 : gI S 35 3 = nI b) (F : fdR S b PL) (hp : plOk b PL) (hx : PL[n]? = some x) {t cc : Nat} (ht : t < x.1.length) (hc1 : x.1 = dgs b x.1.length cc) (hc2 : cc < b ^ x.1.length) : ∀ (m : Nat), t + m + 1 ≤ x.1.length → fV G mX8_wallOf (fZm G d (fun r S' => r = some (.int (wOf x.1 t)) ∧ S' = S)) 20 [(0, .ref 35), (1, .int (nI n)), (2, .int (nI t)), (3, .int (nI x.1.length)), (4, .int (nI (cc / b ^ (x.1.length - 1 - t - m)))), (5, .int (nI (t + m)))] [] S := by
  have hn : n < PL.length := (List.getElem?_eq_some_iff.mp hx).1
  have hn2 : PL.length ≤ 3857 := F.2.1
  obtain ⟨hl3, hlb⟩ := hp x (List.mem_of_getElem? hx)
  have hpw := pw_lt (b := b) (k := x.1.length) hb hl3
  have hb0 : 0 < b := Nat.lt_of_le_of_lt (Nat.zero_le _) (fnL_lt hlb ht)
  have hc1b : fnL x.1 t = fnL (dgs b x.1.length cc) t := by rw [← hc1]
  intro m
  induction m with
  | zero =>
    intro hm
    have hq := Nat.div_le_self cc (b ^ (x.1.length - 1 - t - 0))
    refine fV.run iX8_wallOf_20_2 oX8_wallOf_20_2 (pc' := 23) (L' := [(0, .ref 35), (1, .int (nI n)), (2, .int (nI t)), (3, .int (nI x.1.length)), (4, .int (nI (cc / b ^ (x.1.length - 1 - t - 0)))), (5, .int (nI (t + 0)))]) (st' := [.int (nI t), .int (nI (t + 0))]) (S' := S) rfl trivial ?_
    refine fV.icmp_le bX8_wallOf_23 (fun c23 => ?_) (fun c23 => ?_)
    · refine fV.run iX8_wallOf_41_2 oX8_wallOf_41_2 (pc' := 43) (L' := [(0, .ref 35), (1, .int (nI n)), (2, .int (nI t)), (3, .int (nI x.1.length)), (4, .int (nI (cc / b ^ (x.1.length - 1 - t - 0)))), (5, .int (nI (t + 0)))]) (st' := [.int (nI x.1.length), .int (nI t)]) (S' := S) rfl trivial ?_
      refine fV.icmp_ge bX8_wallOf_43 (fun c43 => ?_) (fun c43 => ?_)
      · exact absurd c43 (nI_ge ht (by omega))
      · refine fV.run iX8_wallOf_46_5 oX8_wallOf_46_5 (pc' := 57) (L' := [(0, .ref 35), (1, .int (nI n)), (2, .int (nI t)), (3, .int (nI x.1.length)), (4, .int (nI (cc / b ^ (x.1.length - 1 - t - 0)))), (5, .int (nI (t + 0)))]) (st' := [.int ((nI (cc / b ^ (x.1.length - 1 - t - 0))) - (nI (cc / b ^ (x.1.length - 1 - t - 0))) / (gI S 35 3) * (gI S 35 3))]) (S' := S) (P := ¬ (gI S 35 3) = 0 ∧ True) rfl ⟨(by rw [w3]; exact nI_ne0 hb0 (by omega)), trivial⟩ ?_
        exact fV.iret rfl dX8_wallOf_57 ⟨by rw [w3, nI_rem (by omega) (by omega) hb0, wOf_p ht, hc1b, dgs_at _ _ _ _ ht]; rfl, rfl⟩
    · exact absurd c23 (fun z => z (nI_le (by omega) (by omega)))
  | succ m ih =>
    intro hm
    have hq := Nat.div_le_self cc (b ^ (x.1.length - 1 - t - (m + 1)))
    refine fV.run iX8_wallOf_20_2 oX8_wallOf_20_2 (pc' := 23) (L' := [(0, .ref 35), (1, .int (nI n)), (2, .int (nI t)), (3, .int (nI x.1.length)), (4, .int (nI (cc / b ^ (x.1.length - 1 - t - (m + 1))))), (5, .int (nI (t + (m + 1))))]) (st' := [.int (nI t), .int (nI (t + (m + 1)))]) (S' := S) rfl trivial ?_
    refine fV.icmp_le bX8_wallOf_23 (fun c23 => ?_) (fun c23 => ?_)
    · exact absurd c23 (nI_ge (by omega) (by omega))
    · refine fV.run iX8_wallOf_26_7 oX8_wallOf_26_7 (pc' := 20) (L' := [(0, .ref 35), (1, .int (nI n)), (2, .int (nI t)), (3, .int (nI x.1.length)), (4, .int ((nI (cc / b ^ (x.1.length - 1 - t - (m + 1)))) / (gI S 35 3))), (5, .int ((nI (t + (m + 1))) + (-1)))]) (st' := []) (S' := S) (P := ¬ (gI S 35 3) = 0 ∧ True) rfl ⟨(by rw [w3]; exact nI_ne0 hb0 (by omega)), trivial⟩ ?_
      exact fV.to (L' := [(0, .ref 35), (1, .int (nI n)), (2, .int (nI t)), (3, .int (nI x.1.length)), (4, .int (nI (cc / b ^ (x.1.length - 1 - t - m)))), (5, .int (nI (t + m)))]) rfl (by rw [w3, nI_div (by omega) (by omega) hb0, Nat.div_div_eq_div_mul, ← Nat.pow_succ, show (x.1.length - 1 - t - (m + 1)).succ = x.1.length - 1 - t - m by omega, i32_m1, ← Nat.add_assoc, nI_pred]) rfl rfl (ih (by omega))
def iX8_wallOf_0_4 : List Instr := [.aload_n 0, .getfield 69, .iload_n 1, .iaload]
theorem oX8_wallOf_0_4 : fOkB cX8_wallOf 0 iX8_wallOf_0_4 = true := by decide +kernel
def iX8_wallOf_6_5 : List Instr := [.istore_n 3, .aload_n 0, .getfield 66, .iload_n 1, .iaload]
theorem oX8_wallOf_6_5 : fOkB cX8_wallOf 6 iX8_wallOf_6_5 = true := by decide +kernel
def iX8_wallOf_13_5 : List Instr := [.istore 4, .iload_n 3, .iconst 1, .isub, .istore 5]
theorem oX8_wallOf_13_5 : fOkB cX8_wallOf 13 iX8_wallOf_13_5 = true := by decide +kernel
set_option maxRecDepth 100000 in
theorem qX8_wallY {G : fG} {d : Nat} {S : fS} {b n : Nat} {PL : List pTh} {x : pTh} (hb : b ≤ 16) (w3 : gI S 35 3 = nI b) (F : fdR S b PL) (hp : plOk b PL) (hx : PL[n]? = some x) {t : Nat} (ht : t < x.1.length)  : fCtr G (d) mX8_wallOf [.ref 35, .int (nI n), .int (nI t)] S (fun r S' => r = some (.int (wOf x.1 t)) ∧ S' = S) := by
  refine fCtr.of bXX8_wallOf (Nat.le_of_ble_eq_true rfl) rfl ?_
  have hn : n < PL.length := (List.getElem?_eq_some_iff.mp hx).1
  have hn2 : PL.length ≤ 3857 := F.2.1
  obtain ⟨hl3, hlb⟩ := hp x (List.mem_of_getElem? hx)
  obtain ⟨⟨cc, hc1, hc2, hc3⟩, ho, hs⟩ := F.2.2 n x hx
  have hpw := pw_lt (b := b) (k := x.1.length) hb hl3
  refine fV.run iX8_wallOf_0_4 oX8_wallOf_0_4 (pc' := 6) (L' := [(0, .ref 35), (1, .int (nI n)), (2, .int (nI t))]) (st' := [.int (gA S 53 (nI n).toNatClampNeg)]) (S' := S) (P := vp_in (nI n) 4000 ∧ True) rfl ⟨(vp_in_nI (by omega) (by decide)), trivial⟩ ?_
  refine fV.to (L' := [(0, .ref 35), (1, .int (nI n)), (2, .int (nI t))]) (st' := [.int (nI x.1.length)]) rfl rfl (by rw [show (gA S 53 (nI n).toNatClampNeg : Int32) = nI x.1.length from by rw [nI_clamp (by omega)]; exact ho]) rfl ?_
  refine fV.run iX8_wallOf_6_5 oX8_wallOf_6_5 (pc' := 13) (L' := [(0, .ref 35), (1, .int (nI n)), (2, .int (nI t)), (3, .int (nI x.1.length))]) (st' := [.int (gA S 52 (nI n).toNatClampNeg)]) (S' := S) (P := vp_in (nI n) 4000 ∧ True) rfl ⟨(vp_in_nI (by omega) (by decide)), trivial⟩ ?_
  refine fV.to (L' := [(0, .ref 35), (1, .int (nI n)), (2, .int (nI t)), (3, .int (nI x.1.length))]) (st' := [.int (nI cc)]) rfl rfl (by rw [show (gA S 52 (nI n).toNatClampNeg : Int32) = nI cc from by rw [nI_clamp (by omega)]; exact hc3]) rfl ?_
  refine fV.run iX8_wallOf_13_5 oX8_wallOf_13_5 (pc' := 20) (L' := [(0, .ref 35), (1, .int (nI n)), (2, .int (nI t)), (3, .int (nI x.1.length)), (4, .int (nI cc)), (5, .int ((nI x.1.length) - 1))]) (st' := []) (S' := S) rfl trivial ?_
  obtain ⟨m, hm⟩ : ∃ m, x.1.length = t + m + 1 := ⟨x.1.length - 1 - t, by omega⟩
  exact fV.to (L' := [(0, .ref 35), (1, .int (nI n)), (2, .int (nI t)), (3, .int (nI x.1.length)), (4, .int (nI (cc / b ^ (x.1.length - 1 - t - m)))), (5, .int (nI (t + m)))]) rfl (by rw [show x.1.length - 1 - t - m = 0 by omega, Nat.pow_zero, Nat.div_one, show nI x.1.length - 1 = nI (t + m) by rw [hm, nI_pred]]) rfl rfl (lpX8_wall hb w3 F hp hx ht hc1 hc2 m (by omega))
def iX8_wallOf_13_7 : List Instr := [.istore 4, .iload_n 3, .iconst 1, .isub, .istore 5, .iload 5, .iload_n 2]
theorem oX8_wallOf_13_7 : fOkB cX8_wallOf 13 iX8_wallOf_13_7 = true := by decide +kernel
def iX8_wallOf_56_1 : List Instr := [.iconst (-1)]
theorem oX8_wallOf_56_1 : fOkB cX8_wallOf 56 iX8_wallOf_56_1 = true := by decide +kernel
set_option maxRecDepth 100000 in
theorem qX8_wallN {G : fG} {d : Nat} {S : fS} {b n : Nat} {PL : List pTh} {x : pTh} (hb : b ≤ 16) (w3 : gI S 35 3 = nI b) (F : fdR S b PL) (hp : plOk b PL) (hx : PL[n]? = some x) {t : Nat} (ht : x.1.length ≤ t) (ht3 : t < 3)  : fCtr G (d) mX8_wallOf [.ref 35, .int (nI n), .int (nI t)] S (fun r S' => r = some (.int (wOf x.1 t)) ∧ S' = S) := by
  refine fCtr.of bXX8_wallOf (Nat.le_of_ble_eq_true rfl) rfl ?_
  have hn : n < PL.length := (List.getElem?_eq_some_iff.mp hx).1
  have hn2 : PL.length ≤ 3857 := F.2.1
  obtain ⟨hl3, hlb⟩ := hp x (List.mem_of_getElem? hx)
  obtain ⟨⟨cc, hc1, hc2, hc3⟩, ho, hs⟩ := F.2.2 n x hx
  have hpw := pw_lt (b := b) (k := x.1.length) hb hl3
  refine fV.run iX8_wallOf_0_4 oX8_wallOf_0_4 (pc' := 6) (L' := [(0, .ref 35), (1, .int (nI n)), (2, .int (nI t))]) (st' := [.int (gA S 53 (nI n).toNatClampNeg)]) (S' := S) (P := vp_in (nI n) 4000 ∧ True) rfl ⟨(vp_in_nI (by omega) (by decide)), trivial⟩ ?_
  refine fV.to (L' := [(0, .ref 35), (1, .int (nI n)), (2, .int (nI t))]) (st' := [.int (nI x.1.length)]) rfl rfl (by rw [show (gA S 53 (nI n).toNatClampNeg : Int32) = nI x.1.length from by rw [nI_clamp (by omega)]; exact ho]) rfl ?_
  refine fV.run iX8_wallOf_6_5 oX8_wallOf_6_5 (pc' := 13) (L' := [(0, .ref 35), (1, .int (nI n)), (2, .int (nI t)), (3, .int (nI x.1.length))]) (st' := [.int (gA S 52 (nI n).toNatClampNeg)]) (S' := S) (P := vp_in (nI n) 4000 ∧ True) rfl ⟨(vp_in_nI (by omega) (by decide)), trivial⟩ ?_
  refine fV.to (L' := [(0, .ref 35), (1, .int (nI n)), (2, .int (nI t)), (3, .int (nI x.1.length))]) (st' := [.int (nI cc)]) rfl rfl (by rw [show (gA S 52 (nI n).toNatClampNeg : Int32) = nI cc from by rw [nI_clamp (by omega)]; exact hc3]) rfl ?_
  refine fV.run iX8_wallOf_13_7 oX8_wallOf_13_7 (pc' := 23) (L' := [(0, .ref 35), (1, .int (nI n)), (2, .int (nI t)), (3, .int (nI x.1.length)), (4, .int (nI cc)), (5, .int ((nI x.1.length) - 1))]) (st' := [.int (nI t), .int ((nI x.1.length) - 1)]) (S' := S) rfl trivial ?_
  refine fV.icmp_le bX8_wallOf_23 (fun c23 => ?_) (fun c23 => ?_)
  · refine fV.run iX8_wallOf_41_2 oX8_wallOf_41_2 (pc' := 43) (L' := [(0, .ref 35), (1, .int (nI n)), (2, .int (nI t)), (3, .int (nI x.1.length)), (4, .int (nI cc)), (5, .int ((nI x.1.length) - 1))]) (st' := [.int (nI x.1.length), .int (nI t)]) (S' := S) rfl trivial ?_
    refine fV.icmp_ge bX8_wallOf_43 (fun c43 => ?_) (fun c43 => ?_)
    · refine fV.run iX8_wallOf_56_1 oX8_wallOf_56_1 (pc' := 57) (L' := [(0, .ref 35), (1, .int (nI n)), (2, .int (nI t)), (3, .int (nI x.1.length)), (4, .int (nI cc)), (5, .int ((nI x.1.length) - 1))]) (st' := [.int (-1)]) (S' := S) rfl trivial ?_
      exact fV.iret rfl dX8_wallOf_57 ⟨by rw [wOf_q ht], rfl⟩
    · exact absurd c43 (fun z => z (nI_le ht (by omega)))
  · exact absurd c23 (fun z => z (lm1 ht (by omega)))
theorem qX8_wallOf {G : fG} {d : Nat} {S : fS} {b n : Nat} {PL : List pTh} {x : pTh} (hb : b ≤ 16) (w3 : gI S 35 3 = nI b) (F : fdR S b PL) (hp : plOk b PL) (hx : PL[n]? = some x) {t : Nat} (ht3 : t < 3) : fCtr G d mX8_wallOf [.ref 35, .int (nI n), .int (nI t)] S (fun r S' => r = some (.int (wOf x.1 t)) ∧ S' = S) := by
  by_cases ht : t < x.1.length
  · exact qX8_wallY hb w3 F hp hx ht
  · exact qX8_wallN hb w3 F hp hx (by omega) ht3
def iX8_tickOf_7_3 : List Instr := [.lload 4, .lconst 0, .lcmp]
theorem oX8_tickOf_7_3 : fOkB cX8_tickOf 7 iX8_tickOf_7_3 = true := by decide +kernel
theorem bX8_tickOf_11 : fBk cX8_tickOf 11 (.ifCond .le) 51 := ⟨40, by decide +kernel, by decide⟩
def iX8_tickOf_51_4 : List Instr := [.lload_n 2, .ldc2_w 199, .ldiv, .l2i]
theorem oX8_tickOf_51_4 : fOkB cX8_tickOf 51 iX8_tickOf_51_4 = true := by decide +kernel
theorem dX8_tickOf_57 : decode cX8_tickOf 57 = .ok (.ireturn, 1) := by decide +kernel
def iX8_tickOf_14_11 : List Instr := [.lload_n 2, .lload 4, .ladd, .lload_n 2, .lload 4, .ladd, .lmul, .aload_n 0, .getfield 72, .iload_n 1, .laload]
theorem oX8_tickOf_14_11 : fOkB cX8_tickOf 14 iX8_tickOf_14_11 = true := by decide +kernel
def iX8_tickOf_29_1 : List Instr := [.lcmp]
theorem oX8_tickOf_29_1 : fOkB cX8_tickOf 29 iX8_tickOf_29_1 = true := by decide +kernel
theorem bX8_tickOf_30 : fBk cX8_tickOf 30 (.ifCond .gt) 40 := ⟨10, by decide +kernel, by decide⟩
def iX8_tickOf_40_7 : List Instr := [.lload_n 2, .lstore_n 2, .lload 4, .iconst 1, .lshr, .lstore 4, .goto (-41)]
theorem oX8_tickOf_40_7 : fOkB cX8_tickOf 40 iX8_tickOf_40_7 = true := by decide +kernel
def iX8_tickOf_33_10 : List Instr := [.lload_n 2, .lload 4, .ladd, .goto 4, .lstore_n 2, .lload 4, .iconst 1, .lshr, .lstore 4, .goto (-41)]
theorem oX8_tickOf_33_10 : fOkB cX8_tickOf 33 iX8_tickOf_33_10 = true := by decide +kernel
set_option maxRecDepth 100000 in
theorem lpX8_tick {G : fG} {d : Nat} {S : fS} {b n : Nat} {PL : List pTh} {y : pTh} (F : fdR S b PL) (hy : PL[n]? = some y) : ∀ (i : Nat) (x : Int64), i ≤ 16 → fV G mX8_tickOf (fZm G d (fun z S' => z = some (.int (Int64.toInt32 ((rtN y.2 i x) / 50))) ∧ S' = S)) 7 [(0, .ref 35), (1, .int (nI n)), (2, .long x), (4, .long (bitN i))] [] S := by
  have hn : n < PL.length := (List.getElem?_eq_some_iff.mp hy).1
  have hn2 : PL.length ≤ 3857 := F.2.1
  have hs := (F.2.2 n y hy).2.2
  intro i
  induction i with
  | zero =>
    intro x hi
    refine fV.run iX8_tickOf_7_3 oX8_tickOf_7_3 (pc' := 11) (L' := [(0, .ref 35), (1, .int (nI n)), (2, .long x), (4, .long (bitN 0))]) (st' := [.int (lg_cmp (bitN 0) 0)]) (S' := S) rfl trivial ?_
    refine fV.lif_le bX8_tickOf_11 (fun c11 => ?_) (fun c11 => ?_)
    · refine fV.run iX8_tickOf_51_4 oX8_tickOf_51_4 (pc' := 57) (L' := [(0, .ref 35), (1, .int (nI n)), (2, .long x), (4, .long (bitN 0))]) (st' := [.int (Int64.toInt32 (x / 50))]) (S' := S) (P := ¬ 50 = 0 ∧ True) rfl ⟨(by decide), trivial⟩ ?_
      exact fV.iret rfl dX8_tickOf_57 ⟨rfl, rfl⟩
    · exact absurd c11 (by decide)
  | succ i ih =>
    intro x hi
    refine fV.run iX8_tickOf_7_3 oX8_tickOf_7_3 (pc' := 11) (L' := [(0, .ref 35), (1, .int (nI n)), (2, .long x), (4, .long (bitN (i + 1)))]) (st' := [.int (lg_cmp (bitN (i + 1)) 0)]) (S' := S) rfl trivial ?_
    refine fV.lif_le bX8_tickOf_11 (fun c11 => ?_) (fun c11 => ?_)
    · exact absurd c11 (bit_pos i (by omega))
    · refine fV.run iX8_tickOf_14_11 oX8_tickOf_14_11 (pc' := 29) (L' := [(0, .ref 35), (1, .int (nI n)), (2, .long x), (4, .long (bitN (i + 1)))]) (st' := [.long (gB S 54 (nI n).toNatClampNeg), .long ((x + (bitN (i + 1))) * (x + (bitN (i + 1))))]) (S' := S) (P := vp_in (nI n) 4000 ∧ True) rfl ⟨(vp_in_nI (by omega) (by decide)), trivial⟩ ?_
      refine fV.to (L' := [(0, .ref 35), (1, .int (nI n)), (2, .long x), (4, .long (bitN (i + 1)))]) (st' := [.long y.2, .long ((x + (bitN (i + 1))) * (x + (bitN (i + 1))))]) rfl rfl (by rw [show (gB S 54 (nI n).toNatClampNeg : Int64) = y.2 from by rw [nI_clamp (by omega)]; exact hs]) rfl ?_
      refine fV.run iX8_tickOf_29_1 oX8_tickOf_29_1 (pc' := 30) (L' := [(0, .ref 35), (1, .int (nI n)), (2, .long x), (4, .long (bitN (i + 1)))]) (st' := [.int (lg_cmp ((x + (bitN (i + 1))) * (x + (bitN (i + 1)))) y.2)]) (S' := S) rfl trivial ?_
      refine fV.lif_gt bX8_tickOf_30 (fun c30 => ?_) (fun c30 => ?_)
      · refine fV.run iX8_tickOf_40_7 oX8_tickOf_40_7 (pc' := 7) (L' := [(0, .ref 35), (1, .int (nI n)), (2, .long x), (4, .long ((bitN (i + 1)) >>> (Int32.toInt64 1 &&& 63)))]) (st' := []) (S' := S) rfl trivial ?_
        refine fV.to (L' := [(0, .ref 35), (1, .int (nI n)), (2, .long x), (4, .long (bitN i))]) rfl (by rw [bit_half i (by omega)]) rfl rfl ?_
        have e9 := ih x (by omega)
        simp only [rtN, if_pos c30]
        exact e9
      · refine fV.run iX8_tickOf_33_10 oX8_tickOf_33_10 (pc' := 7) (L' := [(0, .ref 35), (1, .int (nI n)), (2, .long (x + (bitN (i + 1)))), (4, .long ((bitN (i + 1)) >>> (Int32.toInt64 1 &&& 63)))]) (st' := []) (S' := S) rfl trivial ?_
        refine fV.to (L' := [(0, .ref 35), (1, .int (nI n)), (2, .long (x + (bitN (i + 1)))), (4, .long (bitN i))]) rfl (by rw [bit_half i (by omega)]) rfl rfl ?_
        have e9 := ih (x + (bitN (i + 1))) (by omega)
        simp only [rtN, if_neg c30]
        exact e9
def iX8_tickOf_0_4 : List Instr := [.lconst 0, .lstore_n 2, .ldc2_w 197, .lstore 4]
theorem oX8_tickOf_0_4 : fOkB cX8_tickOf 0 iX8_tickOf_0_4 = true := by decide +kernel
set_option maxRecDepth 100000 in
theorem qX8_tick {G : fG} {d : Nat} {S : fS} {b n : Nat} {PL : List pTh} {y : pTh} (F : fdR S b PL) (hy : PL[n]? = some y)  : fCtr G (d) mX8_tickOf [.ref 35, .int (nI n)] S (fun z S' => z = some (.int (tickF y.2)) ∧ S' = S) := by
  refine fCtr.of bXX8_tickOf (Nat.le_of_ble_eq_true rfl) rfl ?_
  refine fV.run iX8_tickOf_0_4 oX8_tickOf_0_4 (pc' := 7) (L' := [(0, .ref 35), (1, .int (nI n)), (2, .long 0), (4, .long 16384)]) (st' := []) (S' := S) rfl trivial ?_
  exact fV.to (L' := [(0, .ref 35), (1, .int (nI n)), (2, .long 0), (4, .long (bitN 15))]) rfl rfl rfl rfl (lpX8_tick F hy 15 0 (by omega))
def iX8_energyOf_15_5 : List Instr := [.iload 5, .aload_n 0, .getfield 69, .iload_n 2, .iaload]
theorem oX8_energyOf_15_5 : fOkB cX8_energyOf 15 iX8_energyOf_15_5 = true := by decide +kernel
theorem bX8_energyOf_23 : fBk cX8_energyOf 23 (.if_icmp .ge) 57 := ⟨34, by decide +kernel, by decide⟩
def iX8_energyOf_57_5 : List Instr := [.lload_n 3, .aload_n 0, .getfield 72, .iload_n 2, .laload]
theorem oX8_energyOf_57_5 : fOkB cX8_energyOf 57 iX8_energyOf_57_5 = true := by decide +kernel
def iX8_energyOf_64_3 : List Instr := [.lconst 1, .ladd, .ldiv]
theorem oX8_energyOf_64_3 : fOkB cX8_energyOf 64 iX8_energyOf_64_3 = true := by decide +kernel
theorem dX8_energyOf_67 : decode cX8_energyOf 67 = .ok (.lreturn, 1) := by decide +kernel
def iX8_energyOf_26_8 : List Instr := [.lload_n 3, .aload_n 0, .getfield 7, .aload_n 0, .getfield 19, .aload_n 0, .iload_n 2, .iload 5]
theorem oX8_energyOf_26_8 : fOkB cX8_energyOf 26 iX8_energyOf_26_8 = true := by decide +kernel
set_option maxRecDepth 100000 in
theorem lX8_193 : Cond.methodLink RX8 193 yX8_wallOf ∈ fTB := fTB_at 861 rfl rfl
theorem dX8_energyOf_39 : decode cX8_energyOf 39 = .ok (.invokevirtual 193, 3) := by decide +kernel
def iX8_energyOf_42_1 : List Instr := [.iaload]
theorem oX8_energyOf_42_1 : fOkB cX8_energyOf 42 iX8_energyOf_42_1 = true := by decide +kernel
def iX8_energyOf_43_8 : List Instr := [.iaload, .i2l, .lmul, .ldc2_w 87, .ldiv, .lstore_n 3, .iinc 5 1, .goto (-39)]
theorem oX8_energyOf_43_8 : fOkB cX8_energyOf 43 iX8_energyOf_43_8 = true := by decide +kernel
set_option maxRecDepth 100000 in
theorem lpX8_en {G : fG} {d : Nat} {S : fS} {b n : Nat} {PL : List pTh} {x : pTh} (hb : b ≤ 16) (w3 : gI S 35 3 = nI b) (F : fdR S b PL) (hp : plOk b PL) (hx : PL[n]? = some x) {si : Nat} (hsi : si < 4) (hq : plSq PL) (hsf : ∀ w, w < b → ∃ j, j < 8 ∧ gA S 39 w = nI j) : ∀ (u t : Nat), t + u = x.1.length → fV G mX8_energyOf (fZm G (d + 1) (fun r S' => r = some (.long (enF (gA S 36) (gA S 39) (gA S 42 si) x)) ∧ S' = S)) 15 [(0, .ref 35), (1, .int (nI si)), (2, .int (nI n)), (3, .long (enI (gA S 36) (gA S 39) (Int32.toInt64 (gA S 42 si) * 1000000) x.1 t)), (5, .int (nI t))] [] S := by
  have hn : n < PL.length := (List.getElem?_eq_some_iff.mp hx).1
  have hn2 : PL.length ≤ 3857 := F.2.1
  obtain ⟨hl3, hlb⟩ := hp x (List.mem_of_getElem? hx)
  obtain ⟨⟨cc, hc1, hc2, hc3⟩, ho, hs⟩ := F.2.2 n x hx
  have hpw := pw_lt (b := b) (k := x.1.length) hb hl3
  intro u
  induction u with
  | zero =>
    intro t ht
    refine fV.run iX8_energyOf_15_5 oX8_energyOf_15_5 (pc' := 23) (L' := [(0, .ref 35), (1, .int (nI si)), (2, .int (nI n)), (3, .long (enI (gA S 36) (gA S 39) (Int32.toInt64 (gA S 42 si) * 1000000) x.1 t)), (5, .int (nI t))]) (st' := [.int (gA S 53 (nI n).toNatClampNeg), .int (nI t)]) (S' := S) (P := vp_in (nI n) 4000 ∧ True) rfl ⟨(vp_in_nI (by omega) (by decide)), trivial⟩ ?_
    refine fV.to (L' := [(0, .ref 35), (1, .int (nI si)), (2, .int (nI n)), (3, .long (enI (gA S 36) (gA S 39) (Int32.toInt64 (gA S 42 si) * 1000000) x.1 t)), (5, .int (nI t))]) (st' := [.int (nI x.1.length), .int (nI t)]) rfl rfl (by rw [show (gA S 53 (nI n).toNatClampNeg : Int32) = nI x.1.length from by rw [nI_clamp (by omega)]; exact ho]) rfl ?_
    refine fV.icmp_ge bX8_energyOf_23 (fun c23 => ?_) (fun c23 => ?_)
    · refine fV.run iX8_energyOf_57_5 oX8_energyOf_57_5 (pc' := 64) (L' := [(0, .ref 35), (1, .int (nI si)), (2, .int (nI n)), (3, .long (enI (gA S 36) (gA S 39) (Int32.toInt64 (gA S 42 si) * 1000000) x.1 t)), (5, .int (nI t))]) (st' := [.long (gB S 54 (nI n).toNatClampNeg), .long (enI (gA S 36) (gA S 39) (Int32.toInt64 (gA S 42 si) * 1000000) x.1 t)]) (S' := S) (P := vp_in (nI n) 4000 ∧ True) rfl ⟨(vp_in_nI (by omega) (by decide)), trivial⟩ ?_
      refine fV.to (L' := [(0, .ref 35), (1, .int (nI si)), (2, .int (nI n)), (3, .long (enI (gA S 36) (gA S 39) (Int32.toInt64 (gA S 42 si) * 1000000) x.1 t)), (5, .int (nI t))]) (st' := [.long x.2, .long (enI (gA S 36) (gA S 39) (Int32.toInt64 (gA S 42 si) * 1000000) x.1 t)]) rfl rfl (by rw [show (gB S 54 (nI n).toNatClampNeg : Int64) = x.2 from by rw [nI_clamp (by omega)]; exact hs]) rfl ?_
      refine fV.run iX8_energyOf_64_3 oX8_energyOf_64_3 (pc' := 67) (L' := [(0, .ref 35), (1, .int (nI si)), (2, .int (nI n)), (3, .long (enI (gA S 36) (gA S 39) (Int32.toInt64 (gA S 42 si) * 1000000) x.1 t)), (5, .int (nI t))]) (st' := [.long ((enI (gA S 36) (gA S 39) (Int32.toInt64 (gA S 42 si) * 1000000) x.1 t) / (x.2 + 1))]) (S' := S) (P := ¬ (x.2 + 1) = 0 ∧ True) rfl ⟨(sq_ne (hq x (List.mem_of_getElem? hx))), trivial⟩ ?_
      exact fV.lret rfl dX8_energyOf_67 ⟨by unfold enF; rw [show t = x.1.length by omega], rfl⟩
    · exact absurd c23 (fun z => z (nI_le (by omega) (by omega)))
  | succ u ih =>
    intro t ht
    have htl : t < x.1.length := by omega
    refine fV.run iX8_energyOf_15_5 oX8_energyOf_15_5 (pc' := 23) (L' := [(0, .ref 35), (1, .int (nI si)), (2, .int (nI n)), (3, .long (enI (gA S 36) (gA S 39) (Int32.toInt64 (gA S 42 si) * 1000000) x.1 t)), (5, .int (nI t))]) (st' := [.int (gA S 53 (nI n).toNatClampNeg), .int (nI t)]) (S' := S) (P := vp_in (nI n) 4000 ∧ True) rfl ⟨(vp_in_nI (by omega) (by decide)), trivial⟩ ?_
    refine fV.to (L' := [(0, .ref 35), (1, .int (nI si)), (2, .int (nI n)), (3, .long (enI (gA S 36) (gA S 39) (Int32.toInt64 (gA S 42 si) * 1000000) x.1 t)), (5, .int (nI t))]) (st' := [.int (nI x.1.length), .int (nI t)]) rfl rfl (by rw [show (gA S 53 (nI n).toNatClampNeg : Int32) = nI x.1.length from by rw [nI_clamp (by omega)]; exact ho]) rfl ?_
    refine fV.icmp_ge bX8_energyOf_23 (fun c23 => ?_) (fun c23 => ?_)
    · exact absurd c23 (nI_ge (by omega) (by omega))
    · refine fV.run iX8_energyOf_26_8 oX8_energyOf_26_8 (pc' := 39) (L' := [(0, .ref 35), (1, .int (nI si)), (2, .int (nI n)), (3, .long (enI (gA S 36) (gA S 39) (Int32.toInt64 (gA S 42 si) * 1000000) x.1 t)), (5, .int (nI t))]) (st' := [.int (nI t), .int (nI n), .ref 35, .ref 39, .ref 36, .long (enI (gA S 36) (gA S 39) (Int32.toInt64 (gA S 42 si) * 1000000) x.1 t)]) (S' := S) rfl trivial ?_
      refine fV.callV (M2 := mX8_wallOf) (d := d) (o := 35) (av := [.int (nI n), .int (nI t)]) (rest := [.ref 39, .ref 36, .long (enI (gA S 36) (gA S 39) (Int32.toInt64 (gA S 42 si) * 1000000) x.1 t)]) kX8_wallOf dX8_energyOf_39 lX8_193 rfl rfl rfl (Nat.le_of_ble_eq_true rfl) (fRoom (by decide)) ⟨Nat.le_refl _, Nat.le_refl _⟩ (qX8_wallY (t := t) hb w3 F hp hx htl) ?_
      rintro _ S9 ⟨rfl, h9⟩
      rw [h9, wOf_p htl]
      clear h9 S9
      refine fV.to (pc' := 42) (L' := [(0, .ref 35), (1, .int (nI si)), (2, .int (nI n)), (3, .long (enI (gA S 36) (gA S 39) (Int32.toInt64 (gA S 42 si) * 1000000) x.1 t)), (5, .int (nI t))]) (st' := [.int (nI (fnL x.1 t)), .ref 39, .ref 36, .long (enI (gA S 36) (gA S 39) (Int32.toInt64 (gA S 42 si) * 1000000) x.1 t)]) (S' := S) rfl rfl rfl rfl ?_
      refine fV.run iX8_energyOf_42_1 oX8_energyOf_42_1 (pc' := 43) (L' := [(0, .ref 35), (1, .int (nI si)), (2, .int (nI n)), (3, .long (enI (gA S 36) (gA S 39) (Int32.toInt64 (gA S 42 si) * 1000000) x.1 t)), (5, .int (nI t))]) (st' := [.int (gA S 39 (nI (fnL x.1 t)).toNatClampNeg), .ref 36, .long (enI (gA S 36) (gA S 39) (Int32.toInt64 (gA S 42 si) * 1000000) x.1 t)]) (S' := S) (P := vp_in (nI (fnL x.1 t)) 16 ∧ True) rfl ⟨(vp_in_nI (Nat.lt_of_lt_of_le (fnL_lt hlb htl) hb) (by decide)), trivial⟩ ?_
      refine fV.to (L' := [(0, .ref 35), (1, .int (nI si)), (2, .int (nI n)), (3, .long (enI (gA S 36) (gA S 39) (Int32.toInt64 (gA S 42 si) * 1000000) x.1 t)), (5, .int (nI t))]) (st' := [.int (gA S 39 (fnL x.1 t)), .ref 36, .long (enI (gA S 36) (gA S 39) (Int32.toInt64 (gA S 42 si) * 1000000) x.1 t)]) rfl rfl (by rw [show (gA S 39 (nI (fnL x.1 t)).toNatClampNeg : Int32) = gA S 39 (fnL x.1 t) from by rw [nI_clamp (by have := fnL_lt hlb htl; omega)]]) rfl ?_
      refine fV.run iX8_energyOf_43_8 oX8_energyOf_43_8 (pc' := 15) (L' := [(0, .ref 35), (1, .int (nI si)), (2, .int (nI n)), (3, .long (((enI (gA S 36) (gA S 39) (Int32.toInt64 (gA S 42 si) * 1000000) x.1 t) * (Int32.toInt64 (gA S 36 (gA S 39 (fnL x.1 t)).toNatClampNeg))) / 100)), (5, .int ((nI t) + 1))]) (st' := []) (S' := S) (P := vp_in (gA S 39 (fnL x.1 t)) 8 ∧ ¬ 100 = 0 ∧ True) rfl ⟨(by obtain ⟨j, hj, ej⟩ := hsf (fnL x.1 t) (fnL_lt hlb htl); exact vinN (w := j) hj (by decide) ej), (by decide), trivial⟩ ?_
      exact fV.to (L' := [(0, .ref 35), (1, .int (nI si)), (2, .int (nI n)), (3, .long (enI (gA S 36) (gA S 39) (Int32.toInt64 (gA S 42 si) * 1000000) x.1 (t + 1))), (5, .int (nI (t + 1)))]) rfl (by rw [nI_1]; rfl) rfl rfl (ih (t + 1) (by omega))
def iX8_energyOf_0_4 : List Instr := [.aload_n 0, .getfield 28, .iload_n 1, .iaload]
theorem oX8_energyOf_0_4 : fOkB cX8_energyOf 0 iX8_energyOf_0_4 = true := by decide +kernel
def iX8_energyOf_6_6 : List Instr := [.i2l, .ldc2_w 191, .lmul, .lstore_n 3, .iconst 0, .istore 5]
theorem oX8_energyOf_6_6 : fOkB cX8_energyOf 6 iX8_energyOf_6_6 = true := by decide +kernel
set_option maxRecDepth 100000 in
theorem qX8_en {G : fG} {d : Nat} {S : fS} {b n : Nat} {PL : List pTh} {x : pTh} (hb : b ≤ 16) (w3 : gI S 35 3 = nI b) (F : fdR S b PL) (hp : plOk b PL) (hx : PL[n]? = some x) {si : Nat} (hsi : si < 4) (hq : plSq PL) (hsf : ∀ w, w < b → ∃ j, j < 8 ∧ gA S 39 w = nI j)  : fCtr G (d + 1) mX8_energyOf [.ref 35, .int (nI si), .int (nI n)] S (fun r S' => r = some (.long (enF (gA S 36) (gA S 39) (gA S 42 si) x)) ∧ S' = S) := by
  refine fCtr.of bXX8_energyOf (Nat.le_of_ble_eq_true rfl) rfl ?_
  refine fV.run iX8_energyOf_0_4 oX8_energyOf_0_4 (pc' := 6) (L' := [(0, .ref 35), (1, .int (nI si)), (2, .int (nI n))]) (st' := [.int (gA S 42 (nI si).toNatClampNeg)]) (S' := S) (P := vp_in (nI si) 4 ∧ True) rfl ⟨(vp_in_nI (by omega) (by decide)), trivial⟩ ?_
  refine fV.to (L' := [(0, .ref 35), (1, .int (nI si)), (2, .int (nI n))]) (st' := [.int (gA S 42 si)]) rfl rfl (by rw [show (gA S 42 (nI si).toNatClampNeg : Int32) = gA S 42 si from by rw [nI_clamp (by omega)]]) rfl ?_
  refine fV.run iX8_energyOf_6_6 oX8_energyOf_6_6 (pc' := 15) (L' := [(0, .ref 35), (1, .int (nI si)), (2, .int (nI n)), (3, .long ((Int32.toInt64 (gA S 42 si)) * 1000000)), (5, .int 0)]) (st' := []) (S' := S) rfl trivial ?_
  exact lpX8_en hb w3 F hp hx hsi hq hsf x.1.length 0 (by omega)
theorem ls_s {PL : List pTh} {i : Nat} {x : pTh} (h : PL[i]? = some x) : leastF (PL.take (i + 1)) = lsF (leastF (PL.take i)) (tickF x.2) := by
  unfold leastF; rw [take_s h, List.foldl_append]; rfl
theorem ls_1 {l t : Int32} (h : l < 0) (h2 : l = -1 ∨ (0 ≤ l ∧ l ≤ 655)) : lsF l t = t := if_pos (Or.inl (by grind))
theorem ls_2 {l t : Int32} (h : ¬ l ≤ t) : lsF l t = t := if_pos (Or.inr (by grind))
theorem ls_3 {l t : Int32} (h : ¬ l < 0) (h2 : l ≤ t) : lsF l t = l := if_neg (by grind)
def iX8_leastTick_4_3 : List Instr := [.iload_n 2, .aload_n 0, .getfield 181]
theorem oX8_leastTick_4_3 : fOkB cX8_leastTick 4 iX8_leastTick_4_3 = true := by decide +kernel
theorem bX8_leastTick_9 : fBk cX8_leastTick 9 (.if_icmp .ge) 41 := ⟨32, by decide +kernel, by decide⟩
def iX8_leastTick_41_1 : List Instr := [.iload_n 1]
theorem oX8_leastTick_41_1 : fOkB cX8_leastTick 41 iX8_leastTick_41_1 = true := by decide +kernel
theorem dX8_leastTick_42 : decode cX8_leastTick 42 = .ok (.ireturn, 1) := by decide +kernel
def iX8_leastTick_12_1 : List Instr := [.iload_n 1]
theorem oX8_leastTick_12_1 : fOkB cX8_leastTick 12 iX8_leastTick_12_1 = true := by decide +kernel
theorem bX8_leastTick_13 : fBk cX8_leastTick 13 (.ifCond .lt) 25 := ⟨12, by decide +kernel, by decide⟩
def iX8_leastTick_25_2 : List Instr := [.aload_n 0, .iload_n 2]
theorem oX8_leastTick_25_2 : fOkB cX8_leastTick 25 iX8_leastTick_25_2 = true := by decide +kernel
set_option maxRecDepth 100000 in
theorem lX8_220 : Cond.methodLink RX8 220 yX8_tickOf ∈ fTB := fTB_at 870 rfl rfl
theorem dX8_leastTick_27 : decode cX8_leastTick 27 = .ok (.invokevirtual 220, 3) := by decide +kernel
def iX8_leastTick_30_4 : List Instr := [.goto 4, .istore_n 1, .iinc 2 1, .goto (-34)]
theorem oX8_leastTick_30_4 : fOkB cX8_leastTick 30 iX8_leastTick_30_4 = true := by decide +kernel
def iX8_leastTick_16_2 : List Instr := [.aload_n 0, .iload_n 2]
theorem oX8_leastTick_16_2 : fOkB cX8_leastTick 16 iX8_leastTick_16_2 = true := by decide +kernel
theorem dX8_leastTick_18 : decode cX8_leastTick 18 = .ok (.invokevirtual 220, 3) := by decide +kernel
def iX8_leastTick_21_1 : List Instr := [.iload_n 1]
theorem oX8_leastTick_21_1 : fOkB cX8_leastTick 21 iX8_leastTick_21_1 = true := by decide +kernel
theorem bX8_leastTick_22 : fBk cX8_leastTick 22 (.if_icmp .ge) 33 := ⟨11, by decide +kernel, by decide⟩
def iX8_leastTick_33_4 : List Instr := [.iload_n 1, .istore_n 1, .iinc 2 1, .goto (-34)]
theorem oX8_leastTick_33_4 : fOkB cX8_leastTick 33 iX8_leastTick_33_4 = true := by decide +kernel
set_option maxRecDepth 100000 in
theorem lpX8_least {G : fG} {d : Nat} {S : fS} {b : Nat} {PL : List pTh} (F : fdR S b PL) : ∀ (u i : Nat), i + u = PL.length → fV G mX8_leastTick (fZm G (d + 1) (fun r S' => r = some (.int (leastF PL)) ∧ S' = S)) 4 [(0, .ref 35), (1, .int (leastF (PL.take i))), (2, .int (nI i))] [] S := by
  have hl : PL.length ≤ 3857 := F.2.1
  intro u
  induction u with
  | zero =>
    intro i hi
    refine fV.run iX8_leastTick_4_3 oX8_leastTick_4_3 (pc' := 9) (L' := [(0, .ref 35), (1, .int (leastF (PL.take i))), (2, .int (nI i))]) (st' := [.int (gI S 35 25), .int (nI i)]) (S' := S) rfl trivial ?_
    refine fV.icmp_ge bX8_leastTick_9 (fun c9 => ?_) (fun c9 => ?_)
    · refine fV.run iX8_leastTick_41_1 oX8_leastTick_41_1 (pc' := 42) (L' := [(0, .ref 35), (1, .int (leastF (PL.take i))), (2, .int (nI i))]) (st' := [.int (leastF (PL.take i))]) (S' := S) rfl trivial ?_
      exact fV.iret rfl dX8_leastTick_42 ⟨by rw [List.take_of_length_le (by omega)], rfl⟩
    · exact absurd c9 (fun z => z (by rw [F.1]; exact nI_le (by omega) (by omega)))
  | succ u ih =>
    intro i hi
    obtain ⟨x, hx⟩ : ∃ x, PL[i]? = some x := ⟨_, List.getElem?_eq_getElem (by omega)⟩
    refine fV.run iX8_leastTick_4_3 oX8_leastTick_4_3 (pc' := 9) (L' := [(0, .ref 35), (1, .int (leastF (PL.take i))), (2, .int (nI i))]) (st' := [.int (gI S 35 25), .int (nI i)]) (S' := S) rfl trivial ?_
    refine fV.icmp_ge bX8_leastTick_9 (fun c9 => ?_) (fun c9 => ?_)
    · exact absurd c9 (by rw [F.1]; exact nI_ge (by omega) (by omega))
    · refine fV.run iX8_leastTick_12_1 oX8_leastTick_12_1 (pc' := 13) (L' := [(0, .ref 35), (1, .int (leastF (PL.take i))), (2, .int (nI i))]) (st' := [.int (leastF (PL.take i))]) (S' := S) rfl trivial ?_
      refine fV.if_lt bX8_leastTick_13 (fun c13 => ?_) (fun c13 => ?_)
      · refine fV.run iX8_leastTick_25_2 oX8_leastTick_25_2 (pc' := 27) (L' := [(0, .ref 35), (1, .int (leastF (PL.take i))), (2, .int (nI i))]) (st' := [.int (nI i), .ref 35]) (S' := S) rfl trivial ?_
        refine fV.callV (M2 := mX8_tickOf) (d := d) (o := 35) (av := [.int (nI i)]) (rest := []) kX8_tickOf dX8_leastTick_27 lX8_220 rfl rfl rfl (Nat.le_of_ble_eq_true rfl) (fRoom (by decide)) ⟨Nat.le_refl _, Nat.le_refl _⟩ (qX8_tick (S := S) F hx) ?_
        rintro _ S9 ⟨rfl, h9⟩
        rw [h9]
        clear h9 S9
        refine fV.to (pc' := 30) (L' := [(0, .ref 35), (1, .int (leastF (PL.take i))), (2, .int (nI i))]) (st' := [.int (tickF x.2)]) (S' := S) rfl rfl rfl rfl ?_
        refine fV.run iX8_leastTick_30_4 oX8_leastTick_30_4 (pc' := 4) (L' := [(0, .ref 35), (1, .int (tickF x.2)), (2, .int ((nI i) + 1))]) (st' := []) (S' := S) rfl trivial ?_
        exact fV.to (L' := [(0, .ref 35), (1, .int (leastF (PL.take (i + 1)))), (2, .int (nI (i + 1)))]) rfl (by first | rw [nI_1, ls_s hx, ls_1 c13 (least_nn _)] | rw [nI_1, ls_s hx, ls_2 c22] | rw [nI_1, ls_s hx, ls_3 c13 c22]) rfl rfl (ih (i + 1) (by omega))
      · refine fV.run iX8_leastTick_16_2 oX8_leastTick_16_2 (pc' := 18) (L' := [(0, .ref 35), (1, .int (leastF (PL.take i))), (2, .int (nI i))]) (st' := [.int (nI i), .ref 35]) (S' := S) rfl trivial ?_
        refine fV.callV (M2 := mX8_tickOf) (d := d) (o := 35) (av := [.int (nI i)]) (rest := []) kX8_tickOf dX8_leastTick_18 lX8_220 rfl rfl rfl (Nat.le_of_ble_eq_true rfl) (fRoom (by decide)) ⟨Nat.le_refl _, Nat.le_refl _⟩ (qX8_tick (S := S) F hx) ?_
        rintro _ S9 ⟨rfl, h9⟩
        rw [h9]
        clear h9 S9
        refine fV.to (pc' := 21) (L' := [(0, .ref 35), (1, .int (leastF (PL.take i))), (2, .int (nI i))]) (st' := [.int (tickF x.2)]) (S' := S) rfl rfl rfl rfl ?_
        refine fV.run iX8_leastTick_21_1 oX8_leastTick_21_1 (pc' := 22) (L' := [(0, .ref 35), (1, .int (leastF (PL.take i))), (2, .int (nI i))]) (st' := [.int (leastF (PL.take i)), .int (tickF x.2)]) (S' := S) rfl trivial ?_
        refine fV.icmp_ge bX8_leastTick_22 (fun c22 => ?_) (fun c22 => ?_)
        · refine fV.run iX8_leastTick_33_4 oX8_leastTick_33_4 (pc' := 4) (L' := [(0, .ref 35), (1, .int (leastF (PL.take i))), (2, .int ((nI i) + 1))]) (st' := []) (S' := S) rfl trivial ?_
          exact fV.to (L' := [(0, .ref 35), (1, .int (leastF (PL.take (i + 1)))), (2, .int (nI (i + 1)))]) rfl (by first | rw [nI_1, ls_s hx, ls_1 c13 (least_nn _)] | rw [nI_1, ls_s hx, ls_2 c22] | rw [nI_1, ls_s hx, ls_3 c13 c22]) rfl rfl (ih (i + 1) (by omega))
        · refine fV.run iX8_leastTick_25_2 oX8_leastTick_25_2 (pc' := 27) (L' := [(0, .ref 35), (1, .int (leastF (PL.take i))), (2, .int (nI i))]) (st' := [.int (nI i), .ref 35]) (S' := S) rfl trivial ?_
          refine fV.callV (M2 := mX8_tickOf) (d := d) (o := 35) (av := [.int (nI i)]) (rest := []) kX8_tickOf dX8_leastTick_27 lX8_220 rfl rfl rfl (Nat.le_of_ble_eq_true rfl) (fRoom (by decide)) ⟨Nat.le_refl _, Nat.le_refl _⟩ (qX8_tick (S := S) F hx) ?_
          rintro _ S9 ⟨rfl, h9⟩
          rw [h9]
          clear h9 S9
          refine fV.to (pc' := 30) (L' := [(0, .ref 35), (1, .int (leastF (PL.take i))), (2, .int (nI i))]) (st' := [.int (tickF x.2)]) (S' := S) rfl rfl rfl rfl ?_
          refine fV.run iX8_leastTick_30_4 oX8_leastTick_30_4 (pc' := 4) (L' := [(0, .ref 35), (1, .int (tickF x.2)), (2, .int ((nI i) + 1))]) (st' := []) (S' := S) rfl trivial ?_
          exact fV.to (L' := [(0, .ref 35), (1, .int (leastF (PL.take (i + 1)))), (2, .int (nI (i + 1)))]) rfl (by first | rw [nI_1, ls_s hx, ls_1 c13 (least_nn _)] | rw [nI_1, ls_s hx, ls_2 c22] | rw [nI_1, ls_s hx, ls_3 c13 c22]) rfl rfl (ih (i + 1) (by omega))
def iX8_leastTick_0_4 : List Instr := [.iconst (-1), .istore_n 1, .iconst 0, .istore_n 2]
theorem oX8_leastTick_0_4 : fOkB cX8_leastTick 0 iX8_leastTick_0_4 = true := by decide +kernel
set_option maxRecDepth 100000 in
theorem qX8_least {G : fG} {d : Nat} {S : fS} {b : Nat} {PL : List pTh} (F : fdR S b PL)  : fCtr G (d + 1) mX8_leastTick [.ref 35] S (fun r S' => r = some (.int (leastF PL)) ∧ S' = S) := by
  refine fCtr.of bXX8_leastTick (Nat.le_of_ble_eq_true rfl) rfl ?_
  refine fV.run iX8_leastTick_0_4 oX8_leastTick_0_4 (pc' := 4) (L' := [(0, .ref 35), (1, .int (-1)), (2, .int 0)]) (st' := []) (S' := S) rfl trivial ?_
  exact lpX8_least F PL.length 0 (by omega)

/-! the balance of the hall -/
theorem i_add {x y : Int32} (h1 : -2147483648 ≤ x.toInt + y.toInt) (h2 : x.toInt + y.toInt < 2147483648) : (x + y).toInt = x.toInt + y.toInt := by
  rw [Int32.toInt_add, Int.bmod_def]; omega
theorem i_sub {x y : Int32} (h1 : -2147483648 ≤ x.toInt - y.toInt) (h2 : x.toInt - y.toInt < 2147483648) : (x - y).toInt = x.toInt - y.toInt := by
  rw [Int32.toInt_sub, Int.bmod_def]; omega
theorem i_mul {x y : Int32} (h1 : -2147483648 ≤ x.toInt * y.toInt) (h2 : x.toInt * y.toInt < 2147483648) : (x * y).toInt = x.toInt * y.toInt := by
  rw [Int32.toInt_mul, Int.bmod_def]; omega
theorem j_add {x y : Int64} (h1 : -9223372036854775808 ≤ x.toInt + y.toInt) (h2 : x.toInt + y.toInt < 9223372036854775808) : (x + y).toInt = x.toInt + y.toInt := by
  rw [Int64.toInt_add, Int.bmod_def]; omega
theorem j_sub {x y : Int64} (h1 : -9223372036854775808 ≤ x.toInt - y.toInt) (h2 : x.toInt - y.toInt < 9223372036854775808) : (x - y).toInt = x.toInt - y.toInt := by
  rw [Int64.toInt_sub, Int.bmod_def]; omega
theorem j_mul {x y : Int64} (h1 : -9223372036854775808 ≤ x.toInt * y.toInt) (h2 : x.toInt * y.toInt < 9223372036854775808) : (x * y).toInt = x.toInt * y.toInt := by
  rw [Int64.toInt_mul, Int.bmod_def]; omega
theorem t_le {x y : Int32} : x ≤ y ↔ x.toInt ≤ y.toInt := Int32.le_iff_toInt_le
theorem t_lt {x y : Int32} : x < y ↔ x.toInt < y.toInt := Int32.lt_iff_toInt_lt
theorem t_n {n : Nat} (h : n < 2 ^ 31) : (OfNat.ofNat n : Int32).toInt = (n : Int) := nI_toInt h
def lineF (en : Nat → Int32) (b : Nat) : Int32 := l_sum (fun w => hLen en w) b
def lostT (h : hH) (w : Nat) : Int32 := hLen h.2.1.2.1 w * (100 - h.1.2.1 (h.2.1.2.2 w).toNatClampNeg) / 100
def lostF (h : hH) (b : Nat) : Int32 := l_sum (lostT h) b
def decF (h : hH) (b : Nat) : Int32 := if lineF h.2.1.2.1 b = 0 then 0 else 1000 * lostF h b / lineF h.2.1.2.1 b
theorem hOk.wall {h : hH} {a b c e : Nat} (H : hOk h a b c e) {w : Nat} (hw : w < b) : (∀ j, j < 4 → 0 ≤ h.2.1.2.1 (4 * w + j) ∧ h.2.1.2.1 (4 * w + j) ≤ 1000) ∧ ((h.2.1.2.1 (4 * w) = h.2.1.2.1 (4 * w + 2) ∧ ¬ h.2.1.2.1 (4 * w + 1) = h.2.1.2.1 (4 * w + 3)) ∨ (¬ h.2.1.2.1 (4 * w) = h.2.1.2.1 (4 * w + 2) ∧ h.2.1.2.1 (4 * w + 1) = h.2.1.2.1 (4 * w + 3))) := (H.2.1.2.2 w hw).1
theorem hOk.len {h : hH} {a b c e : Nat} (H : hOk h a b c e) {w : Nat} (hw : w < b) : rLen h.2.1.2.1 w = hLen h.2.1.2.1 w := len_eq (H.wall hw).1 (H.wall hw).2
theorem hOk.stf {h : hH} {a b c e : Nat} (H : hOk h a b c e) {w : Nat} (hw : w < b) : ∃ i, i < a ∧ h.2.1.2.2 w = nI i := (H.2.1.2.2 w hw).2
theorem hOk.len1 {h : hH} {a b c e : Nat} (H : hOk h a b c e) {w : Nat} (hw : w < b) : 1 ≤ (hLen h.2.1.2.1 w).toInt ∧ (hLen h.2.1.2.1 w).toInt ≤ 1000 := by
  obtain ⟨hb, hs⟩ := H.wall hw
  have h0 := hb 0 (by omega)
  have h1 := hb 1 (by omega)
  have h2 := hb 2 (by omega)
  have h3 := hb 3 (by omega)
  simp only [Nat.add_zero] at h0
  unfold hLen hHigh hLow
  generalize h.2.1.2.1 (4 * w) = p at *
  generalize h.2.1.2.1 (4 * w + 1) = q at *
  generalize h.2.1.2.1 (4 * w + 2) = r at *
  generalize h.2.1.2.1 (4 * w + 3) = s at *
  have t1 : (1000 : Int32).toInt = 1000 := by decide
  have t0 : (0 : Int32).toInt = 0 := by decide
  simp only [t_le, t1, t0] at h0 h1 h2 h3
  simp only [← Int32.toInt_inj] at hs
  rcases hs with ⟨q1, q2⟩ | ⟨q1, q2⟩
  · rw [if_pos (Int32.toInt_inj.mp q1), if_pos (Int32.toInt_inj.mp q1)]
    by_cases z : q < s
    · rw [if_pos z, if_neg (by grind), i_sub (by omega) (by omega)]; rw [t_lt] at z; omega
    · rw [if_neg z, if_pos (by rw [t_lt] at z ⊢; omega), i_sub (by omega) (by omega)]; rw [t_lt] at z; omega
  · rw [if_neg (fun z => q1 (Int32.toInt_inj.mpr z)), if_neg (fun z => q1 (Int32.toInt_inj.mpr z))]
    by_cases z : p < r
    · rw [if_pos z, if_neg (by grind), i_sub (by omega) (by omega)]; rw [t_lt] at z; omega
    · rw [if_neg z, if_pos (by rw [t_lt] at z ⊢; omega), i_sub (by omega) (by omega)]; rw [t_lt] at z; omega
theorem sum_bd {f : Nat → Int32} {lo hi : Int} {b : Nat} (hb : b ≤ 16) (hlo : 0 ≤ lo) (hhi : hi ≤ 100000) (h : ∀ w, w < b → lo ≤ (f w).toInt ∧ (f w).toInt ≤ hi) : ∀ n, n ≤ b → n * lo ≤ (l_sum f n).toInt ∧ (l_sum f n).toInt ≤ n * hi
  | 0, _ => by simp [l_sum]
  | n + 1, hn => by
    obtain ⟨i1, i2⟩ := sum_bd hb hlo hhi h n (by omega)
    obtain ⟨h1, h2⟩ := h n (by omega)
    have e1 : ((n + 1 : Nat) : Int) * lo = n * lo + lo := by rw [Int.natCast_add, Int.add_mul]; omega
    have e2 : ((n + 1 : Nat) : Int) * hi = n * hi + hi := by rw [Int.natCast_add, Int.add_mul]; omega
    have b1 : (0 : Int) ≤ n * lo := Int.mul_nonneg (by omega) hlo
    have b2 : (n : Int) * hi ≤ 16 * 100000 := Int.le_trans (Int.mul_le_mul_of_nonneg_left hhi (by omega)) (Int.mul_le_mul_of_nonneg_right (by omega) (by omega))
    show _ ≤ (l_sum f n + f n).toInt ∧ (l_sum f n + f n).toInt ≤ _
    rw [i_add (by omega) (by omega)]
    omega
theorem hOk.line {h : hH} {a b c e : Nat} (H : hOk h a b c e) : (b : Int) ≤ (lineF h.2.1.2.1 b).toInt ∧ (lineF h.2.1.2.1 b).toInt ≤ b * 1000 := by
  have := sum_bd (f := fun w => hLen h.2.1.2.1 w) (lo := 1) (hi := 1000) H.2.1.2.1 (by omega) (by omega) (fun w hw => H.len1 hw) b (Nat.le_refl _)
  rw [Int.mul_one] at this
  exact this
theorem hOk.lostT {h : hH} {a b c e : Nat} (H : hOk h a b c e) {w : Nat} (hw : w < b) : 0 ≤ (lostT h w).toInt ∧ (lostT h w).toInt ≤ 1000 := by
  obtain ⟨l1, l2⟩ := H.len1 hw
  obtain ⟨i, hi, e1⟩ := H.stf hw
  unfold Jvm.Pilot.@@N@@.lostT
  rw [e1, nI_clamp (by have := H.1.2.2.1; omega)]
  obtain ⟨⟨s1, s2⟩, -⟩ := H.1.2.2.2 i hi
  generalize h.1.2.1 i = s at *
  generalize hLen h.2.1.2.1 w = l at *
  have t1 : (100 : Int32).toInt = 100 := by decide
  have t0 : (0 : Int32).toInt = 0 := by decide
  simp only [t_le, t1, t0] at s1 s2
  have es : (100 - s).toInt = 100 - s.toInt := by rw [i_sub (by omega) (by omega), t1]
  have m1 : 0 ≤ l.toInt * (100 - s.toInt) := Int.mul_nonneg (by omega) (by omega)
  have m2 : l.toInt * (100 - s.toInt) ≤ 1000 * 100 := Int.mul_le_mul l2 (by omega) (by omega) (by omega)
  have em : (l * (100 - s)).toInt = l.toInt * (100 - s.toInt) := by rw [i_mul (by rw [es]; omega) (by rw [es]; omega), es]
  rw [lg_idiv_nonneg (by omega) (by decide), em, t1]
  omega
theorem hOk.lost {h : hH} {a b c e : Nat} (H : hOk h a b c e) : 0 ≤ (lostF h b).toInt ∧ (lostF h b).toInt ≤ 16000 := by
  have := sum_bd (f := Jvm.Pilot.@@N@@.lostT h) (lo := 0) (hi := 1000) H.2.1.2.1 (by omega) (by omega) (fun w hw => H.lostT hw) b (Nat.le_refl _)
  have hb := H.2.1.2.1
  unfold lostF
  omega
theorem hOk.dec {h : hH} {a b c e : Nat} (H : hOk h a b c e) : 0 ≤ (decF h b).toInt ∧ (decF h b).toInt ≤ 16000000 := by
  unfold decF
  split
  · decide
  · rename_i hn
    obtain ⟨l1, l2⟩ := H.line
    obtain ⟨q1, q2⟩ := H.lost
    have hne : (lineF h.2.1.2.1 b).toInt ≠ 0 := fun z => hn (Int32.toInt_inj.mp (by rw [z]; decide))
    have t1 : (1000 : Int32).toInt = 1000 := by decide
    have em : (1000 * lostF h b).toInt = 1000 * (lostF h b).toInt := by rw [i_mul (by rw [t1]; omega) (by rw [t1]; omega), t1]
    rw [lg_idiv_nonneg (by omega) (by omega), em]
    constructor
    · exact Int.ediv_nonneg (by omega) (by omega)
    · exact Int.le_trans (Int.ediv_le_self _ (by omega)) (by omega)
theorem hOk.line0 {h : hH} {a b c e : Nat} (H : hOk h a b c e) : lineF h.2.1.2.1 b = 0 ↔ b = 0 := by
  constructor
  · intro z
    have := H.line.1
    rw [z] at this
    have t0 : (0 : Int32).toInt = 0 := by decide
    omega
  · intro z; subst z; rfl
theorem geo_len {S : fS} {b i : Nat} (HG : hGeo S b) (hi : i < b) (hb : b ≤ 16) : gA S 10 (nI i).toNatClampNeg - gA S 9 (nI i).toNatClampNeg = hLen (gA S 5) i := by
  rw [nI_clamp (by omega), (HG i hi).2.2.1, (HG i hi).2.2.2]; rfl
set_option maxRecDepth 100000 in
theorem qX6_len {G : fG} {d : Nat} {S : fS} {b i : Nat} (HG : hGeo S b) (hi : i < b) (hb : b ≤ 16) : fCtr G (d) mX6_lengthOf [.ref 4, .int (nI i)] S (fun r S' => r = some (.int (hLen (gA S 5) i)) ∧ S' = S) := by
  refine fCtr.of bXX6_lengthOf (Nat.le_of_ble_eq_true rfl) rfl ?_
  refine fV.run iX6_lengthOf_0_9 oX6_lengthOf_0_9 (pc' := 13) (L' := [(0, .ref 4), (1, .int (nI i))]) (st' := [.int ((gA S 10 (nI i).toNatClampNeg) - (gA S 9 (nI i).toNatClampNeg))]) (S' := S) (P := vp_in (nI i) 16 ∧ vp_in (nI i) 16 ∧ True) rfl ⟨(vp_in_nI (by omega) (by decide)), (vp_in_nI (by omega) (by decide)), trivial⟩ ?_
  exact fV.iret rfl dX6_lengthOf_13 ⟨by rw [geo_len HG hi hb], rfl⟩
set_option maxRecDepth 100000 in
theorem qX8_len {G : fG} {d : Nat} {S : fS} {i : Nat} {a b c e : Nat} (H : hOk (hD S) a b c e) (hi : i < b) : fCtr G (d + 1) mX8_lengthOf [.ref 35, .int (nI i)] S (fun r S' => r = some (.int (hLen (gA S 38) i)) ∧ S' = S) := by
  refine fCtr.of bXX8_lengthOf (Nat.le_of_ble_eq_true rfl) rfl ?_
  have hb : gI S 35 3 = nI b := H.2.1.1
  have hb16 : b ≤ 16 := H.2.1.2.1
  have ha8 : a ≤ 8 := H.1.2.2.1
  refine fV.run iX8_lengthOf_0_15 oX8_lengthOf_0_15 (pc' := 19) (L' := [(0, .ref 35), (1, .int (nI i))]) (st' := [.int ((gA S 38 (4 * (nI i)).toNatClampNeg) - (gA S 38 ((4 * (nI i)) + 2).toNatClampNeg))]) (S' := S) (P := vp_in (4 * (nI i)) 64 ∧ vp_in ((4 * (nI i)) + 2) 64 ∧ True) rfl ⟨(vin4 (w := i) (by omega)).1, (vin4 (w := i) (by omega)).2.2.1, trivial⟩ ?_
  refine fV.callS (M2 := mX8_size) (d := d) (av := [.int ((gA S 38 (4 * (nI i)).toNatClampNeg) - (gA S 38 ((4 * (nI i)) + 2).toNatClampNeg))]) (rest := []) kX8_size dX8_lengthOf_19 lX8_117 rfl rfl (Nat.le_of_ble_eq_true rfl) (fRoom (by decide)) ⟨Nat.le_refl _, Nat.le_refl _⟩ (qX8_size _) ?_
  rintro _ S9 ⟨rfl, h9⟩
  rw [h9]
  clear h9 S9
  refine fV.to (pc' := 22) (L' := [(0, .ref 35), (1, .int (nI i))]) (st' := [.int (hSz ((gA S 38 (4 * (nI i)).toNatClampNeg) - (gA S 38 ((4 * (nI i)) + 2).toNatClampNeg)))]) (S' := S) rfl rfl rfl rfl ?_
  refine fV.run iX8_lengthOf_22_17 oX8_lengthOf_22_17 (pc' := 43) (L' := [(0, .ref 35), (1, .int (nI i))]) (st' := [.int ((gA S 38 ((4 * (nI i)) + 1).toNatClampNeg) - (gA S 38 ((4 * (nI i)) + 3).toNatClampNeg)), .int (hSz ((gA S 38 (4 * (nI i)).toNatClampNeg) - (gA S 38 ((4 * (nI i)) + 2).toNatClampNeg)))]) (S' := S) (P := vp_in ((4 * (nI i)) + 1) 64 ∧ vp_in ((4 * (nI i)) + 3) 64 ∧ True) rfl ⟨(vin4 (w := i) (by omega)).2.1, (vin4 (w := i) (by omega)).2.2.2, trivial⟩ ?_
  refine fV.callS (M2 := mX8_size) (d := d) (av := [.int ((gA S 38 ((4 * (nI i)) + 1).toNatClampNeg) - (gA S 38 ((4 * (nI i)) + 3).toNatClampNeg))]) (rest := [.int (hSz ((gA S 38 (4 * (nI i)).toNatClampNeg) - (gA S 38 ((4 * (nI i)) + 2).toNatClampNeg)))]) kX8_size dX8_lengthOf_43 lX8_117 rfl rfl (Nat.le_of_ble_eq_true rfl) (fRoom (by decide)) ⟨Nat.le_refl _, Nat.le_refl _⟩ (qX8_size _) ?_
  rintro _ S9 ⟨rfl, h9⟩
  rw [h9]
  clear h9 S9
  refine fV.to (pc' := 46) (L' := [(0, .ref 35), (1, .int (nI i))]) (st' := [.int (hSz ((gA S 38 ((4 * (nI i)) + 1).toNatClampNeg) - (gA S 38 ((4 * (nI i)) + 3).toNatClampNeg))), .int (hSz ((gA S 38 (4 * (nI i)).toNatClampNeg) - (gA S 38 ((4 * (nI i)) + 2).toNatClampNeg)))]) (S' := S) rfl rfl rfl rfl ?_
  refine fV.run iX8_lengthOf_46_1 oX8_lengthOf_46_1 (pc' := 47) (L' := [(0, .ref 35), (1, .int (nI i))]) (st' := [.int ((hSz ((gA S 38 (4 * (nI i)).toNatClampNeg) - (gA S 38 ((4 * (nI i)) + 2).toNatClampNeg))) + (hSz ((gA S 38 ((4 * (nI i)) + 1).toNatClampNeg) - (gA S 38 ((4 * (nI i)) + 3).toNatClampNeg))))]) (S' := S) rfl trivial ?_
  exact fV.iret rfl dX8_lengthOf_47 ⟨by obtain ⟨e0, e1, e2, e3⟩ := cl4 (b := i) (by omega); rw [e0, e1, e2, e3]; exact congrArg (fun z => some (Value.int z)) (H.len hi), rfl⟩
def iX7_lineOfHall_4_4 : List Instr := [.iload_n 2, .aload_n 0, .getfield 19, .getfield 97]
theorem oX7_lineOfHall_4_4 : fOkB cX7_lineOfHall 4 iX7_lineOfHall_4_4 = true := by decide +kernel
theorem bX7_lineOfHall_12 : fBk cX7_lineOfHall 12 (.if_icmp .ge) 32 := ⟨20, by decide +kernel, by decide⟩
def iX7_lineOfHall_32_1 : List Instr := [.iload_n 1]
theorem oX7_lineOfHall_32_1 : fOkB cX7_lineOfHall 32 iX7_lineOfHall_32_1 = true := by decide +kernel
theorem dX7_lineOfHall_33 : decode cX7_lineOfHall 33 = .ok (.ireturn, 1) := by decide +kernel
def iX7_lineOfHall_15_4 : List Instr := [.iload_n 1, .aload_n 0, .getfield 19, .iload_n 2]
theorem oX7_lineOfHall_15_4 : fOkB cX7_lineOfHall 15 iX7_lineOfHall_15_4 = true := by decide +kernel
set_option maxRecDepth 100000 in
theorem lX7_106 : Cond.methodLink RX7 106 yX6_lengthOf ∈ fTB := fTB_at 394 rfl rfl
theorem dX7_lineOfHall_21 : decode cX7_lineOfHall 21 = .ok (.invokevirtual 106, 3) := by decide +kernel
def iX7_lineOfHall_24_4 : List Instr := [.iadd, .istore_n 1, .iinc 2 1, .goto (-25)]
theorem oX7_lineOfHall_24_4 : fOkB cX7_lineOfHall 24 iX7_lineOfHall_24_4 = true := by decide +kernel
set_option maxRecDepth 100000 in
theorem lpX7_line {G : fG} {d : Nat} {S : fS}  {a b c e : Nat} (H : hOk (hC S) a b c e) (HG : hGeo S b) : ∀ (u9 i : Nat), i + u9 = b → fV G mX7_lineOfHall (fZm G (d + 1) (fun r S' => r = some (.int (lineF (gA S 5) b)) ∧ S' = S)) 4 [(0, .ref 0), (1, .int (lineF (gA S 5) i)), (2, .int (nI i))] [] S := by
  have hb : gI S 4 6 = nI b := H.2.1.1
  have hb16 : b ≤ 16 := H.2.1.2.1
  have ha8 : a ≤ 8 := H.1.2.2.1
  intro u9
  induction u9 with
  | zero =>
    intro i  hik
    refine fV.run iX7_lineOfHall_4_4 oX7_lineOfHall_4_4 (pc' := 12) (L' := [(0, .ref 0), (1, .int (lineF (gA S 5) i)), (2, .int (nI i))]) (st' := [.int (gI S 4 6), .int (nI i)]) (S' := S) rfl trivial ?_
    refine fV.icmp_ge bX7_lineOfHall_12 (fun c12 => ?_) (fun c12 => ?_)
    · refine fV.run iX7_lineOfHall_32_1 oX7_lineOfHall_32_1 (pc' := 33) (L' := [(0, .ref 0), (1, .int (lineF (gA S 5) i)), (2, .int (nI i))]) (st' := [.int (lineF (gA S 5) i)]) (S' := S) rfl trivial ?_
      exact fV.iret rfl dX7_lineOfHall_33 ⟨by rw [show i = b by omega], rfl⟩
    · exact absurd c12 (by rw [hb, nI_leI (by omega) (by omega)]; omega)
  | succ u9 ih =>
    intro i  hik
    refine fV.run iX7_lineOfHall_4_4 oX7_lineOfHall_4_4 (pc' := 12) (L' := [(0, .ref 0), (1, .int (lineF (gA S 5) i)), (2, .int (nI i))]) (st' := [.int (gI S 4 6), .int (nI i)]) (S' := S) rfl trivial ?_
    refine fV.icmp_ge bX7_lineOfHall_12 (fun c12 => ?_) (fun c12 => ?_)
    · exact absurd c12 (by rw [hb, nI_leI (by omega) (by omega)]; omega)
    · refine fV.run iX7_lineOfHall_15_4 oX7_lineOfHall_15_4 (pc' := 21) (L' := [(0, .ref 0), (1, .int (lineF (gA S 5) i)), (2, .int (nI i))]) (st' := [.int (nI i), .ref 4, .int (lineF (gA S 5) i)]) (S' := S) rfl trivial ?_
      refine fV.callV (M2 := mX6_lengthOf) (d := d) (o := 4) (av := [.int (nI i)]) (rest := [.int (lineF (gA S 5) i)]) kX6_lengthOf dX7_lineOfHall_21 lX7_106 rfl rfl rfl (Nat.le_of_ble_eq_true rfl) (fRoom (by decide)) ⟨Nat.le_refl _, Nat.le_refl _⟩ (qX6_len HG (i := i) (by omega) hb16) ?_
      rintro _ S9 ⟨rfl, h9⟩
      rw [h9]
      clear h9 S9
      refine fV.to (pc' := 24) (L' := [(0, .ref 0), (1, .int (lineF (gA S 5) i)), (2, .int (nI i))]) (st' := [.int (hLen (gA S 5) i), .int (lineF (gA S 5) i)]) (S' := S) rfl rfl rfl rfl ?_
      refine fV.run iX7_lineOfHall_24_4 oX7_lineOfHall_24_4 (pc' := 4) (L' := [(0, .ref 0), (1, .int ((lineF (gA S 5) i) + (hLen (gA S 5) i))), (2, .int ((nI i) + 1))]) (st' := []) (S' := S) rfl trivial ?_
      refine fV.to (L' := [(0, .ref 0), (1, .int (lineF (gA S 5) (i + 1))), (2, .int (nI (i + 1)))]) rfl (by rw [← nI_1]; rfl) rfl rfl (ih (i + 1) (by omega))
def iX7_lineOfHall_0_4 : List Instr := [.iconst 0, .istore_n 1, .iconst 0, .istore_n 2]
theorem oX7_lineOfHall_0_4 : fOkB cX7_lineOfHall 0 iX7_lineOfHall_0_4 = true := by decide +kernel
set_option maxRecDepth 100000 in
theorem qX7_line {G : fG} {d : Nat} {S : fS}  {a b c e : Nat} (H : hOk (hC S) a b c e) (HG : hGeo S b) : fCtr G (d + 1) mX7_lineOfHall [.ref 0] S (fun r S' => r = some (.int (lineF (gA S 5) b)) ∧ S' = S) := by
  refine fCtr.of bXX7_lineOfHall (Nat.le_of_ble_eq_true rfl) rfl ?_
  refine fV.run iX7_lineOfHall_0_4 oX7_lineOfHall_0_4 (pc' := 4) (L' := [(0, .ref 0), (1, .int 0), (2, .int 0)]) (st' := []) (S' := S) rfl trivial ?_
  exact lpX7_line H HG b 0 (by omega)
def iX7_lostInHall_4_4 : List Instr := [.iload_n 2, .aload_n 0, .getfield 19, .getfield 97]
theorem oX7_lostInHall_4_4 : fOkB cX7_lostInHall 4 iX7_lostInHall_4_4 = true := by decide +kernel
theorem bX7_lostInHall_12 : fBk cX7_lostInHall 12 (.if_icmp .ge) 56 := ⟨44, by decide +kernel, by decide⟩
def iX7_lostInHall_56_1 : List Instr := [.iload_n 1]
theorem oX7_lostInHall_56_1 : fOkB cX7_lostInHall 56 iX7_lostInHall_56_1 = true := by decide +kernel
theorem dX7_lostInHall_57 : decode cX7_lostInHall 57 = .ok (.ireturn, 1) := by decide +kernel
def iX7_lostInHall_15_4 : List Instr := [.iload_n 1, .aload_n 0, .getfield 19, .iload_n 2]
theorem oX7_lostInHall_15_4 : fOkB cX7_lostInHall 15 iX7_lostInHall_15_4 = true := by decide +kernel
theorem dX7_lostInHall_21 : decode cX7_lostInHall 21 = .ok (.invokevirtual 106, 3) := by decide +kernel
def iX7_lostInHall_24_18 : List Instr := [.bipush 100, .aload_n 0, .getfield 10, .getfield 237, .aload_n 0, .getfield 19, .getfield 94, .iload_n 2, .iaload, .iaload, .isub, .imul, .bipush 100, .idiv, .iadd, .istore_n 1, .iinc 2 1, .goto (-49)]
theorem oX7_lostInHall_24_18 : fOkB cX7_lostInHall 24 iX7_lostInHall_24_18 = true := by decide +kernel
set_option maxRecDepth 100000 in
theorem lpX7_lost {G : fG} {d : Nat} {S : fS}  {a b c e : Nat} (H : hOk (hC S) a b c e) (HG : hGeo S b) : ∀ (u9 i : Nat), i + u9 = b → fV G mX7_lostInHall (fZm G (d + 1) (fun r S' => r = some (.int (lostF (hC S) b)) ∧ S' = S)) 4 [(0, .ref 0), (1, .int (lostF (hC S) i)), (2, .int (nI i))] [] S := by
  have hb : gI S 4 6 = nI b := H.2.1.1
  have hb16 : b ≤ 16 := H.2.1.2.1
  have ha8 : a ≤ 8 := H.1.2.2.1
  intro u9
  induction u9 with
  | zero =>
    intro i  hik
    refine fV.run iX7_lostInHall_4_4 oX7_lostInHall_4_4 (pc' := 12) (L' := [(0, .ref 0), (1, .int (lostF (hC S) i)), (2, .int (nI i))]) (st' := [.int (gI S 4 6), .int (nI i)]) (S' := S) rfl trivial ?_
    refine fV.icmp_ge bX7_lostInHall_12 (fun c12 => ?_) (fun c12 => ?_)
    · refine fV.run iX7_lostInHall_56_1 oX7_lostInHall_56_1 (pc' := 57) (L' := [(0, .ref 0), (1, .int (lostF (hC S) i)), (2, .int (nI i))]) (st' := [.int (lostF (hC S) i)]) (S' := S) rfl trivial ?_
      exact fV.iret rfl dX7_lostInHall_57 ⟨by rw [show i = b by omega], rfl⟩
    · exact absurd c12 (by rw [hb, nI_leI (by omega) (by omega)]; omega)
  | succ u9 ih =>
    intro i  hik
    refine fV.run iX7_lostInHall_4_4 oX7_lostInHall_4_4 (pc' := 12) (L' := [(0, .ref 0), (1, .int (lostF (hC S) i)), (2, .int (nI i))]) (st' := [.int (gI S 4 6), .int (nI i)]) (S' := S) rfl trivial ?_
    refine fV.icmp_ge bX7_lostInHall_12 (fun c12 => ?_) (fun c12 => ?_)
    · exact absurd c12 (by rw [hb, nI_leI (by omega) (by omega)]; omega)
    · refine fV.run iX7_lostInHall_15_4 oX7_lostInHall_15_4 (pc' := 21) (L' := [(0, .ref 0), (1, .int (lostF (hC S) i)), (2, .int (nI i))]) (st' := [.int (nI i), .ref 4, .int (lostF (hC S) i)]) (S' := S) rfl trivial ?_
      refine fV.callV (M2 := mX6_lengthOf) (d := d) (o := 4) (av := [.int (nI i)]) (rest := [.int (lostF (hC S) i)]) kX6_lengthOf dX7_lostInHall_21 lX7_106 rfl rfl rfl (Nat.le_of_ble_eq_true rfl) (fRoom (by decide)) ⟨Nat.le_refl _, Nat.le_refl _⟩ (qX6_len HG (i := i) (by omega) hb16) ?_
      rintro _ S9 ⟨rfl, h9⟩
      rw [h9]
      clear h9 S9
      refine fV.to (pc' := 24) (L' := [(0, .ref 0), (1, .int (lostF (hC S) i)), (2, .int (nI i))]) (st' := [.int (hLen (gA S 5) i), .int (lostF (hC S) i)]) (S' := S) rfl rfl rfl rfl ?_
      refine fV.run iX7_lostInHall_24_18 oX7_lostInHall_24_18 (pc' := 4) (L' := [(0, .ref 0), (1, .int ((lostF (hC S) i) + (((hLen (gA S 5) i) * (100 - (gA S 2 (gA S 6 (nI i).toNatClampNeg).toNatClampNeg))) / 100))), (2, .int ((nI i) + 1))]) (st' := []) (S' := S) (P := vp_in (nI i) 16 ∧ vp_in (gA S 6 (nI i).toNatClampNeg) 8 ∧ ¬ 100 = 0 ∧ True) rfl ⟨(vp_in_nI (by omega) (by decide)), (by rw [nI_clamp (by omega)]; obtain ⟨j, hj, ej⟩ := H.stf (w := i) (by omega); exact vinN (w := j) (by omega) (by decide) ej), (by decide), trivial⟩ ?_
      refine fV.to (L' := [(0, .ref 0), (1, .int (lostF (hC S) (i + 1))), (2, .int (nI (i + 1)))]) rfl (by rw [← nI_1, nI_clamp (by omega)]; rfl) rfl rfl (ih (i + 1) (by omega))
def iX7_lostInHall_0_4 : List Instr := [.iconst 0, .istore_n 1, .iconst 0, .istore_n 2]
theorem oX7_lostInHall_0_4 : fOkB cX7_lostInHall 0 iX7_lostInHall_0_4 = true := by decide +kernel
set_option maxRecDepth 100000 in
theorem qX7_lost {G : fG} {d : Nat} {S : fS}  {a b c e : Nat} (H : hOk (hC S) a b c e) (HG : hGeo S b) : fCtr G (d + 1) mX7_lostInHall [.ref 0] S (fun r S' => r = some (.int (lostF (hC S) b)) ∧ S' = S) := by
  refine fCtr.of bXX7_lostInHall (Nat.le_of_ble_eq_true rfl) rfl ?_
  refine fV.run iX7_lostInHall_0_4 oX7_lostInHall_0_4 (pc' := 4) (L' := [(0, .ref 0), (1, .int 0), (2, .int 0)]) (st' := []) (S' := S) rfl trivial ?_
  exact lpX7_lost H HG b 0 (by omega)
def iX7_decayOfHall_0_1 : List Instr := [.aload_n 0]
theorem oX7_decayOfHall_0_1 : fOkB cX7_decayOfHall 0 iX7_decayOfHall_0_1 = true := by decide +kernel
set_option maxRecDepth 100000 in
theorem lX7_115 : Cond.methodLink RX7 115 yX7_lineOfHall ∈ fTB := fTB_at 402 rfl rfl
theorem dX7_decayOfHall_1 : decode cX7_decayOfHall 1 = .ok (.invokevirtual 115, 3) := by decide +kernel
def iX7_decayOfHall_4_2 : List Instr := [.istore_n 1, .iload_n 1]
theorem oX7_decayOfHall_4_2 : fOkB cX7_decayOfHall 4 iX7_decayOfHall_4_2 = true := by decide +kernel
theorem bX7_decayOfHall_6 : fBk cX7_decayOfHall 6 (.ifCond .ne) 13 := ⟨7, by decide +kernel, by decide⟩
def iX7_decayOfHall_13_2 : List Instr := [.sipush 1000, .aload_n 0]
theorem oX7_decayOfHall_13_2 : fOkB cX7_decayOfHall 13 iX7_decayOfHall_13_2 = true := by decide +kernel
set_option maxRecDepth 100000 in
theorem lX7_119 : Cond.methodLink RX7 119 yX7_lostInHall ∈ fTB := fTB_at 406 rfl rfl
theorem dX7_decayOfHall_17 : decode cX7_decayOfHall 17 = .ok (.invokevirtual 119, 3) := by decide +kernel
def iX7_decayOfHall_20_3 : List Instr := [.imul, .iload_n 1, .idiv]
theorem oX7_decayOfHall_20_3 : fOkB cX7_decayOfHall 20 iX7_decayOfHall_20_3 = true := by decide +kernel
theorem dX7_decayOfHall_23 : decode cX7_decayOfHall 23 = .ok (.ireturn, 1) := by decide +kernel
def iX7_decayOfHall_9_2 : List Instr := [.iconst 0, .goto 13]
theorem oX7_decayOfHall_9_2 : fOkB cX7_decayOfHall 9 iX7_decayOfHall_9_2 = true := by decide +kernel
set_option maxRecDepth 100000 in
theorem qX7_dec {G : fG} {d : Nat} {S : fS}  {a b c e : Nat} (H : hOk (hC S) a b c e) (HG : hGeo S b) : fCtr G (d + 2) mX7_decayOfHall [.ref 0] S (fun r S' => r = some (.int (decF (hC S) b)) ∧ S' = S) := by
  refine fCtr.of bXX7_decayOfHall (Nat.le_of_ble_eq_true rfl) rfl ?_
  refine fV.run iX7_decayOfHall_0_1 oX7_decayOfHall_0_1 (pc' := 1) (L' := [(0, .ref 0)]) (st' := [.ref 0]) (S' := S) rfl trivial ?_
  refine fV.callV (M2 := mX7_lineOfHall) (d := d + 1) (o := 0) (av := []) (rest := []) kX7_lineOfHall dX7_decayOfHall_1 lX7_115 rfl rfl rfl (Nat.le_of_ble_eq_true rfl) (fRoom (by decide)) ⟨Nat.le_refl _, Nat.le_refl _⟩ (qX7_line H HG) ?_
  rintro _ S9 ⟨rfl, h9⟩
  rw [h9]
  clear h9 S9
  refine fV.to (pc' := 4) (L' := [(0, .ref 0)]) (st' := [.int (lineF (gA S 5) b)]) (S' := S) rfl rfl rfl rfl ?_
  refine fV.run iX7_decayOfHall_4_2 oX7_decayOfHall_4_2 (pc' := 6) (L' := [(0, .ref 0), (1, .int (lineF (gA S 5) b))]) (st' := [.int (lineF (gA S 5) b)]) (S' := S) rfl trivial ?_
  refine fV.if_ne bX7_decayOfHall_6 (fun c6 => ?_) (fun c6 => ?_)
  · refine fV.run iX7_decayOfHall_13_2 oX7_decayOfHall_13_2 (pc' := 17) (L' := [(0, .ref 0), (1, .int (lineF (gA S 5) b))]) (st' := [.ref 0, .int 1000]) (S' := S) rfl trivial ?_
    refine fV.callV (M2 := mX7_lostInHall) (d := d + 1) (o := 0) (av := []) (rest := [.int 1000]) kX7_lostInHall dX7_decayOfHall_17 lX7_119 rfl rfl rfl (Nat.le_of_ble_eq_true rfl) (fRoom (by decide)) ⟨Nat.le_refl _, Nat.le_refl _⟩ (qX7_lost H HG) ?_
    rintro _ S9 ⟨rfl, h9⟩
    rw [h9]
    clear h9 S9
    refine fV.to (pc' := 20) (L' := [(0, .ref 0), (1, .int (lineF (gA S 5) b))]) (st' := [.int (lostF (hC S) b), .int 1000]) (S' := S) rfl rfl rfl rfl ?_
    refine fV.run iX7_decayOfHall_20_3 oX7_decayOfHall_20_3 (pc' := 23) (L' := [(0, .ref 0), (1, .int (lineF (gA S 5) b))]) (st' := [.int ((1000 * (lostF (hC S) b)) / (lineF (gA S 5) b))]) (S' := S) (P := ¬ (lineF (gA S 5) b) = 0 ∧ True) rfl ⟨c6, trivial⟩ ?_
    exact fV.iret rfl dX7_decayOfHall_23 ⟨by unfold decF; rw [if_neg (show ¬ lineF (hC S).2.1.2.1 b = 0 from c6)]; rfl, rfl⟩
  · refine fV.run iX7_decayOfHall_9_2 oX7_decayOfHall_9_2 (pc' := 23) (L' := [(0, .ref 0), (1, .int (lineF (gA S 5) b))]) (st' := [.int 0]) (S' := S) rfl trivial ?_
    exact fV.iret rfl dX7_decayOfHall_23 ⟨by unfold decF; rw [if_pos (show lineF (hC S).2.1.2.1 b = 0 from c6)], rfl⟩

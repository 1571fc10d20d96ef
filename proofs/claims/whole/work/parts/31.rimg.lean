/-! the reference: bounces -/
def kd (S S' : fS) : Prop := hD S' = hD S ∧ S'.1 = S.1 ∧ gI S' 35 22 = gI S 35 22 ∧ gI S' 35 25 = gI S 35 25 ∧ gA S' 51 = gA S 51 ∧ gA S' 52 = gA S 52 ∧ gA S' 53 = gA S 53 ∧ gB S' 54 = gB S 54
theorem kd.rf {S : fS} : kd S S := ⟨rfl, rfl, rfl, rfl, rfl, rfl, rfl, rfl⟩
theorem kd.tr {S S1 S2 : fS} (h : kd S S1) (h2 : kd S1 S2) : kd S S2 := ⟨h2.1.trans h.1, h2.2.1.trans h.2.1, h2.2.2.1.trans h.2.2.1, h2.2.2.2.1.trans h.2.2.2.1, h2.2.2.2.2.1.trans h.2.2.2.2.1, h2.2.2.2.2.2.1.trans h.2.2.2.2.2.1, h2.2.2.2.2.2.2.1.trans h.2.2.2.2.2.2.1, h2.2.2.2.2.2.2.2.trans h.2.2.2.2.2.2.2⟩
theorem kd.en {S S' : fS} (h : kd S S') : gA S' 38 = gA S 38 := congrArg (fun q => q.2.1.2.1) h.1
theorem kd.row {S S' : fS} (h : kd S S') {b k : Nat} {r : Nat → Nat} (R : rfRow S b r k) : rfRow S' b r k := ⟨h.2.2.1.trans R.1, R.2.1, fun i hi => ⟨by rw [h.2.2.2.2.1]; exact (R.2.2 i hi).1, (R.2.2 i hi).2⟩⟩
def noAdj (r : Nat → Nat) (k : Nat) : Prop := ∀ m, 0 < m → m < k → ¬ r (k - m) = r (k - 1 - m)
def bdP (p : zP) (n : Nat) : Prop := (-(1000 * (n : Int)) ≤ p.1.toInt ∧ p.1.toInt ≤ 1000 * (n + 1)) ∧ (-(1000 * (n : Int)) ≤ p.2.toInt ∧ p.2.toInt ≤ 1000 * (n + 1))
theorem mir_w {l x : Int32} (h1 : 0 ≤ l.toInt) (h2 : l.toInt ≤ 1000) (h3 : -10000 ≤ x.toInt) (h4 : x.toInt ≤ 10000) : (2 * l - x).toInt64 = 2 * l.toInt64 - x.toInt64 ∧ (2 * l - x).toInt = 2 * l.toInt - x.toInt := by
  have t2 : (2 : Int32).toInt = 2 := by decide
  have t3 : (2 : Int64).toInt = 2 := by decide
  have e1 : (2 * l).toInt = 2 * l.toInt := by rw [i_mul (by rw [t2]; omega) (by rw [t2]; omega), t2]
  have e2 : (2 * l - x).toInt = 2 * l.toInt - x.toInt := by rw [i_sub (by omega) (by omega), e1]
  refine ⟨?_, e2⟩
  apply Int64.toInt_inj.mp
  have e3 : (2 * l.toInt64).toInt = 2 * l.toInt := by rw [j_mul (by rw [t3, Int32.toInt_toInt64]; omega) (by rw [t3, Int32.toInt_toInt64]; omega), t3, Int32.toInt_toInt64]
  rw [Int32.toInt_toInt64, e2, j_sub (by rw [e3, Int32.toInt_toInt64]; omega) (by rw [e3, Int32.toInt_toInt64]; omega), e3, Int32.toInt_toInt64]
theorem mir_bd {h : hH} {a b c e : Nat} (H : hOk h a b c e) {w n : Nat} (hw : w < b) (hn : n ≤ 8) {p : zP} (hp : bdP p n) : bdP (mirP h.2.1.2.1 w p) (n + 1) := by
  obtain ⟨⟨a1, a2⟩, a3, a4⟩ := hp
  obtain ⟨l1, l2⟩ := line_bd H hw
  unfold mirP
  split
  · have e := (mir_w l1 l2 (show -10000 ≤ p.1.toInt by omega) (by omega)).2
    unfold bdP
    simp only
    rw [e]
    omega
  · have e := (mir_w l1 l2 (show -10000 ≤ p.2.toInt by omega) (by omega)).2
    unfold bdP
    simp only
    rw [e]
    omega
theorem eye_bd {h : hH} {a b c e : Nat} (H : hOk h a b c e) {seat : zP} (hs : ptOk seat) {r : Nat → Nat} {k : Nat} (hk : k ≤ 3) (hr : ∀ i, i < k → r i < b) : ∀ (m : Nat), m ≤ k → bdP (eyeD h.2.1.2.1 seat r k m) m
  | 0, _ => by obtain ⟨⟨a1, a2⟩, a3, a4⟩ := hs; simp only [eyeD, bdP]; omega
  | m + 1, hm => mir_bd H (hr _ (by omega)) (by omega) (eye_bd H hs hk hr m (by omega))
theorem img_bd2 {h : hH} {a b c e : Nat} (H : hOk h a b c e) {src : zP} (hs : ptOk src) {r : Nat → Nat} : ∀ (j : Nat), j ≤ 3 → (∀ i, i < j → r i < b) → bdP (imgD h.2.1.2.1 src r j) j := fun j hj hr => img_bd H hs j hj hr
theorem mirP_inv (en : Nat → Int32) (w : Nat) (p : zP) : mirP en w (mirP en w p) = p := by
  unfold mirP
  split
  · obtain ⟨x, y⟩ := p
    simp only [Prod.mk.injEq, and_true]
    grind
  · obtain ⟨x, y⟩ := p
    simp only [Prod.mk.injEq, true_and]
    grind
/-- the next leg -/
theorem lg_next {S1 S2 : fS} {h : hH} {a b c e m w : Nat} {E I : zP} (H : hOk h a b c e) (he : h.2.1.2.1 = gA S1 38) (hw : w < b) (L : lgOk S1 m E I) (hE : bdP E 3) (hI : bdP I 3)
    (h46 : gB S2 45 = gB S1 45) (h47 : gB S2 46 = gB S1 46)
    (t0 : gB S2 47 (2 * (m + 1)) = if gA S1 38 (4 * w) = gA S1 38 (4 * w + 2) then -gB S1 47 (2 * m) else gB S1 47 (2 * m)) (t1 : gB S2 47 (2 * (m + 1) + 1) = if gA S1 38 (4 * w) = gA S1 38 (4 * w + 2) then gB S1 47 (2 * m + 1) else -gB S1 47 (2 * m + 1))
    (f0 : gB S2 48 (2 * (m + 1)) = if gA S1 38 (4 * w) = gA S1 38 (4 * w + 2) then 2 * (hLine (gA S1 38) w).toInt64 - gB S1 48 (2 * m) else gB S1 48 (2 * m)) (f1 : gB S2 48 (2 * (m + 1) + 1) = if gA S1 38 (4 * w) = gA S1 38 (4 * w + 2) then gB S1 48 (2 * m + 1) else 2 * (hLine (gA S1 38) w).toInt64 - gB S1 48 (2 * m + 1)) :
    lgOk S2 (m + 1) (mirP (gA S1 38) w E) (mirP (gA S1 38) w I) := by
  obtain ⟨q1, ⟨q2, q3⟩, ⟨q4, q5⟩, -, -⟩ := L
  obtain ⟨l1, l2⟩ := line_bd H hw
  rw [he] at l1 l2
  obtain ⟨⟨e1, e2⟩, e3, e4⟩ := hE
  obtain ⟨⟨i1, i2⟩, i3, i4⟩ := hI
  have p0 := q1 0 (by omega)
  have p1 := q1 1 (by omega)
  rw [Nat.add_zero] at p0
  by_cases c : gA S1 38 (4 * w) = gA S1 38 (4 * w + 2)
  · rw [if_pos c] at t0 t1 f0 f1
    have m1 := mir_w l1 l2 (show -10000 ≤ E.1.toInt by omega) (by omega)
    have m2 := mir_w l1 l2 (show -10000 ≤ I.1.toInt by omega) (by omega)
    unfold mirP
    rw [if_pos c, if_pos c]
    refine ⟨fun x hx => ?_, ⟨?_, ?_⟩, ⟨?_, ?_⟩, ⟨⟨?_, ?_⟩, by simp only; omega, by simp only; omega⟩, ⟨⟨?_, ?_⟩, by simp only; omega, by simp only; omega⟩⟩
    · rcases (by omega : x = 0 ∨ x = 1) with rfl | rfl
      · rw [Nat.add_zero, t0]; rcases p0 with z | z <;> rw [z] <;> decide
      · rw [t1]; exact p1
    · simp only; rw [m1.1, t0, f0, h46, q2]; grind
    · simp only; rw [m2.1, t0, f0, h46, h47, q3]; grind
    · simp only; rw [t1, f1, h46, q4]
    · simp only; rw [t1, f1, h46, h47, q5]
    · simp only; rw [m1.2]; omega
    · simp only; rw [m1.2]; omega
    · simp only; rw [m2.2]; omega
    · simp only; rw [m2.2]; omega
  · rw [if_neg c] at t0 t1 f0 f1
    have m1 := mir_w l1 l2 (show -10000 ≤ E.2.toInt by omega) (by omega)
    have m2 := mir_w l1 l2 (show -10000 ≤ I.2.toInt by omega) (by omega)
    unfold mirP
    rw [if_neg c, if_neg c]
    refine ⟨fun x hx => ?_, ⟨?_, ?_⟩, ⟨?_, ?_⟩, ⟨⟨by simp only; omega, by simp only; omega⟩, ?_, ?_⟩, ⟨⟨by simp only; omega, by simp only; omega⟩, ?_, ?_⟩⟩
    · rcases (by omega : x = 0 ∨ x = 1) with rfl | rfl
      · rw [Nat.add_zero, t0]; exact p0
      · rw [t1]; rcases p1 with z | z <;> rw [z] <;> decide
    · simp only; rw [t0, f0, h46, q2]
    · simp only; rw [t0, f0, h46, h47, q3]
    · simp only; rw [m1.1, t1, f1, h46, q4]; grind
    · simp only; rw [m2.1, t1, f1, h46, h47, q5]; grind
    · simp only; rw [m1.2]; omega
    · simp only; rw [m1.2]; omega
    · simp only; rw [m2.2]; omega
    · simp only; rw [m2.2]; omega
theorem ax01 (en : Nat → Int32) (w : Nat) : (en (4 * w) = en (4 * w + 2) ∧ hAxI en w = 0) ∨ (¬ en (4 * w) = en (4 * w + 2) ∧ hAxI en w = 1) := by
  unfold hAxI
  by_cases h : en (4 * w) = en (4 * w + 2)
  · exact Or.inl ⟨h, if_pos h⟩
  · exact Or.inr ⟨h, if_neg h⟩
def iX8_findBounces_20_3 : List Instr := [.iload 7, .aload_n 0, .getfield 159]
theorem oX8_findBounces_20_3 : fOkB cX8_findBounces 20 iX8_findBounces_20_3 = true := by decide +kernel
theorem bX8_findBounces_26 : fBk cX8_findBounces 26 (.if_icmp .ge) 102 := ⟨76, by decide +kernel, by decide⟩
def iX8_findBounces_29_4 : List Instr := [.aload_n 0, .getfield 63, .iload 7, .iaload]
theorem oX8_findBounces_29_4 : fOkB cX8_findBounces 29 iX8_findBounces_29_4 = true := by decide +kernel
def iX8_findBounces_36_3 : List Instr := [.istore 8, .aload_n 0, .iload 8]
theorem oX8_findBounces_36_3 : fOkB cX8_findBounces 36 iX8_findBounces_36_3 = true := by decide +kernel
theorem dX8_findBounces_41 : decode cX8_findBounces 41 = .ok (.invokevirtual 136, 3) := by decide +kernel
theorem bX8_findBounces_44 : fBk cX8_findBounces 44 (.ifCond .ne) 63 := ⟨19, by decide +kernel, by decide⟩
def iX8_findBounces_63_4 : List Instr := [.lload_n 3, .lstore_n 3, .aload_n 0, .iload 8]
theorem oX8_findBounces_63_4 : fOkB cX8_findBounces 63 iX8_findBounces_63_4 = true := by decide +kernel
theorem dX8_findBounces_68 : decode cX8_findBounces 68 = .ok (.invokevirtual 136, 3) := by decide +kernel
def iX8_findBounces_71_1 : List Instr := [.iconst 1]
theorem oX8_findBounces_71_1 : fOkB cX8_findBounces 71 iX8_findBounces_71_1 = true := by decide +kernel
theorem bX8_findBounces_72 : fBk cX8_findBounces 72 (.if_icmp .ne) 92 := ⟨20, by decide +kernel, by decide⟩
def iX8_findBounces_75_3 : List Instr := [.ldc2_w 162, .aload_n 0, .iload 8]
theorem oX8_findBounces_75_3 : fOkB cX8_findBounces 75 iX8_findBounces_75_3 = true := by decide +kernel
theorem dX8_findBounces_81 : decode cX8_findBounces 81 = .ok (.invokevirtual 142, 3) := by decide +kernel
def iX8_findBounces_84_8 : List Instr := [.i2l, .lmul, .lload 5, .lsub, .goto 5, .lstore 5, .iinc 7 1, .goto (-79)]
theorem oX8_findBounces_84_8 : fOkB cX8_findBounces 84 iX8_findBounces_84_8 = true := by decide +kernel
def iX8_findBounces_47_3 : List Instr := [.ldc2_w 162, .aload_n 0, .iload 8]
theorem oX8_findBounces_47_3 : fOkB cX8_findBounces 47 iX8_findBounces_47_3 = true := by decide +kernel
theorem dX8_findBounces_53 : decode cX8_findBounces 53 = .ok (.invokevirtual 142, 3) := by decide +kernel
def iX8_findBounces_56_8 : List Instr := [.i2l, .lmul, .lload_n 3, .lsub, .goto 4, .lstore_n 3, .aload_n 0, .iload 8]
theorem oX8_findBounces_56_8 : fOkB cX8_findBounces 56 iX8_findBounces_56_8 = true := by decide +kernel
def iX8_findBounces_92_4 : List Instr := [.lload 5, .lstore 5, .iinc 7 1, .goto (-79)]
theorem oX8_findBounces_92_4 : fOkB cX8_findBounces 92 iX8_findBounces_92_4 = true := by decide +kernel
set_option maxRecDepth 100000 in
theorem lpX8_img {G : fG} {d : Nat} {S : fS} {a b c e k si ei : Nat} {r : Nat → Nat} (H : hOk (hD S) a b c e) (R : rfRow S b r k) (hsi : si < c) (hei : ei < e) {Q : Option Value → fS → Prop} (hK : fV G mX8_findBounces (fZm G (d + 4) Q) 102 [(0, .ref 35), (1, .int (nI si)), (2, .int (nI ei)), (3, .long (Int32.toInt64 (imgD (gA S 38) (gA S 40 si, gA S 41 si) r k).1)), (5, .long (Int32.toInt64 (imgD (gA S 38) (gA S 40 si, gA S 41 si) r k).2))] [] S) : ∀ (u i : Nat), i + u = k → fV G mX8_findBounces (fZm G (d + 4) Q) 20 [(0, .ref 35), (1, .int (nI si)), (2, .int (nI ei)), (3, .long (Int32.toInt64 (imgD (gA S 38) (gA S 40 si, gA S 41 si) r i).1)), (5, .long (Int32.toInt64 (imgD (gA S 38) (gA S 40 si, gA S 41 si) r i).2)), (7, .int (nI i))] [] S := by
  have hb16 : b ≤ 16 := H.2.1.2.1
  have hk3 : k ≤ 3 := R.2.1
  intro u
  induction u with
  | zero =>
    intro i hi
    refine fV.run iX8_findBounces_20_3 oX8_findBounces_20_3 (pc' := 26) (L' := [(0, .ref 35), (1, .int (nI si)), (2, .int (nI ei)), (3, .long (Int32.toInt64 (imgD (gA S 38) (gA S 40 si, gA S 41 si) r i).1)), (5, .long (Int32.toInt64 (imgD (gA S 38) (gA S 40 si, gA S 41 si) r i).2)), (7, .int (nI i))]) (st' := [.int (gI S 35 22), .int (nI i)]) (S' := S) rfl trivial ?_
    refine fV.icmp_ge bX8_findBounces_26 (fun c26 => ?_) (fun c26 => ?_)
    · obtain rfl : i = k := by omega
      exact fV.pick [0, 1, 2, 3, 4] rfl hK
    · exact absurd c26 (by rw [R.1, nI_leI (by omega) (by omega)]; omega)
  | succ u ih =>
    intro i hi
    have hri := (R.2.2 i (by omega)).2
    have hln : 0 ≤ (hLine (gA S 38) (r i)).toInt ∧ (hLine (gA S 38) (r i)).toInt ≤ 1000 := line_bd H hri
    have hib := img_bd2 H (src_ok H hsi) (r := r) i (by omega) (fun j hj => (R.2.2 j (by omega)).2)
    obtain ⟨⟨b1, b2⟩, b3, b4⟩ := hib
    have b1 : -(1000 * (i : Int)) ≤ (imgD (gA S 38) (gA S 40 si, gA S 41 si) r i).1.toInt := b1
    have b2 : (imgD (gA S 38) (gA S 40 si, gA S 41 si) r i).1.toInt ≤ 1000 * (i + 1) := b2
    have b3 : -(1000 * (i : Int)) ≤ (imgD (gA S 38) (gA S 40 si, gA S 41 si) r i).2.toInt := b3
    have b4 : (imgD (gA S 38) (gA S 40 si, gA S 41 si) r i).2.toInt ≤ 1000 * (i + 1) := b4
    refine fV.run iX8_findBounces_20_3 oX8_findBounces_20_3 (pc' := 26) (L' := [(0, .ref 35), (1, .int (nI si)), (2, .int (nI ei)), (3, .long (Int32.toInt64 (imgD (gA S 38) (gA S 40 si, gA S 41 si) r i).1)), (5, .long (Int32.toInt64 (imgD (gA S 38) (gA S 40 si, gA S 41 si) r i).2)), (7, .int (nI i))]) (st' := [.int (gI S 35 22), .int (nI i)]) (S' := S) rfl trivial ?_
    refine fV.icmp_ge bX8_findBounces_26 (fun c26 => ?_) (fun c26 => ?_)
    · exact absurd c26 (by rw [R.1, nI_leI (by omega) (by omega)]; omega)
    · refine fV.run iX8_findBounces_29_4 oX8_findBounces_29_4 (pc' := 36) (L' := [(0, .ref 35), (1, .int (nI si)), (2, .int (nI ei)), (3, .long (Int32.toInt64 (imgD (gA S 38) (gA S 40 si, gA S 41 si) r i).1)), (5, .long (Int32.toInt64 (imgD (gA S 38) (gA S 40 si, gA S 41 si) r i).2)), (7, .int (nI i))]) (st' := [.int (gA S 51 (nI i).toNatClampNeg)]) (S' := S) (P := vp_in (nI i) 3 ∧ True) rfl ⟨(vp_in_nI (by omega) (by decide)), trivial⟩ ?_
      refine fV.to (L' := [(0, .ref 35), (1, .int (nI si)), (2, .int (nI ei)), (3, .long (Int32.toInt64 (imgD (gA S 38) (gA S 40 si, gA S 41 si) r i).1)), (5, .long (Int32.toInt64 (imgD (gA S 38) (gA S 40 si, gA S 41 si) r i).2)), (7, .int (nI i))]) (st' := [.int (nI (r i))]) rfl rfl (by rw [show (gA S 51 (nI i).toNatClampNeg : Int32) = nI (r i) from by rw [nI_clamp (by omega)]; exact (R.2.2 i (by omega)).1]) rfl ?_
      refine fV.run iX8_findBounces_36_3 oX8_findBounces_36_3 (pc' := 41) (L' := [(0, .ref 35), (1, .int (nI si)), (2, .int (nI ei)), (3, .long (Int32.toInt64 (imgD (gA S 38) (gA S 40 si, gA S 41 si) r i).1)), (5, .long (Int32.toInt64 (imgD (gA S 38) (gA S 40 si, gA S 41 si) r i).2)), (7, .int (nI i)), (8, .int (nI (r i)))]) (st' := [.int (nI (r i)), .ref 35]) (S' := S) rfl trivial ?_
      refine fV.callV (M2 := mX8_axisOf) (d := d + 3) (o := 35) (av := [.int (nI (r i))]) (rest := []) kX8_axisOf dX8_findBounces_41 lX8_136 rfl rfl rfl (Nat.le_of_ble_eq_true rfl) (fRoom (by decide)) ⟨Nat.le_refl _, Nat.le_refl _⟩ (qX8_axis (S := S) (w := r i) (by omega)) ?_
      rintro _ S9 ⟨rfl, h9⟩
      rw [h9]
      clear h9 S9
      refine fV.to (pc' := 44) (L' := [(0, .ref 35), (1, .int (nI si)), (2, .int (nI ei)), (3, .long (Int32.toInt64 (imgD (gA S 38) (gA S 40 si, gA S 41 si) r i).1)), (5, .long (Int32.toInt64 (imgD (gA S 38) (gA S 40 si, gA S 41 si) r i).2)), (7, .int (nI i)), (8, .int (nI (r i)))]) (st' := [.int (hAxI (gA S 38) (r i))]) (S' := S) rfl rfl rfl rfl ?_
      refine fV.if_ne bX8_findBounces_44 (fun c44 => ?_) (fun c44 => ?_)
      · refine fV.run iX8_findBounces_63_4 oX8_findBounces_63_4 (pc' := 68) (L' := [(0, .ref 35), (1, .int (nI si)), (2, .int (nI ei)), (3, .long (Int32.toInt64 (imgD (gA S 38) (gA S 40 si, gA S 41 si) r i).1)), (5, .long (Int32.toInt64 (imgD (gA S 38) (gA S 40 si, gA S 41 si) r i).2)), (7, .int (nI i)), (8, .int (nI (r i)))]) (st' := [.int (nI (r i)), .ref 35]) (S' := S) rfl trivial ?_
        refine fV.callV (M2 := mX8_axisOf) (d := d + 3) (o := 35) (av := [.int (nI (r i))]) (rest := []) kX8_axisOf dX8_findBounces_68 lX8_136 rfl rfl rfl (Nat.le_of_ble_eq_true rfl) (fRoom (by decide)) ⟨Nat.le_refl _, Nat.le_refl _⟩ (qX8_axis (S := S) (w := r i) (by omega)) ?_
        rintro _ S9 ⟨rfl, h9⟩
        rw [h9]
        clear h9 S9
        refine fV.to (pc' := 71) (L' := [(0, .ref 35), (1, .int (nI si)), (2, .int (nI ei)), (3, .long (Int32.toInt64 (imgD (gA S 38) (gA S 40 si, gA S 41 si) r i).1)), (5, .long (Int32.toInt64 (imgD (gA S 38) (gA S 40 si, gA S 41 si) r i).2)), (7, .int (nI i)), (8, .int (nI (r i)))]) (st' := [.int (hAxI (gA S 38) (r i))]) (S' := S) rfl rfl rfl rfl ?_
        refine fV.run iX8_findBounces_71_1 oX8_findBounces_71_1 (pc' := 72) (L' := [(0, .ref 35), (1, .int (nI si)), (2, .int (nI ei)), (3, .long (Int32.toInt64 (imgD (gA S 38) (gA S 40 si, gA S 41 si) r i).1)), (5, .long (Int32.toInt64 (imgD (gA S 38) (gA S 40 si, gA S 41 si) r i).2)), (7, .int (nI i)), (8, .int (nI (r i)))]) (st' := [.int 1, .int (hAxI (gA S 38) (r i))]) (S' := S) rfl trivial ?_
        have h0 : ¬ gA S 38 (4 * r i) = gA S 38 (4 * r i + 2) := by rcases ax01 (gA S 38) (r i) with ⟨z1, z2⟩ | ⟨z1, z2⟩ <;> first | exact z1 | (exfalso; grind)
        refine fV.icmp_ne bX8_findBounces_72 (fun c72 => ?_) (fun c72 => ?_)
        · exact absurd c72 (by rcases ax01 (gA S 38) (r i) with ⟨z1, z2⟩ | ⟨z1, z2⟩ <;> grind)
        · refine fV.run iX8_findBounces_75_3 oX8_findBounces_75_3 (pc' := 81) (L' := [(0, .ref 35), (1, .int (nI si)), (2, .int (nI ei)), (3, .long (Int32.toInt64 (imgD (gA S 38) (gA S 40 si, gA S 41 si) r i).1)), (5, .long (Int32.toInt64 (imgD (gA S 38) (gA S 40 si, gA S 41 si) r i).2)), (7, .int (nI i)), (8, .int (nI (r i)))]) (st' := [.int (nI (r i)), .ref 35, .long 2]) (S' := S) rfl trivial ?_
          refine fV.callV (M2 := mX8_lineOf) (d := d + 3) (o := 35) (av := [.int (nI (r i))]) (rest := [.long 2]) kX8_lineOf dX8_findBounces_81 lX8_142 rfl rfl rfl (Nat.le_of_ble_eq_true rfl) (fRoom (by decide)) ⟨Nat.le_refl _, Nat.le_refl _⟩ (qX8_lineOf (S := S) (w := r i) (by omega)) ?_
          rintro _ S9 ⟨rfl, h9⟩
          rw [h9]
          clear h9 S9
          refine fV.to (pc' := 84) (L' := [(0, .ref 35), (1, .int (nI si)), (2, .int (nI ei)), (3, .long (Int32.toInt64 (imgD (gA S 38) (gA S 40 si, gA S 41 si) r i).1)), (5, .long (Int32.toInt64 (imgD (gA S 38) (gA S 40 si, gA S 41 si) r i).2)), (7, .int (nI i)), (8, .int (nI (r i)))]) (st' := [.int (hLine (gA S 38) (r i)), .long 2]) (S' := S) rfl rfl rfl rfl ?_
          refine fV.run iX8_findBounces_84_8 oX8_findBounces_84_8 (pc' := 20) (L' := [(0, .ref 35), (1, .int (nI si)), (2, .int (nI ei)), (3, .long (Int32.toInt64 (imgD (gA S 38) (gA S 40 si, gA S 41 si) r i).1)), (5, .long ((2 * (Int32.toInt64 (hLine (gA S 38) (r i)))) - (Int32.toInt64 (imgD (gA S 38) (gA S 40 si, gA S 41 si) r i).2))), (7, .int ((nI i) + 1)), (8, .int (nI (r i)))]) (st' := []) (S' := S) rfl trivial ?_
          refine fV.pick (L' := [(0, .ref 35), (1, .int (nI si)), (2, .int (nI ei)), (3, .long (Int32.toInt64 (imgD (gA S 38) (gA S 40 si, gA S 41 si) r i).1)), (5, .long ((2 * (Int32.toInt64 (hLine (gA S 38) (r i)))) - (Int32.toInt64 (imgD (gA S 38) (gA S 40 si, gA S 41 si) r i).2))), (7, .int (nI i + 1))]) [0, 1, 2, 3, 4, 5] rfl ?_
          refine fV.to (L' := [(0, .ref 35), (1, .int (nI si)), (2, .int (nI ei)), (3, .long (Int32.toInt64 (imgD (gA S 38) (gA S 40 si, gA S 41 si) r (i + 1)).1)), (5, .long (Int32.toInt64 (imgD (gA S 38) (gA S 40 si, gA S 41 si) r (i + 1)).2)), (7, .int (nI (i + 1)))]) rfl (by rw [show imgD (gA S 38) (gA S 40 si, gA S 41 si) r (i + 1) = ((imgD (gA S 38) (gA S 40 si, gA S 41 si) r i).1, 2 * hLine (gA S 38) (r i) - (imgD (gA S 38) (gA S 40 si, gA S 41 si) r i).2) from if_neg h0, nI_1]; simp only; rw [(mir_w hln.1 hln.2 (by omega) (by omega)).1]) rfl rfl (ih (i + 1) (by omega))
      · refine fV.run iX8_findBounces_47_3 oX8_findBounces_47_3 (pc' := 53) (L' := [(0, .ref 35), (1, .int (nI si)), (2, .int (nI ei)), (3, .long (Int32.toInt64 (imgD (gA S 38) (gA S 40 si, gA S 41 si) r i).1)), (5, .long (Int32.toInt64 (imgD (gA S 38) (gA S 40 si, gA S 41 si) r i).2)), (7, .int (nI i)), (8, .int (nI (r i)))]) (st' := [.int (nI (r i)), .ref 35, .long 2]) (S' := S) rfl trivial ?_
        refine fV.callV (M2 := mX8_lineOf) (d := d + 3) (o := 35) (av := [.int (nI (r i))]) (rest := [.long 2]) kX8_lineOf dX8_findBounces_53 lX8_142 rfl rfl rfl (Nat.le_of_ble_eq_true rfl) (fRoom (by decide)) ⟨Nat.le_refl _, Nat.le_refl _⟩ (qX8_lineOf (S := S) (w := r i) (by omega)) ?_
        rintro _ S9 ⟨rfl, h9⟩
        rw [h9]
        clear h9 S9
        refine fV.to (pc' := 56) (L' := [(0, .ref 35), (1, .int (nI si)), (2, .int (nI ei)), (3, .long (Int32.toInt64 (imgD (gA S 38) (gA S 40 si, gA S 41 si) r i).1)), (5, .long (Int32.toInt64 (imgD (gA S 38) (gA S 40 si, gA S 41 si) r i).2)), (7, .int (nI i)), (8, .int (nI (r i)))]) (st' := [.int (hLine (gA S 38) (r i)), .long 2]) (S' := S) rfl rfl rfl rfl ?_
        refine fV.run iX8_findBounces_56_8 oX8_findBounces_56_8 (pc' := 68) (L' := [(0, .ref 35), (1, .int (nI si)), (2, .int (nI ei)), (3, .long ((2 * (Int32.toInt64 (hLine (gA S 38) (r i)))) - (Int32.toInt64 (imgD (gA S 38) (gA S 40 si, gA S 41 si) r i).1))), (5, .long (Int32.toInt64 (imgD (gA S 38) (gA S 40 si, gA S 41 si) r i).2)), (7, .int (nI i)), (8, .int (nI (r i)))]) (st' := [.int (nI (r i)), .ref 35]) (S' := S) rfl trivial ?_
        refine fV.callV (M2 := mX8_axisOf) (d := d + 3) (o := 35) (av := [.int (nI (r i))]) (rest := []) kX8_axisOf dX8_findBounces_68 lX8_136 rfl rfl rfl (Nat.le_of_ble_eq_true rfl) (fRoom (by decide)) ⟨Nat.le_refl _, Nat.le_refl _⟩ (qX8_axis (S := S) (w := r i) (by omega)) ?_
        rintro _ S9 ⟨rfl, h9⟩
        rw [h9]
        clear h9 S9
        refine fV.to (pc' := 71) (L' := [(0, .ref 35), (1, .int (nI si)), (2, .int (nI ei)), (3, .long ((2 * (Int32.toInt64 (hLine (gA S 38) (r i)))) - (Int32.toInt64 (imgD (gA S 38) (gA S 40 si, gA S 41 si) r i).1))), (5, .long (Int32.toInt64 (imgD (gA S 38) (gA S 40 si, gA S 41 si) r i).2)), (7, .int (nI i)), (8, .int (nI (r i)))]) (st' := [.int (hAxI (gA S 38) (r i))]) (S' := S) rfl rfl rfl rfl ?_
        refine fV.run iX8_findBounces_71_1 oX8_findBounces_71_1 (pc' := 72) (L' := [(0, .ref 35), (1, .int (nI si)), (2, .int (nI ei)), (3, .long ((2 * (Int32.toInt64 (hLine (gA S 38) (r i)))) - (Int32.toInt64 (imgD (gA S 38) (gA S 40 si, gA S 41 si) r i).1))), (5, .long (Int32.toInt64 (imgD (gA S 38) (gA S 40 si, gA S 41 si) r i).2)), (7, .int (nI i)), (8, .int (nI (r i)))]) (st' := [.int 1, .int (hAxI (gA S 38) (r i))]) (S' := S) rfl trivial ?_
        have h0 : gA S 38 (4 * r i) = gA S 38 (4 * r i + 2) := by rcases ax01 (gA S 38) (r i) with ⟨z1, z2⟩ | ⟨z1, z2⟩ <;> first | exact z1 | (exfalso; grind)
        refine fV.icmp_ne bX8_findBounces_72 (fun c72 => ?_) (fun c72 => ?_)
        · refine fV.run iX8_findBounces_92_4 oX8_findBounces_92_4 (pc' := 20) (L' := [(0, .ref 35), (1, .int (nI si)), (2, .int (nI ei)), (3, .long ((2 * (Int32.toInt64 (hLine (gA S 38) (r i)))) - (Int32.toInt64 (imgD (gA S 38) (gA S 40 si, gA S 41 si) r i).1))), (5, .long (Int32.toInt64 (imgD (gA S 38) (gA S 40 si, gA S 41 si) r i).2)), (7, .int ((nI i) + 1)), (8, .int (nI (r i)))]) (st' := []) (S' := S) rfl trivial ?_
          refine fV.pick (L' := [(0, .ref 35), (1, .int (nI si)), (2, .int (nI ei)), (3, .long ((2 * (Int32.toInt64 (hLine (gA S 38) (r i)))) - (Int32.toInt64 (imgD (gA S 38) (gA S 40 si, gA S 41 si) r i).1))), (5, .long (Int32.toInt64 (imgD (gA S 38) (gA S 40 si, gA S 41 si) r i).2)), (7, .int (nI i + 1))]) [0, 1, 2, 3, 4, 5] rfl ?_
          refine fV.to (L' := [(0, .ref 35), (1, .int (nI si)), (2, .int (nI ei)), (3, .long (Int32.toInt64 (imgD (gA S 38) (gA S 40 si, gA S 41 si) r (i + 1)).1)), (5, .long (Int32.toInt64 (imgD (gA S 38) (gA S 40 si, gA S 41 si) r (i + 1)).2)), (7, .int (nI (i + 1)))]) rfl (by rw [show imgD (gA S 38) (gA S 40 si, gA S 41 si) r (i + 1) = (2 * hLine (gA S 38) (r i) - (imgD (gA S 38) (gA S 40 si, gA S 41 si) r i).1, (imgD (gA S 38) (gA S 40 si, gA S 41 si) r i).2) from if_pos h0, nI_1]; simp only; rw [(mir_w hln.1 hln.2 (by omega) (by omega)).1]) rfl rfl (ih (i + 1) (by omega))
        · exact absurd c72 (by rcases ax01 (gA S 38) (r i) with ⟨z1, z2⟩ | ⟨z1, z2⟩ <;> grind)

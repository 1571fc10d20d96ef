/-! whether a row is seen -/
section Seen
variable {S : fS} {b k n w : Nat} {src seat : zP} {r : Nat → Nat}
theorem ends_iff (hb : b ≤ 16) (R : rtRow S b src seat r k) (hn : n ≤ k) (hw : w < b) : ((1 ≤ n ∧ gA S 19 (n - 1) = nI w) ∨ (n < k ∧ gA S 19 n = nI w)) ↔ endsD r k (k - n) w := by
  have e : ∀ i, i < k → (gA S 19 i = nI w ↔ r i = w) := fun i hi => by
    obtain ⟨h1, h2⟩ := R.2.2.1 i hi
    rw [h1, nI_eq (by omega) (by omega)]
  unfold endsD
  constructor
  · rintro (⟨h1, h2⟩ | ⟨h1, h2⟩)
    · exact Or.inl ⟨by omega, by rw [show k - 1 - (k - n) = n - 1 by omega]; exact (e _ (by omega)).mp h2⟩
    · exact Or.inr ⟨by omega, by rw [show k - (k - n) = n by omega]; exact (e _ h1).mp h2⟩
  · rintro (⟨h1, h2⟩ | ⟨h1, h2⟩)
    · rw [show k - 1 - (k - n) = n - 1 by omega] at h2
      exact Or.inl ⟨by omega, (e _ (by omega)).mpr h2⟩
    · rw [show k - (k - n) = n by omega] at h2
      exact Or.inr ⟨by omega, (e _ (by omega)).mpr h2⟩
theorem mt_iff (R : rtRow S b src seat r k) (he : rtEye (gA S 5) seat r k k (gA S 21)) (hf : rtFr (gA S 5) src seat r k (k + 1) (gB S 22) (gB S 23)) (hn : n ≤ k) : zM (gA S 5) w (pA (gA S 21) n) (pA (gA S 20) n) (gB S 22 (n + 1)) (gB S 23 (n + 1)) (gB S 22 n) (gB S 23 n) ↔ mtD (gA S 5) src seat r k (k - n) w := by
  have h1 := he (k - n) (by omega)
  obtain ⟨h2, h3⟩ := hf (k - n) (by omega)
  obtain ⟨h4, h5⟩ := hf (k - n + 1) (by omega)
  have h6 := R.2.2.2.1 n hn
  unfold mtD
  rw [← h1, ← h2, ← h3, ← h4, ← h5, show k - (k - n) = n by omega, show k + 1 - (k - n) = n + 1 by omega, show k + 1 - (k - n + 1) = n by omega, h6]
end Seen
def legOk (en : Nat → Int32) (b : Nat) (src seat : zP) (r : Nat → Nat) (k m : Nat) : Prop := ∀ w, w < b → ¬ endsD r k m w → ¬ mtD en src seat r k m w
def iX3_isSeen_11_3 : List Instr := [.iload_n 3, .aload_n 1, .getfield 74]
theorem oX3_isSeen_11_3 : fOkB cX3_isSeen 11 iX3_isSeen_11_3 = true := by decide +kernel
theorem bX3_isSeen_16 : fBk cX3_isSeen 16 (.if_icmp .ge) 46 := ⟨30, by decide +kernel, by decide⟩
def iX3_isSeen_19_3 : List Instr := [.aload_n 0, .iload_n 2, .iload_n 3]
theorem oX3_isSeen_19_3 : fOkB cX3_isSeen 19 iX3_isSeen_19_3 = true := by decide +kernel
set_option maxRecDepth 100000 in
theorem lX3_77 : Cond.methodLink RX3 77 yX3_bouncesAtEnd ∈ fTB := fTB_at 468 rfl rfl
theorem dX3_isSeen_22 : decode cX3_isSeen 22 = .ok (.invokevirtual 77, 3) := by decide +kernel
theorem bX3_isSeen_25 : fBk cX3_isSeen 25 (.ifCond .ne) 40 := ⟨15, by decide +kernel, by decide⟩
def iX3_isSeen_40_2 : List Instr := [.iinc 3 1, .goto (-32)]
theorem oX3_isSeen_40_2 : fOkB cX3_isSeen 40 iX3_isSeen_40_2 = true := by decide +kernel
def iX3_isSeen_28_4 : List Instr := [.aload_n 0, .iload_n 2, .iload_n 3, .aload_n 1]
theorem oX3_isSeen_28_4 : fOkB cX3_isSeen 28 iX3_isSeen_28_4 = true := by decide +kernel
set_option maxRecDepth 100000 in
theorem lX3_81 : Cond.methodLink RX3 81 yX3_meets ∈ fTB := fTB_at 472 rfl rfl
theorem dX3_isSeen_32 : decode cX3_isSeen 32 = .ok (.invokevirtual 81, 3) := by decide +kernel
theorem bX3_isSeen_35 : fBk cX3_isSeen 35 (.ifCond .eq) 40 := ⟨5, by decide +kernel, by decide⟩
def iX3_isSeen_38_1 : List Instr := [.iconst 0]
theorem oX3_isSeen_38_1 : fOkB cX3_isSeen 38 iX3_isSeen_38_1 = true := by decide +kernel
theorem dX3_isSeen_39 : decode cX3_isSeen 39 = .ok (.ireturn, 1) := by decide +kernel
set_option maxRecDepth 100000 in
theorem lpX3_in {G : fG} {d : Nat} {S : fS} {b k : Nat} {src seat : zP} {r : Nat → Nat} (HG : hGeo S b) (hb : b ≤ 16) (hbn : gI S 4 6 = nI b) (R : rtRow S b src seat r k) (he : rtEye (gA S 5) seat r k k (gA S 21)) (hf : rtFr (gA S 5) src seat r k (k + 1) (gB S 22) (gB S 23)) {n : Nat} (hn : n ≤ k) (hK : legOk (gA S 5) b src seat r k (k - n) → fV G mX3_isSeen (fZm G (d + 3) (fun z S' => (seenD (gA S 5) b src seat r k ∧ z = some (.int 1) ∧ S' = S) ∨ (¬ seenD (gA S 5) b src seat r k ∧ z = some (.int 0) ∧ S' = S))) 46 [(0, .ref 18), (1, .ref 4), (2, .int (nI n))] [] S) : ∀ (j w : Nat), w + j = b → (∀ v, v < w → ¬ endsD r k (k - n) v → ¬ mtD (gA S 5) src seat r k (k - n) v) →
    fV G mX3_isSeen (fZm G (d + 3) (fun z S' => (seenD (gA S 5) b src seat r k ∧ z = some (.int 1) ∧ S' = S) ∨ (¬ seenD (gA S 5) b src seat r k ∧ z = some (.int 0) ∧ S' = S))) 11 [(0, .ref 18), (1, .ref 4), (2, .int (nI n)), (3, .int (nI w))] [] S := by
  have hk3 : k ≤ 3 := R.2.1
  intro j
  induction j with
  | zero =>
    intro w hwj hok
    refine fV.run iX3_isSeen_11_3 oX3_isSeen_11_3 (pc' := 16) (L' := [(0, .ref 18), (1, .ref 4), (2, .int (nI n)), (3, .int (nI w))]) (st' := [.int (gI S 4 6), .int (nI w)]) (S' := S) rfl trivial ?_
    refine fV.icmp_ge bX3_isSeen_16 (fun c16 => ?_) (fun c16 => ?_)
    · refine fV.pick (L' := [(0, .ref 18), (1, .ref 4), (2, .int (nI n))]) [0, 1, 2] rfl ?_
      exact hK (fun v hv => hok v (by omega))
    · exact absurd c16 (by rw [hbn, nI_leI (by omega) (by omega)]; omega)
  | succ j ih =>
    intro w hwj hok
    refine fV.run iX3_isSeen_11_3 oX3_isSeen_11_3 (pc' := 16) (L' := [(0, .ref 18), (1, .ref 4), (2, .int (nI n)), (3, .int (nI w))]) (st' := [.int (gI S 4 6), .int (nI w)]) (S' := S) rfl trivial ?_
    refine fV.icmp_ge bX3_isSeen_16 (fun c16 => ?_) (fun c16 => ?_)
    · exact absurd c16 (by rw [hbn, nI_leI (by omega) (by omega)]; omega)
    · refine fV.run iX3_isSeen_19_3 oX3_isSeen_19_3 (pc' := 22) (L' := [(0, .ref 18), (1, .ref 4), (2, .int (nI n)), (3, .int (nI w))]) (st' := [.int (nI w), .int (nI n), .ref 18]) (S' := S) rfl trivial ?_
      refine fV.callV (M2 := mX3_bouncesAtEnd) (d := d + 2) (o := 18) (av := [.int (nI n), .int (nI w)]) (rest := []) kX3_bouncesAtEnd dX3_isSeen_22 lX3_77 rfl rfl rfl (Nat.le_of_ble_eq_true rfl) (fRoom (by decide)) ⟨Nat.le_refl _, Nat.le_refl _⟩ (qX3_ends (k := k) R.1 (by omega) hn (show w < 16 by omega)) ?_
      rintro r9 S9 h9
      rcases h9 with ⟨hz, rfl, h9⟩ | ⟨hz, rfl, h9⟩
      · rw [h9]
        clear h9 S9
        have he1 : endsD r k (k - n) w := (ends_iff hb R hn (by omega)).mp hz
        refine fV.to (pc' := 25) (L' := [(0, .ref 18), (1, .ref 4), (2, .int (nI n)), (3, .int (nI w))]) (st' := [.int 1]) (S' := S) rfl rfl rfl rfl ?_
        refine fV.if_ne bX3_isSeen_25 (fun c25 => ?_) (fun c25 => ?_)
        · refine fV.run iX3_isSeen_40_2 oX3_isSeen_40_2 (pc' := 11) (L' := [(0, .ref 18), (1, .ref 4), (2, .int (nI n)), (3, .int ((nI w) + 1))]) (st' := []) (S' := S) rfl trivial ?_
          refine fV.to (L' := [(0, .ref 18), (1, .ref 4), (2, .int (nI n)), (3, .int (nI (w + 1)))]) rfl (by rw [nI_1]) rfl rfl (ih (w + 1) (by omega) (fun v hv => ?_))
          by_cases h : v = w
          · rw [h]; first | exact fun y => absurd he1 y | exact fun _ => hm1
          · exact hok v (by omega)
        · exact absurd c25 (by decide)
      · rw [h9]
        clear h9 S9
        have he1 : ¬ endsD r k (k - n) w := fun y => hz ((ends_iff hb R hn (by omega)).mpr y)
        refine fV.to (pc' := 25) (L' := [(0, .ref 18), (1, .ref 4), (2, .int (nI n)), (3, .int (nI w))]) (st' := [.int 0]) (S' := S) rfl rfl rfl rfl ?_
        refine fV.if_ne bX3_isSeen_25 (fun c25 => ?_) (fun c25 => ?_)
        · exact absurd c25 (by decide)
        · refine fV.run iX3_isSeen_28_4 oX3_isSeen_28_4 (pc' := 32) (L' := [(0, .ref 18), (1, .ref 4), (2, .int (nI n)), (3, .int (nI w))]) (st' := [.ref 4, .int (nI w), .int (nI n), .ref 18]) (S' := S) rfl trivial ?_
          refine fV.callV (M2 := mX3_meets) (d := d + 2) (o := 18) (av := [.int (nI n), .int (nI w), .ref 4]) (rest := []) kX3_meets dX3_isSeen_32 lX3_81 rfl rfl rfl (Nat.le_of_ble_eq_true rfl) (fRoom (by decide)) ⟨Nat.le_refl _, Nat.le_refl _⟩ (qX3_meets (w := w) (j := n) HG (by omega) hb (by omega)) ?_
          rintro r9 S9 h9
          rcases h9 with ⟨hy, rfl, h9⟩ | ⟨hy, rfl, h9⟩
          · rw [h9]
            clear h9 S9
            have hm1 : mtD (gA S 5) src seat r k (k - n) w := (mt_iff R he hf hn).mp hy
            refine fV.to (pc' := 35) (L' := [(0, .ref 18), (1, .ref 4), (2, .int (nI n)), (3, .int (nI w))]) (st' := [.int 1]) (S' := S) rfl rfl rfl rfl ?_
            refine fV.if_eq bX3_isSeen_35 (fun c35 => ?_) (fun c35 => ?_)
            · exact absurd c35 (by decide)
            · refine fV.run iX3_isSeen_38_1 oX3_isSeen_38_1 (pc' := 39) (L' := [(0, .ref 18), (1, .ref 4), (2, .int (nI n)), (3, .int (nI w))]) (st' := [.int 0]) (S' := S) rfl trivial ?_
              exact fV.zret rfl dX3_isSeen_39 (by decide) (Or.inr ⟨fun y => y (k - n) (by omega) w (by omega) he1 hm1, rfl, rfl⟩)
          · rw [h9]
            clear h9 S9
            have hm1 : ¬ mtD (gA S 5) src seat r k (k - n) w := fun y => hy ((mt_iff R he hf hn).mpr y)
            refine fV.to (pc' := 35) (L' := [(0, .ref 18), (1, .ref 4), (2, .int (nI n)), (3, .int (nI w))]) (st' := [.int 0]) (S' := S) rfl rfl rfl rfl ?_
            refine fV.if_eq bX3_isSeen_35 (fun c35 => ?_) (fun c35 => ?_)
            · refine fV.run iX3_isSeen_40_2 oX3_isSeen_40_2 (pc' := 11) (L' := [(0, .ref 18), (1, .ref 4), (2, .int (nI n)), (3, .int ((nI w) + 1))]) (st' := []) (S' := S) rfl trivial ?_
              refine fV.to (L' := [(0, .ref 18), (1, .ref 4), (2, .int (nI n)), (3, .int (nI (w + 1)))]) rfl (by rw [nI_1]) rfl rfl (ih (w + 1) (by omega) (fun v hv => ?_))
              by_cases h : v = w
              · rw [h]; first | exact fun y => absurd he1 y | exact fun _ => hm1
              · exact hok v (by omega)
            · exact absurd c35 (by decide)
def iX3_isSeen_5_1 : List Instr := [.iload_n 2]
theorem oX3_isSeen_5_1 : fOkB cX3_isSeen 5 iX3_isSeen_5_1 = true := by decide +kernel
theorem bX3_isSeen_6 : fBk cX3_isSeen 6 (.ifCond .lt) 52 := ⟨46, by decide +kernel, by decide⟩
def iX3_isSeen_52_1 : List Instr := [.iconst 1]
theorem oX3_isSeen_52_1 : fOkB cX3_isSeen 52 iX3_isSeen_52_1 = true := by decide +kernel
theorem dX3_isSeen_53 : decode cX3_isSeen 53 = .ok (.ireturn, 1) := by decide +kernel
def iX3_isSeen_9_2 : List Instr := [.iconst 0, .istore_n 3]
theorem oX3_isSeen_9_2 : fOkB cX3_isSeen 9 iX3_isSeen_9_2 = true := by decide +kernel
def iX3_isSeen_46_2 : List Instr := [.iinc 2 (-1), .goto (-44)]
theorem oX3_isSeen_46_2 : fOkB cX3_isSeen 46 iX3_isSeen_46_2 = true := by decide +kernel
set_option maxRecDepth 100000 in
theorem lpX3_seen {G : fG} {d : Nat} {S : fS} {b k : Nat} {src seat : zP} {r : Nat → Nat} (HG : hGeo S b) (hb : b ≤ 16) (hbn : gI S 4 6 = nI b) (R : rtRow S b src seat r k) (he : rtEye (gA S 5) seat r k k (gA S 21)) (hf : rtFr (gA S 5) src seat r k (k + 1) (gB S 22) (gB S 23)) : ∀ (n m : Nat), m + n = k + 1 → (∀ i, i < m → legOk (gA S 5) b src seat r k i) →
    fV G mX3_isSeen (fZm G (d + 3) (fun z S' => (seenD (gA S 5) b src seat r k ∧ z = some (.int 1) ∧ S' = S) ∨ (¬ seenD (gA S 5) b src seat r k ∧ z = some (.int 0) ∧ S' = S))) 5 [(0, .ref 18), (1, .ref 4), (2, .int (nI n + (-1)))] [] S := by
  have hk3 : k ≤ 3 := R.2.1
  intro n
  induction n with
  | zero =>
    intro m hm hall
    refine fV.run iX3_isSeen_5_1 oX3_isSeen_5_1 (pc' := 6) (L' := [(0, .ref 18), (1, .ref 4), (2, .int (nI 0 + (-1)))]) (st' := [.int (nI 0 + (-1))]) (S' := S) rfl trivial ?_
    refine fV.if_lt bX3_isSeen_6 (fun c6 => ?_) (fun c6 => ?_)
    · refine fV.run iX3_isSeen_52_1 oX3_isSeen_52_1 (pc' := 53) (L' := [(0, .ref 18), (1, .ref 4), (2, .int (nI 0 + (-1)))]) (st' := [.int 1]) (S' := S) rfl trivial ?_
      exact fV.zret rfl dX3_isSeen_53 (by decide) (Or.inl ⟨fun i hi v hv => hall i (by omega) v hv, rfl, rfl⟩)
    · exact absurd c6 (by decide)
  | succ n ih =>
    intro m hm hall
    refine fV.to (L' := [(0, .ref 18), (1, .ref 4), (2, .int (nI n))]) rfl (by rw [pk_m1]) rfl rfl ?_
    refine fV.run iX3_isSeen_5_1 oX3_isSeen_5_1 (pc' := 6) (L' := [(0, .ref 18), (1, .ref 4), (2, .int (nI n))]) (st' := [.int (nI n)]) (S' := S) rfl trivial ?_
    refine fV.if_lt bX3_isSeen_6 (fun c6 => ?_) (fun c6 => ?_)
    · exact absurd c6 (nI_pos (by omega))
    · refine fV.run iX3_isSeen_9_2 oX3_isSeen_9_2 (pc' := 11) (L' := [(0, .ref 18), (1, .ref 4), (2, .int (nI n)), (3, .int 0)]) (st' := []) (S' := S) rfl trivial ?_
      refine lpX3_in HG hb hbn R he hf (n := n) (by omega) (fun hl => ?_) b 0 (by omega) (fun v hv => absurd hv (by omega))
      refine fV.run iX3_isSeen_46_2 oX3_isSeen_46_2 (pc' := 5) (L' := [(0, .ref 18), (1, .ref 4), (2, .int (nI n + (-1)))]) (st' := []) (S' := S) rfl trivial ?_
      refine ih (m + 1) (by omega) (fun i hi => ?_)
      by_cases h : i = m
      · rw [h, show m = k - n by omega]; exact hl
      · exact hall i (by omega)
def iX3_isSeen_0_3 : List Instr := [.aload_n 0, .getfield 35, .istore_n 2]
theorem oX3_isSeen_0_3 : fOkB cX3_isSeen 0 iX3_isSeen_0_3 = true := by decide +kernel
set_option maxRecDepth 100000 in
theorem qX3_seen {G : fG} {d : Nat} {S : fS} {b k : Nat} {src seat : zP} {r : Nat → Nat} (HG : hGeo S b) (hb : b ≤ 16) (hbn : gI S 4 6 = nI b) (R : rtRow S b src seat r k) (he : rtEye (gA S 5) seat r k k (gA S 21)) (hf : rtFr (gA S 5) src seat r k (k + 1) (gB S 22) (gB S 23))  : fCtr G (d + 3) mX3_isSeen [.ref 18, .ref 4] S (fun z S' => (seenD (gA S 5) b src seat r k ∧ z = some (.int 1) ∧ S' = S) ∨ (¬ seenD (gA S 5) b src seat r k ∧ z = some (.int 0) ∧ S' = S)) := by
  refine fCtr.of bXX3_isSeen (Nat.le_of_ble_eq_true rfl) rfl ?_
  refine fV.run iX3_isSeen_0_3 oX3_isSeen_0_3 (pc' := 5) (L' := [(0, .ref 18), (1, .ref 4), (2, .int (gI S 18 7))]) (st' := []) (S' := S) rfl trivial ?_
  refine fV.to (L' := [(0, .ref 18), (1, .ref 4), (2, .int (nI (k + 1) + (-1)))]) rfl (by rw [pk_m1, R.1]) rfl rfl ?_
  exact lpX3_seen HG hb hbn R he hf (k + 1) 0 (by omega) (fun i hi => absurd hi (by omega))

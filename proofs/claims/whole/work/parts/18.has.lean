/-! whether a row has bounces -/
def sE (S : fS) (e : Nat → Int32) (p q : Nat → Int64) : fS := wB (wB (wA S 21 e) 22 p) 23 q
theorem fup2 {α : Type} (h : Nat → α) (o : Nat) (f g : α) : fup (fup h o f) o g = fup h o g := by funext a; unfold fup; by_cases e : a = o <;> simp [e]
theorem fupc {α : Type} (h : Nat → α) {o o2 : Nat} (ho : o ≠ o2) (f g : α) : fup (fup h o f) o2 g = fup (fup h o2 g) o f := by
  funext a; unfold fup; by_cases e : a = o <;> by_cases e2 : a = o2 <;> simp_all
theorem sE_next (S : fS) (e e2 : Nat → Int32) (p q p2 q2 : Nat → Int64) : wA (wB (wB (wB (wB (wA S 21 e) 22 p) 23 q) 22 p2) 23 q2) 21 e2 = wB (wB (wA S 21 e2) 22 p2) 23 q2 := by
  show ((S.1.1, S.1.2.1, fup (fup S.1.2.2.1 21 e) 21 e2, fup (fup (fup (fup S.1.2.2.2 22 p) 23 q) 22 p2) 23 q2), S.2) = ((S.1.1, S.1.2.1, fup S.1.2.2.1 21 e2, fup (fup S.1.2.2.2 22 p2) 23 q2), S.2)
  rw [fup2, fupc (fup S.1.2.2.2 22 p) (by decide) q p2, fup2, fup2]
theorem sE_end (S : fS) (e : Nat → Int32) (p q p2 q2 : Nat → Int64) : wB (wB (wB (wB (wA S 21 e) 22 p) 23 q) 22 p2) 23 q2 = wB (wB (wA S 21 e) 22 p2) 23 q2 := by
  show ((S.1.1, S.1.2.1, fup S.1.2.2.1 21 e, fup (fup (fup (fup S.1.2.2.2 22 p) 23 q) 22 p2) 23 q2), S.2) = ((S.1.1, S.1.2.1, fup S.1.2.2.1 21 e, fup (fup S.1.2.2.2 22 p2) 23 q2), S.2)
  rw [fupc (fup S.1.2.2.2 22 p) (by decide) q p2, fup2, fup2]
section Has
variable {en : Nat → Int32} {src seat : zP} {r : Nat → Nat} {k n : Nat} {e im : Nat → Int32} {p q : Nat → Int64}
theorem frD_s {m : Nat} : frD en src seat r k (m + 1) = if m = k then (1, 1) else (zPt en (r (k - 1 - m)) (eyeD en seat r k m) (imgD en src r (k - m)), zWh en (r (k - 1 - m)) (eyeD en seat r k m) (imgD en src r (k - m))) := rfl
theorem has_iff (hn : n + 1 ≤ k) (him : ∀ j, j ≤ k → pA im j = imgD en src r j) (he : rtEye en seat r k (k - (n + 1)) e) (hf : rtFr en src seat r k (k - (n + 1)) p q) : zB en (r n) (pA e (n + 1)) (pA im (n + 1)) (p (n + 2)) (q (n + 2)) ↔ bOkD en src seat r k (k - (n + 1)) := by
  have h1 := he (k - (n + 1)) (Nat.le_refl _)
  obtain ⟨h2, h3⟩ := hf (k - (n + 1)) (Nat.le_refl _)
  have h4 := him (n + 1) hn
  unfold bOkD
  rw [show k - 1 - (k - (n + 1)) = n by omega, ← h1, ← h2, ← h3, show k - (k - (n + 1)) = n + 1 by omega, show k + 1 - (k - (n + 1)) = n + 2 by omega, h4]
theorem eye_next (hk : k ≤ 3) (hn : n + 1 ≤ k) (he : rtEye en seat r k (k - (n + 1)) e) : rtEye en seat r k (k - n) (mirA en (r n) (n + 1) n e) := by
  intro i hi
  by_cases h : i = k - n
  · subst h
    rw [show k - (k - n) = n by omega, mirA_at (by omega)]
    have h1 := he (k - (n + 1)) (Nat.le_refl _)
    rw [show k - (k - (n + 1)) = n + 1 by omega] at h1
    rw [h1, show k - n = (k - (n + 1)) + 1 by omega]
    show _ = mirP en (r (k - 1 - (k - (n + 1)))) _
    rw [show k - 1 - (k - (n + 1)) = n by omega]
  · rw [mirA_ne (by omega) (by omega)]
    exact he i (by omega)
theorem fr_next (hn : n + 1 ≤ k) (him : ∀ j, j ≤ k → pA im j = imgD en src r j) (he : rtEye en seat r k (k - (n + 1)) e) (hf : rtFr en src seat r k (k - (n + 1)) p q) : rtFr en src seat r k (k - n) (vp_updL p (n + 1) (zPt en (r n) (pA e (n + 1)) (pA im (n + 1)))) (vp_updL q (n + 1) (zWh en (r n) (pA e (n + 1)) (pA im (n + 1)))) := by
  intro i hi
  by_cases h : i = k - n
  · subst h
    rw [show k + 1 - (k - n) = n + 1 by omega, show k - n = (k - (n + 1)) + 1 by omega, pk_uLs, pk_uLs]
    have h1 := he (k - (n + 1)) (Nat.le_refl _)
    rw [show k - (k - (n + 1)) = n + 1 by omega] at h1
    rw [frD_s, if_neg (by omega), show k - 1 - (k - (n + 1)) = n by omega, show k - (k - (n + 1)) = n + 1 by omega, h1, him (n + 1) hn]
    exact ⟨rfl, rfl⟩
  · rw [pk_uLn (by omega), pk_uLn (by omega)]
    exact hf i (by omega)
theorem fr_end (hf : rtFr en src seat r k k p q) : rtFr en src seat r k (k + 1) (vp_updL p 0 1) (vp_updL q 0 1) := by
  intro i hi
  by_cases h : i = k + 1
  · subst h
    rw [Nat.sub_self, pk_uLs, pk_uLs]
    rw [frD_s, if_pos rfl]
    exact ⟨rfl, rfl⟩
  · rw [pk_uLn (by omega), pk_uLn (by omega)]
    exact hf i (by omega)
theorem eye_start {x y : Int32} {g : Nat → Int32} : rtEye en (x, y) r k 0 (upd (upd g (2 * k) x) (2 * k + 1) y) := by
  intro i hi
  obtain rfl : i = 0 := by omega
  unfold pA
  rw [Nat.sub_zero, upd_ne (by omega), upd_at, upd_at]
  rfl
theorem fr_start {f g : Nat → Int64} : rtFr en src seat r k 0 (vp_updL f (k + 1) 0) (vp_updL g (k + 1) 1) := by
  intro i hi
  obtain rfl : i = 0 := by omega
  rw [Nat.sub_zero, pk_uLs, pk_uLs]
  exact ⟨rfl, rfl⟩
end Has
def iX3_hasBounces_61_2 : List Instr := [.iload_n 2, .iconst 1]
theorem oX3_hasBounces_61_2 : fOkB cX3_hasBounces 61 iX3_hasBounces_61_2 = true := by decide +kernel
theorem bX3_hasBounces_63 : fBk cX3_hasBounces 63 (.if_icmp .lt) 106 := ⟨43, by decide +kernel, by decide⟩
def iX3_hasBounces_106_11 : List Instr := [.aload_n 0, .getfield 21, .iconst 0, .lconst 1, .lastore, .aload_n 0, .getfield 25, .iconst 0, .lconst 1, .lastore, .iconst 1]
theorem oX3_hasBounces_106_11 : fOkB cX3_hasBounces 106 iX3_hasBounces_106_11 = true := by decide +kernel
theorem dX3_hasBounces_121 : decode cX3_hasBounces 121 = .ok (.ireturn, 1) := by decide +kernel
def iX3_hasBounces_66_6 : List Instr := [.aload_n 0, .getfield 9, .iload_n 2, .iconst 1, .isub, .iaload]
theorem oX3_hasBounces_66_6 : fOkB cX3_hasBounces 66 iX3_hasBounces_66_6 = true := by decide +kernel
def iX3_hasBounces_74_5 : List Instr := [.istore_n 3, .aload_n 0, .iload_n 2, .iload_n 3, .aload_n 1]
theorem oX3_hasBounces_74_5 : fOkB cX3_hasBounces 74 iX3_hasBounces_74_5 = true := by decide +kernel
set_option maxRecDepth 100000 in
theorem lX3_50 : Cond.methodLink RX3 50 yX3_setBounce ∈ fTB := fTB_at 446 rfl rfl
theorem dX3_hasBounces_79 : decode cX3_hasBounces 79 = .ok (.invokevirtual 50, 3) := by decide +kernel
theorem bX3_hasBounces_82 : fBk cX3_hasBounces 82 (.ifCond .ne) 87 := ⟨5, by decide +kernel, by decide⟩
def iX3_hasBounces_87_8 : List Instr := [.aload_n 0, .getfield 18, .iload_n 2, .iload_n 2, .iconst 1, .isub, .iload_n 3, .aload_n 1]
theorem oX3_hasBounces_87_8 : fOkB cX3_hasBounces 87 iX3_hasBounces_87_8 = true := by decide +kernel
theorem dX3_hasBounces_97 : decode cX3_hasBounces 97 = .ok (.invokestatic 38, 3) := by decide +kernel
def iX3_hasBounces_100_2 : List Instr := [.iinc 2 (-1), .goto (-42)]
theorem oX3_hasBounces_100_2 : fOkB cX3_hasBounces 100 iX3_hasBounces_100_2 = true := by decide +kernel
def iX3_hasBounces_85_1 : List Instr := [.iconst 0]
theorem oX3_hasBounces_85_1 : fOkB cX3_hasBounces 85 iX3_hasBounces_85_1 = true := by decide +kernel
theorem dX3_hasBounces_86 : decode cX3_hasBounces 86 = .ok (.ireturn, 1) := by decide +kernel
set_option maxRecDepth 100000 in
theorem lpX3_has {G : fG} {d : Nat} {S : fS} {b k : Nat} {src seat : zP} {r : Nat → Nat} (HG : hGeo S b) (hb : b ≤ 16) (R : rtRow S b src seat r k) : ∀ (n m : Nat) (e : Nat → Int32) (p q : Nat → Int64), m + n = k → rtEye (gA S 5) seat r k m e → rtFr (gA S 5) src seat r k m p q → (∀ i, i < m → bOkD (gA S 5) src seat r k i) →
    fV G mX3_hasBounces (fZm G (d + 3) (fun z S' => ∃ (e : Nat → Int32) (p q : Nat → Int64), S' = wB (wB (wA S 21 e) 22 p) 23 q ∧ ((hasD (gA S 5) src seat r k ∧ z = some (.int 1) ∧ rtEye (gA S 5) seat r k k e ∧ rtFr (gA S 5) src seat r k (k + 1) p q) ∨ (¬ hasD (gA S 5) src seat r k ∧ z = some (.int 0))))) 61 [(0, .ref 18), (1, .ref 4), (2, .int (nI n))] [] (wB (wB (wA S 21 e) 22 p) 23 q) := by
  have hk3 : k ≤ 3 := R.2.1
  intro n
  induction n with
  | zero =>
    intro m e p q hm he hf hall
    refine fV.run iX3_hasBounces_61_2 oX3_hasBounces_61_2 (pc' := 63) (L' := [(0, .ref 18), (1, .ref 4), (2, .int (nI 0))]) (st' := [.int 1, .int (nI 0)]) (S' := (wB (wB (wA S 21 e) 22 p) 23 q)) rfl trivial ?_
    refine fV.icmp_lt bX3_hasBounces_63 (fun c63 => ?_) (fun c63 => ?_)
    · refine fV.run iX3_hasBounces_106_11 oX3_hasBounces_106_11 (pc' := 121) (L' := [(0, .ref 18), (1, .ref 4), (2, .int (nI 0))]) (st' := [.int 1]) (S' := (wB (wB (wB (wB (wA S 21 e) 22 p) 23 q) 22 (vp_updL p (0 : Int32).toNatClampNeg 1)) 23 (vp_updL q (0 : Int32).toNatClampNeg 1))) (P := vp_in 0 5 ∧ vp_in 0 5 ∧ True) rfl ⟨(by unfold vp_in; decide), (by unfold vp_in; decide), trivial⟩ ?_
      exact fV.zret rfl dX3_hasBounces_121 (by decide) ⟨e, vp_updL p 0 1, vp_updL q 0 1, sE_end S e p q _ _, Or.inl ⟨fun i hi => hall i (by omega), rfl, by rw [show m = k by omega] at he; exact he, fr_end (by rw [show m = k by omega] at hf; exact hf)⟩⟩
    · exact absurd c63 (by decide)
  | succ n ih =>
    intro m e p q hm he hf hall
    obtain rfl : m = k - (n + 1) := by omega
    refine fV.run iX3_hasBounces_61_2 oX3_hasBounces_61_2 (pc' := 63) (L' := [(0, .ref 18), (1, .ref 4), (2, .int (nI (n + 1)))]) (st' := [.int 1, .int (nI (n + 1))]) (S' := (wB (wB (wA S 21 e) 22 p) 23 q)) rfl trivial ?_
    refine fV.icmp_lt bX3_hasBounces_63 (fun c63 => ?_) (fun c63 => ?_)
    · exact absurd c63 (fun z => jl1 z (by omega) (by omega))
    · refine fV.run iX3_hasBounces_66_6 oX3_hasBounces_66_6 (pc' := 74) (L' := [(0, .ref 18), (1, .ref 4), (2, .int (nI (n + 1)))]) (st' := [.int (gA S 19 ((nI (n + 1)) - 1).toNatClampNeg)]) (S' := (wB (wB (wA S 21 e) 22 p) 23 q)) (P := vp_in ((nI (n + 1)) - 1) 3 ∧ True) rfl ⟨(vinN (w := n) (by omega) (by decide) (nI_pred n)), trivial⟩ ?_
      refine fV.to (L' := [(0, .ref 18), (1, .ref 4), (2, .int (nI (n + 1)))]) (st' := [.int (nI (r n))]) rfl rfl (by rw [show (gA S 19 ((nI (n + 1)) - 1).toNatClampNeg : Int32) = nI (r n) from by rw [nI_pred, nI_clamp (by omega)]; exact (R.2.2.1 n (by omega)).1]) rfl ?_
      refine fV.run iX3_hasBounces_74_5 oX3_hasBounces_74_5 (pc' := 79) (L' := [(0, .ref 18), (1, .ref 4), (2, .int (nI (n + 1))), (3, .int (nI (r n)))]) (st' := [.ref 4, .int (nI (r n)), .int (nI (n + 1)), .ref 18]) (S' := (wB (wB (wA S 21 e) 22 p) 23 q)) rfl trivial ?_
      refine fV.callV (M2 := mX3_setBounce) (d := d + 2) (o := 18) (av := [.int (nI (n + 1)), .int (nI (r n)), .ref 4]) (rest := []) kX3_setBounce dX3_hasBounces_79 lX3_50 rfl rfl rfl (Nat.le_of_ble_eq_true rfl) (fRoom (by decide)) ⟨Nat.le_refl _, Nat.le_refl _⟩ (qX3_setB (S := (wB (wB (wA S 21 e) 22 p) 23 q)) (w := r n) (j := n + 1) (geo_wB (geo_wB (geo_wA (by decide) HG))) (R.2.2.1 n (by omega)).2 hb (by omega)) ?_
      rintro r9 S9 h9
      rcases h9 with ⟨hz, rfl, h9⟩ | ⟨hz, rfl, h9⟩
      · rw [h9]
        clear h9 S9
        have hz : bOkD (gA S 5) src seat r k (k - (n + 1)) := (has_iff (by omega) R.2.2.2.1 he hf).mp hz
        refine fV.to (pc' := 82) (L' := [(0, .ref 18), (1, .ref 4), (2, .int (nI (n + 1))), (3, .int (nI (r n)))]) (st' := [.int 1]) (S' := (wB (wB (wB (wB (wA S 21 e) 22 p) 23 q) 22 (vp_updL p (n + 1) (zPt (gA S 5) (r n) (pA e (n + 1)) (pA (gA S 20) (n + 1))))) 23 (vp_updL q (n + 1) (zWh (gA S 5) (r n) (pA e (n + 1)) (pA (gA S 20) (n + 1)))))) rfl rfl rfl rfl ?_
        refine fV.if_ne bX3_hasBounces_82 (fun c82 => ?_) (fun c82 => ?_)
        · refine fV.run iX3_hasBounces_87_8 oX3_hasBounces_87_8 (pc' := 97) (L' := [(0, .ref 18), (1, .ref 4), (2, .int (nI (n + 1))), (3, .int (nI (r n)))]) (st' := [.ref 4, .int (nI (r n)), .int ((nI (n + 1)) - 1), .int (nI (n + 1)), .ref 21]) (S' := (wB (wB (wB (wB (wA S 21 e) 22 p) 23 q) 22 (vp_updL p (n + 1) (zPt (gA S 5) (r n) (pA e (n + 1)) (pA (gA S 20) (n + 1))))) 23 (vp_updL q (n + 1) (zWh (gA S 5) (r n) (pA e (n + 1)) (pA (gA S 20) (n + 1)))))) rfl trivial ?_
          refine fV.callS (M2 := mX3_mirror) (d := d + 2) (av := [.ref 21, .int (nI (n + 1)), .int ((nI (n + 1)) - 1), .int (nI (r n)), .ref 4]) (rest := []) kX3_mirror dX3_hasBounces_97 lX3_38 rfl rfl (Nat.le_of_ble_eq_true rfl) (fRoom (by decide)) ⟨Nat.le_refl _, Nat.le_refl _⟩ (qMirE_21 (S := (wB (wB (wB (wB (wA S 21 e) 22 p) 23 q) 22 (vp_updL p (n + 1) (zPt (gA S 5) (r n) (pA e (n + 1)) (pA (gA S 20) (n + 1))))) 23 (vp_updL q (n + 1) (zWh (gA S 5) (r n) (pA e (n + 1)) (pA (gA S 20) (n + 1)))))) (w := r n) (f := n + 1) (t := n) (geo_wB (geo_wB (geo_wB (geo_wB (geo_wA (by decide) HG))))) (R.2.2.1 n (by omega)).2 hb (by omega) (by omega) rfl (nI_pred n) rfl) ?_
          rintro _ S9 ⟨rfl, h9⟩
          rw [h9]
          clear h9 S9
          refine fV.to (pc' := 100) (L' := [(0, .ref 18), (1, .ref 4), (2, .int (nI (n + 1))), (3, .int (nI (r n)))]) (st' := []) (S' := (wA (wB (wB (wB (wB (wA S 21 e) 22 p) 23 q) 22 (vp_updL p (n + 1) (zPt (gA S 5) (r n) (pA e (n + 1)) (pA (gA S 20) (n + 1))))) 23 (vp_updL q (n + 1) (zWh (gA S 5) (r n) (pA e (n + 1)) (pA (gA S 20) (n + 1))))) 21 (mirA (gA S 5) (r n) (n + 1) n e))) rfl rfl rfl rfl ?_
          refine fV.run iX3_hasBounces_100_2 oX3_hasBounces_100_2 (pc' := 61) (L' := [(0, .ref 18), (1, .ref 4), (2, .int ((nI (n + 1)) + (-1))), (3, .int (nI (r n)))]) (st' := []) (S' := (wA (wB (wB (wB (wB (wA S 21 e) 22 p) 23 q) 22 (vp_updL p (n + 1) (zPt (gA S 5) (r n) (pA e (n + 1)) (pA (gA S 20) (n + 1))))) 23 (vp_updL q (n + 1) (zWh (gA S 5) (r n) (pA e (n + 1)) (pA (gA S 20) (n + 1))))) 21 (mirA (gA S 5) (r n) (n + 1) n e))) rfl trivial ?_
          refine fV.pick (L' := [(0, .ref 18), (1, .ref 4), (2, .int (nI (n + 1) + (-1)))]) [0, 1, 2] rfl ?_
          refine fV.to (L' := [(0, .ref 18), (1, .ref 4), (2, .int (nI n))]) rfl (by rw [show nI (n + 1) + (-1) = nI n from pk_m1 n]) rfl (sE_next S e _ p q _ _) ?_
          refine ih (k - n) _ _ _ (by omega) (eye_next (by omega) (by omega) he) (fr_next (by omega) R.2.2.2.1 he hf) (fun i hi => ?_)
          by_cases h : i = k - (n + 1)
          · rw [h]; exact hz
          · exact hall i (by omega)
        · exact absurd c82 (by decide)
      · have hz : ¬ bOkD (gA S 5) src seat r k (k - (n + 1)) := fun y => hz ((has_iff (by omega) R.2.2.2.1 he hf).mpr y)
        refine fV.to (pc' := 82) (L' := [(0, .ref 18), (1, .ref 4), (2, .int (nI (n + 1))), (3, .int (nI (r n)))]) (st' := [.int 0]) (S' := S9) rfl rfl rfl rfl ?_
        refine fV.if_ne bX3_hasBounces_82 (fun c82 => ?_) (fun c82 => ?_)
        · exact absurd c82 (by decide)
        · refine fV.run iX3_hasBounces_85_1 oX3_hasBounces_85_1 (pc' := 86) (L' := [(0, .ref 18), (1, .ref 4), (2, .int (nI (n + 1))), (3, .int (nI (r n)))]) (st' := [.int 0]) (S' := S9) rfl trivial ?_
          exact fV.zret rfl dX3_hasBounces_86 (by decide) (by rcases h9 with h9 | h9 <;> rw [h9]; exact ⟨e, p, q, rfl, Or.inr ⟨fun y => hz (y _ (by omega)), rfl⟩⟩; exact ⟨e, _, _, sE_end S e p q _ _, Or.inr ⟨fun y => hz (y _ (by omega)), rfl⟩⟩)
def iX3_hasBounces_0_39 : List Instr := [.aload_n 0, .getfield 18, .iconst 2, .aload_n 0, .getfield 35, .imul, .aload_n 0, .getfield 28, .iastore, .aload_n 0, .getfield 18, .iconst 2, .aload_n 0, .getfield 35, .imul, .iconst 1, .iadd, .aload_n 0, .getfield 32, .iastore, .aload_n 0, .getfield 21, .aload_n 0, .getfield 35, .iconst 1, .iadd, .lconst 0, .lastore, .aload_n 0, .getfield 25, .aload_n 0, .getfield 35, .iconst 1, .iadd, .lconst 1, .lastore, .aload_n 0, .getfield 35, .istore_n 2]
theorem oX3_hasBounces_0_39 : fOkB cX3_hasBounces 0 iX3_hasBounces_0_39 = true := by decide +kernel
set_option maxRecDepth 100000 in
theorem qX3_has {G : fG} {d : Nat} {S : fS} {b k : Nat} {src seat : zP} {r : Nat → Nat} (HG : hGeo S b) (hb : b ≤ 16) (R : rtRow S b src seat r k)  : fCtr G (d + 3) mX3_hasBounces [.ref 18, .ref 4] S (fun z S' => ∃ (e : Nat → Int32) (p q : Nat → Int64), S' = wB (wB (wA S 21 e) 22 p) 23 q ∧ ((hasD (gA S 5) src seat r k ∧ z = some (.int 1) ∧ rtEye (gA S 5) seat r k k e ∧ rtFr (gA S 5) src seat r k (k + 1) p q) ∨ (¬ hasD (gA S 5) src seat r k ∧ z = some (.int 0)))) := by
  refine fCtr.of bXX3_hasBounces (Nat.le_of_ble_eq_true rfl) rfl ?_
  have hk3 : k ≤ 3 := R.2.1
  refine fV.run iX3_hasBounces_0_39 oX3_hasBounces_0_39 (pc' := 61) (L' := [(0, .ref 18), (1, .ref 4), (2, .int (gI S 18 7))]) (st' := []) (S' := (wB (wB (wA (wA S 21 (upd (gA S 21) (2 * (gI S 18 7)).toNatClampNeg (gI S 18 5))) 21 (upd (upd (gA S 21) (2 * (gI S 18 7)).toNatClampNeg (gI S 18 5)) ((2 * (gI S 18 7)) + 1).toNatClampNeg (gI S 18 6))) 22 (vp_updL (gB S 22) ((gI S 18 7) + 1).toNatClampNeg 0)) 23 (vp_updL (gB S 23) ((gI S 18 7) + 1).toNatClampNeg 1))) (P := vp_in (2 * (gI S 18 7)) 8 ∧ vp_in ((2 * (gI S 18 7)) + 1) 8 ∧ vp_in ((gI S 18 7) + 1) 5 ∧ vp_in ((gI S 18 7) + 1) 5 ∧ True) rfl ⟨(vinN (w := 2 * k) (by omega) (by decide) (by rw [R.1]; exact nI2)), (vinN (w := 2 * k + 1) (by omega) (by decide) (by rw [R.1, nI2]; exact nI_1 _)), (vinN (w := k + 1) (by omega) (by decide) (by rw [R.1]; exact nI_1 _)), (vinN (w := k + 1) (by omega) (by decide) (by rw [R.1]; exact nI_1 _)), trivial⟩ ?_
  refine fV.to (L' := [(0, .ref 18), (1, .ref 4), (2, .int (nI k))]) (S' := wB (wB (wA S 21 (upd (upd (gA S 21) (2 * k) (gI S 18 5)) (2 * k + 1) (gI S 18 6))) 22 (vp_updL (gB S 22) (k + 1) 0)) 23 (vp_updL (gB S 23) (k + 1) 1)) rfl (by rw [R.1]) rfl (by rw [wA_wA, R.1, nI2, nI_1, nI_1, nI_clamp (by omega), nI_clamp (by omega), nI_clamp (by omega)]) ?_
  exact lpX3_has HG hb R k 0 _ _ _ (by omega) (by rw [← R.2.2.2.2]; exact eye_start) fr_start (fun i hi => absurd hi (by omega))

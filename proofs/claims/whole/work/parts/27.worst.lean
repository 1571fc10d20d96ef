def iX7_worst_22_4 : List Instr := [.iload 4, .aload_n 0, .getfield 32, .getfield 114]
theorem oX7_worst_22_4 : fOkB cX7_worst 22 iX7_worst_22_4 = true := by decide +kernel
theorem bX7_worst_31 : fBk cX7_worst 31 (.if_icmp .ge) 98 := ⟨67, by decide +kernel, by decide⟩
def iX7_worst_98_1 : List Instr := [.iload_n 2]
theorem oX7_worst_98_1 : fOkB cX7_worst 98 iX7_worst_98_1 = true := by decide +kernel
theorem dX7_worst_99 : decode cX7_worst 99 = .ok (.ireturn, 1) := by decide +kernel
def iX7_worst_34_6 : List Instr := [.aload_n 0, .iload_n 1, .iload 4, .iconst 0, .aload_n 0, .getfield 67]
theorem oX7_worst_34_6 : fOkB cX7_worst 34 iX7_worst_34_6 = true := by decide +kernel
theorem dX7_worst_43 : decode cX7_worst 43 = .ok (.invokevirtual 128, 3) := by decide +kernel
def iX7_worst_46_5 : List Instr := [.aload_n 0, .aload_n 0, .getfield 35, .iload_n 1, .iaload]
theorem oX7_worst_46_5 : fOkB cX7_worst 46 iX7_worst_46_5 = true := by decide +kernel
theorem dX7_worst_53 : decode cX7_worst 53 = .ok (.invokevirtual 176, 3) := by decide +kernel
def iX7_worst_56_6 : List Instr := [.aload_n 0, .getfield 56, .getfield 179, .aload_n 0, .getfield 56, .getfield 183]
theorem oX7_worst_56_6 : fOkB cX7_worst 56 iX7_worst_56_6 = true := by decide +kernel
theorem dX7_worst_70 : decode cX7_worst 70 = .ok (.invokestatic 186, 3) := by decide +kernel
def iX7_worst_73_3 : List Instr := [.istore 5, .iload_n 2, .iconst (-1)]
theorem oX7_worst_73_3 : fOkB cX7_worst 73 iX7_worst_73_3 = true := by decide +kernel
theorem bX7_worst_77 : fBk cX7_worst 77 (.if_icmp .eq) 86 := ⟨9, by decide +kernel, by decide⟩
def iX7_worst_86_6 : List Instr := [.iload 4, .istore_n 2, .iload 5, .istore_n 3, .iinc 4 1, .goto (-73)]
theorem oX7_worst_86_6 : fOkB cX7_worst 86 iX7_worst_86_6 = true := by decide +kernel
def iX7_worst_80_2 : List Instr := [.iload 5, .iload_n 3]
theorem oX7_worst_80_2 : fOkB cX7_worst 80 iX7_worst_80_2 = true := by decide +kernel
theorem bX7_worst_83 : fBk cX7_worst 83 (.if_icmp .ge) 92 := ⟨9, by decide +kernel, by decide⟩
def iX7_worst_92_2 : List Instr := [.iinc 4 1, .goto (-73)]
theorem oX7_worst_92_2 : fOkB cX7_worst 92 iX7_worst_92_2 = true := by decide +kernel
set_option maxRecDepth 100000 in
theorem lpX7_worst {G : fG} {d : Nat} {S : fS} {a b c e si : Nat} (H : hOk (hC S) a b c e) (HG : hGeo S b) (hsi : si < c) : ∀ (u k : Nat) (S1 : fS), k + u = e → kp S S1 → fV G mX7_worst (fZm G (d + 10) (fun r S' => r = some (.int (wst (hC S) b si e).1) ∧ kp S S')) 22 [(0, .ref 0), (1, .int (nI si)), (2, .int (wst (hC S) b si k).1), (3, .int (wst (hC S) b si k).2), (4, .int (nI k))] [] S1 := by
  have hb16 : b ≤ 16 := H.2.1.2.1
  have hc4 : c ≤ 4 := H.2.2.1.2.1
  have he8 : e ≤ 8 := H.2.2.2.1.2.1
  intro u
  induction u with
  | zero =>
    intro k S1 hu hkp
    have he : gI S1 14 2 = nI e := (congrArg (fun q => q.2.2.2.1.1) hkp.1).trans H.2.2.2.1.1
    refine fV.run iX7_worst_22_4 oX7_worst_22_4 (pc' := 31) (L' := [(0, .ref 0), (1, .int (nI si)), (2, .int ((wst (hC S) b si k).1)), (3, .int ((wst (hC S) b si k).2)), (4, .int (nI k))]) (st' := [.int (gI S1 14 2), .int (nI k)]) (S' := S1) rfl trivial ?_
    refine fV.icmp_ge bX7_worst_31 (fun c31 => ?_) (fun c31 => ?_)
    · refine fV.run iX7_worst_98_1 oX7_worst_98_1 (pc' := 99) (L' := [(0, .ref 0), (1, .int (nI si)), (2, .int ((wst (hC S) b si k).1)), (3, .int ((wst (hC S) b si k).2)), (4, .int (nI k))]) (st' := [.int ((wst (hC S) b si k).1)]) (S' := S1) rfl trivial ?_
      exact fV.iret rfl dX7_worst_99 ⟨by rw [show k = e by omega], hkp⟩
    · exact absurd c31 (by rw [show gI S1 14 2 = nI e from he, nI_leI (by omega) (by omega)]; omega)
  | succ u ih =>
    intro k S1 hu hkp
    have he : gI S1 14 2 = nI e := (congrArg (fun q => q.2.2.2.1.1) hkp.1).trans H.2.2.2.1.1
    have H1 : hOk (hC S1) a b c e := by rw [hkp.1]; exact H
    have HG1 : hGeo S1 b := hkp.geo HG
    have hm3 : gI S1 0 9 ≤ 3 := H1.2.2.2.2.1.2
    have hm := most_N (m := gI S1 0 9) H1.2.2.2.2.1.1 hm3
    refine fV.run iX7_worst_22_4 oX7_worst_22_4 (pc' := 31) (L' := [(0, .ref 0), (1, .int (nI si)), (2, .int ((wst (hC S) b si k).1)), (3, .int ((wst (hC S) b si k).2)), (4, .int (nI k))]) (st' := [.int (gI S1 14 2), .int (nI k)]) (S' := S1) rfl trivial ?_
    refine fV.icmp_ge bX7_worst_31 (fun c31 => ?_) (fun c31 => ?_)
    · exact absurd c31 (by rw [show gI S1 14 2 = nI e from he, nI_leI (by omega) (by omega)]; omega)
    · refine fV.run iX7_worst_34_6 oX7_worst_34_6 (pc' := 43) (L' := [(0, .ref 0), (1, .int (nI si)), (2, .int ((wst (hC S) b si k).1)), (3, .int ((wst (hC S) b si k).2)), (4, .int (nI k))]) (st' := [.int (gI S1 0 9), .int 0, .int (nI k), .int (nI si), .ref 0]) (S' := S1) rfl trivial ?_
      refine fV.callV (M2 := mX7_find) (d := d + 9) (o := 0) (av := [.int (nI si), .int (nI k), .int 0, .int (gI S1 0 9)]) (rest := []) kX7_find dX7_worst_43 lX7_128 rfl rfl rfl (Nat.le_of_ble_eq_true rfl) (fRoom (by decide)) ⟨Nat.le_refl _, Nat.le_refl _⟩ (qX7_find (S := S1) (lo := 0) (N := (gI S1 0 9).toNatClampNeg + 1) H1 HG1 hsi (show k < e by omega) (by omega) hm.1 hm.2.2 hm3) ?_
      rintro _ S9 ⟨rfl, hk9, hF9⟩
      obtain ⟨hp9, hq9, hsf9, e2, e6, e17, ebo⟩ := fnd (S := S1) (lo := 0) (n := (gI S1 0 9).toNatClampNeg + 1) H1 hsi (show k < e by omega) hk9 (by omega)
      refine fV.to (pc' := 46) (L' := [(0, .ref 0), (1, .int (nI si)), (2, .int ((wst (hC S) b si k).1)), (3, .int ((wst (hC S) b si k).2)), (4, .int (nI k))]) (st' := []) (S' := S9) rfl rfl rfl rfl ?_
      refine fV.run iX7_worst_46_5 oX7_worst_46_5 (pc' := 53) (L' := [(0, .ref 0), (1, .int (nI si)), (2, .int ((wst (hC S) b si k).1)), (3, .int ((wst (hC S) b si k).2)), (4, .int (nI k))]) (st' := [.int (gA S9 17 (nI si).toNatClampNeg), .ref 0]) (S' := S9) (P := vp_in (nI si) 4 ∧ True) rfl ⟨(vp_in_nI (by omega) (by decide)), trivial⟩ ?_
      refine fV.callV (M2 := mX7_sumUp) (d := d + 9) (o := 0) (av := [.int (gA S9 17 (nI si).toNatClampNeg)]) (rest := []) kX7_sumUp dX7_worst_53 lX7_176 rfl rfl rfl (Nat.le_of_ble_eq_true rfl) (fRoom (by decide)) ⟨Nat.le_refl _, Nat.le_refl _⟩ (qX7_sumUp (S := S9) hb16 hF9 hp9 hq9 hsf9) ?_
      rintro _ S8 ⟨rfl, h9⟩
      rw [e2, e6, ebo, e17, nI_clamp (by omega)] at h9
      have h9b : S8 = (wJ (wJ (wJ S9 27 0 (eS (hC S1) b si k)) 27 1 (lS (hC S1) b si k)) 27 2 (dS (hC S1) b si k)) := h9
      rw [hkp.1] at h9b
      rw [h9b]
      refine fV.to (pc' := 56) (L' := [(0, .ref 0), (1, .int (nI si)), (2, .int ((wst (hC S) b si k).1)), (3, .int ((wst (hC S) b si k).2)), (4, .int (nI k))]) (st' := []) (S' := (wJ (wJ (wJ S9 27 0 (eS (hC S) b si k)) 27 1 (lS (hC S) b si k)) 27 2 (dS (hC S) b si k))) rfl rfl rfl rfl ?_
      refine fV.run iX7_worst_56_6 oX7_worst_56_6 (pc' := 70) (L' := [(0, .ref 0), (1, .int (nI si)), (2, .int ((wst (hC S) b si k).1)), (3, .int ((wst (hC S) b si k).2)), (4, .int (nI k))]) (st' := [.long (lS (hC S) b si k), .long (eS (hC S) b si k)]) (S' := (wJ (wJ (wJ S9 27 0 (eS (hC S) b si k)) 27 1 (lS (hC S) b si k)) 27 2 (dS (hC S) b si k))) rfl trivial ?_
      refine fV.callS (M2 := mX7_clarityOf) (d := d + 9) (av := [.long (eS (hC S) b si k), .long (lS (hC S) b si k)]) (rest := []) kX7_clarityOf dX7_worst_70 lX7_186 rfl rfl (Nat.le_of_ble_eq_true rfl) (fRoom (by decide)) ⟨Nat.le_refl _, Nat.le_refl _⟩ (qX7_cl _ _) ?_
      rintro _ S9 ⟨rfl, h9⟩
      rw [h9]
      clear h9 S9
      refine fV.to (pc' := 73) (L' := [(0, .ref 0), (1, .int (nI si)), (2, .int ((wst (hC S) b si k).1)), (3, .int ((wst (hC S) b si k).2)), (4, .int (nI k))]) (st' := [.int (clF (eS (hC S) b si k) (lS (hC S) b si k))]) (S' := (wJ (wJ (wJ S9 27 0 (eS (hC S) b si k)) 27 1 (lS (hC S) b si k)) 27 2 (dS (hC S) b si k))) rfl rfl rfl rfl ?_
      refine fV.run iX7_worst_73_3 oX7_worst_73_3 (pc' := 77) (L' := [(0, .ref 0), (1, .int (nI si)), (2, .int ((wst (hC S) b si k).1)), (3, .int ((wst (hC S) b si k).2)), (4, .int (nI k)), (5, .int (clF (eS (hC S) b si k) (lS (hC S) b si k)))]) (st' := [.int (-1), .int ((wst (hC S) b si k).1)]) (S' := (wJ (wJ (wJ S9 27 0 (eS (hC S) b si k)) 27 1 (lS (hC S) b si k)) 27 2 (dS (hC S) b si k))) rfl trivial ?_
      refine fV.icmp_eq bX7_worst_77 (fun c77 => ?_) (fun c77 => ?_)
      · refine fV.run iX7_worst_86_6 oX7_worst_86_6 (pc' := 22) (L' := [(0, .ref 0), (1, .int (nI si)), (2, .int (nI k)), (3, .int (clF (eS (hC S) b si k) (lS (hC S) b si k))), (4, .int ((nI k) + 1)), (5, .int (clF (eS (hC S) b si k) (lS (hC S) b si k)))]) (st' := []) (S' := (wJ (wJ (wJ S9 27 0 (eS (hC S) b si k)) 27 1 (lS (hC S) b si k)) 27 2 (dS (hC S) b si k))) rfl trivial ?_
        refine fV.pick (L' := [(0, .ref 0), (1, .int (nI si)), (2, .int (nI k)), (3, .int (clF (eS (hC S) b si k) (lS (hC S) b si k))), (4, .int ((nI k) + 1))]) [0, 1, 2, 3, 4] rfl ?_
        refine fV.to (L' := [(0, .ref 0), (1, .int (nI si)), (2, .int (wst (hC S) b si (k + 1)).1), (3, .int (wst (hC S) b si (k + 1)).2), (4, .int (nI (k + 1)))]) rfl (by rw [show wst (hC S) b si (k + 1) = (nI k, clF (eS (hC S) b si k) (lS (hC S) b si k)) from if_pos (by first | exact Or.inl c77 | exact Or.inr (by grind)), nI_1]) rfl rfl (ih (k + 1) _ (by omega) (hkp.tr (hk9.tr ⟨rfl, rfl, rfl, rfl, rfl, rfl⟩)))
      · refine fV.run iX7_worst_80_2 oX7_worst_80_2 (pc' := 83) (L' := [(0, .ref 0), (1, .int (nI si)), (2, .int ((wst (hC S) b si k).1)), (3, .int ((wst (hC S) b si k).2)), (4, .int (nI k)), (5, .int (clF (eS (hC S) b si k) (lS (hC S) b si k)))]) (st' := [.int ((wst (hC S) b si k).2), .int (clF (eS (hC S) b si k) (lS (hC S) b si k))]) (S' := (wJ (wJ (wJ S9 27 0 (eS (hC S) b si k)) 27 1 (lS (hC S) b si k)) 27 2 (dS (hC S) b si k))) rfl trivial ?_
        refine fV.icmp_ge bX7_worst_83 (fun c83 => ?_) (fun c83 => ?_)
        · refine fV.run iX7_worst_92_2 oX7_worst_92_2 (pc' := 22) (L' := [(0, .ref 0), (1, .int (nI si)), (2, .int ((wst (hC S) b si k).1)), (3, .int ((wst (hC S) b si k).2)), (4, .int ((nI k) + 1)), (5, .int (clF (eS (hC S) b si k) (lS (hC S) b si k)))]) (st' := []) (S' := (wJ (wJ (wJ S9 27 0 (eS (hC S) b si k)) 27 1 (lS (hC S) b si k)) 27 2 (dS (hC S) b si k))) rfl trivial ?_
          refine fV.pick (L' := [(0, .ref 0), (1, .int (nI si)), (2, .int ((wst (hC S) b si k).1)), (3, .int ((wst (hC S) b si k).2)), (4, .int ((nI k) + 1))]) [0, 1, 2, 3, 4] rfl ?_
          refine fV.to (L' := [(0, .ref 0), (1, .int (nI si)), (2, .int (wst (hC S) b si (k + 1)).1), (3, .int (wst (hC S) b si (k + 1)).2), (4, .int (nI (k + 1)))]) rfl (by rw [show wst (hC S) b si (k + 1) = wst (hC S) b si k from if_neg (by grind), nI_1]) rfl rfl (ih (k + 1) _ (by omega) (hkp.tr (hk9.tr ⟨rfl, rfl, rfl, rfl, rfl, rfl⟩)))
        · refine fV.run iX7_worst_86_6 oX7_worst_86_6 (pc' := 22) (L' := [(0, .ref 0), (1, .int (nI si)), (2, .int (nI k)), (3, .int (clF (eS (hC S) b si k) (lS (hC S) b si k))), (4, .int ((nI k) + 1)), (5, .int (clF (eS (hC S) b si k) (lS (hC S) b si k)))]) (st' := []) (S' := (wJ (wJ (wJ S9 27 0 (eS (hC S) b si k)) 27 1 (lS (hC S) b si k)) 27 2 (dS (hC S) b si k))) rfl trivial ?_
          refine fV.pick (L' := [(0, .ref 0), (1, .int (nI si)), (2, .int (nI k)), (3, .int (clF (eS (hC S) b si k) (lS (hC S) b si k))), (4, .int ((nI k) + 1))]) [0, 1, 2, 3, 4] rfl ?_
          refine fV.to (L' := [(0, .ref 0), (1, .int (nI si)), (2, .int (wst (hC S) b si (k + 1)).1), (3, .int (wst (hC S) b si (k + 1)).2), (4, .int (nI (k + 1)))]) rfl (by rw [show wst (hC S) b si (k + 1) = (nI k, clF (eS (hC S) b si k) (lS (hC S) b si k)) from if_pos (by first | exact Or.inl c77 | exact Or.inr (by grind)), nI_1]) rfl rfl (ih (k + 1) _ (by omega) (hkp.tr (hk9.tr ⟨rfl, rfl, rfl, rfl, rfl, rfl⟩)))
def iX7_worst_0_3 : List Instr := [.aload_n 0, .getfield 28, .iload_n 1]
theorem oX7_worst_0_3 : fOkB cX7_worst 0 iX7_worst_0_3 = true := by decide +kernel
theorem dX7_worst_5 : decode cX7_worst 5 = .ok (.invokevirtual 101, 3) := by decide +kernel
theorem bX7_worst_8 : fBk cX7_worst 8 (.ifCond .ne) 15 := ⟨7, by decide +kernel, by decide⟩
def iX7_worst_15_6 : List Instr := [.iconst (-1), .istore_n 2, .iconst 0, .istore_n 3, .iconst 0, .istore 4]
theorem oX7_worst_15_6 : fOkB cX7_worst 15 iX7_worst_15_6 = true := by decide +kernel
def iX7_worst_11_1 : List Instr := [.sipush (-1001)]
theorem oX7_worst_11_1 : fOkB cX7_worst 11 iX7_worst_11_1 = true := by decide +kernel
theorem dX7_worst_14 : decode cX7_worst 14 = .ok (.ireturn, 1) := by decide +kernel
set_option maxRecDepth 100000 in
theorem qX7_worst {G : fG} {d : Nat} {S : fS} (x : Int32) {a b c e : Nat} (H : hOk (hC S) a b c e) (HG : hGeo S b) : fCtr G (d + 10) mX7_worst [.ref 0, .int x] S (fun r S' => r = some (.int (oWorst (hC S) b e x)) ∧ kp S S') := by
  refine fCtr.of bXX7_worst (Nat.le_of_ble_eq_true rfl) rfl ?_
  have hb : gI S 4 6 = nI b := H.2.1.1
  have hb16 : b ≤ 16 := H.2.1.2.1
  have ha8 : a ≤ 8 := H.1.2.2.1
  have hc4 : c ≤ 4 := H.2.2.1.2.1
  have he8 : e ≤ 8 := H.2.2.2.1.2.1
  have hm3 : gI S 0 9 ≤ 3 := H.2.2.2.2.1.2
  have hm := most_N (m := gI S 0 9) H.2.2.2.2.1.1 hm3
  refine fV.run iX7_worst_0_3 oX7_worst_0_3 (pc' := 5) (L' := [(0, .ref 0), (1, .int x)]) (st' := [.int x, .ref 11]) (S' := S) rfl trivial ?_
  refine fV.callV (M2 := mX2_has) (d := d + 9) (o := 11) (av := [.int x]) (rest := []) kX2_has dX7_worst_5 lX7_101 rfl rfl rfl (Nat.le_of_ble_eq_true rfl) (fRoom (by decide)) ⟨Nat.le_refl _, Nat.le_refl _⟩ (qX2_has_11 _) ?_
  rintro _ S9 ⟨rfl, h9⟩
  rw [h9]
  clear h9 S9
  refine fV.to (pc' := 8) (L' := [(0, .ref 0), (1, .int x)]) (st' := [.int (fB (decide (0 ≤ x ∧ x < (gI S 11 2))))]) (S' := S) rfl rfl rfl rfl ?_
  refine fV.if_ne bX7_worst_8 (fun c8 => ?_) (fun c8 => ?_)
  · refine fV.run iX7_worst_15_6 oX7_worst_15_6 (pc' := 22) (L' := [(0, .ref 0), (1, .int x), (2, .int (-1)), (3, .int 0), (4, .int 0)]) (st' := []) (S' := S) rfl trivial ?_
    obtain ⟨si, hsi, rfl⟩ := n_in (x := x) (n := c) (by omega) (by grind [fB]) (by rw [← show gI S 11 2 = nI c from H.2.2.1.1]; grind [fB])
    rw [show oWorst (hC S) b e (nI si) = (wst (hC S) b si e).1 by unfold oWorst; rw [if_pos ⟨nI_pos' (by omega), by rw [show (hC S).2.2.1.1 = nI c from H.2.2.1.1, nI_ltI (by omega) (by omega)]; exact hsi⟩, nI_clamp (by omega)]]
    exact lpX7_worst H HG hsi e 0 S (by omega) kp.rf
  · refine fV.run iX7_worst_11_1 oX7_worst_11_1 (pc' := 14) (L' := [(0, .ref 0), (1, .int x)]) (st' := [.int (-1001)]) (S' := S) rfl trivial ?_
    exact fV.iret rfl dX7_worst_14 ⟨by unfold oWorst; rw [if_neg (by grind [fB, hC])], kp.rf⟩

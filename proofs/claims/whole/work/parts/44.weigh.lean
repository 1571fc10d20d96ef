/-! the landed program: a choice weighed, a group heard -/
def selR (S : fS) (o : sel) : Prop := match o with
  | none => gI S 28 9 = 0
  | some q => gI S 28 9 = 1 ∧ gI S 28 10 = q.1 ∧ gI S 28 11 = q.2.1 ∧ gI S 28 12 = q.2.2
def kc (S S' : fS) : Prop := kf S S' ∧ (gI S' 28 6 = gI S 28 6 ∧ gI S' 28 7 = gI S 28 7 ∧ gI S' 28 8 = gI S 28 8) ∧ gA S' 29 = gA S 29 ∧ gA S' 31 = gA S 31 ∧ gA S' 32 = gA S 32
theorem kc.rf {S : fS} : kc S S := ⟨kf.rf, ⟨rfl, rfl, rfl⟩, rfl, rfl, rfl⟩
theorem kc.tr {S S1 S2 : fS} (h : kc S S1) (h2 : kc S1 S2) : kc S S2 := ⟨h.1.tr h2.1, ⟨h2.2.1.1.trans h.2.1.1, h2.2.1.2.1.trans h.2.1.2.1, h2.2.1.2.2.trans h.2.1.2.2⟩, h2.2.2.1.trans h.2.2.1, h2.2.2.2.1.trans h.2.2.2.1, h2.2.2.2.2.trans h.2.2.2.2⟩
theorem kc.cx {S S' : fS} (h : kc S S') {ws : List Nat} (c : cxW S ws) : cxW S' ws := ⟨by rw [h.2.1.1]; exact c.1, fun k hk => by rw [h.2.2.1]; exact c.2 k hk⟩
theorem kc.gp {S S' : fS} (h : kc S S') {gr : pTh → Nat} {PL : List pTh} (c : gpd S gr PL) : gpd S' gr PL := by
  unfold gpd
  rw [h.2.2.2.1, h.2.2.2.2]
  exact c
def kw (S S' : fS) : Prop := kc S S' ∧ gA S' 30 = gA S 30 ∧ gB S' 33 = gB S 33 ∧ gB S' 34 = gB S 34
theorem kw.tr {S S1 S2 : fS} (h : kw S S1) (h2 : kw S1 S2) : kw S S2 := ⟨h.1.tr h2.1, h2.2.1.trans h.2.1, h2.2.2.1.trans h.2.2.1, h2.2.2.2.trans h.2.2.2⟩
theorem kw.rf {S : fS} : kw S S := ⟨kc.rf, rfl, rfl, rfl⟩
theorem fnL_get {l : List Nat} {j : Nat} (h : j < l.length) : l[j]? = some (fnL l j) := by
  unfold fnL
  rw [List.getD_eq_getElem?_getD, List.getElem?_eq_getElem h]
  rfl
theorem wgh_y {S : fS} {o : sel} (hs : selR S o) {c k f : Int32} (h : gI S 28 9 = 0 ∨ (¬ c < gI S 28 10 ∧ ¬ (c = gI S 28 10 ∧ gI S 28 11 ≤ k))) : wgh o c k f = some (c, k, f) := by
  cases o with
  | none => rfl
  | some q =>
    obtain ⟨h1, h2, h3, h4⟩ := hs
    rw [h1, h2, h3] at h
    rcases h with z | z
    · exact absurd z (by decide)
    · exact if_neg (by grind)
theorem wgh_n {S : fS} {o : sel} (hs : selR S o) {c k f : Int32} (h0 : ¬ gI S 28 9 = 0) (h : c < gI S 28 10 ∨ (c = gI S 28 10 ∧ gI S 28 11 ≤ k)) : selR S (wgh o c k f) := by
  cases o with
  | none => exact absurd hs h0
  | some q =>
    have hs2 := hs
    obtain ⟨h1, h2, h3, h4⟩ := hs
    rw [h2, h3] at h
    rw [show wgh (some q) c k f = some q from if_pos h]
    exact hs2
def iX0_weigh_54_3 : List Instr := [.iload_n 3, .aload_n 0, .getfield 31]
theorem oX0_weigh_54_3 : fOkB cX0_weigh 54 iX0_weigh_54_3 = true := by decide +kernel
theorem bX0_weigh_59 : fBk cX0_weigh 59 (.if_icmp .ge) 91 := ⟨32, by decide +kernel, by decide⟩
theorem dX0_weigh_91 : decode cX0_weigh 91 = .ok (.return_, 1) := by decide +kernel
def iX0_weigh_62_16 : List Instr := [.aload_n 0, .bipush 8, .aload_n 0, .getfield 51, .imul, .aload_n 0, .getfield 15, .aload_n 0, .getfield 9, .iload_n 3, .iaload, .iaload, .iadd, .putfield 51, .iinc 3 1, .goto (-34)]
theorem oX0_weigh_62_16 : fOkB cX0_weigh 62 iX0_weigh_62_16 = true := by decide +kernel
theorem fnL_mem {l : List Nat} {j : Nat} (h : j < l.length) : fnL l j ∈ l := List.mem_of_getElem? (fnL_get h)
set_option maxRecDepth 100000 in
theorem lpX0_weigh {G : fG} {d : Nat} {S : fS} {ws fs : List Nat} {o : sel} {c k : Int32} (hW : cxW S ws) (h4 : ws.length ≤ 4) (hl : fs.length = ws.length) (h16 : ∀ w ∈ ws, w < 16) (hv : ∀ j, j < ws.length → gA S 30 (fnL ws j) = nI (fnL fs j)) (hwg : wgh o c k (fgs fs) = some (c, k, fgs fs)) : ∀ (u j : Nat) (S1 : fS), j + u = ws.length → (kw S S1 ∧ gI S1 28 9 = 1 ∧ gI S1 28 10 = c ∧ gI S1 28 11 = k ∧ gI S1 28 12 = fgs (fs.take j)) → fV G mX0_weigh (fZm G d (fun r S' => r = none ∧ kw S S' ∧ selR S' (wgh o c k (fgs fs)))) 54 [(0, .ref 28), (1, .int c), (2, .int k), (3, .int (nI j))] [] S1 := by
  intro u
  induction u with
  | zero =>
    intro j S1 hu hI
    refine fV.run iX0_weigh_54_3 oX0_weigh_54_3 (pc' := 59) (L' := [(0, .ref 28), (1, .int c), (2, .int k), (3, .int (nI j))]) (st' := [.int (gI S1 28 6), .int (nI j)]) (S' := S1) rfl trivial ?_
    refine fV.icmp_ge bX0_weigh_59 (fun c59 => ?_) (fun c59 => ?_)
    · exact fV.vret rfl dX0_weigh_91 ⟨rfl, hI.1, by rw [hwg]; (obtain ⟨z1, z2, z3, z4⟩ := hI.2); exact ⟨z1, z2, z3, by rw [z4, List.take_of_length_le (by omega)]⟩⟩
    · exact absurd c59 (by rw [hI.1.1.2.1.1, hW.1, nI_leI (by omega) (by omega)]; omega)
  | succ u ih =>
    intro j S1 hu hI
    have hv1 : gA S1 29 j = nI (fnL ws j) := (hI.1.1.cx hW).2 j (by omega)
    have hv0 : gA S1 30 (fnL ws j) = nI (fnL fs j) := by rw [hI.1.2.1]; exact hv j (by omega)
    have hw16 := h16 _ (fnL_mem (l := ws) (j := j) (by omega))
    refine fV.run iX0_weigh_54_3 oX0_weigh_54_3 (pc' := 59) (L' := [(0, .ref 28), (1, .int c), (2, .int k), (3, .int (nI j))]) (st' := [.int (gI S1 28 6), .int (nI j)]) (S' := S1) rfl trivial ?_
    refine fV.icmp_ge bX0_weigh_59 (fun c59 => ?_) (fun c59 => ?_)
    · exact absurd c59 (by rw [hI.1.1.2.1.1, hW.1, nI_leI (by omega) (by omega)]; omega)
    · refine fV.run iX0_weigh_62_16 oX0_weigh_62_16 (pc' := 54) (L' := [(0, .ref 28), (1, .int c), (2, .int k), (3, .int ((nI j) + 1))]) (st' := []) (S' := (wI S1 28 12 ((8 * (gI S1 28 12)) + (gA S1 30 (gA S1 29 (nI j).toNatClampNeg).toNatClampNeg)))) (P := vp_in (nI j) 4 ∧ vp_in (gA S1 29 (nI j).toNatClampNeg) 16 ∧ True) rfl ⟨(vp_in_nI (by omega) (by decide)), (by rw [nI_clamp (by omega), hv1]; exact vp_in_nI (h16 _ (fnL_mem (by omega))) (by decide)), trivial⟩ ?_
      refine fV.to (L' := [(0, .ref 28), (1, .int c), (2, .int k), (3, .int (nI (j + 1)))]) (S' := wI S1 28 12 (8 * gI S1 28 12 + nI (fnL fs j))) rfl (by rw [nI_1]) rfl (by rw [nI_clamp (by omega), hv1, nI_clamp (by omega), hv0]) (ih (j + 1) _ (by omega) ⟨hI.1.tr ⟨⟨⟨⟨rfl, rfl, rfl, rfl, rfl, rfl⟩, rfl, rfl, rfl, rfl⟩, ⟨rfl, rfl, rfl⟩, rfl, rfl, rfl⟩, rfl, rfl, rfl⟩, hI.2.1, hI.2.2.1, hI.2.2.2.1, by rw [take_s (fnL_get (show j < fs.length by omega)), fgs_app, ← hI.2.2.2.2]; rfl⟩)
def iX0_weigh_0_2 : List Instr := [.aload_n 0, .getfield 41]
theorem oX0_weigh_0_2 : fOkB cX0_weigh 0 iX0_weigh_0_2 = true := by decide +kernel
theorem bX0_weigh_4 : fBk cX0_weigh 4 (.ifCond .eq) 32 := ⟨28, by decide +kernel, by decide⟩
def iX0_weigh_32_14 : List Instr := [.aload_n 0, .iconst 1, .putfield 41, .aload_n 0, .iload_n 1, .putfield 45, .aload_n 0, .iload_n 2, .putfield 48, .aload_n 0, .iconst 0, .putfield 51, .iconst 0, .istore_n 3]
theorem oX0_weigh_32_14 : fOkB cX0_weigh 32 iX0_weigh_32_14 = true := by decide +kernel
def iX0_weigh_7_3 : List Instr := [.iload_n 1, .aload_n 0, .getfield 45]
theorem oX0_weigh_7_3 : fOkB cX0_weigh 7 iX0_weigh_7_3 = true := by decide +kernel
theorem bX0_weigh_12 : fBk cX0_weigh 12 (.if_icmp .lt) 31 := ⟨19, by decide +kernel, by decide⟩
theorem dX0_weigh_31 : decode cX0_weigh 31 = .ok (.return_, 1) := by decide +kernel
def iX0_weigh_15_3 : List Instr := [.iload_n 1, .aload_n 0, .getfield 45]
theorem oX0_weigh_15_3 : fOkB cX0_weigh 15 iX0_weigh_15_3 = true := by decide +kernel
theorem bX0_weigh_20 : fBk cX0_weigh 20 (.if_icmp .ne) 32 := ⟨12, by decide +kernel, by decide⟩
def iX0_weigh_23_3 : List Instr := [.iload_n 2, .aload_n 0, .getfield 48]
theorem oX0_weigh_23_3 : fOkB cX0_weigh 23 iX0_weigh_23_3 = true := by decide +kernel
theorem bX0_weigh_28 : fBk cX0_weigh 28 (.if_icmp .lt) 32 := ⟨4, by decide +kernel, by decide⟩
set_option maxRecDepth 100000 in
theorem qX0_weigh {G : fG} {d : Nat} {S : fS} {ws fs : List Nat} {o : sel} {c k : Int32} (hW : cxW S ws) (h4 : ws.length ≤ 4) (hl : fs.length = ws.length) (h16 : ∀ w ∈ ws, w < 16) (hv : ∀ j, j < ws.length → gA S 30 (fnL ws j) = nI (fnL fs j)) (hs : selR S o) : fCtr G (d) mX0_weigh [.ref 28, .int c, .int k] S (fun r S' => r = none ∧ kw S S' ∧ selR S' (wgh o c k (fgs fs))) := by
  refine fCtr.of bXX0_weigh (Nat.le_of_ble_eq_true rfl) rfl ?_
  refine fV.run iX0_weigh_0_2 oX0_weigh_0_2 (pc' := 4) (L' := [(0, .ref 28), (1, .int c), (2, .int k)]) (st' := [.int (gI S 28 9)]) (S' := S) rfl trivial ?_
  refine fV.if_eq bX0_weigh_4 (fun c4 => ?_) (fun c4 => ?_)
  · refine fV.run iX0_weigh_32_14 oX0_weigh_32_14 (pc' := 54) (L' := [(0, .ref 28), (1, .int c), (2, .int k), (3, .int 0)]) (st' := []) (S' := (wI (wI (wI (wI S 28 9 1) 28 10 c) 28 11 k) 28 12 0)) (P := (1 = 0 ∨ 1 = 1) ∧ True) rfl ⟨(by decide), trivial⟩ ?_
    exact lpX0_weigh hW h4 hl h16 hv (wgh_y hs (by first | exact Or.inl c4 | exact Or.inr ⟨c12, by grind⟩)) ws.length 0 _ (by omega) ⟨⟨⟨⟨⟨rfl, rfl, rfl, rfl, rfl, rfl⟩, rfl, rfl, rfl, rfl⟩, ⟨rfl, rfl, rfl⟩, rfl, rfl, rfl⟩, rfl, rfl, rfl⟩, rfl, rfl, rfl, rfl⟩
  · refine fV.run iX0_weigh_7_3 oX0_weigh_7_3 (pc' := 12) (L' := [(0, .ref 28), (1, .int c), (2, .int k)]) (st' := [.int (gI S 28 10), .int c]) (S' := S) rfl trivial ?_
    refine fV.icmp_lt bX0_weigh_12 (fun c12 => ?_) (fun c12 => ?_)
    · exact fV.vret rfl dX0_weigh_31 ⟨rfl, kw.rf, wgh_n hs c4 (by first | exact Or.inl c12 | exact Or.inr ⟨by grind, by grind⟩)⟩
    · refine fV.run iX0_weigh_15_3 oX0_weigh_15_3 (pc' := 20) (L' := [(0, .ref 28), (1, .int c), (2, .int k)]) (st' := [.int (gI S 28 10), .int c]) (S' := S) rfl trivial ?_
      refine fV.icmp_ne bX0_weigh_20 (fun c20 => ?_) (fun c20 => ?_)
      · refine fV.run iX0_weigh_32_14 oX0_weigh_32_14 (pc' := 54) (L' := [(0, .ref 28), (1, .int c), (2, .int k), (3, .int 0)]) (st' := []) (S' := (wI (wI (wI (wI S 28 9 1) 28 10 c) 28 11 k) 28 12 0)) (P := (1 = 0 ∨ 1 = 1) ∧ True) rfl ⟨(by decide), trivial⟩ ?_
        exact lpX0_weigh hW h4 hl h16 hv (wgh_y hs (by first | exact Or.inl c4 | exact Or.inr ⟨c12, by grind⟩)) ws.length 0 _ (by omega) ⟨⟨⟨⟨⟨rfl, rfl, rfl, rfl, rfl, rfl⟩, rfl, rfl, rfl, rfl⟩, ⟨rfl, rfl, rfl⟩, rfl, rfl, rfl⟩, rfl, rfl, rfl⟩, rfl, rfl, rfl, rfl⟩
      · refine fV.run iX0_weigh_23_3 oX0_weigh_23_3 (pc' := 28) (L' := [(0, .ref 28), (1, .int c), (2, .int k)]) (st' := [.int (gI S 28 11), .int k]) (S' := S) rfl trivial ?_
        refine fV.icmp_lt bX0_weigh_28 (fun c28 => ?_) (fun c28 => ?_)
        · refine fV.run iX0_weigh_32_14 oX0_weigh_32_14 (pc' := 54) (L' := [(0, .ref 28), (1, .int c), (2, .int k), (3, .int 0)]) (st' := []) (S' := (wI (wI (wI (wI S 28 9 1) 28 10 c) 28 11 k) 28 12 0)) (P := (1 = 0 ∨ 1 = 1) ∧ True) rfl ⟨(by decide), trivial⟩ ?_
          exact lpX0_weigh hW h4 hl h16 hv (wgh_y hs (by first | exact Or.inl c4 | exact Or.inr ⟨c12, by grind⟩)) ws.length 0 _ (by omega) ⟨⟨⟨⟨⟨rfl, rfl, rfl, rfl, rfl, rfl⟩, rfl, rfl, rfl, rfl⟩, ⟨rfl, rfl, rfl⟩, rfl, rfl, rfl⟩, rfl, rfl, rfl⟩, rfl, rfl, rfl, rfl⟩
        · exact fV.vret rfl dX0_weigh_31 ⟨rfl, kw.rf, wgh_n hs c4 (by first | exact Or.inl c12 | exact Or.inr ⟨by grind, by grind⟩)⟩
def iX7_hearGroup_52_8 : List Instr := [.iload 6, .aload_n 0, .getfield 63, .getfield 294, .iload_n 1, .iconst 1, .iadd, .iaload]
theorem oX7_hearGroup_52_8 : fOkB cX7_hearGroup 52 iX7_hearGroup_52_8 = true := by decide +kernel
theorem bX7_hearGroup_65 : fBk cX7_hearGroup 65 (.if_icmp .ge) 132 := ⟨67, by decide +kernel, by decide⟩
def iX7_hearGroup_132_12 : List Instr := [.aload_n 0, .getfield 63, .getfield 278, .iload_n 1, .lload_n 2, .lastore, .aload_n 0, .getfield 63, .getfield 280, .iload_n 1, .lload 4, .lastore]
theorem oX7_hearGroup_132_12 : fOkB cX7_hearGroup 132 iX7_hearGroup_132_12 = true := by decide +kernel
theorem dX7_hearGroup_153 : decode cX7_hearGroup 153 = .ok (.return_, 1) := by decide +kernel
def iX7_hearGroup_68_5 : List Instr := [.aload_n 0, .getfield 63, .getfield 297, .iload 6, .iaload]
theorem oX7_hearGroup_68_5 : fOkB cX7_hearGroup 68 iX7_hearGroup_68_5 = true := by decide +kernel
def iX7_hearGroup_78_9 : List Instr := [.istore 7, .aload_n 0, .iload 7, .aload_n 0, .getfield 63, .getfield 300, .aload_n 0, .getfield 63, .getfield 293]
theorem oX7_hearGroup_78_9 : fOkB cX7_hearGroup 78 iX7_hearGroup_78_9 = true := by decide +kernel
theorem dX7_hearGroup_97 : decode cX7_hearGroup 97 = .ok (.invokevirtual 146, 3) := by decide +kernel
def iX7_hearGroup_100_3 : List Instr := [.lstore 8, .aload_n 0, .iload 7]
theorem oX7_hearGroup_100_3 : fOkB cX7_hearGroup 100 iX7_hearGroup_100_3 = true := by decide +kernel
theorem dX7_hearGroup_105 : decode cX7_hearGroup 105 = .ok (.invokevirtual 269, 3) := by decide +kernel
theorem bX7_hearGroup_108 : fBk cX7_hearGroup 108 (.ifCond .eq) 119 := ⟨11, by decide +kernel, by decide⟩
def iX7_hearGroup_119_6 : List Instr := [.lload 4, .lload 8, .ladd, .lstore 4, .iinc 6 1, .goto (-77)]
theorem oX7_hearGroup_119_6 : fOkB cX7_hearGroup 119 iX7_hearGroup_119_6 = true := by decide +kernel
def iX7_hearGroup_111_7 : List Instr := [.lload_n 2, .lload 8, .ladd, .lstore_n 2, .goto 10, .iinc 6 1, .goto (-77)]
theorem oX7_hearGroup_111_7 : fOkB cX7_hearGroup 111 iX7_hearGroup_111_7 = true := by decide +kernel
set_option maxRecDepth 100000 in
theorem lpX7_hg {G : fG} {d : Nat} {S : fS} {E0 L0 : Int64} {b g : Nat} {PL : List pTh} {gr : pTh → Nat} {st : Nat → Nat} (hb : b ≤ 16) (F : fdOk S PL) (hp : plOk b PL) (hq : plSq PL) (hsf : ∀ w, w < b → ∃ j, j < 8 ∧ gA S 30 w = nI j) (hg : g < 5) (h33 : ∀ q, q < 6 → gA S 32 q = nI (st q) ∧ st q ≤ 3857) (hst : st (g + 1) = st g + (atG gr PL g).length) (h32 : ∀ j x, (atG gr PL g)[j]? = some x → ∃ i, gA S 31 (st g + j) = nI i ∧ PL[i]? = some x) : ∀ (u j : Nat), j + u = (atG gr PL g).length → fV G mX7_hearGroup (fZm G (d + 3) (fun r S' => r = none ∧ S' = wB (wB S 33 (vp_updL (gB S 33) g (E0 + smE (enF (gA S 2) (gA S 30) (gI S 28 8)) (erl (gI S 0 10) (leastF PL)) (atG gr PL g)))) 34 (vp_updL (gB S 34) g (L0 + smE (enF (gA S 2) (gA S 30) (gI S 28 8)) (fun x => !(erl (gI S 0 10) (leastF PL)) x) (atG gr PL g))))) 52 [(0, .ref 0), (1, .int (nI g)), (2, .long (E0 + smE (enF (gA S 2) (gA S 30) (gI S 28 8)) (erl (gI S 0 10) (leastF PL)) ((atG gr PL g).take j))), (4, .long (L0 + smE (enF (gA S 2) (gA S 30) (gI S 28 8)) (fun x => !(erl (gI S 0 10) (leastF PL)) x) ((atG gr PL g).take j))), (6, .int (nI (st g + j)))] [] S := by
  have hs1 := (h33 (g + 1) (by omega)).2
  have hs0 := (h33 g (by omega)).2
  intro u
  induction u with
  | zero =>
    intro j hu
    refine fV.run iX7_hearGroup_52_8 oX7_hearGroup_52_8 (pc' := 65) (L' := [(0, .ref 0), (1, .int (nI g)), (2, .long (E0 + smE (enF (gA S 2) (gA S 30) (gI S 28 8)) (erl (gI S 0 10) (leastF PL)) ((atG gr PL g).take j))), (4, .long (L0 + smE (enF (gA S 2) (gA S 30) (gI S 28 8)) (fun x => !(erl (gI S 0 10) (leastF PL)) x) ((atG gr PL g).take j))), (6, .int (nI (st g + j)))]) (st' := [.int (gA S 32 ((nI g) + 1).toNatClampNeg), .int (nI (st g + j))]) (S' := S) (P := vp_in ((nI g) + 1) 6 ∧ True) rfl ⟨(by rw [nI_1]; exact vp_in_nI (by omega) (by decide)), trivial⟩ ?_
    refine fV.to (L' := [(0, .ref 0), (1, .int (nI g)), (2, .long (E0 + smE (enF (gA S 2) (gA S 30) (gI S 28 8)) (erl (gI S 0 10) (leastF PL)) ((atG gr PL g).take j))), (4, .long (L0 + smE (enF (gA S 2) (gA S 30) (gI S 28 8)) (fun x => !(erl (gI S 0 10) (leastF PL)) x) ((atG gr PL g).take j))), (6, .int (nI (st g + j)))]) (st' := [.int (nI (st (g + 1))), .int (nI (st g + j))]) rfl rfl (by rw [show (gA S 32 ((nI g) + 1).toNatClampNeg : Int32) = nI (st (g + 1)) from by rw [nI_1, nI_clamp (by omega)]; exact (h33 (g + 1) (by omega)).1]) rfl ?_
    refine fV.icmp_ge bX7_hearGroup_65 (fun c65 => ?_) (fun c65 => ?_)
    · refine fV.run iX7_hearGroup_132_12 oX7_hearGroup_132_12 (pc' := 153) (L' := [(0, .ref 0), (1, .int (nI g)), (2, .long (E0 + smE (enF (gA S 2) (gA S 30) (gI S 28 8)) (erl (gI S 0 10) (leastF PL)) ((atG gr PL g).take j))), (4, .long (L0 + smE (enF (gA S 2) (gA S 30) (gI S 28 8)) (fun x => !(erl (gI S 0 10) (leastF PL)) x) ((atG gr PL g).take j))), (6, .int (nI (st g + j)))]) (st' := []) (S' := (wB (wB S 33 (vp_updL (gB S 33) (nI g).toNatClampNeg (E0 + smE (enF (gA S 2) (gA S 30) (gI S 28 8)) (erl (gI S 0 10) (leastF PL)) ((atG gr PL g).take j)))) 34 (vp_updL (gB S 34) (nI g).toNatClampNeg (L0 + smE (enF (gA S 2) (gA S 30) (gI S 28 8)) (fun x => !(erl (gI S 0 10) (leastF PL)) x) ((atG gr PL g).take j))))) (P := vp_in (nI g) 5 ∧ vp_in (nI g) 5 ∧ True) rfl ⟨(vp_in_nI (by omega) (by decide)), (vp_in_nI (by omega) (by decide)), trivial⟩ ?_
      exact fV.vret rfl dX7_hearGroup_153 ⟨rfl, by rw [List.take_of_length_le (show (atG gr PL g).length ≤ j by omega), nI_clamp (by omega)]⟩
    · exact absurd c65 (fun z => z (by rw [nI_leI (by omega) (by omega)]; omega))
  | succ u ih =>
    intro j hu
    obtain ⟨x, hx⟩ : ∃ x, (atG gr PL g)[j]? = some x := ⟨_, List.getElem?_eq_getElem (by omega)⟩
    obtain ⟨i, hi32, hxi⟩ := h32 j x hx
    have hiL : i < PL.length := (List.getElem?_eq_some_iff.mp hxi).1
    have hPL : PL.length ≤ 3857 := F.2.1
    refine fV.run iX7_hearGroup_52_8 oX7_hearGroup_52_8 (pc' := 65) (L' := [(0, .ref 0), (1, .int (nI g)), (2, .long (E0 + smE (enF (gA S 2) (gA S 30) (gI S 28 8)) (erl (gI S 0 10) (leastF PL)) ((atG gr PL g).take j))), (4, .long (L0 + smE (enF (gA S 2) (gA S 30) (gI S 28 8)) (fun x => !(erl (gI S 0 10) (leastF PL)) x) ((atG gr PL g).take j))), (6, .int (nI (st g + j)))]) (st' := [.int (gA S 32 ((nI g) + 1).toNatClampNeg), .int (nI (st g + j))]) (S' := S) (P := vp_in ((nI g) + 1) 6 ∧ True) rfl ⟨(by rw [nI_1]; exact vp_in_nI (by omega) (by decide)), trivial⟩ ?_
    refine fV.to (L' := [(0, .ref 0), (1, .int (nI g)), (2, .long (E0 + smE (enF (gA S 2) (gA S 30) (gI S 28 8)) (erl (gI S 0 10) (leastF PL)) ((atG gr PL g).take j))), (4, .long (L0 + smE (enF (gA S 2) (gA S 30) (gI S 28 8)) (fun x => !(erl (gI S 0 10) (leastF PL)) x) ((atG gr PL g).take j))), (6, .int (nI (st g + j)))]) (st' := [.int (nI (st (g + 1))), .int (nI (st g + j))]) rfl rfl (by rw [show (gA S 32 ((nI g) + 1).toNatClampNeg : Int32) = nI (st (g + 1)) from by rw [nI_1, nI_clamp (by omega)]; exact (h33 (g + 1) (by omega)).1]) rfl ?_
    refine fV.icmp_ge bX7_hearGroup_65 (fun c65 => ?_) (fun c65 => ?_)
    · exact absurd c65 (by rw [nI_leI (by omega) (by omega)]; omega)
    · refine fV.run iX7_hearGroup_68_5 oX7_hearGroup_68_5 (pc' := 78) (L' := [(0, .ref 0), (1, .int (nI g)), (2, .long (E0 + smE (enF (gA S 2) (gA S 30) (gI S 28 8)) (erl (gI S 0 10) (leastF PL)) ((atG gr PL g).take j))), (4, .long (L0 + smE (enF (gA S 2) (gA S 30) (gI S 28 8)) (fun x => !(erl (gI S 0 10) (leastF PL)) x) ((atG gr PL g).take j))), (6, .int (nI (st g + j)))]) (st' := [.int (gA S 31 (nI (st g + j)).toNatClampNeg)]) (S' := S) (P := vp_in (nI (st g + j)) 3857 ∧ True) rfl ⟨(vp_in_nI (by omega) (by decide)), trivial⟩ ?_
      refine fV.to (L' := [(0, .ref 0), (1, .int (nI g)), (2, .long (E0 + smE (enF (gA S 2) (gA S 30) (gI S 28 8)) (erl (gI S 0 10) (leastF PL)) ((atG gr PL g).take j))), (4, .long (L0 + smE (enF (gA S 2) (gA S 30) (gI S 28 8)) (fun x => !(erl (gI S 0 10) (leastF PL)) x) ((atG gr PL g).take j))), (6, .int (nI (st g + j)))]) (st' := [.int (nI i)]) rfl rfl (by rw [show (gA S 31 (nI (st g + j)).toNatClampNeg : Int32) = nI i from by rw [nI_clamp (by omega)]; exact hi32]) rfl ?_
      refine fV.run iX7_hearGroup_78_9 oX7_hearGroup_78_9 (pc' := 97) (L' := [(0, .ref 0), (1, .int (nI g)), (2, .long (E0 + smE (enF (gA S 2) (gA S 30) (gI S 28 8)) (erl (gI S 0 10) (leastF PL)) ((atG gr PL g).take j))), (4, .long (L0 + smE (enF (gA S 2) (gA S 30) (gI S 28 8)) (fun x => !(erl (gI S 0 10) (leastF PL)) x) ((atG gr PL g).take j))), (6, .int (nI (st g + j))), (7, .int (nI i))]) (st' := [.ref 30, .int (gI S 28 8), .int (nI i), .ref 0]) (S' := S) rfl trivial ?_
      refine fV.callV (M2 := mX7_energyOf) (d := d + 2) (o := 0) (av := [.int (nI i), .int (gI S 28 8), .ref 30]) (rest := []) kX7_energyOf dX7_hearGroup_97 lX7_146 rfl rfl rfl (Nat.le_of_ble_eq_true rfl) (fRoom (by decide)) ⟨Nat.le_refl _, Nat.le_refl _⟩ (qX7_en_31 hb F hp hq hxi hsf) ?_
      rintro _ S9 ⟨rfl, h9⟩
      rw [h9]
      clear h9 S9
      refine fV.to (pc' := 100) (L' := [(0, .ref 0), (1, .int (nI g)), (2, .long (E0 + smE (enF (gA S 2) (gA S 30) (gI S 28 8)) (erl (gI S 0 10) (leastF PL)) ((atG gr PL g).take j))), (4, .long (L0 + smE (enF (gA S 2) (gA S 30) (gI S 28 8)) (fun x => !(erl (gI S 0 10) (leastF PL)) x) ((atG gr PL g).take j))), (6, .int (nI (st g + j))), (7, .int (nI i))]) (st' := [.long (enF (gA S 2) (gA S 30) (gI S 28 8) x)]) (S' := S) rfl rfl rfl rfl ?_
      refine fV.run iX7_hearGroup_100_3 oX7_hearGroup_100_3 (pc' := 105) (L' := [(0, .ref 0), (1, .int (nI g)), (2, .long (E0 + smE (enF (gA S 2) (gA S 30) (gI S 28 8)) (erl (gI S 0 10) (leastF PL)) ((atG gr PL g).take j))), (4, .long (L0 + smE (enF (gA S 2) (gA S 30) (gI S 28 8)) (fun x => !(erl (gI S 0 10) (leastF PL)) x) ((atG gr PL g).take j))), (6, .int (nI (st g + j))), (7, .int (nI i)), (8, .long (enF (gA S 2) (gA S 30) (gI S 28 8) x))]) (st' := [.int (nI i), .ref 0]) (S' := S) rfl trivial ?_
      refine fV.callV (M2 := mX7_isEarly) (d := d + 2) (o := 0) (av := [.int (nI i)]) (rest := []) kX7_isEarly dX7_hearGroup_105 lX7_269 rfl rfl rfl (Nat.le_of_ble_eq_true rfl) (fRoom (by decide)) ⟨Nat.le_refl _, Nat.le_refl _⟩ (qX7_early hb F hp hxi) ?_
      rintro _ S9 ⟨rfl, h9⟩
      rw [h9]
      clear h9 S9
      refine fV.to (pc' := 108) (L' := [(0, .ref 0), (1, .int (nI g)), (2, .long (E0 + smE (enF (gA S 2) (gA S 30) (gI S 28 8)) (erl (gI S 0 10) (leastF PL)) ((atG gr PL g).take j))), (4, .long (L0 + smE (enF (gA S 2) (gA S 30) (gI S 28 8)) (fun x => !(erl (gI S 0 10) (leastF PL)) x) ((atG gr PL g).take j))), (6, .int (nI (st g + j))), (7, .int (nI i)), (8, .long (enF (gA S 2) (gA S 30) (gI S 28 8) x))]) (st' := [.int (fB (erl (gI S 0 10) (leastF PL) x))]) (S' := S) rfl rfl rfl rfl ?_
      refine fV.if_eq bX7_hearGroup_108 (fun c108 => ?_) (fun c108 => ?_)
      · refine fV.run iX7_hearGroup_119_6 oX7_hearGroup_119_6 (pc' := 52) (L' := [(0, .ref 0), (1, .int (nI g)), (2, .long (E0 + smE (enF (gA S 2) (gA S 30) (gI S 28 8)) (erl (gI S 0 10) (leastF PL)) ((atG gr PL g).take j))), (4, .long ((L0 + smE (enF (gA S 2) (gA S 30) (gI S 28 8)) (fun x => !(erl (gI S 0 10) (leastF PL)) x) ((atG gr PL g).take j)) + (enF (gA S 2) (gA S 30) (gI S 28 8) x))), (6, .int ((nI (st g + j)) + 1)), (7, .int (nI i)), (8, .long (enF (gA S 2) (gA S 30) (gI S 28 8) x))]) (st' := []) (S' := S) rfl trivial ?_
        refine fV.pick (L' := [(0, .ref 0), (1, .int (nI g)), (2, .long (E0 + smE (enF (gA S 2) (gA S 30) (gI S 28 8)) (erl (gI S 0 10) (leastF PL)) ((atG gr PL g).take j))), (4, .long ((L0 + smE (enF (gA S 2) (gA S 30) (gI S 28 8)) (fun x => !(erl (gI S 0 10) (leastF PL)) x) ((atG gr PL g).take j)) + (enF (gA S 2) (gA S 30) (gI S 28 8) x))), (6, .int ((nI (st g + j)) + 1))]) [0, 1, 2, 3, 4] rfl ?_
        exact fV.to (L' := [(0, .ref 0), (1, .int (nI g)), (2, .long (E0 + smE (enF (gA S 2) (gA S 30) (gI S 28 8)) (erl (gI S 0 10) (leastF PL)) ((atG gr PL g).take (j + 1)))), (4, .long (L0 + smE (enF (gA S 2) (gA S 30) (gI S 28 8)) (fun x => !(erl (gI S 0 10) (leastF PL)) x) ((atG gr PL g).take (j + 1)))), (6, .int (nI (st g + (j + 1))))]) rfl (by rw [nI_1, smE_s hx, smE_s hx, fB0.mp c108]; simp only [Bool.not_true, Bool.not_false, cond_true, cond_false, Int64.add_assoc, Nat.add_assoc]) rfl rfl (ih (j + 1) (by omega))
      · refine fV.run iX7_hearGroup_111_7 oX7_hearGroup_111_7 (pc' := 52) (L' := [(0, .ref 0), (1, .int (nI g)), (2, .long ((E0 + smE (enF (gA S 2) (gA S 30) (gI S 28 8)) (erl (gI S 0 10) (leastF PL)) ((atG gr PL g).take j)) + (enF (gA S 2) (gA S 30) (gI S 28 8) x))), (4, .long (L0 + smE (enF (gA S 2) (gA S 30) (gI S 28 8)) (fun x => !(erl (gI S 0 10) (leastF PL)) x) ((atG gr PL g).take j))), (6, .int ((nI (st g + j)) + 1)), (7, .int (nI i)), (8, .long (enF (gA S 2) (gA S 30) (gI S 28 8) x))]) (st' := []) (S' := S) rfl trivial ?_
        refine fV.pick (L' := [(0, .ref 0), (1, .int (nI g)), (2, .long ((E0 + smE (enF (gA S 2) (gA S 30) (gI S 28 8)) (erl (gI S 0 10) (leastF PL)) ((atG gr PL g).take j)) + (enF (gA S 2) (gA S 30) (gI S 28 8) x))), (4, .long (L0 + smE (enF (gA S 2) (gA S 30) (gI S 28 8)) (fun x => !(erl (gI S 0 10) (leastF PL)) x) ((atG gr PL g).take j))), (6, .int ((nI (st g + j)) + 1))]) [0, 1, 2, 3, 4] rfl ?_
        exact fV.to (L' := [(0, .ref 0), (1, .int (nI g)), (2, .long (E0 + smE (enF (gA S 2) (gA S 30) (gI S 28 8)) (erl (gI S 0 10) (leastF PL)) ((atG gr PL g).take (j + 1)))), (4, .long (L0 + smE (enF (gA S 2) (gA S 30) (gI S 28 8)) (fun x => !(erl (gI S 0 10) (leastF PL)) x) ((atG gr PL g).take (j + 1)))), (6, .int (nI (st g + (j + 1))))]) rfl (by rw [nI_1, smE_s hx, smE_s hx, fBn.mp c108]; simp only [Bool.not_true, Bool.not_false, cond_true, cond_false, Int64.add_assoc, Nat.add_assoc]) rfl rfl (ih (j + 1) (by omega))
def iX7_hearGroup_0_1 : List Instr := [.iload_n 1]
theorem oX7_hearGroup_0_1 : fOkB cX7_hearGroup 0 iX7_hearGroup_0_1 = true := by decide +kernel
theorem bX7_hearGroup_1 : fBk cX7_hearGroup 1 (.ifCond .ne) 8 := ⟨7, by decide +kernel, by decide⟩
def iX7_hearGroup_4_4 : List Instr := [.lconst 0, .goto 14, .lstore_n 2, .iload_n 1]
theorem oX7_hearGroup_4_4 : fOkB cX7_hearGroup 4 iX7_hearGroup_4_4 = true := by decide +kernel
theorem bX7_hearGroup_21 : fBk cX7_hearGroup 21 (.ifCond .ne) 28 := ⟨7, by decide +kernel, by decide⟩
def iX7_hearGroup_24_9 : List Instr := [.lconst 0, .goto 14, .lstore 4, .aload_n 0, .getfield 63, .getfield 294, .iload_n 1, .iaload, .istore 6]
theorem oX7_hearGroup_24_9 : fOkB cX7_hearGroup 24 iX7_hearGroup_24_9 = true := by decide +kernel
set_option maxRecDepth 100000 in
theorem qX7_hg0 {G : fG} {d : Nat} {S : fS} {b : Nat} {PL : List pTh} {gr : pTh → Nat} {st : Nat → Nat} (hb : b ≤ 16) (F : fdOk S PL) (hp : plOk b PL) (hq : plSq PL) (hsf : ∀ w, w < b → ∃ j, j < 8 ∧ gA S 30 w = nI j) (hg : 0 < 5) (h33 : ∀ q, q < 6 → gA S 32 q = nI (st q) ∧ st q ≤ 3857) (hst : st (0 + 1) = st 0 + (atG gr PL 0).length) (h32 : ∀ j x, (atG gr PL 0)[j]? = some x → ∃ i, gA S 31 (st 0 + j) = nI i ∧ PL[i]? = some x)  : fCtr G (d + 3) mX7_hearGroup [.ref 0, .int 0] S (fun r S' => r = none ∧ S' = wB (wB S 33 (vp_updL (gB S 33) 0 (0 + smE (enF (gA S 2) (gA S 30) (gI S 28 8)) (erl (gI S 0 10) (leastF PL)) (atG gr PL 0)))) 34 (vp_updL (gB S 34) 0 (0 + smE (enF (gA S 2) (gA S 30) (gI S 28 8)) (fun x => !(erl (gI S 0 10) (leastF PL)) x) (atG gr PL 0)))) := by
  refine fCtr.of bXX7_hearGroup (Nat.le_of_ble_eq_true rfl) rfl ?_
  refine fV.run iX7_hearGroup_0_1 oX7_hearGroup_0_1 (pc' := 1) (L' := [(0, .ref 0), (1, .int 0)]) (st' := [.int 0]) (S' := S) rfl trivial ?_
  refine fV.if_ne bX7_hearGroup_1 (fun c1 => ?_) (fun c1 => ?_)
  · exact absurd c1 (by decide)
  · refine fV.run iX7_hearGroup_4_4 oX7_hearGroup_4_4 (pc' := 21) (L' := [(0, .ref 0), (1, .int 0), (2, .long 0)]) (st' := [.int 0]) (S' := S) rfl trivial ?_
    refine fV.if_ne bX7_hearGroup_21 (fun c21 => ?_) (fun c21 => ?_)
    · exact absurd c21 (by decide)
    · refine fV.run iX7_hearGroup_24_9 oX7_hearGroup_24_9 (pc' := 52) (L' := [(0, .ref 0), (1, .int 0), (2, .long 0), (4, .long 0), (6, .int (gA S 32 (0 : Int32).toNatClampNeg))]) (st' := []) (S' := S) (P := vp_in 0 6 ∧ True) rfl ⟨(by unfold vp_in; decide), trivial⟩ ?_
      refine fV.to (L' := [(0, .ref 0), (1, .int (nI 0)), (2, .long (0 + smE (enF (gA S 2) (gA S 30) (gI S 28 8)) (erl (gI S 0 10) (leastF PL)) ((atG gr PL 0).take 0))), (4, .long (0 + smE (enF (gA S 2) (gA S 30) (gI S 28 8)) (fun x => !(erl (gI S 0 10) (leastF PL)) x) ((atG gr PL 0).take 0))), (6, .int (nI (st 0 + 0)))]) rfl (by rw [show (0 : Int32).toNatClampNeg = 0 from rfl, show gA S 32 0 = nI (st 0) from (h33 0 (by omega)).1, List.take_zero]; show _ = [(0, Value.ref 0), (1, .int (nI 0)), (2, .long (0 + 0)), (4, .long (0 + 0)), (6, .int (nI (st 0)))]; rw [Int64.add_zero]; rfl) rfl rfl ?_
      exact lpX7_hg (g := 0) hb F hp hq hsf hg h33 hst h32 _ 0 (Nat.zero_add _)
def iX7_hearGroup_8_9 : List Instr := [.aload_n 0, .getfield 63, .getfield 278, .iload_n 1, .iconst 1, .isub, .laload, .lstore_n 2, .iload_n 1]
theorem oX7_hearGroup_8_9 : fOkB cX7_hearGroup 8 iX7_hearGroup_8_9 = true := by decide +kernel
def iX7_hearGroup_28_14 : List Instr := [.aload_n 0, .getfield 63, .getfield 280, .iload_n 1, .iconst 1, .isub, .laload, .lstore 4, .aload_n 0, .getfield 63, .getfield 294, .iload_n 1, .iaload, .istore 6]
theorem oX7_hearGroup_28_14 : fOkB cX7_hearGroup 28 iX7_hearGroup_28_14 = true := by decide +kernel
set_option maxRecDepth 100000 in
theorem qX7_hgs {G : fG} {d : Nat} {S : fS} {b g : Nat} {PL : List pTh} {gr : pTh → Nat} {st : Nat → Nat} (hb : b ≤ 16) (F : fdOk S PL) (hp : plOk b PL) (hq : plSq PL) (hsf : ∀ w, w < b → ∃ j, j < 8 ∧ gA S 30 w = nI j) (hg : (g + 1) < 5) (h33 : ∀ q, q < 6 → gA S 32 q = nI (st q) ∧ st q ≤ 3857) (hst : st ((g + 1) + 1) = st (g + 1) + (atG gr PL (g + 1)).length) (h32 : ∀ j x, (atG gr PL (g + 1))[j]? = some x → ∃ i, gA S 31 (st (g + 1) + j) = nI i ∧ PL[i]? = some x)  : fCtr G (d + 3) mX7_hearGroup [.ref 0, .int (nI (g + 1))] S (fun r S' => r = none ∧ S' = wB (wB S 33 (vp_updL (gB S 33) (g + 1) (gB S 33 g + smE (enF (gA S 2) (gA S 30) (gI S 28 8)) (erl (gI S 0 10) (leastF PL)) (atG gr PL (g + 1))))) 34 (vp_updL (gB S 34) (g + 1) (gB S 34 g + smE (enF (gA S 2) (gA S 30) (gI S 28 8)) (fun x => !(erl (gI S 0 10) (leastF PL)) x) (atG gr PL (g + 1))))) := by
  refine fCtr.of bXX7_hearGroup (Nat.le_of_ble_eq_true rfl) rfl ?_
  refine fV.run iX7_hearGroup_0_1 oX7_hearGroup_0_1 (pc' := 1) (L' := [(0, .ref 0), (1, .int (nI (g + 1)))]) (st' := [.int (nI (g + 1))]) (S' := S) rfl trivial ?_
  refine fV.if_ne bX7_hearGroup_1 (fun c1 => ?_) (fun c1 => ?_)
  · refine fV.run iX7_hearGroup_8_9 oX7_hearGroup_8_9 (pc' := 21) (L' := [(0, .ref 0), (1, .int (nI (g + 1))), (2, .long (gB S 33 ((nI (g + 1)) - 1).toNatClampNeg))]) (st' := [.int (nI (g + 1))]) (S' := S) (P := vp_in ((nI (g + 1)) - 1) 5 ∧ True) rfl ⟨(by rw [nI_pred]; exact vp_in_nI (by omega) (by decide)), trivial⟩ ?_
    refine fV.if_ne bX7_hearGroup_21 (fun c21 => ?_) (fun c21 => ?_)
    · refine fV.run iX7_hearGroup_28_14 oX7_hearGroup_28_14 (pc' := 52) (L' := [(0, .ref 0), (1, .int (nI (g + 1))), (2, .long (gB S 33 ((nI (g + 1)) - 1).toNatClampNeg)), (4, .long (gB S 34 ((nI (g + 1)) - 1).toNatClampNeg)), (6, .int (gA S 32 (nI (g + 1)).toNatClampNeg))]) (st' := []) (S' := S) (P := vp_in ((nI (g + 1)) - 1) 5 ∧ vp_in (nI (g + 1)) 6 ∧ True) rfl ⟨(by rw [nI_pred]; exact vp_in_nI (by omega) (by decide)), (vp_in_nI (by omega) (by decide)), trivial⟩ ?_
      refine fV.to (L' := [(0, .ref 0), (1, .int (nI (g + 1))), (2, .long (gB S 33 g + smE (enF (gA S 2) (gA S 30) (gI S 28 8)) (erl (gI S 0 10) (leastF PL)) ((atG gr PL (g + 1)).take 0))), (4, .long (gB S 34 g + smE (enF (gA S 2) (gA S 30) (gI S 28 8)) (fun x => !(erl (gI S 0 10) (leastF PL)) x) ((atG gr PL (g + 1)).take 0))), (6, .int (nI (st (g + 1) + 0)))]) rfl (by rw [nI_pred, nI_clamp (by omega), nI_clamp (by omega), show gA S 32 (g + 1) = nI (st (g + 1)) from (h33 (g + 1) (by omega)).1, List.take_zero]; show _ = [(0, Value.ref 0), (1, .int (nI (g + 1))), (2, .long (gB S 33 g + 0)), (4, .long (gB S 34 g + 0)), (6, .int (nI (st (g + 1))))]; rw [Int64.add_zero, Int64.add_zero]) rfl rfl ?_
      exact lpX7_hg (g := (g + 1)) hb F hp hq hsf hg h33 hst h32 _ 0 (Nat.zero_add _)
    · exact absurd c21 (fun z => absurd ((nI_eqI (b := 0) (by omega) (by decide)).mp z) (by omega))
  · exact absurd c1 (fun z => absurd ((nI_eqI (b := 0) (by omega) (by decide)).mp z) (by omega))

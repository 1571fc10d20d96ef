/-! energies and their sums -/
def plSq (PL : List pTh) : Prop := ∀ x ∈ PL, x.2 < 1073741824 ∧ 0 ≤ x.2
theorem plR_sq {h : hH} {a b c e : Nat} (H : hOk h a b c e) {src seat : zP} (hs : ptOk src) (ht : ptOk seat) {lo n : Nat} (hl : lo + n ≤ 4) : plSq (plR h.2.1.2.1 b src seat lo n) := by
  intro x hx
  have hk := plR_ok (en := h.2.1.2.1) (src := src) (seat := seat) hl x hx
  unfold plR at hx
  obtain ⟨o, ho, hx⟩ := List.mem_flatMap.mp hx
  obtain ⟨h1, h2, h3⟩ := pth_mem hx
  rw [h3]
  exact sq_bd H hs ht hk.1 hk.2
def enI (sh sf : Nat → Int32) (e0 : Int64) (l : List Nat) : Nat → Int64
  | 0 => e0
  | t + 1 => enI sh sf e0 l t * (sh (sf (fnL l t)).toNatClampNeg).toInt64 / 100
def enF (sh sf : Nat → Int32) (pw : Int32) (x : pTh) : Int64 := enI sh sf (pw.toInt64 * 1000000) x.1 x.1.length / (x.2 + 1)
theorem wOf_y {l : List Nat} {t : Nat} (h : ∀ j, j < l.length → fnL l j < 16) (hw : ¬ wOf l t = -1) : wOf l t = nI (fnL l t) ∧ t < l.length := by
  have h1 : t < l.length := by
    rcases Nat.lt_or_ge t l.length with q | q
    · exact q
    · exact absurd ((wOf_n h).mpr q) hw
  exact ⟨if_pos h1, h1⟩
theorem sq_ne {x : Int64} (h : x < 1073741824 ∧ 0 ≤ x) : ¬ x + 1 = 0 := by
  obtain ⟨h1, h2⟩ := h
  grind
theorem take_s {α : Type} {l : List α} {i : Nat} {x : α} (h : l[i]? = some x) : l.take (i + 1) = l.take i ++ [x] := by
  rw [List.take_succ, h]; rfl
def erl (bo ls : Int32) (x : pTh) : Bool := decide (tickF x.2 < ls + bo)
def smE (f : pTh → Int64) (p : pTh → Bool) (PL : List pTh) : Int64 := PL.foldl (fun a x => bif p x then a + f x else a) 0
def smD (f : pTh → Int64) (ls : Int32) (PL : List pTh) : Int64 := PL.foldl (fun a x => a + f x * (tickF x.2 - ls).toInt64) 0
theorem smE_s {f : pTh → Int64} {p : pTh → Bool} {PL : List pTh} {i : Nat} {x : pTh} (h : PL[i]? = some x) : smE f p (PL.take (i + 1)) = bif p x then smE f p (PL.take i) + f x else smE f p (PL.take i) := by
  unfold smE; rw [take_s h, List.foldl_append]; rfl
theorem smD_s {f : pTh → Int64} {ls : Int32} {PL : List pTh} {i : Nat} {x : pTh} (h : PL[i]? = some x) : smD f ls (PL.take (i + 1)) = smD f ls (PL.take i) + f x * (tickF x.2 - ls).toInt64 := by
  unfold smD; rw [take_s h, List.foldl_append]; rfl
def clF (e l : Int64) : Int32 := if e + l = 0 then -1 else (1000 * e / (e + l)).toInt32
def ceF (s d : Int64) : Int64 := if s = 0 then -1 else d / s
theorem wJ_wJ (S : fS) (o k : Nat) (x y : Int64) : wJ (wJ S o k x) o k y = wJ S o k y := by
  have : ∀ (h : Nat → Nat → Int64), fup (fup h o (fup (h o) k x)) o (fup (fup h o (fup (h o) k x) o) k y) = fup h o (fup (h o) k y) := fun h => by
    rw [fup_s, fup2, fup2]
  unfold wJ
  cases Nat.blt o 35 <;> simp only [cond_true, cond_false, this]
def iX7_energyOf_11_2 : List Instr := [.iload 6, .iconst 3]
theorem oX7_energyOf_11_2 : fOkB cX7_energyOf 11 iX7_energyOf_11_2 = true := by decide +kernel
theorem bX7_energyOf_14 : fBk cX7_energyOf 14 (.if_icmp .ge) 66 := ⟨52, by decide +kernel, by decide⟩
def iX7_energyOf_66_6 : List Instr := [.lload 4, .aload_n 0, .getfield 49, .getfield 142, .iload_n 1, .laload]
theorem oX7_energyOf_66_6 : fOkB cX7_energyOf 66 iX7_energyOf_66_6 = true := by decide +kernel
def iX7_energyOf_77_3 : List Instr := [.lconst 1, .ladd, .ldiv]
theorem oX7_energyOf_77_3 : fOkB cX7_energyOf 77 iX7_energyOf_77_3 = true := by decide +kernel
theorem dX7_energyOf_80 : decode cX7_energyOf 80 = .ok (.lreturn, 1) := by decide +kernel
def iX7_energyOf_17_4 : List Instr := [.aload_n 0, .getfield 49, .iload_n 1, .iload 6]
theorem oX7_energyOf_17_4 : fOkB cX7_energyOf 17 iX7_energyOf_17_4 = true := by decide +kernel
set_option maxRecDepth 100000 in
theorem lX7_153 : Cond.methodLink RX7 153 yX1_wallOf ∈ fTB := fTB_at 516 rfl rfl
theorem dX7_energyOf_24 : decode cX7_energyOf 24 = .ok (.invokevirtual 153, 3) := by decide +kernel
def iX7_energyOf_27_3 : List Instr := [.istore 7, .iload 7, .iconst (-1)]
theorem oX7_energyOf_27_3 : fOkB cX7_energyOf 27 iX7_energyOf_27_3 = true := by decide +kernel
theorem bX7_energyOf_32 : fBk cX7_energyOf 32 (.if_icmp .ne) 38 := ⟨6, by decide +kernel, by decide⟩
def iX7_energyOf_38_7 : List Instr := [.lload 4, .aload_n 0, .getfield 10, .getfield 237, .aload_n 3, .iload 7, .iaload]
theorem oX7_energyOf_38_7 : fOkB cX7_energyOf 38 iX7_energyOf_38_7 = true := by decide +kernel
def iX7_energyOf_51_8 : List Instr := [.iaload, .i2l, .lmul, .ldc2_w 266, .ldiv, .lstore 4, .iinc 6 1, .goto (-52)]
theorem oX7_energyOf_51_8 : fOkB cX7_energyOf 51 iX7_energyOf_51_8 = true := by decide +kernel
def iX7_energyOf_35_7 : List Instr := [.goto 31, .lload 4, .aload_n 0, .getfield 49, .getfield 142, .iload_n 1, .laload]
theorem oX7_energyOf_35_7 : fOkB cX7_energyOf 35 iX7_energyOf_35_7 = true := by decide +kernel
set_option maxRecDepth 100000 in
theorem lpX7_en_6 {G : fG} {d : Nat} {S : fS} {b n : Nat} {PL : List pTh} {x : pTh} {pw : Int32} (hb : b ≤ 16) (F : fdOk S PL) (hp : plOk b PL) (hq : plSq PL) (hx : PL[n]? = some x) (hsf : ∀ w, w < b → ∃ j, j < 8 ∧ gA S 6 w = nI j) : ∀ (u t : Nat), t + u = 3 → t ≤ x.1.length → fV G mX7_energyOf (fZm G (d + 2) (fun r S' => r = some (.long (enF (gA S 2) (gA S 6) pw x)) ∧ S' = S)) 11 [(0, .ref 0), (1, .int (nI n)), (2, .int pw), (3, .ref 6), (4, .long (enI (gA S 2) (gA S 6) (Int32.toInt64 pw * 1000000) x.1 t)), (6, .int (nI t))] [] S := by
  have hn : n < PL.length := (List.getElem?_eq_some_iff.mp hx).1
  have hn2 : PL.length ≤ 3857 := F.2.1
  have hp1 := hp x (List.mem_of_getElem? hx)
  have hp2 : ∀ j, j < x.1.length → fnL x.1 j < 16 := fun j hj => Nat.lt_of_lt_of_le (fnL_lt hp1.2 hj) hb
  intro u
  induction u with
  | zero =>
    intro t ht htl
    refine fV.run iX7_energyOf_11_2 oX7_energyOf_11_2 (pc' := 14) (L' := [(0, .ref 0), (1, .int (nI n)), (2, .int pw), (3, .ref 6), (4, .long (enI (gA S 2) (gA S 6) (Int32.toInt64 pw * 1000000) x.1 t)), (6, .int (nI t))]) (st' := [.int 3, .int (nI t)]) (S' := S) rfl trivial ?_
    refine fV.icmp_ge bX7_energyOf_14 (fun c14 => ?_) (fun c14 => ?_)
    · refine fV.run iX7_energyOf_66_6 oX7_energyOf_66_6 (pc' := 77) (L' := [(0, .ref 0), (1, .int (nI n)), (2, .int pw), (3, .ref 6), (4, .long (enI (gA S 2) (gA S 6) (Int32.toInt64 pw * 1000000) x.1 t)), (6, .int (nI t))]) (st' := [.long (gB S 26 (nI n).toNatClampNeg), .long (enI (gA S 2) (gA S 6) (Int32.toInt64 pw * 1000000) x.1 t)]) (S' := S) (P := vp_in (nI n) 3857 ∧ True) rfl ⟨(vp_in_nI (by omega) (by decide)), trivial⟩ ?_
      refine fV.to (L' := [(0, .ref 0), (1, .int (nI n)), (2, .int pw), (3, .ref 6), (4, .long (enI (gA S 2) (gA S 6) (Int32.toInt64 pw * 1000000) x.1 t)), (6, .int (nI t))]) (st' := [.long x.2, .long (enI (gA S 2) (gA S 6) (Int32.toInt64 pw * 1000000) x.1 t)]) rfl rfl (by rw [show (gB S 26 (nI n).toNatClampNeg : Int64) = x.2 from by rw [nI_clamp (by omega)]; exact (F.2.2.2 n x hx).2]) rfl ?_
      refine fV.run iX7_energyOf_77_3 oX7_energyOf_77_3 (pc' := 80) (L' := [(0, .ref 0), (1, .int (nI n)), (2, .int pw), (3, .ref 6), (4, .long (enI (gA S 2) (gA S 6) (Int32.toInt64 pw * 1000000) x.1 t)), (6, .int (nI t))]) (st' := [.long ((enI (gA S 2) (gA S 6) (Int32.toInt64 pw * 1000000) x.1 t) / (x.2 + 1))]) (S' := S) (P := ¬ (x.2 + 1) = 0 ∧ True) rfl ⟨(sq_ne (hq x (List.mem_of_getElem? hx))), trivial⟩ ?_
      exact fV.lret rfl dX7_energyOf_80 ⟨by unfold enF; rw [show t = x.1.length by first | omega | (have := (wOf_n hp2).mp c32; omega)], rfl⟩
    · exact absurd c14 (by rw [show (3 : Int32) = nI 3 from rfl, nI_leI (by omega) (by omega)]; omega)
  | succ u ih =>
    intro t ht htl
    refine fV.run iX7_energyOf_11_2 oX7_energyOf_11_2 (pc' := 14) (L' := [(0, .ref 0), (1, .int (nI n)), (2, .int pw), (3, .ref 6), (4, .long (enI (gA S 2) (gA S 6) (Int32.toInt64 pw * 1000000) x.1 t)), (6, .int (nI t))]) (st' := [.int 3, .int (nI t)]) (S' := S) rfl trivial ?_
    refine fV.icmp_ge bX7_energyOf_14 (fun c14 => ?_) (fun c14 => ?_)
    · exact absurd c14 (by rw [show (3 : Int32) = nI 3 from rfl, nI_leI (by omega) (by omega)]; omega)
    · refine fV.run iX7_energyOf_17_4 oX7_energyOf_17_4 (pc' := 24) (L' := [(0, .ref 0), (1, .int (nI n)), (2, .int pw), (3, .ref 6), (4, .long (enI (gA S 2) (gA S 6) (Int32.toInt64 pw * 1000000) x.1 t)), (6, .int (nI t))]) (st' := [.int (nI t), .int (nI n), .ref 24]) (S' := S) rfl trivial ?_
      refine fV.callV (M2 := mX1_wallOf) (d := d + 1) (o := 24) (av := [.int (nI n), .int (nI t)]) (rest := []) kX1_wallOf dX7_energyOf_24 lX7_153 rfl rfl rfl (Nat.le_of_ble_eq_true rfl) (fRoom (by decide)) ⟨Nat.le_refl _, Nat.le_refl _⟩ (qX1_wallOf (t := t) hb F hp hx (by omega)) ?_
      rintro _ S9 ⟨rfl, h9⟩
      rw [h9]
      clear h9 S9
      refine fV.to (pc' := 27) (L' := [(0, .ref 0), (1, .int (nI n)), (2, .int pw), (3, .ref 6), (4, .long (enI (gA S 2) (gA S 6) (Int32.toInt64 pw * 1000000) x.1 t)), (6, .int (nI t))]) (st' := [.int (wOf x.1 t)]) (S' := S) rfl rfl rfl rfl ?_
      refine fV.run iX7_energyOf_27_3 oX7_energyOf_27_3 (pc' := 32) (L' := [(0, .ref 0), (1, .int (nI n)), (2, .int pw), (3, .ref 6), (4, .long (enI (gA S 2) (gA S 6) (Int32.toInt64 pw * 1000000) x.1 t)), (6, .int (nI t)), (7, .int (wOf x.1 t))]) (st' := [.int (-1), .int (wOf x.1 t)]) (S' := S) rfl trivial ?_
      refine fV.icmp_ne bX7_energyOf_32 (fun c32 => ?_) (fun c32 => ?_)
      · refine fV.to (L' := [(0, .ref 0), (1, .int (nI n)), (2, .int pw), (3, .ref 6), (4, .long (enI (gA S 2) (gA S 6) (Int32.toInt64 pw * 1000000) x.1 t)), (6, .int (nI t)), (7, .int (nI (fnL x.1 t)))]) (st' := []) rfl (by rw [show (wOf x.1 t : Int32) = nI (fnL x.1 t) from (wOf_y hp2 c32).1]) rfl rfl ?_
        refine fV.run iX7_energyOf_38_7 oX7_energyOf_38_7 (pc' := 51) (L' := [(0, .ref 0), (1, .int (nI n)), (2, .int pw), (3, .ref 6), (4, .long (enI (gA S 2) (gA S 6) (Int32.toInt64 pw * 1000000) x.1 t)), (6, .int (nI t)), (7, .int (nI (fnL x.1 t)))]) (st' := [.int (gA S 6 (nI (fnL x.1 t)).toNatClampNeg), .ref 2, .long (enI (gA S 2) (gA S 6) (Int32.toInt64 pw * 1000000) x.1 t)]) (S' := S) (P := vp_in (nI (fnL x.1 t)) 16 ∧ True) rfl ⟨(vp_in_nI (hp2 t (wOf_y hp2 c32).2) (by decide)), trivial⟩ ?_
        refine fV.to (L' := [(0, .ref 0), (1, .int (nI n)), (2, .int pw), (3, .ref 6), (4, .long (enI (gA S 2) (gA S 6) (Int32.toInt64 pw * 1000000) x.1 t)), (6, .int (nI t)), (7, .int (nI (fnL x.1 t)))]) (st' := [.int (gA S 6 (fnL x.1 t)), .ref 2, .long (enI (gA S 2) (gA S 6) (Int32.toInt64 pw * 1000000) x.1 t)]) rfl rfl (by rw [show (gA S 6 (nI (fnL x.1 t)).toNatClampNeg : Int32) = gA S 6 (fnL x.1 t) from by rw [nI_clamp (by have := hp2 t (wOf_y hp2 c32).2; omega)]]) rfl ?_
        refine fV.run iX7_energyOf_51_8 oX7_energyOf_51_8 (pc' := 11) (L' := [(0, .ref 0), (1, .int (nI n)), (2, .int pw), (3, .ref 6), (4, .long (((enI (gA S 2) (gA S 6) (Int32.toInt64 pw * 1000000) x.1 t) * (Int32.toInt64 (gA S 2 (gA S 6 (fnL x.1 t)).toNatClampNeg))) / 100)), (6, .int ((nI t) + 1)), (7, .int (nI (fnL x.1 t)))]) (st' := []) (S' := S) (P := vp_in (gA S 6 (fnL x.1 t)) 8 ∧ ¬ 100 = 0 ∧ True) rfl ⟨(by obtain ⟨j, hj, ej⟩ := hsf (fnL x.1 t) (fnL_lt hp1.2 (wOf_y hp2 c32).2); exact vinN (w := j) hj (by decide) ej), (by decide), trivial⟩ ?_
        refine fV.pick (L' := [(0, .ref 0), (1, .int (nI n)), (2, .int pw), (3, .ref 6), (4, .long ((enI (gA S 2) (gA S 6) (Int32.toInt64 pw * 1000000) x.1 t) * (Int32.toInt64 (gA S 2 (gA S 6 (fnL x.1 t)).toNatClampNeg)) / 100)), (6, .int (nI t + 1))]) [0, 1, 2, 3, 4, 5] rfl ?_
        refine fV.to (L' := [(0, .ref 0), (1, .int (nI n)), (2, .int pw), (3, .ref 6), (4, .long (enI (gA S 2) (gA S 6) (Int32.toInt64 pw * 1000000) x.1 (t + 1))), (6, .int (nI (t + 1)))]) rfl (by rw [nI_1]; rfl) rfl rfl (ih (t + 1) (by omega) (by have := (wOf_y hp2 c32).2; omega))
      · refine fV.run iX7_energyOf_35_7 oX7_energyOf_35_7 (pc' := 77) (L' := [(0, .ref 0), (1, .int (nI n)), (2, .int pw), (3, .ref 6), (4, .long (enI (gA S 2) (gA S 6) (Int32.toInt64 pw * 1000000) x.1 t)), (6, .int (nI t)), (7, .int (wOf x.1 t))]) (st' := [.long (gB S 26 (nI n).toNatClampNeg), .long (enI (gA S 2) (gA S 6) (Int32.toInt64 pw * 1000000) x.1 t)]) (S' := S) (P := vp_in (nI n) 3857 ∧ True) rfl ⟨(vp_in_nI (by omega) (by decide)), trivial⟩ ?_
        refine fV.to (L' := [(0, .ref 0), (1, .int (nI n)), (2, .int pw), (3, .ref 6), (4, .long (enI (gA S 2) (gA S 6) (Int32.toInt64 pw * 1000000) x.1 t)), (6, .int (nI t)), (7, .int (wOf x.1 t))]) (st' := [.long x.2, .long (enI (gA S 2) (gA S 6) (Int32.toInt64 pw * 1000000) x.1 t)]) rfl rfl (by rw [show (gB S 26 (nI n).toNatClampNeg : Int64) = x.2 from by rw [nI_clamp (by omega)]; exact (F.2.2.2 n x hx).2]) rfl ?_
        refine fV.run iX7_energyOf_77_3 oX7_energyOf_77_3 (pc' := 80) (L' := [(0, .ref 0), (1, .int (nI n)), (2, .int pw), (3, .ref 6), (4, .long (enI (gA S 2) (gA S 6) (Int32.toInt64 pw * 1000000) x.1 t)), (6, .int (nI t)), (7, .int (wOf x.1 t))]) (st' := [.long ((enI (gA S 2) (gA S 6) (Int32.toInt64 pw * 1000000) x.1 t) / (x.2 + 1))]) (S' := S) (P := ¬ (x.2 + 1) = 0 ∧ True) rfl ⟨(sq_ne (hq x (List.mem_of_getElem? hx))), trivial⟩ ?_
        exact fV.lret rfl dX7_energyOf_80 ⟨by unfold enF; rw [show t = x.1.length by first | omega | (have := (wOf_n hp2).mp c32; omega)], rfl⟩
def iX7_energyOf_0_7 : List Instr := [.iload_n 2, .i2l, .ldc2_w 264, .lmul, .lstore 4, .iconst 0, .istore 6]
theorem oX7_energyOf_0_7 : fOkB cX7_energyOf 0 iX7_energyOf_0_7 = true := by decide +kernel
set_option maxRecDepth 100000 in
theorem qX7_en_6 {G : fG} {d : Nat} {S : fS} {b n : Nat} {PL : List pTh} {x : pTh} {pw : Int32} (hb : b ≤ 16) (F : fdOk S PL) (hp : plOk b PL) (hq : plSq PL) (hx : PL[n]? = some x) (hsf : ∀ w, w < b → ∃ j, j < 8 ∧ gA S 6 w = nI j)  : fCtr G (d + 2) mX7_energyOf [.ref 0, .int (nI n), .int pw, .ref 6] S (fun r S' => r = some (.long (enF (gA S 2) (gA S 6) pw x)) ∧ S' = S) := by
  refine fCtr.of bXX7_energyOf (Nat.le_of_ble_eq_true rfl) rfl ?_
  refine fV.run iX7_energyOf_0_7 oX7_energyOf_0_7 (pc' := 11) (L' := [(0, .ref 0), (1, .int (nI n)), (2, .int pw), (3, .ref 6), (4, .long ((Int32.toInt64 pw) * 1000000)), (6, .int 0)]) (st' := []) (S' := S) rfl trivial ?_
  exact lpX7_en_6 hb F hp hq hx hsf 3 0 (by omega) (by omega)
set_option maxRecDepth 100000 in
theorem lpX7_en_31 {G : fG} {d : Nat} {S : fS} {b n : Nat} {PL : List pTh} {x : pTh} {pw : Int32} (hb : b ≤ 16) (F : fdOk S PL) (hp : plOk b PL) (hq : plSq PL) (hx : PL[n]? = some x) (hsf : ∀ w, w < b → ∃ j, j < 8 ∧ gA S 30 w = nI j) : ∀ (u t : Nat), t + u = 3 → t ≤ x.1.length → fV G mX7_energyOf (fZm G (d + 2) (fun r S' => r = some (.long (enF (gA S 2) (gA S 30) pw x)) ∧ S' = S)) 11 [(0, .ref 0), (1, .int (nI n)), (2, .int pw), (3, .ref 30), (4, .long (enI (gA S 2) (gA S 30) (Int32.toInt64 pw * 1000000) x.1 t)), (6, .int (nI t))] [] S := by
  have hn : n < PL.length := (List.getElem?_eq_some_iff.mp hx).1
  have hn2 : PL.length ≤ 3857 := F.2.1
  have hp1 := hp x (List.mem_of_getElem? hx)
  have hp2 : ∀ j, j < x.1.length → fnL x.1 j < 16 := fun j hj => Nat.lt_of_lt_of_le (fnL_lt hp1.2 hj) hb
  intro u
  induction u with
  | zero =>
    intro t ht htl
    refine fV.run iX7_energyOf_11_2 oX7_energyOf_11_2 (pc' := 14) (L' := [(0, .ref 0), (1, .int (nI n)), (2, .int pw), (3, .ref 30), (4, .long (enI (gA S 2) (gA S 30) (Int32.toInt64 pw * 1000000) x.1 t)), (6, .int (nI t))]) (st' := [.int 3, .int (nI t)]) (S' := S) rfl trivial ?_
    refine fV.icmp_ge bX7_energyOf_14 (fun c14 => ?_) (fun c14 => ?_)
    · refine fV.run iX7_energyOf_66_6 oX7_energyOf_66_6 (pc' := 77) (L' := [(0, .ref 0), (1, .int (nI n)), (2, .int pw), (3, .ref 30), (4, .long (enI (gA S 2) (gA S 30) (Int32.toInt64 pw * 1000000) x.1 t)), (6, .int (nI t))]) (st' := [.long (gB S 26 (nI n).toNatClampNeg), .long (enI (gA S 2) (gA S 30) (Int32.toInt64 pw * 1000000) x.1 t)]) (S' := S) (P := vp_in (nI n) 3857 ∧ True) rfl ⟨(vp_in_nI (by omega) (by decide)), trivial⟩ ?_
      refine fV.to (L' := [(0, .ref 0), (1, .int (nI n)), (2, .int pw), (3, .ref 30), (4, .long (enI (gA S 2) (gA S 30) (Int32.toInt64 pw * 1000000) x.1 t)), (6, .int (nI t))]) (st' := [.long x.2, .long (enI (gA S 2) (gA S 30) (Int32.toInt64 pw * 1000000) x.1 t)]) rfl rfl (by rw [show (gB S 26 (nI n).toNatClampNeg : Int64) = x.2 from by rw [nI_clamp (by omega)]; exact (F.2.2.2 n x hx).2]) rfl ?_
      refine fV.run iX7_energyOf_77_3 oX7_energyOf_77_3 (pc' := 80) (L' := [(0, .ref 0), (1, .int (nI n)), (2, .int pw), (3, .ref 30), (4, .long (enI (gA S 2) (gA S 30) (Int32.toInt64 pw * 1000000) x.1 t)), (6, .int (nI t))]) (st' := [.long ((enI (gA S 2) (gA S 30) (Int32.toInt64 pw * 1000000) x.1 t) / (x.2 + 1))]) (S' := S) (P := ¬ (x.2 + 1) = 0 ∧ True) rfl ⟨(sq_ne (hq x (List.mem_of_getElem? hx))), trivial⟩ ?_
      exact fV.lret rfl dX7_energyOf_80 ⟨by unfold enF; rw [show t = x.1.length by first | omega | (have := (wOf_n hp2).mp c32; omega)], rfl⟩
    · exact absurd c14 (by rw [show (3 : Int32) = nI 3 from rfl, nI_leI (by omega) (by omega)]; omega)
  | succ u ih =>
    intro t ht htl
    refine fV.run iX7_energyOf_11_2 oX7_energyOf_11_2 (pc' := 14) (L' := [(0, .ref 0), (1, .int (nI n)), (2, .int pw), (3, .ref 30), (4, .long (enI (gA S 2) (gA S 30) (Int32.toInt64 pw * 1000000) x.1 t)), (6, .int (nI t))]) (st' := [.int 3, .int (nI t)]) (S' := S) rfl trivial ?_
    refine fV.icmp_ge bX7_energyOf_14 (fun c14 => ?_) (fun c14 => ?_)
    · exact absurd c14 (by rw [show (3 : Int32) = nI 3 from rfl, nI_leI (by omega) (by omega)]; omega)
    · refine fV.run iX7_energyOf_17_4 oX7_energyOf_17_4 (pc' := 24) (L' := [(0, .ref 0), (1, .int (nI n)), (2, .int pw), (3, .ref 30), (4, .long (enI (gA S 2) (gA S 30) (Int32.toInt64 pw * 1000000) x.1 t)), (6, .int (nI t))]) (st' := [.int (nI t), .int (nI n), .ref 24]) (S' := S) rfl trivial ?_
      refine fV.callV (M2 := mX1_wallOf) (d := d + 1) (o := 24) (av := [.int (nI n), .int (nI t)]) (rest := []) kX1_wallOf dX7_energyOf_24 lX7_153 rfl rfl rfl (Nat.le_of_ble_eq_true rfl) (fRoom (by decide)) ⟨Nat.le_refl _, Nat.le_refl _⟩ (qX1_wallOf (t := t) hb F hp hx (by omega)) ?_
      rintro _ S9 ⟨rfl, h9⟩
      rw [h9]
      clear h9 S9
      refine fV.to (pc' := 27) (L' := [(0, .ref 0), (1, .int (nI n)), (2, .int pw), (3, .ref 30), (4, .long (enI (gA S 2) (gA S 30) (Int32.toInt64 pw * 1000000) x.1 t)), (6, .int (nI t))]) (st' := [.int (wOf x.1 t)]) (S' := S) rfl rfl rfl rfl ?_
      refine fV.run iX7_energyOf_27_3 oX7_energyOf_27_3 (pc' := 32) (L' := [(0, .ref 0), (1, .int (nI n)), (2, .int pw), (3, .ref 30), (4, .long (enI (gA S 2) (gA S 30) (Int32.toInt64 pw * 1000000) x.1 t)), (6, .int (nI t)), (7, .int (wOf x.1 t))]) (st' := [.int (-1), .int (wOf x.1 t)]) (S' := S) rfl trivial ?_
      refine fV.icmp_ne bX7_energyOf_32 (fun c32 => ?_) (fun c32 => ?_)
      · refine fV.to (L' := [(0, .ref 0), (1, .int (nI n)), (2, .int pw), (3, .ref 30), (4, .long (enI (gA S 2) (gA S 30) (Int32.toInt64 pw * 1000000) x.1 t)), (6, .int (nI t)), (7, .int (nI (fnL x.1 t)))]) (st' := []) rfl (by rw [show (wOf x.1 t : Int32) = nI (fnL x.1 t) from (wOf_y hp2 c32).1]) rfl rfl ?_
        refine fV.run iX7_energyOf_38_7 oX7_energyOf_38_7 (pc' := 51) (L' := [(0, .ref 0), (1, .int (nI n)), (2, .int pw), (3, .ref 30), (4, .long (enI (gA S 2) (gA S 30) (Int32.toInt64 pw * 1000000) x.1 t)), (6, .int (nI t)), (7, .int (nI (fnL x.1 t)))]) (st' := [.int (gA S 30 (nI (fnL x.1 t)).toNatClampNeg), .ref 2, .long (enI (gA S 2) (gA S 30) (Int32.toInt64 pw * 1000000) x.1 t)]) (S' := S) (P := vp_in (nI (fnL x.1 t)) 16 ∧ True) rfl ⟨(vp_in_nI (hp2 t (wOf_y hp2 c32).2) (by decide)), trivial⟩ ?_
        refine fV.to (L' := [(0, .ref 0), (1, .int (nI n)), (2, .int pw), (3, .ref 30), (4, .long (enI (gA S 2) (gA S 30) (Int32.toInt64 pw * 1000000) x.1 t)), (6, .int (nI t)), (7, .int (nI (fnL x.1 t)))]) (st' := [.int (gA S 30 (fnL x.1 t)), .ref 2, .long (enI (gA S 2) (gA S 30) (Int32.toInt64 pw * 1000000) x.1 t)]) rfl rfl (by rw [show (gA S 30 (nI (fnL x.1 t)).toNatClampNeg : Int32) = gA S 30 (fnL x.1 t) from by rw [nI_clamp (by have := hp2 t (wOf_y hp2 c32).2; omega)]]) rfl ?_
        refine fV.run iX7_energyOf_51_8 oX7_energyOf_51_8 (pc' := 11) (L' := [(0, .ref 0), (1, .int (nI n)), (2, .int pw), (3, .ref 30), (4, .long (((enI (gA S 2) (gA S 30) (Int32.toInt64 pw * 1000000) x.1 t) * (Int32.toInt64 (gA S 2 (gA S 30 (fnL x.1 t)).toNatClampNeg))) / 100)), (6, .int ((nI t) + 1)), (7, .int (nI (fnL x.1 t)))]) (st' := []) (S' := S) (P := vp_in (gA S 30 (fnL x.1 t)) 8 ∧ ¬ 100 = 0 ∧ True) rfl ⟨(by obtain ⟨j, hj, ej⟩ := hsf (fnL x.1 t) (fnL_lt hp1.2 (wOf_y hp2 c32).2); exact vinN (w := j) hj (by decide) ej), (by decide), trivial⟩ ?_
        refine fV.pick (L' := [(0, .ref 0), (1, .int (nI n)), (2, .int pw), (3, .ref 30), (4, .long ((enI (gA S 2) (gA S 30) (Int32.toInt64 pw * 1000000) x.1 t) * (Int32.toInt64 (gA S 2 (gA S 30 (fnL x.1 t)).toNatClampNeg)) / 100)), (6, .int (nI t + 1))]) [0, 1, 2, 3, 4, 5] rfl ?_
        refine fV.to (L' := [(0, .ref 0), (1, .int (nI n)), (2, .int pw), (3, .ref 30), (4, .long (enI (gA S 2) (gA S 30) (Int32.toInt64 pw * 1000000) x.1 (t + 1))), (6, .int (nI (t + 1)))]) rfl (by rw [nI_1]; rfl) rfl rfl (ih (t + 1) (by omega) (by have := (wOf_y hp2 c32).2; omega))
      · refine fV.run iX7_energyOf_35_7 oX7_energyOf_35_7 (pc' := 77) (L' := [(0, .ref 0), (1, .int (nI n)), (2, .int pw), (3, .ref 30), (4, .long (enI (gA S 2) (gA S 30) (Int32.toInt64 pw * 1000000) x.1 t)), (6, .int (nI t)), (7, .int (wOf x.1 t))]) (st' := [.long (gB S 26 (nI n).toNatClampNeg), .long (enI (gA S 2) (gA S 30) (Int32.toInt64 pw * 1000000) x.1 t)]) (S' := S) (P := vp_in (nI n) 3857 ∧ True) rfl ⟨(vp_in_nI (by omega) (by decide)), trivial⟩ ?_
        refine fV.to (L' := [(0, .ref 0), (1, .int (nI n)), (2, .int pw), (3, .ref 30), (4, .long (enI (gA S 2) (gA S 30) (Int32.toInt64 pw * 1000000) x.1 t)), (6, .int (nI t)), (7, .int (wOf x.1 t))]) (st' := [.long x.2, .long (enI (gA S 2) (gA S 30) (Int32.toInt64 pw * 1000000) x.1 t)]) rfl rfl (by rw [show (gB S 26 (nI n).toNatClampNeg : Int64) = x.2 from by rw [nI_clamp (by omega)]; exact (F.2.2.2 n x hx).2]) rfl ?_
        refine fV.run iX7_energyOf_77_3 oX7_energyOf_77_3 (pc' := 80) (L' := [(0, .ref 0), (1, .int (nI n)), (2, .int pw), (3, .ref 30), (4, .long (enI (gA S 2) (gA S 30) (Int32.toInt64 pw * 1000000) x.1 t)), (6, .int (nI t)), (7, .int (wOf x.1 t))]) (st' := [.long ((enI (gA S 2) (gA S 30) (Int32.toInt64 pw * 1000000) x.1 t) / (x.2 + 1))]) (S' := S) (P := ¬ (x.2 + 1) = 0 ∧ True) rfl ⟨(sq_ne (hq x (List.mem_of_getElem? hx))), trivial⟩ ?_
        exact fV.lret rfl dX7_energyOf_80 ⟨by unfold enF; rw [show t = x.1.length by first | omega | (have := (wOf_n hp2).mp c32; omega)], rfl⟩
set_option maxRecDepth 100000 in
theorem qX7_en_31 {G : fG} {d : Nat} {S : fS} {b n : Nat} {PL : List pTh} {x : pTh} {pw : Int32} (hb : b ≤ 16) (F : fdOk S PL) (hp : plOk b PL) (hq : plSq PL) (hx : PL[n]? = some x) (hsf : ∀ w, w < b → ∃ j, j < 8 ∧ gA S 30 w = nI j)  : fCtr G (d + 2) mX7_energyOf [.ref 0, .int (nI n), .int pw, .ref 30] S (fun r S' => r = some (.long (enF (gA S 2) (gA S 30) pw x)) ∧ S' = S) := by
  refine fCtr.of bXX7_energyOf (Nat.le_of_ble_eq_true rfl) rfl ?_
  refine fV.run iX7_energyOf_0_7 oX7_energyOf_0_7 (pc' := 11) (L' := [(0, .ref 0), (1, .int (nI n)), (2, .int pw), (3, .ref 30), (4, .long ((Int32.toInt64 pw) * 1000000)), (6, .int 0)]) (st' := []) (S' := S) rfl trivial ?_
  exact lpX7_en_31 hb F hp hq hx hsf 3 0 (by omega) (by omega)
def iX7_isEarly_0_3 : List Instr := [.aload_n 0, .getfield 49, .iload_n 1]
theorem oX7_isEarly_0_3 : fOkB cX7_isEarly 0 iX7_isEarly_0_3 = true := by decide +kernel
set_option maxRecDepth 100000 in
theorem lX7_150 : Cond.methodLink RX7 150 yX1_tickOf ∈ fTB := fTB_at 518 rfl rfl
theorem dX7_isEarly_5 : decode cX7_isEarly 5 = .ok (.invokevirtual 150, 3) := by decide +kernel
def iX7_isEarly_8_5 : List Instr := [.aload_n 0, .getfield 49, .getfield 197, .aload_n 0, .getfield 71]
theorem oX7_isEarly_8_5 : fOkB cX7_isEarly 8 iX7_isEarly_8_5 = true := by decide +kernel
def iX7_isEarly_19_1 : List Instr := [.iadd]
theorem oX7_isEarly_19_1 : fOkB cX7_isEarly 19 iX7_isEarly_19_1 = true := by decide +kernel
theorem bX7_isEarly_20 : fBk cX7_isEarly 20 (.if_icmp .ge) 27 := ⟨7, by decide +kernel, by decide⟩
def iX7_isEarly_27_1 : List Instr := [.iconst 0]
theorem oX7_isEarly_27_1 : fOkB cX7_isEarly 27 iX7_isEarly_27_1 = true := by decide +kernel
theorem dX7_isEarly_28 : decode cX7_isEarly 28 = .ok (.ireturn, 1) := by decide +kernel
def iX7_isEarly_23_2 : List Instr := [.iconst 1, .goto 4]
theorem oX7_isEarly_23_2 : fOkB cX7_isEarly 23 iX7_isEarly_23_2 = true := by decide +kernel
set_option maxRecDepth 100000 in
theorem qX7_early {G : fG} {d : Nat} {S : fS} {b n : Nat} {PL : List pTh} {x : pTh} (hb : b ≤ 16) (F : fdOk S PL) (hp : plOk b PL) (hx : PL[n]? = some x)  : fCtr G (d + 1) mX7_isEarly [.ref 0, .int (nI n)] S (fun r S' => r = some (.int (fB (erl (gI S 0 10) (leastF PL) x))) ∧ S' = S) := by
  refine fCtr.of bXX7_isEarly (Nat.le_of_ble_eq_true rfl) rfl ?_
  have hn : n < PL.length := (List.getElem?_eq_some_iff.mp hx).1
  have hn2 : PL.length ≤ 3857 := F.2.1
  refine fV.run iX7_isEarly_0_3 oX7_isEarly_0_3 (pc' := 5) (L' := [(0, .ref 0), (1, .int (nI n))]) (st' := [.int (nI n), .ref 24]) (S' := S) rfl trivial ?_
  refine fV.callV (M2 := mX1_tickOf) (d := d) (o := 24) (av := [.int (nI n)]) (rest := []) kX1_tickOf dX7_isEarly_5 lX7_150 rfl rfl rfl (Nat.le_of_ble_eq_true rfl) (fRoom (by decide)) ⟨Nat.le_refl _, Nat.le_refl _⟩ (qX1_tickOf hb F hp hx) ?_
  rintro _ S9 ⟨rfl, h9⟩
  rw [h9]
  clear h9 S9
  refine fV.to (pc' := 8) (L' := [(0, .ref 0), (1, .int (nI n))]) (st' := [.int (tickF x.2)]) (S' := S) rfl rfl rfl rfl ?_
  refine fV.run iX7_isEarly_8_5 oX7_isEarly_8_5 (pc' := 19) (L' := [(0, .ref 0), (1, .int (nI n))]) (st' := [.int (gI S 0 10), .int (gI S 24 3), .int (tickF x.2)]) (S' := S) rfl trivial ?_
  refine fV.to (L' := [(0, .ref 0), (1, .int (nI n))]) (st' := [.int (gI S 0 10), .int (leastF PL), .int (tickF x.2)]) rfl rfl (by rw [show ((gI S 24 3) : Int32) = leastF PL from F.2.2.1]) rfl ?_
  refine fV.run iX7_isEarly_19_1 oX7_isEarly_19_1 (pc' := 20) (L' := [(0, .ref 0), (1, .int (nI n))]) (st' := [.int ((leastF PL) + (gI S 0 10)), .int (tickF x.2)]) (S' := S) rfl trivial ?_
  refine fV.icmp_ge bX7_isEarly_20 (fun c20 => ?_) (fun c20 => ?_)
  · refine fV.run iX7_isEarly_27_1 oX7_isEarly_27_1 (pc' := 28) (L' := [(0, .ref 0), (1, .int (nI n))]) (st' := [.int 0]) (S' := S) rfl trivial ?_
    exact fV.zret rfl dX7_isEarly_28 (by decide) ⟨fBf (by grind), rfl⟩
  · refine fV.run iX7_isEarly_23_2 oX7_isEarly_23_2 (pc' := 28) (L' := [(0, .ref 0), (1, .int (nI n))]) (st' := [.int 1]) (S' := S) rfl trivial ?_
    exact fV.zret rfl dX7_isEarly_28 (by decide) ⟨fBt (by grind), rfl⟩
def iX5_clear_0_9 : List Instr := [.aload_n 0, .lconst 0, .putfield 7, .aload_n 0, .lconst 0, .putfield 13, .aload_n 0, .lconst 0, .putfield 16]
theorem oX5_clear_0_9 : fOkB cX5_clear 0 iX5_clear_0_9 = true := by decide +kernel
theorem dX5_clear_15 : decode cX5_clear 15 = .ok (.return_, 1) := by decide +kernel
set_option maxRecDepth 100000 in
theorem qX5_clear {G : fG} {d : Nat} {S : fS}   : fCtr G (d) mX5_clear [.ref 27] S (fun r S' => r = none ∧ S' = wJ (wJ (wJ S 27 0 0) 27 1 0) 27 2 0) := by
  refine fCtr.of bXX5_clear (Nat.le_of_ble_eq_true rfl) rfl ?_
  refine fV.run iX5_clear_0_9 oX5_clear_0_9 (pc' := 15) (L' := [(0, .ref 27)]) (st' := []) (S' := (wJ (wJ (wJ S 27 0 0) 27 1 0) 27 2 0)) rfl trivial ?_
  exact fV.vret rfl dX5_clear_15 ⟨rfl, rfl⟩
def iX7_clarityOf_0_7 : List Instr := [.lload_n 0, .lload_n 2, .ladd, .lstore 4, .lload 4, .lconst 0, .lcmp]
theorem oX7_clarityOf_0_7 : fOkB cX7_clarityOf 0 iX7_clarityOf_0_7 = true := by decide +kernel
theorem bX7_clarityOf_9 : fBk cX7_clarityOf 9 (.ifCond .ne) 16 := ⟨7, by decide +kernel, by decide⟩
def iX7_clarityOf_16_6 : List Instr := [.ldc2_w 202, .lload_n 0, .lmul, .lload 4, .ldiv, .l2i]
theorem oX7_clarityOf_16_6 : fOkB cX7_clarityOf 16 iX7_clarityOf_16_6 = true := by decide +kernel
theorem dX7_clarityOf_25 : decode cX7_clarityOf 25 = .ok (.ireturn, 1) := by decide +kernel
def iX7_clarityOf_12_2 : List Instr := [.iconst (-1), .goto 12]
theorem oX7_clarityOf_12_2 : fOkB cX7_clarityOf 12 iX7_clarityOf_12_2 = true := by decide +kernel
set_option maxRecDepth 100000 in
theorem qX7_cl {G : fG} {d : Nat} {S : fS} (u v : Int64)  : fCtr G (d) mX7_clarityOf [.long u, .long v] S (fun r S' => r = some (.int (clF u v)) ∧ S' = S) := by
  refine fCtr.of bXX7_clarityOf (Nat.le_of_ble_eq_true rfl) rfl ?_
  refine fV.run iX7_clarityOf_0_7 oX7_clarityOf_0_7 (pc' := 9) (L' := [(0, .long u), (2, .long v), (4, .long (u + v))]) (st' := [.int (lg_cmp (u + v) 0)]) (S' := S) rfl trivial ?_
  refine fV.lif_ne bX7_clarityOf_9 (fun c9 => ?_) (fun c9 => ?_)
  · refine fV.run iX7_clarityOf_16_6 oX7_clarityOf_16_6 (pc' := 25) (L' := [(0, .long u), (2, .long v), (4, .long (u + v))]) (st' := [.int (Int64.toInt32 ((1000 * u) / (u + v)))]) (S' := S) (P := ¬ (u + v) = 0 ∧ True) rfl ⟨c9, trivial⟩ ?_
    exact fV.iret rfl dX7_clarityOf_25 ⟨by unfold clF; rw [if_neg c9], rfl⟩
  · refine fV.run iX7_clarityOf_12_2 oX7_clarityOf_12_2 (pc' := 25) (L' := [(0, .long u), (2, .long v), (4, .long (u + v))]) (st' := [.int (-1)]) (S' := S) rfl trivial ?_
    exact fV.iret rfl dX7_clarityOf_25 ⟨by unfold clF; rw [if_pos c9], rfl⟩
def iX7_centreOf_0_3 : List Instr := [.lload_n 0, .lconst 0, .lcmp]
theorem oX7_centreOf_0_3 : fOkB cX7_centreOf 0 iX7_centreOf_0_3 = true := by decide +kernel
theorem bX7_centreOf_3 : fBk cX7_centreOf 3 (.ifCond .ne) 12 := ⟨9, by decide +kernel, by decide⟩
def iX7_centreOf_12_3 : List Instr := [.lload_n 2, .lload_n 0, .ldiv]
theorem oX7_centreOf_12_3 : fOkB cX7_centreOf 12 iX7_centreOf_12_3 = true := by decide +kernel
theorem dX7_centreOf_15 : decode cX7_centreOf 15 = .ok (.lreturn, 1) := by decide +kernel
def iX7_centreOf_6_2 : List Instr := [.ldc2_w 137, .goto 6]
theorem oX7_centreOf_6_2 : fOkB cX7_centreOf 6 iX7_centreOf_6_2 = true := by decide +kernel
set_option maxRecDepth 100000 in
theorem qX7_ce {G : fG} {d : Nat} {S : fS} (u v : Int64)  : fCtr G (d) mX7_centreOf [.long u, .long v] S (fun r S' => r = some (.long (ceF u v)) ∧ S' = S) := by
  refine fCtr.of bXX7_centreOf (Nat.le_of_ble_eq_true rfl) rfl ?_
  refine fV.run iX7_centreOf_0_3 oX7_centreOf_0_3 (pc' := 3) (L' := [(0, .long u), (2, .long v)]) (st' := [.int (lg_cmp u 0)]) (S' := S) rfl trivial ?_
  refine fV.lif_ne bX7_centreOf_3 (fun c3 => ?_) (fun c3 => ?_)
  · refine fV.run iX7_centreOf_12_3 oX7_centreOf_12_3 (pc' := 15) (L' := [(0, .long u), (2, .long v)]) (st' := [.long (v / u)]) (S' := S) (P := ¬ u = 0 ∧ True) rfl ⟨c3, trivial⟩ ?_
    exact fV.lret rfl dX7_centreOf_15 ⟨by unfold ceF; rw [if_neg c3], rfl⟩
  · refine fV.run iX7_centreOf_6_2 oX7_centreOf_6_2 (pc' := 15) (L' := [(0, .long u), (2, .long v)]) (st' := [.long (-1)]) (S' := S) rfl trivial ?_
    exact fV.lret rfl dX7_centreOf_15 ⟨by unfold ceF; rw [if_pos c3], rfl⟩
theorem wJ_comm (S : fS) (o : Nat) {k k2 : Nat} (h : k ≠ k2) (x y : Int64) : wJ (wJ S o k x) o k2 y = wJ (wJ S o k2 y) o k x := by
  have : ∀ (f : Nat → Nat → Int64), fup (fup f o (fup (f o) k x)) o (fup (fup f o (fup (f o) k x) o) k2 y) = fup (fup f o (fup (f o) k2 y)) o (fup (fup f o (fup (f o) k2 y) o) k x) := fun f => by
    rw [fup_s, fup_s, fup2, fup2, fupc _ h]
  unfold wJ
  cases Nat.blt o 35 <;> simp only [cond_true, cond_false, this]
theorem sU_c (S : fS) (a b c a2 b2 c2 : Int64) : (wJ (wJ (wJ (wJ (wJ S 27 0 a) 27 1 b) 27 2 c) 27 0 a2) 27 2 c2 = wJ (wJ (wJ S 27 0 a2) 27 1 b) 27 2 c2) ∧ (wJ (wJ (wJ (wJ (wJ S 27 0 a) 27 1 b) 27 2 c) 27 1 b2) 27 2 c2 = wJ (wJ (wJ S 27 0 a) 27 1 b2) 27 2 c2) := by
  constructor
  · rw [wJ_comm (wJ (wJ S 27 0 a) 27 1 b) 27 (show 2 ≠ 0 by decide), wJ_wJ, wJ_comm (wJ S 27 0 a) 27 (show 1 ≠ 0 by decide), wJ_wJ]
  · rw [wJ_comm (wJ (wJ S 27 0 a) 27 1 b) 27 (show 2 ≠ 1 by decide), wJ_wJ, wJ_wJ]
def iX7_sumUp_9_4 : List Instr := [.iload_n 2, .aload_n 0, .getfield 49, .getfield 132]
theorem oX7_sumUp_9_4 : fOkB cX7_sumUp 9 iX7_sumUp_9_4 = true := by decide +kernel
theorem bX7_sumUp_17 : fBk cX7_sumUp 17 (.if_icmp .ge) 108 := ⟨91, by decide +kernel, by decide⟩
theorem dX7_sumUp_108 : decode cX7_sumUp 108 = .ok (.return_, 1) := by decide +kernel
def iX7_sumUp_20_6 : List Instr := [.aload_n 0, .iload_n 2, .iload_n 1, .aload_n 0, .getfield 19, .getfield 94]
theorem oX7_sumUp_20_6 : fOkB cX7_sumUp 20 iX7_sumUp_20_6 = true := by decide +kernel
set_option maxRecDepth 100000 in
theorem lX7_146 : Cond.methodLink RX7 146 yX7_energyOf ∈ fTB := fTB_at 511 rfl rfl
theorem dX7_sumUp_30 : decode cX7_sumUp 30 = .ok (.invokevirtual 146, 3) := by decide +kernel
def iX7_sumUp_33_3 : List Instr := [.lstore_n 3, .aload_n 0, .iload_n 2]
theorem oX7_sumUp_33_3 : fOkB cX7_sumUp 33 iX7_sumUp_33_3 = true := by decide +kernel
set_option maxRecDepth 100000 in
theorem lX7_269 : Cond.methodLink RX7 269 yX7_isEarly ∈ fTB := fTB_at 546 rfl rfl
theorem dX7_sumUp_36 : decode cX7_sumUp 36 = .ok (.invokevirtual 269, 3) := by decide +kernel
theorem bX7_sumUp_39 : fBk cX7_sumUp 39 (.ifCond .eq) 58 := ⟨19, by decide +kernel, by decide⟩
def iX7_sumUp_58_15 : List Instr := [.aload_n 0, .getfield 56, .dup, .getfield 183, .lload_n 3, .ladd, .putfield 183, .aload_n 0, .getfield 56, .dup, .getfield 190, .lload_n 3, .aload_n 0, .getfield 49, .iload_n 2]
theorem oX7_sumUp_58_15 : fOkB cX7_sumUp 58 iX7_sumUp_58_15 = true := by decide +kernel
theorem dX7_sumUp_85 : decode cX7_sumUp 85 = .ok (.invokevirtual 150, 3) := by decide +kernel
def iX7_sumUp_88_3 : List Instr := [.aload_n 0, .getfield 49, .getfield 197]
theorem oX7_sumUp_88_3 : fOkB cX7_sumUp 88 iX7_sumUp_88_3 = true := by decide +kernel
def iX7_sumUp_95_7 : List Instr := [.isub, .i2l, .lmul, .ladd, .putfield 190, .iinc 2 1, .goto (-96)]
theorem oX7_sumUp_95_7 : fOkB cX7_sumUp 95 iX7_sumUp_95_7 = true := by decide +kernel
def iX7_sumUp_42_16 : List Instr := [.aload_n 0, .getfield 56, .dup, .getfield 179, .lload_n 3, .ladd, .putfield 179, .goto 16, .aload_n 0, .getfield 56, .dup, .getfield 190, .lload_n 3, .aload_n 0, .getfield 49, .iload_n 2]
theorem oX7_sumUp_42_16 : fOkB cX7_sumUp 42 iX7_sumUp_42_16 = true := by decide +kernel
set_option maxRecDepth 100000 in
theorem lpX7_sum {G : fG} {d : Nat} {S : fS} {b : Nat} {PL : List pTh} {pw : Int32} (hb : b ≤ 16) (F : fdOk S PL) (hp : plOk b PL) (hq : plSq PL) (hsf : ∀ w, w < b → ∃ j, j < 8 ∧ gA S 6 w = nI j) : ∀ (u i : Nat), i + u = PL.length → fV G mX7_sumUp (fZm G (d + 3) (fun r S' => r = none ∧ S' = wJ (wJ (wJ S 27 0 (smE (enF (gA S 2) (gA S 6) pw) (erl (gI S 0 10) (leastF PL)) PL)) 27 1 (smE (enF (gA S 2) (gA S 6) pw) (fun x => !(erl (gI S 0 10) (leastF PL)) x) PL)) 27 2 (smD (enF (gA S 2) (gA S 6) pw) (leastF PL) PL))) 9 [(0, .ref 0), (1, .int pw), (2, .int (nI i))] [] (wJ (wJ (wJ S 27 0 (smE (enF (gA S 2) (gA S 6) pw) (erl (gI S 0 10) (leastF PL)) (PL.take i))) 27 1 (smE (enF (gA S 2) (gA S 6) pw) (fun x => !(erl (gI S 0 10) (leastF PL)) x) (PL.take i))) 27 2 (smD (enF (gA S 2) (gA S 6) pw) (leastF PL) (PL.take i))) := by
  have hl : PL.length ≤ 3857 := F.2.1
  intro u
  induction u with
  | zero =>
    intro i hi
    refine fV.run iX7_sumUp_9_4 oX7_sumUp_9_4 (pc' := 17) (L' := [(0, .ref 0), (1, .int pw), (2, .int (nI i))]) (st' := [.int (gI S 24 2), .int (nI i)]) (S' := (wJ (wJ (wJ S 27 0 (smE (enF (gA S 2) (gA S 6) pw) (erl (gI S 0 10) (leastF PL)) (PL.take i))) 27 1 (smE (enF (gA S 2) (gA S 6) pw) (fun x => !(erl (gI S 0 10) (leastF PL)) x) (PL.take i))) 27 2 (smD (enF (gA S 2) (gA S 6) pw) (leastF PL) (PL.take i)))) rfl trivial ?_
    refine fV.icmp_ge bX7_sumUp_17 (fun c17 => ?_) (fun c17 => ?_)
    · exact fV.vret rfl dX7_sumUp_108 ⟨rfl, by rw [List.take_of_length_le (by omega)]⟩
    · exact absurd c17 (by rw [F.1, nI_leI (by omega) (by omega)]; omega)
  | succ u ih =>
    intro i hi
    obtain ⟨x, hx⟩ : ∃ x, PL[i]? = some x := ⟨_, List.getElem?_eq_getElem (by omega)⟩
    refine fV.run iX7_sumUp_9_4 oX7_sumUp_9_4 (pc' := 17) (L' := [(0, .ref 0), (1, .int pw), (2, .int (nI i))]) (st' := [.int (gI S 24 2), .int (nI i)]) (S' := (wJ (wJ (wJ S 27 0 (smE (enF (gA S 2) (gA S 6) pw) (erl (gI S 0 10) (leastF PL)) (PL.take i))) 27 1 (smE (enF (gA S 2) (gA S 6) pw) (fun x => !(erl (gI S 0 10) (leastF PL)) x) (PL.take i))) 27 2 (smD (enF (gA S 2) (gA S 6) pw) (leastF PL) (PL.take i)))) rfl trivial ?_
    refine fV.icmp_ge bX7_sumUp_17 (fun c17 => ?_) (fun c17 => ?_)
    · exact absurd c17 (by rw [F.1, nI_leI (by omega) (by omega)]; omega)
    · refine fV.run iX7_sumUp_20_6 oX7_sumUp_20_6 (pc' := 30) (L' := [(0, .ref 0), (1, .int pw), (2, .int (nI i))]) (st' := [.ref 6, .int pw, .int (nI i), .ref 0]) (S' := (wJ (wJ (wJ S 27 0 (smE (enF (gA S 2) (gA S 6) pw) (erl (gI S 0 10) (leastF PL)) (PL.take i))) 27 1 (smE (enF (gA S 2) (gA S 6) pw) (fun x => !(erl (gI S 0 10) (leastF PL)) x) (PL.take i))) 27 2 (smD (enF (gA S 2) (gA S 6) pw) (leastF PL) (PL.take i)))) rfl trivial ?_
      refine fV.callV (M2 := mX7_energyOf) (d := d + 2) (o := 0) (av := [.int (nI i), .int pw, .ref 6]) (rest := []) kX7_energyOf dX7_sumUp_30 lX7_146 rfl rfl rfl (Nat.le_of_ble_eq_true rfl) (fRoom (by decide)) ⟨Nat.le_refl _, Nat.le_refl _⟩ (qX7_en_6 (S := (wJ (wJ (wJ S 27 0 (smE (enF (gA S 2) (gA S 6) pw) (erl (gI S 0 10) (leastF PL)) (PL.take i))) 27 1 (smE (enF (gA S 2) (gA S 6) pw) (fun x => !(erl (gI S 0 10) (leastF PL)) x) (PL.take i))) 27 2 (smD (enF (gA S 2) (gA S 6) pw) (leastF PL) (PL.take i)))) hb F hp hq hx hsf) ?_
      rintro _ S9 ⟨rfl, h9⟩
      rw [h9]
      clear h9 S9
      refine fV.to (pc' := 33) (L' := [(0, .ref 0), (1, .int pw), (2, .int (nI i))]) (st' := [.long (enF (gA S 2) (gA S 6) pw x)]) (S' := (wJ (wJ (wJ S 27 0 (smE (enF (gA S 2) (gA S 6) pw) (erl (gI S 0 10) (leastF PL)) (PL.take i))) 27 1 (smE (enF (gA S 2) (gA S 6) pw) (fun x => !(erl (gI S 0 10) (leastF PL)) x) (PL.take i))) 27 2 (smD (enF (gA S 2) (gA S 6) pw) (leastF PL) (PL.take i)))) rfl rfl rfl rfl ?_
      refine fV.run iX7_sumUp_33_3 oX7_sumUp_33_3 (pc' := 36) (L' := [(0, .ref 0), (1, .int pw), (2, .int (nI i)), (3, .long (enF (gA S 2) (gA S 6) pw x))]) (st' := [.int (nI i), .ref 0]) (S' := (wJ (wJ (wJ S 27 0 (smE (enF (gA S 2) (gA S 6) pw) (erl (gI S 0 10) (leastF PL)) (PL.take i))) 27 1 (smE (enF (gA S 2) (gA S 6) pw) (fun x => !(erl (gI S 0 10) (leastF PL)) x) (PL.take i))) 27 2 (smD (enF (gA S 2) (gA S 6) pw) (leastF PL) (PL.take i)))) rfl trivial ?_
      refine fV.callV (M2 := mX7_isEarly) (d := d + 2) (o := 0) (av := [.int (nI i)]) (rest := []) kX7_isEarly dX7_sumUp_36 lX7_269 rfl rfl rfl (Nat.le_of_ble_eq_true rfl) (fRoom (by decide)) ⟨Nat.le_refl _, Nat.le_refl _⟩ (qX7_early (S := (wJ (wJ (wJ S 27 0 (smE (enF (gA S 2) (gA S 6) pw) (erl (gI S 0 10) (leastF PL)) (PL.take i))) 27 1 (smE (enF (gA S 2) (gA S 6) pw) (fun x => !(erl (gI S 0 10) (leastF PL)) x) (PL.take i))) 27 2 (smD (enF (gA S 2) (gA S 6) pw) (leastF PL) (PL.take i)))) hb F hp hx) ?_
      rintro _ S9 ⟨rfl, h9⟩
      rw [h9]
      clear h9 S9
      refine fV.to (pc' := 39) (L' := [(0, .ref 0), (1, .int pw), (2, .int (nI i)), (3, .long (enF (gA S 2) (gA S 6) pw x))]) (st' := [.int (fB (erl (gI S 0 10) (leastF PL) x))]) (S' := (wJ (wJ (wJ S 27 0 (smE (enF (gA S 2) (gA S 6) pw) (erl (gI S 0 10) (leastF PL)) (PL.take i))) 27 1 (smE (enF (gA S 2) (gA S 6) pw) (fun x => !(erl (gI S 0 10) (leastF PL)) x) (PL.take i))) 27 2 (smD (enF (gA S 2) (gA S 6) pw) (leastF PL) (PL.take i)))) rfl rfl rfl rfl ?_
      refine fV.if_eq bX7_sumUp_39 (fun c39 => ?_) (fun c39 => ?_)
      · refine fV.run iX7_sumUp_58_15 oX7_sumUp_58_15 (pc' := 85) (L' := [(0, .ref 0), (1, .int pw), (2, .int (nI i)), (3, .long (enF (gA S 2) (gA S 6) pw x))]) (st' := [.int (nI i), .ref 24, .long (enF (gA S 2) (gA S 6) pw x), .long (smD (enF (gA S 2) (gA S 6) pw) (leastF PL) (PL.take i)), .ref 27]) (S' := (wJ (wJ (wJ (wJ S 27 0 (smE (enF (gA S 2) (gA S 6) pw) (erl (gI S 0 10) (leastF PL)) (PL.take i))) 27 1 (smE (enF (gA S 2) (gA S 6) pw) (fun x => !(erl (gI S 0 10) (leastF PL)) x) (PL.take i))) 27 2 (smD (enF (gA S 2) (gA S 6) pw) (leastF PL) (PL.take i))) 27 1 ((smE (enF (gA S 2) (gA S 6) pw) (fun x => !(erl (gI S 0 10) (leastF PL)) x) (PL.take i)) + (enF (gA S 2) (gA S 6) pw x)))) rfl trivial ?_
        refine fV.callV (M2 := mX1_tickOf) (d := d + 2) (o := 24) (av := [.int (nI i)]) (rest := [.long (enF (gA S 2) (gA S 6) pw x), .long (smD (enF (gA S 2) (gA S 6) pw) (leastF PL) (PL.take i)), .ref 27]) kX1_tickOf dX7_sumUp_85 lX7_150 rfl rfl rfl (Nat.le_of_ble_eq_true rfl) (fRoom (by decide)) ⟨Nat.le_refl _, Nat.le_refl _⟩ (qX1_tickOf hb F hp hx) ?_
        rintro _ S9 ⟨rfl, h9⟩
        rw [h9]
        clear h9 S9
        refine fV.to (pc' := 88) (L' := [(0, .ref 0), (1, .int pw), (2, .int (nI i)), (3, .long (enF (gA S 2) (gA S 6) pw x))]) (st' := [.int (tickF x.2), .long (enF (gA S 2) (gA S 6) pw x), .long (smD (enF (gA S 2) (gA S 6) pw) (leastF PL) (PL.take i)), .ref 27]) (S' := (wJ (wJ (wJ (wJ S 27 0 (smE (enF (gA S 2) (gA S 6) pw) (erl (gI S 0 10) (leastF PL)) (PL.take i))) 27 1 (smE (enF (gA S 2) (gA S 6) pw) (fun x => !(erl (gI S 0 10) (leastF PL)) x) (PL.take i))) 27 2 (smD (enF (gA S 2) (gA S 6) pw) (leastF PL) (PL.take i))) 27 1 ((smE (enF (gA S 2) (gA S 6) pw) (fun x => !(erl (gI S 0 10) (leastF PL)) x) (PL.take i)) + (enF (gA S 2) (gA S 6) pw x)))) rfl rfl rfl rfl ?_
        refine fV.run iX7_sumUp_88_3 oX7_sumUp_88_3 (pc' := 95) (L' := [(0, .ref 0), (1, .int pw), (2, .int (nI i)), (3, .long (enF (gA S 2) (gA S 6) pw x))]) (st' := [.int (gI S 24 3), .int (tickF x.2), .long (enF (gA S 2) (gA S 6) pw x), .long (smD (enF (gA S 2) (gA S 6) pw) (leastF PL) (PL.take i)), .ref 27]) (S' := (wJ (wJ (wJ (wJ S 27 0 (smE (enF (gA S 2) (gA S 6) pw) (erl (gI S 0 10) (leastF PL)) (PL.take i))) 27 1 (smE (enF (gA S 2) (gA S 6) pw) (fun x => !(erl (gI S 0 10) (leastF PL)) x) (PL.take i))) 27 2 (smD (enF (gA S 2) (gA S 6) pw) (leastF PL) (PL.take i))) 27 1 ((smE (enF (gA S 2) (gA S 6) pw) (fun x => !(erl (gI S 0 10) (leastF PL)) x) (PL.take i)) + (enF (gA S 2) (gA S 6) pw x)))) rfl trivial ?_
        refine fV.to (L' := [(0, .ref 0), (1, .int pw), (2, .int (nI i)), (3, .long (enF (gA S 2) (gA S 6) pw x))]) (st' := [.int (leastF PL), .int (tickF x.2), .long (enF (gA S 2) (gA S 6) pw x), .long (smD (enF (gA S 2) (gA S 6) pw) (leastF PL) (PL.take i)), .ref 27]) rfl rfl (by rw [show ((gI S 24 3) : Int32) = leastF PL from F.2.2.1]) rfl ?_
        refine fV.run iX7_sumUp_95_7 oX7_sumUp_95_7 (pc' := 9) (L' := [(0, .ref 0), (1, .int pw), (2, .int ((nI i) + 1)), (3, .long (enF (gA S 2) (gA S 6) pw x))]) (st' := []) (S' := (wJ (wJ (wJ (wJ (wJ S 27 0 (smE (enF (gA S 2) (gA S 6) pw) (erl (gI S 0 10) (leastF PL)) (PL.take i))) 27 1 (smE (enF (gA S 2) (gA S 6) pw) (fun x => !(erl (gI S 0 10) (leastF PL)) x) (PL.take i))) 27 2 (smD (enF (gA S 2) (gA S 6) pw) (leastF PL) (PL.take i))) 27 1 ((smE (enF (gA S 2) (gA S 6) pw) (fun x => !(erl (gI S 0 10) (leastF PL)) x) (PL.take i)) + (enF (gA S 2) (gA S 6) pw x))) 27 2 ((smD (enF (gA S 2) (gA S 6) pw) (leastF PL) (PL.take i)) + ((enF (gA S 2) (gA S 6) pw x) * (Int32.toInt64 ((tickF x.2) - (leastF PL))))))) rfl trivial ?_
        refine fV.pick (L' := [(0, .ref 0), (1, .int pw), (2, .int (nI i + 1))]) [0, 1, 2] rfl ?_
        refine fV.to (L' := [(0, .ref 0), (1, .int pw), (2, .int (nI (i + 1)))]) rfl (by rw [nI_1]) rfl ?_ (ih (i + 1) (by omega))
        rw [(sU_c S _ _ _ 0 _ _).2, smE_s hx, smE_s hx, smD_s hx, fB0.mp c39]
        rfl
      · refine fV.run iX7_sumUp_42_16 oX7_sumUp_42_16 (pc' := 85) (L' := [(0, .ref 0), (1, .int pw), (2, .int (nI i)), (3, .long (enF (gA S 2) (gA S 6) pw x))]) (st' := [.int (nI i), .ref 24, .long (enF (gA S 2) (gA S 6) pw x), .long (smD (enF (gA S 2) (gA S 6) pw) (leastF PL) (PL.take i)), .ref 27]) (S' := (wJ (wJ (wJ (wJ S 27 0 (smE (enF (gA S 2) (gA S 6) pw) (erl (gI S 0 10) (leastF PL)) (PL.take i))) 27 1 (smE (enF (gA S 2) (gA S 6) pw) (fun x => !(erl (gI S 0 10) (leastF PL)) x) (PL.take i))) 27 2 (smD (enF (gA S 2) (gA S 6) pw) (leastF PL) (PL.take i))) 27 0 ((smE (enF (gA S 2) (gA S 6) pw) (erl (gI S 0 10) (leastF PL)) (PL.take i)) + (enF (gA S 2) (gA S 6) pw x)))) rfl trivial ?_
        refine fV.callV (M2 := mX1_tickOf) (d := d + 2) (o := 24) (av := [.int (nI i)]) (rest := [.long (enF (gA S 2) (gA S 6) pw x), .long (smD (enF (gA S 2) (gA S 6) pw) (leastF PL) (PL.take i)), .ref 27]) kX1_tickOf dX7_sumUp_85 lX7_150 rfl rfl rfl (Nat.le_of_ble_eq_true rfl) (fRoom (by decide)) ⟨Nat.le_refl _, Nat.le_refl _⟩ (qX1_tickOf hb F hp hx) ?_
        rintro _ S9 ⟨rfl, h9⟩
        rw [h9]
        clear h9 S9
        refine fV.to (pc' := 88) (L' := [(0, .ref 0), (1, .int pw), (2, .int (nI i)), (3, .long (enF (gA S 2) (gA S 6) pw x))]) (st' := [.int (tickF x.2), .long (enF (gA S 2) (gA S 6) pw x), .long (smD (enF (gA S 2) (gA S 6) pw) (leastF PL) (PL.take i)), .ref 27]) (S' := (wJ (wJ (wJ (wJ S 27 0 (smE (enF (gA S 2) (gA S 6) pw) (erl (gI S 0 10) (leastF PL)) (PL.take i))) 27 1 (smE (enF (gA S 2) (gA S 6) pw) (fun x => !(erl (gI S 0 10) (leastF PL)) x) (PL.take i))) 27 2 (smD (enF (gA S 2) (gA S 6) pw) (leastF PL) (PL.take i))) 27 0 ((smE (enF (gA S 2) (gA S 6) pw) (erl (gI S 0 10) (leastF PL)) (PL.take i)) + (enF (gA S 2) (gA S 6) pw x)))) rfl rfl rfl rfl ?_
        refine fV.run iX7_sumUp_88_3 oX7_sumUp_88_3 (pc' := 95) (L' := [(0, .ref 0), (1, .int pw), (2, .int (nI i)), (3, .long (enF (gA S 2) (gA S 6) pw x))]) (st' := [.int (gI S 24 3), .int (tickF x.2), .long (enF (gA S 2) (gA S 6) pw x), .long (smD (enF (gA S 2) (gA S 6) pw) (leastF PL) (PL.take i)), .ref 27]) (S' := (wJ (wJ (wJ (wJ S 27 0 (smE (enF (gA S 2) (gA S 6) pw) (erl (gI S 0 10) (leastF PL)) (PL.take i))) 27 1 (smE (enF (gA S 2) (gA S 6) pw) (fun x => !(erl (gI S 0 10) (leastF PL)) x) (PL.take i))) 27 2 (smD (enF (gA S 2) (gA S 6) pw) (leastF PL) (PL.take i))) 27 0 ((smE (enF (gA S 2) (gA S 6) pw) (erl (gI S 0 10) (leastF PL)) (PL.take i)) + (enF (gA S 2) (gA S 6) pw x)))) rfl trivial ?_
        refine fV.to (L' := [(0, .ref 0), (1, .int pw), (2, .int (nI i)), (3, .long (enF (gA S 2) (gA S 6) pw x))]) (st' := [.int (leastF PL), .int (tickF x.2), .long (enF (gA S 2) (gA S 6) pw x), .long (smD (enF (gA S 2) (gA S 6) pw) (leastF PL) (PL.take i)), .ref 27]) rfl rfl (by rw [show ((gI S 24 3) : Int32) = leastF PL from F.2.2.1]) rfl ?_
        refine fV.run iX7_sumUp_95_7 oX7_sumUp_95_7 (pc' := 9) (L' := [(0, .ref 0), (1, .int pw), (2, .int ((nI i) + 1)), (3, .long (enF (gA S 2) (gA S 6) pw x))]) (st' := []) (S' := (wJ (wJ (wJ (wJ (wJ S 27 0 (smE (enF (gA S 2) (gA S 6) pw) (erl (gI S 0 10) (leastF PL)) (PL.take i))) 27 1 (smE (enF (gA S 2) (gA S 6) pw) (fun x => !(erl (gI S 0 10) (leastF PL)) x) (PL.take i))) 27 2 (smD (enF (gA S 2) (gA S 6) pw) (leastF PL) (PL.take i))) 27 0 ((smE (enF (gA S 2) (gA S 6) pw) (erl (gI S 0 10) (leastF PL)) (PL.take i)) + (enF (gA S 2) (gA S 6) pw x))) 27 2 ((smD (enF (gA S 2) (gA S 6) pw) (leastF PL) (PL.take i)) + ((enF (gA S 2) (gA S 6) pw x) * (Int32.toInt64 ((tickF x.2) - (leastF PL))))))) rfl trivial ?_
        refine fV.pick (L' := [(0, .ref 0), (1, .int pw), (2, .int (nI i + 1))]) [0, 1, 2] rfl ?_
        refine fV.to (L' := [(0, .ref 0), (1, .int pw), (2, .int (nI (i + 1)))]) rfl (by rw [nI_1]) rfl ?_ (ih (i + 1) (by omega))
        rw [(sU_c S _ _ _ _ 0 _).1, smE_s hx, smE_s hx, smD_s hx, fBn.mp c39]
        rfl
def iX7_sumUp_0_2 : List Instr := [.aload_n 0, .getfield 56]
theorem oX7_sumUp_0_2 : fOkB cX7_sumUp 0 iX7_sumUp_0_2 = true := by decide +kernel
set_option maxRecDepth 100000 in
theorem lX7_268 : Cond.methodLink RX7 268 yX5_clear ∈ fTB := fTB_at 542 rfl rfl
theorem dX7_sumUp_4 : decode cX7_sumUp 4 = .ok (.invokevirtual 268, 3) := by decide +kernel
def iX7_sumUp_7_2 : List Instr := [.iconst 0, .istore_n 2]
theorem oX7_sumUp_7_2 : fOkB cX7_sumUp 7 iX7_sumUp_7_2 = true := by decide +kernel
set_option maxRecDepth 100000 in
theorem qX7_sumUp {G : fG} {d : Nat} {S : fS} {b : Nat} {PL : List pTh} {pw : Int32} (hb : b ≤ 16) (F : fdOk S PL) (hp : plOk b PL) (hq : plSq PL) (hsf : ∀ w, w < b → ∃ j, j < 8 ∧ gA S 6 w = nI j)  : fCtr G (d + 3) mX7_sumUp [.ref 0, .int pw] S (fun r S' => r = none ∧ S' = wJ (wJ (wJ S 27 0 (smE (enF (gA S 2) (gA S 6) pw) (erl (gI S 0 10) (leastF PL)) PL)) 27 1 (smE (enF (gA S 2) (gA S 6) pw) (fun x => !(erl (gI S 0 10) (leastF PL)) x) PL)) 27 2 (smD (enF (gA S 2) (gA S 6) pw) (leastF PL) PL)) := by
  refine fCtr.of bXX7_sumUp (Nat.le_of_ble_eq_true rfl) rfl ?_
  refine fV.run iX7_sumUp_0_2 oX7_sumUp_0_2 (pc' := 4) (L' := [(0, .ref 0), (1, .int pw)]) (st' := [.ref 27]) (S' := S) rfl trivial ?_
  refine fV.callV (M2 := mX5_clear) (d := d + 2) (o := 27) (av := []) (rest := []) kX5_clear dX7_sumUp_4 lX7_268 rfl rfl rfl (Nat.le_of_ble_eq_true rfl) (fRoom (by decide)) ⟨Nat.le_refl _, Nat.le_refl _⟩ (qX5_clear) ?_
  rintro _ S9 ⟨rfl, h9⟩
  rw [h9]
  clear h9 S9
  refine fV.to (pc' := 7) (L' := [(0, .ref 0), (1, .int pw)]) (st' := []) (S' := (wJ (wJ (wJ S 27 0 0) 27 1 0) 27 2 0)) rfl rfl rfl rfl ?_
  refine fV.run iX7_sumUp_7_2 oX7_sumUp_7_2 (pc' := 9) (L' := [(0, .ref 0), (1, .int pw), (2, .int 0)]) (st' := []) (S' := (wJ (wJ (wJ S 27 0 0) 27 1 0) 27 2 0)) rfl trivial ?_
  exact lpX7_sum hb F hp hq hsf PL.length 0 (by omega)

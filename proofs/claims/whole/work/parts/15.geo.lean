/-! geometry: mirrors, legs, fractions of the way -/
abbrev zP : Type := Int32 × Int32
def pA (g : Nat → Int32) (j : Nat) : zP := (g (2 * j), g (2 * j + 1))
def zS (en : Nat → Int32) (w : Nat) (p : zP) : Int32 := if en (4 * w) = en (4 * w + 2) then p.1 else p.2
def zO (en : Nat → Int32) (w : Nat) (p : zP) : Int32 := if en (4 * w) = en (4 * w + 2) then p.2 else p.1
def mirP (en : Nat → Int32) (w : Nat) (p : zP) : zP := if en (4 * w) = en (4 * w + 2) then (2 * hLine en w - p.1, p.2) else (p.1, 2 * hLine en w - p.2)
def zWy (en : Nat → Int32) (w : Nat) (E I : zP) : Int64 := (zS en w I - zS en w E).toInt64
def zTw (en : Nat → Int32) (w : Nat) (E : zP) : Int64 := (hLine en w - zS en w E).toInt64
def zWh (en : Nat → Int32) (w : Nat) (E I : zP) : Int64 := if 0 < zWy en w E I then zWy en w E I else -zWy en w E I
def zPt (en : Nat → Int32) (w : Nat) (E I : zP) : Int64 := if zWy en w E I < 0 then -zTw en w E else zTw en w E
def zPl (en : Nat → Int32) (w : Nat) (E I : zP) (n d : Int64) : Int64 := (zO en w E).toInt64 * d + ((zO en w I).toInt64 - (zO en w E).toInt64) * n
def zOn (en : Nat → Int32) (w : Nat) (E I : zP) (n d : Int64) : Prop := (hLow en w).toInt64 * d ≤ zPl en w E I n d ∧ zPl en w E I n d ≤ (hHigh en w).toInt64 * d
/-- there is a bounce on the leg from E to I, behind the fraction n1 / d1 -/
def zB (en : Nat → Int32) (w : Nat) (E I : zP) (n1 d1 : Int64) : Prop := (¬ zWh en w E I = 0 ∧ zPt en w E I < zWh en w E I ∧ n1 * zWh en w E I < zPt en w E I * d1) ∧ zOn en w E I (zPt en w E I) (zWh en w E I)
def zOv (en : Nat → Int32) (w : Nat) (E I : zP) (n1 d1 n0 d0 : Int64) : Prop := ¬ (zPl en w E I n1 d1 < (hLow en w).toInt64 * d1 ∧ zPl en w E I n0 d0 < (hLow en w).toInt64 * d0) ∧ ¬ ((hHigh en w).toInt64 * d1 < zPl en w E I n1 d1 ∧ (hHigh en w).toInt64 * d0 < zPl en w E I n0 d0)
/-- the stretch from the fraction n1 / d1 to n0 / d0 meets the wall -/
def zM (en : Nat → Int32) (w : Nat) (E I : zP) (n1 d1 n0 d0 : Int64) : Prop := (zWy en w E I = 0 ∧ zTw en w E = 0 ∧ zOv en w E I n1 d1 n0 d0) ∨ (¬ zWy en w E I = 0 ∧ ¬ zPt en w E I * d1 < n1 * zWh en w E I ∧ ¬ n0 * zWh en w E I < zPt en w E I * d0 ∧ zOn en w E I (zPt en w E I) (zWh en w E I))
theorem nI2 {j : Nat} : 2 * nI j = nI (2 * j) := by simp [nI, Int32.ofNat_mul]
theorem ix_s {en : Nat → Int32} {w j : Nat} (hj : j ≤ 3) (g : Nat → Int32) : g (2 * nI j + hAxI en w).toNatClampNeg = zS en w (pA g j) ∧ vp_in (2 * nI j + hAxI en w) 8 := by
  unfold hAxI zS pA
  by_cases h : en (4 * w) = en (4 * w + 2)
  · simp only [if_pos h]
    have e : 2 * nI j + 0 = nI (2 * j) := by simp [nI, Int32.ofNat_mul]
    rw [e, nI_clamp (by omega)]
    exact ⟨rfl, vp_in_nI (by omega) (by decide)⟩
  · simp only [if_neg h]
    have e : 2 * nI j + 1 = nI (2 * j + 1) := by simp [nI, Int32.ofNat_mul, Int32.ofNat_add]
    rw [e, nI_clamp (by omega)]
    exact ⟨rfl, vp_in_nI (by omega) (by decide)⟩
theorem ix_o {en : Nat → Int32} {w j : Nat} (hj : j ≤ 3) (g : Nat → Int32) : g (2 * nI j + 1 - hAxI en w).toNatClampNeg = zO en w (pA g j) ∧ vp_in (2 * nI j + 1 - hAxI en w) 8 := by
  unfold hAxI zO pA
  by_cases h : en (4 * w) = en (4 * w + 2)
  · simp only [if_pos h]
    have e : 2 * nI j + 1 - 0 = nI (2 * j + 1) := by simp [nI, Int32.ofNat_mul, Int32.ofNat_add]
    rw [e, nI_clamp (by omega)]
    exact ⟨rfl, vp_in_nI (by omega) (by decide)⟩
  · simp only [if_neg h]
    have e : 2 * nI j + 1 - 1 = nI (2 * j) := by rw [Int32.add_sub_cancel]; exact nI2
    rw [e, nI_clamp (by omega)]
    exact ⟨rfl, vp_in_nI (by omega) (by decide)⟩
theorem wA_wA (S : fS) (o : Nat) (f g : Nat → Int32) : wA (wA S o f) o g = wA S o g := by
  have : ∀ (h : Nat → Nat → Int32), fup (fup h o f) o g = fup h o g := fun h => by funext a; unfold fup; by_cases e : a = o <;> simp [e]
  unfold wA
  cases Nat.blt o 35 <;> simp only [cond_true, cond_false, this]
theorem wB_wB (S : fS) (o : Nat) (f g : Nat → Int64) : wB (wB S o f) o g = wB S o g := by
  have : ∀ (h : Nat → Nat → Int64), fup (fup h o f) o g = fup h o g := fun h => by funext a; unfold fup; by_cases e : a = o <;> simp [e]
  unfold wB
  cases Nat.blt o 35 <;> simp only [cond_true, cond_false, this]
def mirA (en : Nat → Int32) (w f t : Nat) (g : Nat → Int32) : Nat → Int32 := upd (upd g (2 * nI t + hAxI en w).toNatClampNeg (2 * hLine en w - zS en w (pA g f))) (2 * nI t + 1 - hAxI en w).toNatClampNeg (zO en w (pA g f))
theorem mirA_ix {en : Nat → Int32} {w t : Nat} (ht : t ≤ 3) : ((2 * nI t + hAxI en w).toNatClampNeg = if en (4 * w) = en (4 * w + 2) then 2 * t else 2 * t + 1) ∧ ((2 * nI t + 1 - hAxI en w).toNatClampNeg = if en (4 * w) = en (4 * w + 2) then 2 * t + 1 else 2 * t) := by
  unfold hAxI
  by_cases h : en (4 * w) = en (4 * w + 2)
  · simp only [if_pos h]
    have e : 2 * nI t + 0 = nI (2 * t) := by simp [nI, Int32.ofNat_mul]
    have e2 : 2 * nI t + 1 - 0 = nI (2 * t + 1) := by simp [nI, Int32.ofNat_mul, Int32.ofNat_add]
    rw [e, e2, nI_clamp (by omega), nI_clamp (by omega)]
    exact ⟨rfl, rfl⟩
  · simp only [if_neg h]
    have e : 2 * nI t + 1 = nI (2 * t + 1) := by simp [nI, Int32.ofNat_mul, Int32.ofNat_add]
    have e2 : 2 * nI t + 1 - 1 = nI (2 * t) := by rw [Int32.add_sub_cancel]; exact nI2
    rw [e2, e, nI_clamp (by omega), nI_clamp (by omega)]
    exact ⟨rfl, rfl⟩
theorem mirA_at {en : Nat → Int32} {w f t : Nat} (ht : t ≤ 3) (g : Nat → Int32) : pA (mirA en w f t g) t = mirP en w (pA g f) := by
  obtain ⟨e1, e2⟩ := mirA_ix (en := en) (w := w) ht
  unfold mirA
  rw [e1, e2]
  unfold mirP zS zO
  by_cases h : en (4 * w) = en (4 * w + 2)
  · simp only [if_pos h]
    simp [pA, upd]
  · simp only [if_neg h]
    simp [pA, upd]
theorem mirA_ne {en : Nat → Int32} {w f t j : Nat} (ht : t ≤ 3) (hj : j ≠ t) (g : Nat → Int32) : pA (mirA en w f t g) j = pA g j := by
  obtain ⟨e1, e2⟩ := mirA_ix (en := en) (w := w) ht
  unfold mirA
  rw [e1, e2]
  unfold pA
  by_cases h : en (4 * w) = en (4 * w + 2)
  · simp only [if_pos h]
    rw [upd_ne (by omega), upd_ne (by omega), upd_ne (by omega), upd_ne (by omega)]
  · simp only [if_neg h]
    rw [upd_ne (by omega), upd_ne (by omega), upd_ne (by omega), upd_ne (by omega)]
theorem geo_ax {S : fS} {b w : Nat} (HG : hGeo S b) (hw : w < b) (hb : b ≤ 16) : gA S 7 (nI w).toNatClampNeg = hAxI (gA S 5) w := by rw [nI_clamp (by omega)]; exact (HG w hw).1
theorem geo_ln {S : fS} {b w : Nat} (HG : hGeo S b) (hw : w < b) (hb : b ≤ 16) : gA S 8 (nI w).toNatClampNeg = hLine (gA S 5) w := by rw [nI_clamp (by omega)]; exact (HG w hw).2.1
theorem geo_lo {S : fS} {b w : Nat} (HG : hGeo S b) (hw : w < b) (hb : b ≤ 16) : gA S 9 (nI w).toNatClampNeg = hLow (gA S 5) w := by rw [nI_clamp (by omega)]; exact (HG w hw).2.2.1
theorem geo_hi {S : fS} {b w : Nat} (HG : hGeo S b) (hw : w < b) (hb : b ≤ 16) : gA S 10 (nI w).toNatClampNeg = hHigh (gA S 5) w := by rw [nI_clamp (by omega)]; exact (HG w hw).2.2.2
theorem mir_rd {en : Nat → Int32} {w f t : Nat} (ht : t ≤ 3) {g : Nat → Int32} {x : Int32} : zO en w (pA (upd g (2 * nI t + hAxI en w).toNatClampNeg x) f) = zO en w (pA g f) := by
  rw [(mirA_ix ht).1]
  unfold zO pA
  by_cases h : en (4 * w) = en (4 * w + 2)
  · simp only [if_pos h]; rw [upd_ne (by omega)]
  · simp only [if_neg h]; rw [upd_ne (by omega)]
def iX3_mirror_0_5 : List Instr := [.aload 4, .getfield 42, .iload_n 3, .iaload, .istore 5]
theorem oX3_mirror_0_5 : fOkB cX3_mirror 0 iX3_mirror_0_5 = true := by decide +kernel
def iX3_mirror_9_39 : List Instr := [.aload_n 0, .iconst 2, .iload_n 2, .imul, .iload 5, .iadd, .iconst 2, .aload 4, .getfield 47, .iload_n 3, .iaload, .imul, .aload_n 0, .iconst 2, .iload_n 1, .imul, .iload 5, .iadd, .iaload, .isub, .iastore, .aload_n 0, .iconst 2, .iload_n 2, .imul, .iconst 1, .iadd, .iload 5, .isub, .aload_n 0, .iconst 2, .iload_n 1, .imul, .iconst 1, .iadd, .iload 5, .isub, .iaload, .iastore]
theorem oX3_mirror_9_39 : fOkB cX3_mirror 9 iX3_mirror_9_39 = true := by decide +kernel
theorem dX3_mirror_55 : decode cX3_mirror 55 = .ok (.return_, 1) := by decide +kernel
set_option maxRecDepth 100000 in
theorem qMir_20 {G : fG} {d : Nat} {S : fS} {b w f t : Nat} (HG : hGeo S b) (hw : w < b) (hb : b ≤ 16) (hf : f ≤ 3) (ht : t ≤ 3)  : fCtr G (d) mX3_mirror [.ref 20, .int (nI f), .int (nI t), .int (nI w), .ref 4] S (fun r S' => r = none ∧ S' = wA S 20 (mirA (gA S 5) w f t (gA S 20))) := by
  refine fCtr.of bXX3_mirror (Nat.le_of_ble_eq_true rfl) rfl ?_
  refine fV.run iX3_mirror_0_5 oX3_mirror_0_5 (pc' := 9) (L' := [(0, .ref 20), (1, .int (nI f)), (2, .int (nI t)), (3, .int (nI w)), (4, .ref 4), (5, .int (gA S 7 (nI w).toNatClampNeg))]) (st' := []) (S' := S) (P := vp_in (nI w) 16 ∧ True) rfl ⟨(vp_in_nI (show w < 16 by omega) (by decide)), trivial⟩ ?_
  refine fV.to (L' := [(0, .ref 20), (1, .int (nI f)), (2, .int (nI t)), (3, .int (nI w)), (4, .ref 4), (5, .int (hAxI (gA S 5) w))]) (st' := []) rfl (by rw [show (gA S 7 (nI w).toNatClampNeg : Int32) = hAxI (gA S 5) w from geo_ax HG hw hb]) rfl rfl ?_
  refine fV.run iX3_mirror_9_39 oX3_mirror_9_39 (pc' := 55) (L' := [(0, .ref 20), (1, .int (nI f)), (2, .int (nI t)), (3, .int (nI w)), (4, .ref 4), (5, .int (hAxI (gA S 5) w))]) (st' := []) (S' := (wA (wA S 20 (upd (gA S 20) ((2 * (nI t)) + (hAxI (gA S 5) w)).toNatClampNeg ((2 * (gA S 8 (nI w).toNatClampNeg)) - (gA S 20 ((2 * (nI f)) + (hAxI (gA S 5) w)).toNatClampNeg)))) 20 (upd (upd (gA S 20) ((2 * (nI t)) + (hAxI (gA S 5) w)).toNatClampNeg ((2 * (gA S 8 (nI w).toNatClampNeg)) - (gA S 20 ((2 * (nI f)) + (hAxI (gA S 5) w)).toNatClampNeg))) (((2 * (nI t)) + 1) - (hAxI (gA S 5) w)).toNatClampNeg ((upd (gA S 20) ((2 * (nI t)) + (hAxI (gA S 5) w)).toNatClampNeg ((2 * (gA S 8 (nI w).toNatClampNeg)) - (gA S 20 ((2 * (nI f)) + (hAxI (gA S 5) w)).toNatClampNeg))) (((2 * (nI f)) + 1) - (hAxI (gA S 5) w)).toNatClampNeg)))) (P := vp_in (nI w) 16 ∧ vp_in ((2 * (nI f)) + (hAxI (gA S 5) w)) 8 ∧ vp_in ((2 * (nI t)) + (hAxI (gA S 5) w)) 8 ∧ vp_in (((2 * (nI f)) + 1) - (hAxI (gA S 5) w)) 8 ∧ vp_in (((2 * (nI t)) + 1) - (hAxI (gA S 5) w)) 8 ∧ True) rfl ⟨(vp_in_nI (show w < 16 by omega) (by decide)), (ix_s hf (gA S 20)).2, (ix_s ht (gA S 20)).2, (ix_o hf (gA S 20)).2, (ix_o ht (gA S 20)).2, trivial⟩ ?_
  exact fV.vret rfl dX3_mirror_55 ⟨rfl, by rw [wA_wA, geo_ln HG hw hb, (ix_s hf (gA S 20)).1, (ix_o hf (upd (gA S 20) (2 * nI t + hAxI (gA S 5) w).toNatClampNeg (2 * hLine (gA S 5) w - zS (gA S 5) w (pA (gA S 20) f)))).1, mir_rd ht]; rfl⟩
set_option maxRecDepth 100000 in
theorem qMir_21 {G : fG} {d : Nat} {S : fS} {b w f t : Nat} (HG : hGeo S b) (hw : w < b) (hb : b ≤ 16) (hf : f ≤ 3) (ht : t ≤ 3)  : fCtr G (d) mX3_mirror [.ref 21, .int (nI f), .int (nI t), .int (nI w), .ref 4] S (fun r S' => r = none ∧ S' = wA S 21 (mirA (gA S 5) w f t (gA S 21))) := by
  refine fCtr.of bXX3_mirror (Nat.le_of_ble_eq_true rfl) rfl ?_
  refine fV.run iX3_mirror_0_5 oX3_mirror_0_5 (pc' := 9) (L' := [(0, .ref 21), (1, .int (nI f)), (2, .int (nI t)), (3, .int (nI w)), (4, .ref 4), (5, .int (gA S 7 (nI w).toNatClampNeg))]) (st' := []) (S' := S) (P := vp_in (nI w) 16 ∧ True) rfl ⟨(vp_in_nI (show w < 16 by omega) (by decide)), trivial⟩ ?_
  refine fV.to (L' := [(0, .ref 21), (1, .int (nI f)), (2, .int (nI t)), (3, .int (nI w)), (4, .ref 4), (5, .int (hAxI (gA S 5) w))]) (st' := []) rfl (by rw [show (gA S 7 (nI w).toNatClampNeg : Int32) = hAxI (gA S 5) w from geo_ax HG hw hb]) rfl rfl ?_
  refine fV.run iX3_mirror_9_39 oX3_mirror_9_39 (pc' := 55) (L' := [(0, .ref 21), (1, .int (nI f)), (2, .int (nI t)), (3, .int (nI w)), (4, .ref 4), (5, .int (hAxI (gA S 5) w))]) (st' := []) (S' := (wA (wA S 21 (upd (gA S 21) ((2 * (nI t)) + (hAxI (gA S 5) w)).toNatClampNeg ((2 * (gA S 8 (nI w).toNatClampNeg)) - (gA S 21 ((2 * (nI f)) + (hAxI (gA S 5) w)).toNatClampNeg)))) 21 (upd (upd (gA S 21) ((2 * (nI t)) + (hAxI (gA S 5) w)).toNatClampNeg ((2 * (gA S 8 (nI w).toNatClampNeg)) - (gA S 21 ((2 * (nI f)) + (hAxI (gA S 5) w)).toNatClampNeg))) (((2 * (nI t)) + 1) - (hAxI (gA S 5) w)).toNatClampNeg ((upd (gA S 21) ((2 * (nI t)) + (hAxI (gA S 5) w)).toNatClampNeg ((2 * (gA S 8 (nI w).toNatClampNeg)) - (gA S 21 ((2 * (nI f)) + (hAxI (gA S 5) w)).toNatClampNeg))) (((2 * (nI f)) + 1) - (hAxI (gA S 5) w)).toNatClampNeg)))) (P := vp_in (nI w) 16 ∧ vp_in ((2 * (nI f)) + (hAxI (gA S 5) w)) 8 ∧ vp_in ((2 * (nI t)) + (hAxI (gA S 5) w)) 8 ∧ vp_in (((2 * (nI f)) + 1) - (hAxI (gA S 5) w)) 8 ∧ vp_in (((2 * (nI t)) + 1) - (hAxI (gA S 5) w)) 8 ∧ True) rfl ⟨(vp_in_nI (show w < 16 by omega) (by decide)), (ix_s hf (gA S 21)).2, (ix_s ht (gA S 21)).2, (ix_o hf (gA S 21)).2, (ix_o ht (gA S 21)).2, trivial⟩ ?_
  exact fV.vret rfl dX3_mirror_55 ⟨rfl, by rw [wA_wA, geo_ln HG hw hb, (ix_s hf (gA S 21)).1, (ix_o hf (upd (gA S 21) (2 * nI t + hAxI (gA S 5) w).toNatClampNeg (2 * hLine (gA S 5) w - zS (gA S 5) w (pA (gA S 21) f)))).1, mir_rd ht]; rfl⟩
theorem qMirE_20 {G : fG} {d : Nat} {S : fS} {b w f t : Nat} {x y z : Int32} (HG : hGeo S b) (hw : w < b) (hb : b ≤ 16) (hf : f ≤ 3) (ht : t ≤ 3) (e1 : x = nI f) (e2 : y = nI t) (e3 : z = nI w) : fCtr G d mX3_mirror [.ref 20, .int x, .int y, .int z, .ref 4] S (fun r S' => r = none ∧ S' = wA S 20 (mirA (gA S 5) w f t (gA S 20))) := by
  subst e1; subst e2; subst e3; exact qMir_20 HG hw hb hf ht
theorem qMirE_21 {G : fG} {d : Nat} {S : fS} {b w f t : Nat} {x y z : Int32} (HG : hGeo S b) (hw : w < b) (hb : b ≤ 16) (hf : f ≤ 3) (ht : t ≤ 3) (e1 : x = nI f) (e2 : y = nI t) (e3 : z = nI w) : fCtr G d mX3_mirror [.ref 21, .int x, .int y, .int z, .ref 4] S (fun r S' => r = none ∧ S' = wA S 21 (mirA (gA S 5) w f t (gA S 21))) := by
  subst e1; subst e2; subst e3; exact qMir_21 HG hw hb hf ht
def iX3_sidewaysAt_0_33 : List Instr := [.aload_n 0, .getfield 18, .iconst 2, .iload_n 1, .imul, .iconst 1, .iadd, .iload_n 2, .isub, .iaload, .i2l, .lstore 7, .aload_n 0, .getfield 15, .iconst 2, .iload_n 1, .imul, .iconst 1, .iadd, .iload_n 2, .isub, .iaload, .i2l, .lstore 9, .lload 7, .lload 5, .lmul, .lload 9, .lload 7, .lsub, .lload_n 3, .lmul, .ladd]
theorem oX3_sidewaysAt_0_33 : fOkB cX3_sidewaysAt 0 iX3_sidewaysAt_0_33 = true := by decide +kernel
theorem dX3_sidewaysAt_43 : decode cX3_sidewaysAt 43 = .ok (.lreturn, 1) := by decide +kernel
set_option maxRecDepth 100000 in
theorem qX3_side {G : fG} {d : Nat} {S : fS} {w j : Nat} (n q : Int64) (hj : j ≤ 3)  : fCtr G (d) mX3_sidewaysAt [.ref 18, .int (nI j), .int (hAxI (gA S 5) w), .long n, .long q] S (fun r S' => r = some (.long (zPl (gA S 5) w (pA (gA S 21) j) (pA (gA S 20) j) n q)) ∧ S' = S) := by
  refine fCtr.of bXX3_sidewaysAt (Nat.le_of_ble_eq_true rfl) rfl ?_
  refine fV.run iX3_sidewaysAt_0_33 oX3_sidewaysAt_0_33 (pc' := 43) (L' := [(0, .ref 18), (1, .int (nI j)), (2, .int (hAxI (gA S 5) w)), (3, .long n), (5, .long q), (7, .long (Int32.toInt64 (gA S 21 (((2 * (nI j)) + 1) - (hAxI (gA S 5) w)).toNatClampNeg))), (9, .long (Int32.toInt64 (gA S 20 (((2 * (nI j)) + 1) - (hAxI (gA S 5) w)).toNatClampNeg)))]) (st' := [.long (((Int32.toInt64 (gA S 21 (((2 * (nI j)) + 1) - (hAxI (gA S 5) w)).toNatClampNeg)) * q) + (((Int32.toInt64 (gA S 20 (((2 * (nI j)) + 1) - (hAxI (gA S 5) w)).toNatClampNeg)) - (Int32.toInt64 (gA S 21 (((2 * (nI j)) + 1) - (hAxI (gA S 5) w)).toNatClampNeg))) * n))]) (S' := S) (P := vp_in (((2 * (nI j)) + 1) - (hAxI (gA S 5) w)) 8 ∧ vp_in (((2 * (nI j)) + 1) - (hAxI (gA S 5) w)) 8 ∧ True) rfl ⟨(ix_o hj (gA S 20)).2, (ix_o hj (gA S 20)).2, trivial⟩ ?_
  exact fV.lret rfl dX3_sidewaysAt_43 ⟨by rw [(ix_o hj (gA S 21)).1, (ix_o hj (gA S 20)).1]; rfl, rfl⟩
def iX3_isOnWall_0_6 : List Instr := [.aload_n 0, .iload_n 1, .aload 7, .getfield 42, .iload_n 2, .iaload]
theorem oX3_isOnWall_0_6 : fOkB cX3_isOnWall 0 iX3_isOnWall_0_6 = true := by decide +kernel
def iX3_isOnWall_9_2 : List Instr := [.lload_n 3, .lload 5]
theorem oX3_isOnWall_9_2 : fOkB cX3_isOnWall 9 iX3_isOnWall_9_2 = true := by decide +kernel
set_option maxRecDepth 100000 in
theorem lX3_64 : Cond.methodLink RX3 64 yX3_sidewaysAt ∈ fTB := fTB_at 457 rfl rfl
theorem dX3_isOnWall_12 : decode cX3_isOnWall 12 = .ok (.invokevirtual 64, 3) := by decide +kernel
def iX3_isOnWall_15_7 : List Instr := [.lstore 8, .lload 8, .aload 7, .getfield 68, .iload_n 2, .iaload, .i2l]
theorem oX3_isOnWall_15_7 : fOkB cX3_isOnWall 15 iX3_isOnWall_15_7 = true := by decide +kernel
def iX3_isOnWall_27_3 : List Instr := [.lload 5, .lmul, .lcmp]
theorem oX3_isOnWall_27_3 : fOkB cX3_isOnWall 27 iX3_isOnWall_27_3 = true := by decide +kernel
theorem bX3_isOnWall_31 : fBk cX3_isOnWall 31 (.ifCond .lt) 55 := ⟨24, by decide +kernel, by decide⟩
def iX3_isOnWall_55_1 : List Instr := [.iconst 0]
theorem oX3_isOnWall_55_1 : fOkB cX3_isOnWall 55 iX3_isOnWall_55_1 = true := by decide +kernel
theorem dX3_isOnWall_56 : decode cX3_isOnWall 56 = .ok (.ireturn, 1) := by decide +kernel
def iX3_isOnWall_34_6 : List Instr := [.lload 8, .aload 7, .getfield 71, .iload_n 2, .iaload, .i2l]
theorem oX3_isOnWall_34_6 : fOkB cX3_isOnWall 34 iX3_isOnWall_34_6 = true := by decide +kernel
def iX3_isOnWall_44_3 : List Instr := [.lload 5, .lmul, .lcmp]
theorem oX3_isOnWall_44_3 : fOkB cX3_isOnWall 44 iX3_isOnWall_44_3 = true := by decide +kernel
theorem bX3_isOnWall_48 : fBk cX3_isOnWall 48 (.ifCond .gt) 55 := ⟨7, by decide +kernel, by decide⟩
def iX3_isOnWall_51_2 : List Instr := [.iconst 1, .goto 4]
theorem oX3_isOnWall_51_2 : fOkB cX3_isOnWall 51 iX3_isOnWall_51_2 = true := by decide +kernel
set_option maxRecDepth 100000 in
theorem qX3_on {G : fG} {d : Nat} {S : fS} {b w j : Nat} (HG : hGeo S b) (hw : w < b) (hb : b ≤ 16) (hj : j ≤ 3) (n q : Int64)  : fCtr G (d + 1) mX3_isOnWall [.ref 18, .int (nI j), .int (nI w), .long n, .long q, .ref 4] S (fun r S' => (zOn (gA S 5) w (pA (gA S 21) j) (pA (gA S 20) j) n q ∧ r = some (.int 1) ∧ S' = S) ∨ (¬ zOn (gA S 5) w (pA (gA S 21) j) (pA (gA S 20) j) n q ∧ r = some (.int 0) ∧ S' = S)) := by
  refine fCtr.of bXX3_isOnWall (Nat.le_of_ble_eq_true rfl) rfl ?_
  refine fV.run iX3_isOnWall_0_6 oX3_isOnWall_0_6 (pc' := 9) (L' := [(0, .ref 18), (1, .int (nI j)), (2, .int (nI w)), (3, .long n), (5, .long q), (7, .ref 4)]) (st' := [.int (gA S 7 (nI w).toNatClampNeg), .int (nI j), .ref 18]) (S' := S) (P := vp_in (nI w) 16 ∧ True) rfl ⟨(vp_in_nI (show w < 16 by omega) (by decide)), trivial⟩ ?_
  refine fV.to (L' := [(0, .ref 18), (1, .int (nI j)), (2, .int (nI w)), (3, .long n), (5, .long q), (7, .ref 4)]) (st' := [.int (hAxI (gA S 5) w), .int (nI j), .ref 18]) rfl rfl (by rw [show (gA S 7 (nI w).toNatClampNeg : Int32) = hAxI (gA S 5) w from geo_ax HG hw hb]) rfl ?_
  refine fV.run iX3_isOnWall_9_2 oX3_isOnWall_9_2 (pc' := 12) (L' := [(0, .ref 18), (1, .int (nI j)), (2, .int (nI w)), (3, .long n), (5, .long q), (7, .ref 4)]) (st' := [.long q, .long n, .int (hAxI (gA S 5) w), .int (nI j), .ref 18]) (S' := S) rfl trivial ?_
  refine fV.callV (M2 := mX3_sidewaysAt) (d := d) (o := 18) (av := [.int (nI j), .int (hAxI (gA S 5) w), .long n, .long q]) (rest := []) kX3_sidewaysAt dX3_isOnWall_12 lX3_64 rfl rfl rfl (Nat.le_of_ble_eq_true rfl) (fRoom (by decide)) ⟨Nat.le_refl _, Nat.le_refl _⟩ (qX3_side _ _ hj) ?_
  rintro _ S9 ⟨rfl, h9⟩
  rw [h9]
  clear h9 S9
  refine fV.to (pc' := 15) (L' := [(0, .ref 18), (1, .int (nI j)), (2, .int (nI w)), (3, .long n), (5, .long q), (7, .ref 4)]) (st' := [.long (zPl (gA S 5) w (pA (gA S 21) j) (pA (gA S 20) j) n q)]) (S' := S) rfl rfl rfl rfl ?_
  refine fV.run iX3_isOnWall_15_7 oX3_isOnWall_15_7 (pc' := 27) (L' := [(0, .ref 18), (1, .int (nI j)), (2, .int (nI w)), (3, .long n), (5, .long q), (7, .ref 4), (8, .long (zPl (gA S 5) w (pA (gA S 21) j) (pA (gA S 20) j) n q))]) (st' := [.long (Int32.toInt64 (gA S 9 (nI w).toNatClampNeg)), .long (zPl (gA S 5) w (pA (gA S 21) j) (pA (gA S 20) j) n q)]) (S' := S) (P := vp_in (nI w) 16 ∧ True) rfl ⟨(vp_in_nI (show w < 16 by omega) (by decide)), trivial⟩ ?_
  refine fV.to (L' := [(0, .ref 18), (1, .int (nI j)), (2, .int (nI w)), (3, .long n), (5, .long q), (7, .ref 4), (8, .long (zPl (gA S 5) w (pA (gA S 21) j) (pA (gA S 20) j) n q))]) (st' := [.long (Int32.toInt64 (hLow (gA S 5) w)), .long (zPl (gA S 5) w (pA (gA S 21) j) (pA (gA S 20) j) n q)]) rfl rfl (by rw [show (Int32.toInt64 (gA S 9 (nI w).toNatClampNeg) : Int64) = Int32.toInt64 (hLow (gA S 5) w) from by rw [geo_lo HG hw hb]]) rfl ?_
  refine fV.run iX3_isOnWall_27_3 oX3_isOnWall_27_3 (pc' := 31) (L' := [(0, .ref 18), (1, .int (nI j)), (2, .int (nI w)), (3, .long n), (5, .long q), (7, .ref 4), (8, .long (zPl (gA S 5) w (pA (gA S 21) j) (pA (gA S 20) j) n q))]) (st' := [.int (lg_cmp (zPl (gA S 5) w (pA (gA S 21) j) (pA (gA S 20) j) n q) ((Int32.toInt64 (hLow (gA S 5) w)) * q))]) (S' := S) rfl trivial ?_
  refine fV.lif_lt bX3_isOnWall_31 (fun c31 => ?_) (fun c31 => ?_)
  · refine fV.run iX3_isOnWall_55_1 oX3_isOnWall_55_1 (pc' := 56) (L' := [(0, .ref 18), (1, .int (nI j)), (2, .int (nI w)), (3, .long n), (5, .long q), (7, .ref 4), (8, .long (zPl (gA S 5) w (pA (gA S 21) j) (pA (gA S 20) j) n q))]) (st' := [.int 0]) (S' := S) rfl trivial ?_
    exact fV.zret rfl dX3_isOnWall_56 (by decide) (Or.inr ⟨by unfold zOn; grind, rfl, rfl⟩)
  · refine fV.run iX3_isOnWall_34_6 oX3_isOnWall_34_6 (pc' := 44) (L' := [(0, .ref 18), (1, .int (nI j)), (2, .int (nI w)), (3, .long n), (5, .long q), (7, .ref 4), (8, .long (zPl (gA S 5) w (pA (gA S 21) j) (pA (gA S 20) j) n q))]) (st' := [.long (Int32.toInt64 (gA S 10 (nI w).toNatClampNeg)), .long (zPl (gA S 5) w (pA (gA S 21) j) (pA (gA S 20) j) n q)]) (S' := S) (P := vp_in (nI w) 16 ∧ True) rfl ⟨(vp_in_nI (show w < 16 by omega) (by decide)), trivial⟩ ?_
    refine fV.to (L' := [(0, .ref 18), (1, .int (nI j)), (2, .int (nI w)), (3, .long n), (5, .long q), (7, .ref 4), (8, .long (zPl (gA S 5) w (pA (gA S 21) j) (pA (gA S 20) j) n q))]) (st' := [.long (Int32.toInt64 (hHigh (gA S 5) w)), .long (zPl (gA S 5) w (pA (gA S 21) j) (pA (gA S 20) j) n q)]) rfl rfl (by rw [show (Int32.toInt64 (gA S 10 (nI w).toNatClampNeg) : Int64) = Int32.toInt64 (hHigh (gA S 5) w) from by rw [geo_hi HG hw hb]]) rfl ?_
    refine fV.run iX3_isOnWall_44_3 oX3_isOnWall_44_3 (pc' := 48) (L' := [(0, .ref 18), (1, .int (nI j)), (2, .int (nI w)), (3, .long n), (5, .long q), (7, .ref 4), (8, .long (zPl (gA S 5) w (pA (gA S 21) j) (pA (gA S 20) j) n q))]) (st' := [.int (lg_cmp (zPl (gA S 5) w (pA (gA S 21) j) (pA (gA S 20) j) n q) ((Int32.toInt64 (hHigh (gA S 5) w)) * q))]) (S' := S) rfl trivial ?_
    refine fV.lif_gt bX3_isOnWall_48 (fun c48 => ?_) (fun c48 => ?_)
    · refine fV.run iX3_isOnWall_55_1 oX3_isOnWall_55_1 (pc' := 56) (L' := [(0, .ref 18), (1, .int (nI j)), (2, .int (nI w)), (3, .long n), (5, .long q), (7, .ref 4), (8, .long (zPl (gA S 5) w (pA (gA S 21) j) (pA (gA S 20) j) n q))]) (st' := [.int 0]) (S' := S) rfl trivial ?_
      exact fV.zret rfl dX3_isOnWall_56 (by decide) (Or.inr ⟨by unfold zOn; grind, rfl, rfl⟩)
    · refine fV.run iX3_isOnWall_51_2 oX3_isOnWall_51_2 (pc' := 56) (L' := [(0, .ref 18), (1, .int (nI j)), (2, .int (nI w)), (3, .long n), (5, .long q), (7, .ref 4), (8, .long (zPl (gA S 5) w (pA (gA S 21) j) (pA (gA S 20) j) n q))]) (st' := [.int 1]) (S' := S) rfl trivial ?_
      exact fV.zret rfl dX3_isOnWall_56 (by decide) (Or.inl ⟨⟨Int64.not_lt.mp c31, Int64.not_lt.mp c48⟩, rfl, rfl⟩)

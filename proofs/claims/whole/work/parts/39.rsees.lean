/-! the reference: sees -/
theorem na2 {r : Nat → Nat} : noAdj r 2 ↔ ¬ r 1 = r 0 := by
  constructor
  · intro h; exact h 1 (by omega) (by omega)
  · intro h m h1 h2
    obtain rfl : m = 1 := by omega
    exact h
theorem na3 {r : Nat → Nat} : noAdj r 3 ↔ ¬ r 2 = r 1 ∧ ¬ r 1 = r 0 := by
  constructor
  · intro h; exact ⟨h 1 (by omega) (by omega), h 2 (by omega) (by omega)⟩
  · intro h m h1 h2
    rcases (by omega : m = 1 ∨ m = 2) with rfl | rfl
    · exact h.1
    · exact h.2
theorem na_wl {l : List Nat} (h : l.length ≤ 3) (hb : ∀ w ∈ l, w < 16) : ((wOf l 0 = wOf l 1 ∧ ¬ wOf l 1 = -1) ∨ (wOf l 1 = wOf l 2 ∧ ¬ wOf l 2 = -1)) ↔ ¬ noAdj (fnL l) l.length := by
  have hk : ∀ j, j < l.length → fnL l j < 16 := fun j hj => fnL_lt hb hj
  have p : ∀ t, t < l.length → wOf l t = nI (fnL l t) := fun t ht => wOf_p ht
  have q : ∀ t, l.length ≤ t → wOf l t = -1 := fun t ht => wOf_q ht
  have e : ∀ i j, i < l.length → j < l.length → (nI (fnL l i) = nI (fnL l j) ↔ fnL l i = fnL l j) := fun i j hi hj => nI_eq (by have := hk i hi; omega) (by have := hk j hj; omega)
  have nn : ∀ t, t < l.length → ¬ wOf l t = -1 := fun t ht z => by have := (wOf_n hk).mp z; omega
  rcases (by omega : l.length = 0 ∨ l.length = 1 ∨ l.length = 2 ∨ l.length = 3) with z | z | z | z
  · rw [q 1 (by omega), q 2 (by omega), z]
    constructor
    · rintro (⟨-, y⟩ | ⟨-, y⟩) <;> exact absurd rfl y
    · intro y; exact absurd (fun m h1 h2 => absurd h2 (by omega)) y
  · rw [q 1 (by omega), q 2 (by omega), z]
    constructor
    · rintro (⟨-, y⟩ | ⟨-, y⟩) <;> exact absurd rfl y
    · intro y; exact absurd (fun m h1 h2 => absurd h2 (by omega)) y
  · rw [q 2 (by omega), z, na2]
    have n1 := nn 1 (by omega)
    have e1 := e 0 1 (by omega) (by omega)
    rw [← p 0 (by omega), ← p 1 (by omega)] at e1
    constructor
    · rintro (⟨y, -⟩ | ⟨-, y⟩)
      · exact fun w => w (e1.mp y).symm
      · exact absurd rfl y
    · intro y
      exact Or.inl ⟨e1.mpr (Decidable.not_not.mp y).symm, n1⟩
  · rw [z, na3]
    have n1 := nn 1 (by omega)
    have n2 := nn 2 (by omega)
    have e1 := e 0 1 (by omega) (by omega)
    have e2 := e 1 2 (by omega) (by omega)
    rw [← p 0 (by omega), ← p 1 (by omega)] at e1
    rw [← p 1 (by omega), ← p 2 (by omega)] at e2
    constructor
    · rintro (⟨y, -⟩ | ⟨y, -⟩) w
      · exact w.2 (e1.mp y).symm
      · exact w.1 (e2.mp y).symm
    · intro y
      by_cases y1 : fnL l 1 = fnL l 0
      · exact Or.inl ⟨e1.mpr y1.symm, n1⟩
      · by_cases y2 : fnL l 2 = fnL l 1
        · exact Or.inr ⟨e2.mpr y2.symm, n2⟩
        · exact absurd ⟨y2, y1⟩ y
theorem wOf_m {l : List Nat} {t : Nat} (h : ∀ j, j < l.length → fnL l j < 16) (h2 : ¬ wOf l t = -1) : t < l.length := Nat.lt_of_not_le (fun z => h2 ((wOf_n h).mpr z))
noncomputable def seeN (en : Nat → Int32) (b : Nat) (src seat : zP) (l : List Nat) : Int32 := @ite _ (noAdj (fnL l) l.length) (Classical.propDecidable _) (seeV en b src seat l) (-1)
theorem rowW {S1 : fS} {b : Nat} {f : Nat → Int32} {l : List Nat} (h3 : l.length ≤ 3) (hlb : ∀ w ∈ l, w < b) (ho : gI S1 35 22 = nI l.length) (hr : gA S1 51 = upd (upd (upd f 0 (wOf l 0)) 1 (wOf l 1)) 2 (wOf l 2)) : rfRow S1 b (fnL l) l.length := by
  refine ⟨ho, h3, fun i hi => ⟨?_, fnL_lt hlb hi⟩⟩
  rw [hr, ← wOf_p hi]
  rcases (by omega : i = 0 ∨ i = 1 ∨ i = 2) with rfl | rfl | rfl
  · rw [pk_un (by omega), pk_un (by omega), pk_us]
  · rw [pk_un (by omega), pk_us]
  · rw [pk_us]
theorem see_n {en : Nat → Int32} {b : Nat} {src seat : zP} {l : List Nat} (h : ¬ (hasD en src seat (fnL l) l.length ∧ noAdj (fnL l) l.length)) : seeN en b src seat l = -1 := by
  unfold seeN seeV
  by_cases h1 : noAdj (fnL l) l.length
  · rw [if_pos h1, if_neg (fun z => h ⟨z, h1⟩)]
  · rw [if_neg h1]
def iX8_sees_98_18 : List Instr := [.aload_n 0, .getfield 63, .iconst 0, .iload_n 3, .iastore, .aload_n 0, .getfield 63, .iconst 1, .iload 4, .iastore, .aload_n 0, .getfield 63, .iconst 2, .iload 5, .iastore, .aload_n 0, .iload_n 3, .iconst (-1)]
theorem oX8_sees_98_18 : fOkB cX8_sees 98 iX8_sees_98_18 = true := by decide +kernel
theorem bX8_sees_124 : fBk cX8_sees 124 (.if_icmp .ne) 131 := ⟨7, by decide +kernel, by decide⟩
def iX8_sees_131_2 : List Instr := [.iload 4, .iconst (-1)]
theorem oX8_sees_131_2 : fOkB cX8_sees 131 iX8_sees_131_2 = true := by decide +kernel
theorem bX8_sees_134 : fBk cX8_sees 134 (.if_icmp .ne) 141 := ⟨7, by decide +kernel, by decide⟩
def iX8_sees_141_2 : List Instr := [.iload 5, .iconst (-1)]
theorem oX8_sees_141_2 : fOkB cX8_sees 141 iX8_sees_141_2 = true := by decide +kernel
theorem bX8_sees_144 : fBk cX8_sees 144 (.if_icmp .ne) 151 := ⟨7, by decide +kernel, by decide⟩
def iX8_sees_151_1 : List Instr := [.iconst 3]
theorem oX8_sees_151_1 : fOkB cX8_sees 151 iX8_sees_151_1 = true := by decide +kernel
def iX8_sees_152_4 : List Instr := [.putfield 159, .aload_n 0, .iload_n 1, .iload_n 2]
theorem oX8_sees_152_4 : fOkB cX8_sees 152 iX8_sees_152_4 = true := by decide +kernel
theorem dX8_sees_158 : decode cX8_sees 158 = .ok (.invokevirtual 174, 3) := by decide +kernel
theorem bX8_sees_161 : fBk cX8_sees 161 (.ifCond .ne) 168 := ⟨7, by decide +kernel, by decide⟩
def iX8_sees_168_1 : List Instr := [.aload_n 0]
theorem oX8_sees_168_1 : fOkB cX8_sees 168 iX8_sees_168_1 = true := by decide +kernel
theorem dX8_sees_169 : decode cX8_sees 169 = .ok (.invokevirtual 177, 3) := by decide +kernel
theorem bX8_sees_172 : fBk cX8_sees 172 (.ifCond .eq) 179 := ⟨7, by decide +kernel, by decide⟩
def iX8_sees_175_2 : List Instr := [.iconst 1, .goto 4]
theorem oX8_sees_175_2 : fOkB cX8_sees 175 iX8_sees_175_2 = true := by decide +kernel
theorem dX8_sees_180 : decode cX8_sees 180 = .ok (.ireturn, 1) := by decide +kernel
def iX8_sees_179_1 : List Instr := [.iconst 0]
theorem oX8_sees_179_1 : fOkB cX8_sees 179 iX8_sees_179_1 = true := by decide +kernel
def iX8_sees_164_2 : List Instr := [.iconst (-1), .goto 15]
theorem oX8_sees_164_2 : fOkB cX8_sees 164 iX8_sees_164_2 = true := by decide +kernel
def iX8_sees_147_2 : List Instr := [.iconst 2, .goto 4]
theorem oX8_sees_147_2 : fOkB cX8_sees 147 iX8_sees_147_2 = true := by decide +kernel
def iX8_sees_137_2 : List Instr := [.iconst 1, .goto 14]
theorem oX8_sees_137_2 : fOkB cX8_sees 137 iX8_sees_137_2 = true := by decide +kernel
def iX8_sees_127_2 : List Instr := [.iconst 0, .goto 24]
theorem oX8_sees_127_2 : fOkB cX8_sees 127 iX8_sees_127_2 = true := by decide +kernel
set_option maxRecDepth 100000 in
theorem tlX8_sees {G : fG} {d : Nat} {S : fS} {a b c e si ei : Nat} {l : List Nat} (H : hOk (hD S) a b c e) (hsi : si < c) (hei : ei < e) (hl : l.length ≤ 3) (hlb : ∀ w ∈ l, w < b) : fV G mX8_sees (fZm G (d + 6) (fun r S' => r = some (.int (seeN (gA S 38) b (gA S 40 si, gA S 41 si) (gA S 43 ei, gA S 44 ei) l)) ∧ ke S S')) 98 [(0, .ref 35), (1, .int (nI si)), (2, .int (nI ei)), (3, .int (wOf l 0)), (4, .int (wOf l 1)), (5, .int (wOf l 2))] [] S := by
  have hb16 : b ≤ 16 := H.2.1.2.1
  have hk : ∀ j, j < l.length → fnL l j < 16 := (fun j hj => Nat.lt_of_lt_of_le (fnL_lt hlb hj) hb16)
  refine fV.run iX8_sees_98_18 oX8_sees_98_18 (pc' := 124) (L' := [(0, .ref 35), (1, .int (nI si)), (2, .int (nI ei)), (3, .int (wOf l 0)), (4, .int (wOf l 1)), (5, .int (wOf l 2))]) (st' := [.int (-1), .int (wOf l 0), .ref 35]) (S' := (wA (wA (wA S 51 (upd (gA S 51) (0 : Int32).toNatClampNeg (wOf l 0))) 51 (upd (upd (gA S 51) (0 : Int32).toNatClampNeg (wOf l 0)) (1 : Int32).toNatClampNeg (wOf l 1))) 51 (upd (upd (upd (gA S 51) (0 : Int32).toNatClampNeg (wOf l 0)) (1 : Int32).toNatClampNeg (wOf l 1)) (2 : Int32).toNatClampNeg (wOf l 2)))) (P := vp_in 0 3 ∧ vp_in 1 3 ∧ vp_in 2 3 ∧ True) rfl ⟨(by unfold vp_in; decide), (by unfold vp_in; decide), (by unfold vp_in; decide), trivial⟩ ?_
  refine fV.icmp_ne bX8_sees_124 (fun c124 => ?_) (fun c124 => ?_)
  · refine fV.run iX8_sees_131_2 oX8_sees_131_2 (pc' := 134) (L' := [(0, .ref 35), (1, .int (nI si)), (2, .int (nI ei)), (3, .int (wOf l 0)), (4, .int (wOf l 1)), (5, .int (wOf l 2))]) (st' := [.int (-1), .int (wOf l 1), .ref 35]) (S' := (wA (wA (wA S 51 (upd (gA S 51) (0 : Int32).toNatClampNeg (wOf l 0))) 51 (upd (upd (gA S 51) (0 : Int32).toNatClampNeg (wOf l 0)) (1 : Int32).toNatClampNeg (wOf l 1))) 51 (upd (upd (upd (gA S 51) (0 : Int32).toNatClampNeg (wOf l 0)) (1 : Int32).toNatClampNeg (wOf l 1)) (2 : Int32).toNatClampNeg (wOf l 2)))) rfl trivial ?_
    refine fV.icmp_ne bX8_sees_134 (fun c134 => ?_) (fun c134 => ?_)
    · refine fV.run iX8_sees_141_2 oX8_sees_141_2 (pc' := 144) (L' := [(0, .ref 35), (1, .int (nI si)), (2, .int (nI ei)), (3, .int (wOf l 0)), (4, .int (wOf l 1)), (5, .int (wOf l 2))]) (st' := [.int (-1), .int (wOf l 2), .ref 35]) (S' := (wA (wA (wA S 51 (upd (gA S 51) (0 : Int32).toNatClampNeg (wOf l 0))) 51 (upd (upd (gA S 51) (0 : Int32).toNatClampNeg (wOf l 0)) (1 : Int32).toNatClampNeg (wOf l 1))) 51 (upd (upd (upd (gA S 51) (0 : Int32).toNatClampNeg (wOf l 0)) (1 : Int32).toNatClampNeg (wOf l 1)) (2 : Int32).toNatClampNeg (wOf l 2)))) rfl trivial ?_
      refine fV.icmp_ne bX8_sees_144 (fun c144 => ?_) (fun c144 => ?_)
      · refine fV.run iX8_sees_151_1 oX8_sees_151_1 (pc' := 152) (L' := [(0, .ref 35), (1, .int (nI si)), (2, .int (nI ei)), (3, .int (wOf l 0)), (4, .int (wOf l 1)), (5, .int (wOf l 2))]) (st' := [.int 3, .ref 35]) (S' := (wA (wA (wA S 51 (upd (gA S 51) (0 : Int32).toNatClampNeg (wOf l 0))) 51 (upd (upd (gA S 51) (0 : Int32).toNatClampNeg (wOf l 0)) (1 : Int32).toNatClampNeg (wOf l 1))) 51 (upd (upd (upd (gA S 51) (0 : Int32).toNatClampNeg (wOf l 0)) (1 : Int32).toNatClampNeg (wOf l 1)) (2 : Int32).toNatClampNeg (wOf l 2)))) rfl trivial ?_
        refine fV.to (L' := [(0, .ref 35), (1, .int (nI si)), (2, .int (nI ei)), (3, .int (wOf l 0)), (4, .int (wOf l 1)), (5, .int (wOf l 2))]) (st' := [.int (nI l.length), .ref 35]) rfl rfl (by rw [show (3 : Int32) = nI l.length from by (have q0 := wOf_m hk c144); rw [show l.length = 3 by omega]; rfl]) rfl ?_
        refine fV.run iX8_sees_152_4 oX8_sees_152_4 (pc' := 158) (L' := [(0, .ref 35), (1, .int (nI si)), (2, .int (nI ei)), (3, .int (wOf l 0)), (4, .int (wOf l 1)), (5, .int (wOf l 2))]) (st' := [.int (nI ei), .int (nI si), .ref 35]) (S' := (wI (wA (wA (wA S 51 (upd (gA S 51) (0 : Int32).toNatClampNeg (wOf l 0))) 51 (upd (upd (gA S 51) (0 : Int32).toNatClampNeg (wOf l 0)) (1 : Int32).toNatClampNeg (wOf l 1))) 51 (upd (upd (upd (gA S 51) (0 : Int32).toNatClampNeg (wOf l 0)) (1 : Int32).toNatClampNeg (wOf l 1)) (2 : Int32).toNatClampNeg (wOf l 2))) 35 22 (nI l.length))) rfl trivial ?_
        refine fV.callV (M2 := mX8_findBounces) (d := d + 5) (o := 35) (av := [.int (nI si), .int (nI ei)]) (rest := []) kX8_findBounces dX8_sees_158 lX8_174 rfl rfl rfl (Nat.le_of_ble_eq_true rfl) (fRoom (by decide)) ⟨Nat.le_refl _, Nat.le_refl _⟩ (qX8_bounces (S := (wI (wA (wA (wA S 51 (upd (gA S 51) (0 : Int32).toNatClampNeg (wOf l 0))) 51 (upd (upd (gA S 51) (0 : Int32).toNatClampNeg (wOf l 0)) (1 : Int32).toNatClampNeg (wOf l 1))) 51 (upd (upd (upd (gA S 51) (0 : Int32).toNatClampNeg (wOf l 0)) (1 : Int32).toNatClampNeg (wOf l 1)) (2 : Int32).toNatClampNeg (wOf l 2))) 35 22 (nI l.length))) (r := fnL l) (k := l.length) H (rowW hl hlb rfl rfl) hsi hei) ?_
        rintro _ S9 ⟨hk9, h9⟩
        have hR : rfRow (wI (wA (wA (wA S 51 (upd (gA S 51) (0 : Int32).toNatClampNeg (wOf l 0))) 51 (upd (upd (gA S 51) (0 : Int32).toNatClampNeg (wOf l 0)) (1 : Int32).toNatClampNeg (wOf l 1))) 51 (upd (upd (upd (gA S 51) (0 : Int32).toNatClampNeg (wOf l 0)) (1 : Int32).toNatClampNeg (wOf l 1)) (2 : Int32).toNatClampNeg (wOf l 2))) 35 22 (nI l.length)) b (fnL l) l.length := rowW hl hlb rfl rfl
        rcases h9 with ⟨hh, hna, rfl, LG, FR, wy⟩ | ⟨hn, rfl⟩
        · have hh : hasD (gA S 38) (gA S 40 si, gA S 41 si) (gA S 43 ei, gA S 44 ei) (fnL l) l.length := hh
          refine fV.to (pc' := 161) (L' := [(0, .ref 35), (1, .int (nI si)), (2, .int (nI ei)), (3, .int (wOf l 0)), (4, .int (wOf l 1)), (5, .int (wOf l 2))]) (st' := [.int 1]) (S' := S9) rfl rfl rfl rfl ?_
          refine fV.if_ne bX8_sees_161 (fun c161 => ?_) (fun c161 => ?_)
          · refine fV.run iX8_sees_168_1 oX8_sees_168_1 (pc' := 169) (L' := [(0, .ref 35), (1, .int (nI si)), (2, .int (nI ei)), (3, .int (wOf l 0)), (4, .int (wOf l 1)), (5, .int (wOf l 2))]) (st' := [.ref 35]) (S' := S9) rfl trivial ?_
            refine fV.callV (M2 := mX8_isSeen) (d := d + 5) (o := 35) (av := []) (rest := []) kX8_isSeen dX8_sees_169 lX8_177 rfl rfl rfl (Nat.le_of_ble_eq_true rfl) (fRoom (by decide)) ⟨Nat.le_refl _, Nat.le_refl _⟩ (qX8_seen (S := S9) (src := (gA S 40 si, gA S 41 si)) (seat := (gA S 43 ei, gA S 44 ei)) (by rw [hk9.1]; exact H) (hk9.row hR) (by rw [hk9.en]; exact LG) (by rw [hk9.en]; exact FR)) ?_
            rintro _ S8 ⟨nn, dd, rfl, h8⟩
            rw [hk9.en] at h8
            rcases h8 with ⟨hse, rfl⟩ | ⟨hse, rfl⟩
            · have hse : seenD (gA S 38) b (gA S 40 si, gA S 41 si) (gA S 43 ei, gA S 44 ei) (fnL l) l.length := hse
              refine fV.to (pc' := 172) (L' := [(0, .ref 35), (1, .int (nI si)), (2, .int (nI ei)), (3, .int (wOf l 0)), (4, .int (wOf l 1)), (5, .int (wOf l 2))]) (st' := [.int 1]) (S' := (wJ (wJ S9 35 23 nn) 35 24 dd)) rfl rfl rfl rfl ?_
              refine fV.if_eq bX8_sees_172 (fun c172 => ?_) (fun c172 => ?_)
              · exact absurd c172 (by decide)
              · refine fV.run iX8_sees_175_2 oX8_sees_175_2 (pc' := 180) (L' := [(0, .ref 35), (1, .int (nI si)), (2, .int (nI ei)), (3, .int (wOf l 0)), (4, .int (wOf l 1)), (5, .int (wOf l 2))]) (st' := [.int 1]) (S' := (wJ (wJ S9 35 23 nn) 35 24 dd)) rfl trivial ?_
                exact fV.iret rfl dX8_sees_180 ⟨by unfold seeN seeV; rw [if_pos hna, if_pos hh, if_pos hse], ⟨hk9.1, hk9.2.1⟩⟩
            · have hse : ¬ seenD (gA S 38) b (gA S 40 si, gA S 41 si) (gA S 43 ei, gA S 44 ei) (fnL l) l.length := hse
              refine fV.to (pc' := 172) (L' := [(0, .ref 35), (1, .int (nI si)), (2, .int (nI ei)), (3, .int (wOf l 0)), (4, .int (wOf l 1)), (5, .int (wOf l 2))]) (st' := [.int 0]) (S' := (wJ (wJ S9 35 23 nn) 35 24 dd)) rfl rfl rfl rfl ?_
              refine fV.if_eq bX8_sees_172 (fun c172 => ?_) (fun c172 => ?_)
              · refine fV.run iX8_sees_179_1 oX8_sees_179_1 (pc' := 180) (L' := [(0, .ref 35), (1, .int (nI si)), (2, .int (nI ei)), (3, .int (wOf l 0)), (4, .int (wOf l 1)), (5, .int (wOf l 2))]) (st' := [.int 0]) (S' := (wJ (wJ S9 35 23 nn) 35 24 dd)) rfl trivial ?_
                exact fV.iret rfl dX8_sees_180 ⟨by unfold seeN seeV; rw [if_pos hna, if_pos hh, if_neg hse], ⟨hk9.1, hk9.2.1⟩⟩
              · exact absurd c172 (by decide)
          · exact absurd c161 (by decide)
        · have hn : ¬ (hasD (gA S 38) (gA S 40 si, gA S 41 si) (gA S 43 ei, gA S 44 ei) (fnL l) l.length ∧ noAdj (fnL l) l.length) := hn
          refine fV.to (pc' := 161) (L' := [(0, .ref 35), (1, .int (nI si)), (2, .int (nI ei)), (3, .int (wOf l 0)), (4, .int (wOf l 1)), (5, .int (wOf l 2))]) (st' := [.int 0]) (S' := S9) rfl rfl rfl rfl ?_
          refine fV.if_ne bX8_sees_161 (fun c161 => ?_) (fun c161 => ?_)
          · exact absurd c161 (by decide)
          · refine fV.run iX8_sees_164_2 oX8_sees_164_2 (pc' := 180) (L' := [(0, .ref 35), (1, .int (nI si)), (2, .int (nI ei)), (3, .int (wOf l 0)), (4, .int (wOf l 1)), (5, .int (wOf l 2))]) (st' := [.int (-1)]) (S' := S9) rfl trivial ?_
            exact fV.iret rfl dX8_sees_180 ⟨by rw [see_n hn], ⟨hk9.1, hk9.2.1⟩⟩
      · refine fV.run iX8_sees_147_2 oX8_sees_147_2 (pc' := 152) (L' := [(0, .ref 35), (1, .int (nI si)), (2, .int (nI ei)), (3, .int (wOf l 0)), (4, .int (wOf l 1)), (5, .int (wOf l 2))]) (st' := [.int 2, .ref 35]) (S' := (wA (wA (wA S 51 (upd (gA S 51) (0 : Int32).toNatClampNeg (wOf l 0))) 51 (upd (upd (gA S 51) (0 : Int32).toNatClampNeg (wOf l 0)) (1 : Int32).toNatClampNeg (wOf l 1))) 51 (upd (upd (upd (gA S 51) (0 : Int32).toNatClampNeg (wOf l 0)) (1 : Int32).toNatClampNeg (wOf l 1)) (2 : Int32).toNatClampNeg (wOf l 2)))) rfl trivial ?_
        refine fV.to (L' := [(0, .ref 35), (1, .int (nI si)), (2, .int (nI ei)), (3, .int (wOf l 0)), (4, .int (wOf l 1)), (5, .int (wOf l 2))]) (st' := [.int (nI l.length), .ref 35]) rfl rfl (by rw [show (2 : Int32) = nI l.length from by (have q0 := wOf_m hk c134); (have q1 := (wOf_n hk).mp c144); rw [show l.length = 2 by omega]; rfl]) rfl ?_
        refine fV.run iX8_sees_152_4 oX8_sees_152_4 (pc' := 158) (L' := [(0, .ref 35), (1, .int (nI si)), (2, .int (nI ei)), (3, .int (wOf l 0)), (4, .int (wOf l 1)), (5, .int (wOf l 2))]) (st' := [.int (nI ei), .int (nI si), .ref 35]) (S' := (wI (wA (wA (wA S 51 (upd (gA S 51) (0 : Int32).toNatClampNeg (wOf l 0))) 51 (upd (upd (gA S 51) (0 : Int32).toNatClampNeg (wOf l 0)) (1 : Int32).toNatClampNeg (wOf l 1))) 51 (upd (upd (upd (gA S 51) (0 : Int32).toNatClampNeg (wOf l 0)) (1 : Int32).toNatClampNeg (wOf l 1)) (2 : Int32).toNatClampNeg (wOf l 2))) 35 22 (nI l.length))) rfl trivial ?_
        refine fV.callV (M2 := mX8_findBounces) (d := d + 5) (o := 35) (av := [.int (nI si), .int (nI ei)]) (rest := []) kX8_findBounces dX8_sees_158 lX8_174 rfl rfl rfl (Nat.le_of_ble_eq_true rfl) (fRoom (by decide)) ⟨Nat.le_refl _, Nat.le_refl _⟩ (qX8_bounces (S := (wI (wA (wA (wA S 51 (upd (gA S 51) (0 : Int32).toNatClampNeg (wOf l 0))) 51 (upd (upd (gA S 51) (0 : Int32).toNatClampNeg (wOf l 0)) (1 : Int32).toNatClampNeg (wOf l 1))) 51 (upd (upd (upd (gA S 51) (0 : Int32).toNatClampNeg (wOf l 0)) (1 : Int32).toNatClampNeg (wOf l 1)) (2 : Int32).toNatClampNeg (wOf l 2))) 35 22 (nI l.length))) (r := fnL l) (k := l.length) H (rowW hl hlb rfl rfl) hsi hei) ?_
        rintro _ S9 ⟨hk9, h9⟩
        have hR : rfRow (wI (wA (wA (wA S 51 (upd (gA S 51) (0 : Int32).toNatClampNeg (wOf l 0))) 51 (upd (upd (gA S 51) (0 : Int32).toNatClampNeg (wOf l 0)) (1 : Int32).toNatClampNeg (wOf l 1))) 51 (upd (upd (upd (gA S 51) (0 : Int32).toNatClampNeg (wOf l 0)) (1 : Int32).toNatClampNeg (wOf l 1)) (2 : Int32).toNatClampNeg (wOf l 2))) 35 22 (nI l.length)) b (fnL l) l.length := rowW hl hlb rfl rfl
        rcases h9 with ⟨hh, hna, rfl, LG, FR, wy⟩ | ⟨hn, rfl⟩
        · have hh : hasD (gA S 38) (gA S 40 si, gA S 41 si) (gA S 43 ei, gA S 44 ei) (fnL l) l.length := hh
          refine fV.to (pc' := 161) (L' := [(0, .ref 35), (1, .int (nI si)), (2, .int (nI ei)), (3, .int (wOf l 0)), (4, .int (wOf l 1)), (5, .int (wOf l 2))]) (st' := [.int 1]) (S' := S9) rfl rfl rfl rfl ?_
          refine fV.if_ne bX8_sees_161 (fun c161 => ?_) (fun c161 => ?_)
          · refine fV.run iX8_sees_168_1 oX8_sees_168_1 (pc' := 169) (L' := [(0, .ref 35), (1, .int (nI si)), (2, .int (nI ei)), (3, .int (wOf l 0)), (4, .int (wOf l 1)), (5, .int (wOf l 2))]) (st' := [.ref 35]) (S' := S9) rfl trivial ?_
            refine fV.callV (M2 := mX8_isSeen) (d := d + 5) (o := 35) (av := []) (rest := []) kX8_isSeen dX8_sees_169 lX8_177 rfl rfl rfl (Nat.le_of_ble_eq_true rfl) (fRoom (by decide)) ⟨Nat.le_refl _, Nat.le_refl _⟩ (qX8_seen (S := S9) (src := (gA S 40 si, gA S 41 si)) (seat := (gA S 43 ei, gA S 44 ei)) (by rw [hk9.1]; exact H) (hk9.row hR) (by rw [hk9.en]; exact LG) (by rw [hk9.en]; exact FR)) ?_
            rintro _ S8 ⟨nn, dd, rfl, h8⟩
            rw [hk9.en] at h8
            rcases h8 with ⟨hse, rfl⟩ | ⟨hse, rfl⟩
            · have hse : seenD (gA S 38) b (gA S 40 si, gA S 41 si) (gA S 43 ei, gA S 44 ei) (fnL l) l.length := hse
              refine fV.to (pc' := 172) (L' := [(0, .ref 35), (1, .int (nI si)), (2, .int (nI ei)), (3, .int (wOf l 0)), (4, .int (wOf l 1)), (5, .int (wOf l 2))]) (st' := [.int 1]) (S' := (wJ (wJ S9 35 23 nn) 35 24 dd)) rfl rfl rfl rfl ?_
              refine fV.if_eq bX8_sees_172 (fun c172 => ?_) (fun c172 => ?_)
              · exact absurd c172 (by decide)
              · refine fV.run iX8_sees_175_2 oX8_sees_175_2 (pc' := 180) (L' := [(0, .ref 35), (1, .int (nI si)), (2, .int (nI ei)), (3, .int (wOf l 0)), (4, .int (wOf l 1)), (5, .int (wOf l 2))]) (st' := [.int 1]) (S' := (wJ (wJ S9 35 23 nn) 35 24 dd)) rfl trivial ?_
                exact fV.iret rfl dX8_sees_180 ⟨by unfold seeN seeV; rw [if_pos hna, if_pos hh, if_pos hse], ⟨hk9.1, hk9.2.1⟩⟩
            · have hse : ¬ seenD (gA S 38) b (gA S 40 si, gA S 41 si) (gA S 43 ei, gA S 44 ei) (fnL l) l.length := hse
              refine fV.to (pc' := 172) (L' := [(0, .ref 35), (1, .int (nI si)), (2, .int (nI ei)), (3, .int (wOf l 0)), (4, .int (wOf l 1)), (5, .int (wOf l 2))]) (st' := [.int 0]) (S' := (wJ (wJ S9 35 23 nn) 35 24 dd)) rfl rfl rfl rfl ?_
              refine fV.if_eq bX8_sees_172 (fun c172 => ?_) (fun c172 => ?_)
              · refine fV.run iX8_sees_179_1 oX8_sees_179_1 (pc' := 180) (L' := [(0, .ref 35), (1, .int (nI si)), (2, .int (nI ei)), (3, .int (wOf l 0)), (4, .int (wOf l 1)), (5, .int (wOf l 2))]) (st' := [.int 0]) (S' := (wJ (wJ S9 35 23 nn) 35 24 dd)) rfl trivial ?_
                exact fV.iret rfl dX8_sees_180 ⟨by unfold seeN seeV; rw [if_pos hna, if_pos hh, if_neg hse], ⟨hk9.1, hk9.2.1⟩⟩
              · exact absurd c172 (by decide)
          · exact absurd c161 (by decide)
        · have hn : ¬ (hasD (gA S 38) (gA S 40 si, gA S 41 si) (gA S 43 ei, gA S 44 ei) (fnL l) l.length ∧ noAdj (fnL l) l.length) := hn
          refine fV.to (pc' := 161) (L' := [(0, .ref 35), (1, .int (nI si)), (2, .int (nI ei)), (3, .int (wOf l 0)), (4, .int (wOf l 1)), (5, .int (wOf l 2))]) (st' := [.int 0]) (S' := S9) rfl rfl rfl rfl ?_
          refine fV.if_ne bX8_sees_161 (fun c161 => ?_) (fun c161 => ?_)
          · exact absurd c161 (by decide)
          · refine fV.run iX8_sees_164_2 oX8_sees_164_2 (pc' := 180) (L' := [(0, .ref 35), (1, .int (nI si)), (2, .int (nI ei)), (3, .int (wOf l 0)), (4, .int (wOf l 1)), (5, .int (wOf l 2))]) (st' := [.int (-1)]) (S' := S9) rfl trivial ?_
            exact fV.iret rfl dX8_sees_180 ⟨by rw [see_n hn], ⟨hk9.1, hk9.2.1⟩⟩
    · refine fV.run iX8_sees_137_2 oX8_sees_137_2 (pc' := 152) (L' := [(0, .ref 35), (1, .int (nI si)), (2, .int (nI ei)), (3, .int (wOf l 0)), (4, .int (wOf l 1)), (5, .int (wOf l 2))]) (st' := [.int 1, .ref 35]) (S' := (wA (wA (wA S 51 (upd (gA S 51) (0 : Int32).toNatClampNeg (wOf l 0))) 51 (upd (upd (gA S 51) (0 : Int32).toNatClampNeg (wOf l 0)) (1 : Int32).toNatClampNeg (wOf l 1))) 51 (upd (upd (upd (gA S 51) (0 : Int32).toNatClampNeg (wOf l 0)) (1 : Int32).toNatClampNeg (wOf l 1)) (2 : Int32).toNatClampNeg (wOf l 2)))) rfl trivial ?_
      refine fV.to (L' := [(0, .ref 35), (1, .int (nI si)), (2, .int (nI ei)), (3, .int (wOf l 0)), (4, .int (wOf l 1)), (5, .int (wOf l 2))]) (st' := [.int (nI l.length), .ref 35]) rfl rfl (by rw [show (1 : Int32) = nI l.length from by (have q0 := wOf_m hk c124); (have q1 := (wOf_n hk).mp c134); rw [show l.length = 1 by omega]; rfl]) rfl ?_
      refine fV.run iX8_sees_152_4 oX8_sees_152_4 (pc' := 158) (L' := [(0, .ref 35), (1, .int (nI si)), (2, .int (nI ei)), (3, .int (wOf l 0)), (4, .int (wOf l 1)), (5, .int (wOf l 2))]) (st' := [.int (nI ei), .int (nI si), .ref 35]) (S' := (wI (wA (wA (wA S 51 (upd (gA S 51) (0 : Int32).toNatClampNeg (wOf l 0))) 51 (upd (upd (gA S 51) (0 : Int32).toNatClampNeg (wOf l 0)) (1 : Int32).toNatClampNeg (wOf l 1))) 51 (upd (upd (upd (gA S 51) (0 : Int32).toNatClampNeg (wOf l 0)) (1 : Int32).toNatClampNeg (wOf l 1)) (2 : Int32).toNatClampNeg (wOf l 2))) 35 22 (nI l.length))) rfl trivial ?_
      refine fV.callV (M2 := mX8_findBounces) (d := d + 5) (o := 35) (av := [.int (nI si), .int (nI ei)]) (rest := []) kX8_findBounces dX8_sees_158 lX8_174 rfl rfl rfl (Nat.le_of_ble_eq_true rfl) (fRoom (by decide)) ⟨Nat.le_refl _, Nat.le_refl _⟩ (qX8_bounces (S := (wI (wA (wA (wA S 51 (upd (gA S 51) (0 : Int32).toNatClampNeg (wOf l 0))) 51 (upd (upd (gA S 51) (0 : Int32).toNatClampNeg (wOf l 0)) (1 : Int32).toNatClampNeg (wOf l 1))) 51 (upd (upd (upd (gA S 51) (0 : Int32).toNatClampNeg (wOf l 0)) (1 : Int32).toNatClampNeg (wOf l 1)) (2 : Int32).toNatClampNeg (wOf l 2))) 35 22 (nI l.length))) (r := fnL l) (k := l.length) H (rowW hl hlb rfl rfl) hsi hei) ?_
      rintro _ S9 ⟨hk9, h9⟩
      have hR : rfRow (wI (wA (wA (wA S 51 (upd (gA S 51) (0 : Int32).toNatClampNeg (wOf l 0))) 51 (upd (upd (gA S 51) (0 : Int32).toNatClampNeg (wOf l 0)) (1 : Int32).toNatClampNeg (wOf l 1))) 51 (upd (upd (upd (gA S 51) (0 : Int32).toNatClampNeg (wOf l 0)) (1 : Int32).toNatClampNeg (wOf l 1)) (2 : Int32).toNatClampNeg (wOf l 2))) 35 22 (nI l.length)) b (fnL l) l.length := rowW hl hlb rfl rfl
      rcases h9 with ⟨hh, hna, rfl, LG, FR, wy⟩ | ⟨hn, rfl⟩
      · have hh : hasD (gA S 38) (gA S 40 si, gA S 41 si) (gA S 43 ei, gA S 44 ei) (fnL l) l.length := hh
        refine fV.to (pc' := 161) (L' := [(0, .ref 35), (1, .int (nI si)), (2, .int (nI ei)), (3, .int (wOf l 0)), (4, .int (wOf l 1)), (5, .int (wOf l 2))]) (st' := [.int 1]) (S' := S9) rfl rfl rfl rfl ?_
        refine fV.if_ne bX8_sees_161 (fun c161 => ?_) (fun c161 => ?_)
        · refine fV.run iX8_sees_168_1 oX8_sees_168_1 (pc' := 169) (L' := [(0, .ref 35), (1, .int (nI si)), (2, .int (nI ei)), (3, .int (wOf l 0)), (4, .int (wOf l 1)), (5, .int (wOf l 2))]) (st' := [.ref 35]) (S' := S9) rfl trivial ?_
          refine fV.callV (M2 := mX8_isSeen) (d := d + 5) (o := 35) (av := []) (rest := []) kX8_isSeen dX8_sees_169 lX8_177 rfl rfl rfl (Nat.le_of_ble_eq_true rfl) (fRoom (by decide)) ⟨Nat.le_refl _, Nat.le_refl _⟩ (qX8_seen (S := S9) (src := (gA S 40 si, gA S 41 si)) (seat := (gA S 43 ei, gA S 44 ei)) (by rw [hk9.1]; exact H) (hk9.row hR) (by rw [hk9.en]; exact LG) (by rw [hk9.en]; exact FR)) ?_
          rintro _ S8 ⟨nn, dd, rfl, h8⟩
          rw [hk9.en] at h8
          rcases h8 with ⟨hse, rfl⟩ | ⟨hse, rfl⟩
          · have hse : seenD (gA S 38) b (gA S 40 si, gA S 41 si) (gA S 43 ei, gA S 44 ei) (fnL l) l.length := hse
            refine fV.to (pc' := 172) (L' := [(0, .ref 35), (1, .int (nI si)), (2, .int (nI ei)), (3, .int (wOf l 0)), (4, .int (wOf l 1)), (5, .int (wOf l 2))]) (st' := [.int 1]) (S' := (wJ (wJ S9 35 23 nn) 35 24 dd)) rfl rfl rfl rfl ?_
            refine fV.if_eq bX8_sees_172 (fun c172 => ?_) (fun c172 => ?_)
            · exact absurd c172 (by decide)
            · refine fV.run iX8_sees_175_2 oX8_sees_175_2 (pc' := 180) (L' := [(0, .ref 35), (1, .int (nI si)), (2, .int (nI ei)), (3, .int (wOf l 0)), (4, .int (wOf l 1)), (5, .int (wOf l 2))]) (st' := [.int 1]) (S' := (wJ (wJ S9 35 23 nn) 35 24 dd)) rfl trivial ?_
              exact fV.iret rfl dX8_sees_180 ⟨by unfold seeN seeV; rw [if_pos hna, if_pos hh, if_pos hse], ⟨hk9.1, hk9.2.1⟩⟩
          · have hse : ¬ seenD (gA S 38) b (gA S 40 si, gA S 41 si) (gA S 43 ei, gA S 44 ei) (fnL l) l.length := hse
            refine fV.to (pc' := 172) (L' := [(0, .ref 35), (1, .int (nI si)), (2, .int (nI ei)), (3, .int (wOf l 0)), (4, .int (wOf l 1)), (5, .int (wOf l 2))]) (st' := [.int 0]) (S' := (wJ (wJ S9 35 23 nn) 35 24 dd)) rfl rfl rfl rfl ?_
            refine fV.if_eq bX8_sees_172 (fun c172 => ?_) (fun c172 => ?_)
            · refine fV.run iX8_sees_179_1 oX8_sees_179_1 (pc' := 180) (L' := [(0, .ref 35), (1, .int (nI si)), (2, .int (nI ei)), (3, .int (wOf l 0)), (4, .int (wOf l 1)), (5, .int (wOf l 2))]) (st' := [.int 0]) (S' := (wJ (wJ S9 35 23 nn) 35 24 dd)) rfl trivial ?_
              exact fV.iret rfl dX8_sees_180 ⟨by unfold seeN seeV; rw [if_pos hna, if_pos hh, if_neg hse], ⟨hk9.1, hk9.2.1⟩⟩
            · exact absurd c172 (by decide)
        · exact absurd c161 (by decide)
      · have hn : ¬ (hasD (gA S 38) (gA S 40 si, gA S 41 si) (gA S 43 ei, gA S 44 ei) (fnL l) l.length ∧ noAdj (fnL l) l.length) := hn
        refine fV.to (pc' := 161) (L' := [(0, .ref 35), (1, .int (nI si)), (2, .int (nI ei)), (3, .int (wOf l 0)), (4, .int (wOf l 1)), (5, .int (wOf l 2))]) (st' := [.int 0]) (S' := S9) rfl rfl rfl rfl ?_
        refine fV.if_ne bX8_sees_161 (fun c161 => ?_) (fun c161 => ?_)
        · exact absurd c161 (by decide)
        · refine fV.run iX8_sees_164_2 oX8_sees_164_2 (pc' := 180) (L' := [(0, .ref 35), (1, .int (nI si)), (2, .int (nI ei)), (3, .int (wOf l 0)), (4, .int (wOf l 1)), (5, .int (wOf l 2))]) (st' := [.int (-1)]) (S' := S9) rfl trivial ?_
          exact fV.iret rfl dX8_sees_180 ⟨by rw [see_n hn], ⟨hk9.1, hk9.2.1⟩⟩
  · refine fV.run iX8_sees_127_2 oX8_sees_127_2 (pc' := 152) (L' := [(0, .ref 35), (1, .int (nI si)), (2, .int (nI ei)), (3, .int (wOf l 0)), (4, .int (wOf l 1)), (5, .int (wOf l 2))]) (st' := [.int 0, .ref 35]) (S' := (wA (wA (wA S 51 (upd (gA S 51) (0 : Int32).toNatClampNeg (wOf l 0))) 51 (upd (upd (gA S 51) (0 : Int32).toNatClampNeg (wOf l 0)) (1 : Int32).toNatClampNeg (wOf l 1))) 51 (upd (upd (upd (gA S 51) (0 : Int32).toNatClampNeg (wOf l 0)) (1 : Int32).toNatClampNeg (wOf l 1)) (2 : Int32).toNatClampNeg (wOf l 2)))) rfl trivial ?_
    refine fV.to (L' := [(0, .ref 35), (1, .int (nI si)), (2, .int (nI ei)), (3, .int (wOf l 0)), (4, .int (wOf l 1)), (5, .int (wOf l 2))]) (st' := [.int (nI l.length), .ref 35]) rfl rfl (by rw [show (0 : Int32) = nI l.length from by (have q0 := (wOf_n hk).mp c124); rw [show l.length = 0 by omega]; rfl]) rfl ?_
    refine fV.run iX8_sees_152_4 oX8_sees_152_4 (pc' := 158) (L' := [(0, .ref 35), (1, .int (nI si)), (2, .int (nI ei)), (3, .int (wOf l 0)), (4, .int (wOf l 1)), (5, .int (wOf l 2))]) (st' := [.int (nI ei), .int (nI si), .ref 35]) (S' := (wI (wA (wA (wA S 51 (upd (gA S 51) (0 : Int32).toNatClampNeg (wOf l 0))) 51 (upd (upd (gA S 51) (0 : Int32).toNatClampNeg (wOf l 0)) (1 : Int32).toNatClampNeg (wOf l 1))) 51 (upd (upd (upd (gA S 51) (0 : Int32).toNatClampNeg (wOf l 0)) (1 : Int32).toNatClampNeg (wOf l 1)) (2 : Int32).toNatClampNeg (wOf l 2))) 35 22 (nI l.length))) rfl trivial ?_
    refine fV.callV (M2 := mX8_findBounces) (d := d + 5) (o := 35) (av := [.int (nI si), .int (nI ei)]) (rest := []) kX8_findBounces dX8_sees_158 lX8_174 rfl rfl rfl (Nat.le_of_ble_eq_true rfl) (fRoom (by decide)) ⟨Nat.le_refl _, Nat.le_refl _⟩ (qX8_bounces (S := (wI (wA (wA (wA S 51 (upd (gA S 51) (0 : Int32).toNatClampNeg (wOf l 0))) 51 (upd (upd (gA S 51) (0 : Int32).toNatClampNeg (wOf l 0)) (1 : Int32).toNatClampNeg (wOf l 1))) 51 (upd (upd (upd (gA S 51) (0 : Int32).toNatClampNeg (wOf l 0)) (1 : Int32).toNatClampNeg (wOf l 1)) (2 : Int32).toNatClampNeg (wOf l 2))) 35 22 (nI l.length))) (r := fnL l) (k := l.length) H (rowW hl hlb rfl rfl) hsi hei) ?_
    rintro _ S9 ⟨hk9, h9⟩
    have hR : rfRow (wI (wA (wA (wA S 51 (upd (gA S 51) (0 : Int32).toNatClampNeg (wOf l 0))) 51 (upd (upd (gA S 51) (0 : Int32).toNatClampNeg (wOf l 0)) (1 : Int32).toNatClampNeg (wOf l 1))) 51 (upd (upd (upd (gA S 51) (0 : Int32).toNatClampNeg (wOf l 0)) (1 : Int32).toNatClampNeg (wOf l 1)) (2 : Int32).toNatClampNeg (wOf l 2))) 35 22 (nI l.length)) b (fnL l) l.length := rowW hl hlb rfl rfl
    rcases h9 with ⟨hh, hna, rfl, LG, FR, wy⟩ | ⟨hn, rfl⟩
    · have hh : hasD (gA S 38) (gA S 40 si, gA S 41 si) (gA S 43 ei, gA S 44 ei) (fnL l) l.length := hh
      refine fV.to (pc' := 161) (L' := [(0, .ref 35), (1, .int (nI si)), (2, .int (nI ei)), (3, .int (wOf l 0)), (4, .int (wOf l 1)), (5, .int (wOf l 2))]) (st' := [.int 1]) (S' := S9) rfl rfl rfl rfl ?_
      refine fV.if_ne bX8_sees_161 (fun c161 => ?_) (fun c161 => ?_)
      · refine fV.run iX8_sees_168_1 oX8_sees_168_1 (pc' := 169) (L' := [(0, .ref 35), (1, .int (nI si)), (2, .int (nI ei)), (3, .int (wOf l 0)), (4, .int (wOf l 1)), (5, .int (wOf l 2))]) (st' := [.ref 35]) (S' := S9) rfl trivial ?_
        refine fV.callV (M2 := mX8_isSeen) (d := d + 5) (o := 35) (av := []) (rest := []) kX8_isSeen dX8_sees_169 lX8_177 rfl rfl rfl (Nat.le_of_ble_eq_true rfl) (fRoom (by decide)) ⟨Nat.le_refl _, Nat.le_refl _⟩ (qX8_seen (S := S9) (src := (gA S 40 si, gA S 41 si)) (seat := (gA S 43 ei, gA S 44 ei)) (by rw [hk9.1]; exact H) (hk9.row hR) (by rw [hk9.en]; exact LG) (by rw [hk9.en]; exact FR)) ?_
        rintro _ S8 ⟨nn, dd, rfl, h8⟩
        rw [hk9.en] at h8
        rcases h8 with ⟨hse, rfl⟩ | ⟨hse, rfl⟩
        · have hse : seenD (gA S 38) b (gA S 40 si, gA S 41 si) (gA S 43 ei, gA S 44 ei) (fnL l) l.length := hse
          refine fV.to (pc' := 172) (L' := [(0, .ref 35), (1, .int (nI si)), (2, .int (nI ei)), (3, .int (wOf l 0)), (4, .int (wOf l 1)), (5, .int (wOf l 2))]) (st' := [.int 1]) (S' := (wJ (wJ S9 35 23 nn) 35 24 dd)) rfl rfl rfl rfl ?_
          refine fV.if_eq bX8_sees_172 (fun c172 => ?_) (fun c172 => ?_)
          · exact absurd c172 (by decide)
          · refine fV.run iX8_sees_175_2 oX8_sees_175_2 (pc' := 180) (L' := [(0, .ref 35), (1, .int (nI si)), (2, .int (nI ei)), (3, .int (wOf l 0)), (4, .int (wOf l 1)), (5, .int (wOf l 2))]) (st' := [.int 1]) (S' := (wJ (wJ S9 35 23 nn) 35 24 dd)) rfl trivial ?_
            exact fV.iret rfl dX8_sees_180 ⟨by unfold seeN seeV; rw [if_pos hna, if_pos hh, if_pos hse], ⟨hk9.1, hk9.2.1⟩⟩
        · have hse : ¬ seenD (gA S 38) b (gA S 40 si, gA S 41 si) (gA S 43 ei, gA S 44 ei) (fnL l) l.length := hse
          refine fV.to (pc' := 172) (L' := [(0, .ref 35), (1, .int (nI si)), (2, .int (nI ei)), (3, .int (wOf l 0)), (4, .int (wOf l 1)), (5, .int (wOf l 2))]) (st' := [.int 0]) (S' := (wJ (wJ S9 35 23 nn) 35 24 dd)) rfl rfl rfl rfl ?_
          refine fV.if_eq bX8_sees_172 (fun c172 => ?_) (fun c172 => ?_)
          · refine fV.run iX8_sees_179_1 oX8_sees_179_1 (pc' := 180) (L' := [(0, .ref 35), (1, .int (nI si)), (2, .int (nI ei)), (3, .int (wOf l 0)), (4, .int (wOf l 1)), (5, .int (wOf l 2))]) (st' := [.int 0]) (S' := (wJ (wJ S9 35 23 nn) 35 24 dd)) rfl trivial ?_
            exact fV.iret rfl dX8_sees_180 ⟨by unfold seeN seeV; rw [if_pos hna, if_pos hh, if_neg hse], ⟨hk9.1, hk9.2.1⟩⟩
          · exact absurd c172 (by decide)
      · exact absurd c161 (by decide)
    · have hn : ¬ (hasD (gA S 38) (gA S 40 si, gA S 41 si) (gA S 43 ei, gA S 44 ei) (fnL l) l.length ∧ noAdj (fnL l) l.length) := hn
      refine fV.to (pc' := 161) (L' := [(0, .ref 35), (1, .int (nI si)), (2, .int (nI ei)), (3, .int (wOf l 0)), (4, .int (wOf l 1)), (5, .int (wOf l 2))]) (st' := [.int 0]) (S' := S9) rfl rfl rfl rfl ?_
      refine fV.if_ne bX8_sees_161 (fun c161 => ?_) (fun c161 => ?_)
      · exact absurd c161 (by decide)
      · refine fV.run iX8_sees_164_2 oX8_sees_164_2 (pc' := 180) (L' := [(0, .ref 35), (1, .int (nI si)), (2, .int (nI ei)), (3, .int (wOf l 0)), (4, .int (wOf l 1)), (5, .int (wOf l 2))]) (st' := [.int (-1)]) (S' := S9) rfl trivial ?_
        exact fV.iret rfl dX8_sees_180 ⟨by rw [see_n hn], ⟨hk9.1, hk9.2.1⟩⟩
theorem see_o {h : hH} {b : Nat} {x y p q r : Int32} (hcn : (thr h x y ∧ isW h p) ∧ (isW h q ∧ isW h r)) (hno : ¬ ((p = -1 ∧ ¬ q = -1) ∨ (q = -1 ∧ ¬ r = -1))) (hna : ((p = q ∧ ¬ q = -1) ∨ (q = r ∧ ¬ r = -1)) ↔ ¬ noAdj (fnL (wl p q r)) (wl p q r).length) : oSees h b x y p q r = seeN h.2.1.2.1 b (hSrc h x.toNatClampNeg) (hSeat h y.toNatClampNeg) (wl p q r) := by
  unfold oSees seeN
  rw [if_pos hcn, if_neg hno]
  by_cases c : (p = q ∧ ¬ q = -1) ∨ (q = r ∧ ¬ r = -1)
  · rw [if_pos c, if_neg (hna.mp c)]
  · rw [if_neg c, if_pos (Classical.byContradiction (fun z => c (hna.mpr z)))]
def iX8_sees_50_3 : List Instr := [.aload_n 0, .iload_n 1, .iload_n 2]
theorem oX8_sees_50_3 : fOkB cX8_sees 50 iX8_sees_50_3 = true := by decide +kernel
theorem dX8_sees_53 : decode cX8_sees 53 = .ok (.invokevirtual 201, 3) := by decide +kernel
theorem bX8_sees_56 : fBk cX8_sees 56 (.ifCond .eq) 64 := ⟨8, by decide +kernel, by decide⟩
def iX8_sees_64_1 : List Instr := [.sipush (-1001)]
theorem oX8_sees_64_1 : fOkB cX8_sees 64 iX8_sees_64_1 = true := by decide +kernel
theorem dX8_sees_67 : decode cX8_sees 67 = .ok (.ireturn, 1) := by decide +kernel
def iX8_sees_59_1 : List Instr := [.iload 6]
theorem oX8_sees_59_1 : fOkB cX8_sees 59 iX8_sees_59_1 = true := by decide +kernel
theorem bX8_sees_61 : fBk cX8_sees 61 (.ifCond .ne) 68 := ⟨7, by decide +kernel, by decide⟩
def iX8_sees_68_2 : List Instr := [.iload_n 3, .iconst (-1)]
theorem oX8_sees_68_2 : fOkB cX8_sees 68 iX8_sees_68_2 = true := by decide +kernel
theorem bX8_sees_70 : fBk cX8_sees 70 (.if_icmp .ne) 83 := ⟨13, by decide +kernel, by decide⟩
def iX8_sees_83_2 : List Instr := [.iload 4, .iconst (-1)]
theorem oX8_sees_83_2 : fOkB cX8_sees 83 iX8_sees_83_2 = true := by decide +kernel
theorem bX8_sees_86 : fBk cX8_sees 86 (.if_icmp .ne) 98 := ⟨12, by decide +kernel, by decide⟩
def iX8_sees_89_1 : List Instr := [.iload 5]
theorem oX8_sees_89_1 : fOkB cX8_sees 89 iX8_sees_89_1 = true := by decide +kernel
theorem bX8_sees_91 : fBk cX8_sees 91 (.ifCond .lt) 98 := ⟨7, by decide +kernel, by decide⟩
def iX8_sees_94_1 : List Instr := [.sipush (-1002)]
theorem oX8_sees_94_1 : fOkB cX8_sees 94 iX8_sees_94_1 = true := by decide +kernel
theorem dX8_sees_97 : decode cX8_sees 97 = .ok (.ireturn, 1) := by decide +kernel
def iX8_sees_73_1 : List Instr := [.iload 4]
theorem oX8_sees_73_1 : fOkB cX8_sees 73 iX8_sees_73_1 = true := by decide +kernel
theorem bX8_sees_75 : fBk cX8_sees 75 (.ifCond .ge) 94 := ⟨19, by decide +kernel, by decide⟩
def iX8_sees_78_1 : List Instr := [.iload 5]
theorem oX8_sees_78_1 : fOkB cX8_sees 78 iX8_sees_78_1 = true := by decide +kernel
theorem bX8_sees_80 : fBk cX8_sees 80 (.ifCond .ge) 94 := ⟨14, by decide +kernel, by decide⟩
set_option maxRecDepth 100000 in
theorem t2X8_sees {G : fG} {d : Nat} {S : fS} {x y p q r kn : Int32} {a b c e : Nat} (H : hOk (hD S) a b c e) (hkn : (kn = 1 ∧ isW (hD S) p ∧ isW (hD S) q ∧ isW (hD S) r) ∨ (kn = 0 ∧ ¬ (isW (hD S) p ∧ isW (hD S) q ∧ isW (hD S) r))) : fV G mX8_sees (fZm G (d + 6) (fun z S' => z = some (.int (oSees (hD S) b x y p q r)) ∧ ke S S')) 50 [(0, .ref 35), (1, .int x), (2, .int y), (3, .int p), (4, .int q), (5, .int r), (6, .int kn)] [] S := by
  have hb16 : b ≤ 16 := H.2.1.2.1
  have ha8 : a ≤ 8 := H.1.2.2.1
  have hc4 : c ≤ 4 := H.2.2.1.2.1
  have he8 : e ≤ 8 := H.2.2.2.1.2.1
  have ho0 : 0 ≤ gI S 35 6 := by rw [show gI S 35 6 = nI c from H.2.2.1.1]; exact nI_pos' (by omega)
  have he0 : 0 ≤ gI S 35 10 := by rw [show gI S 35 10 = nI e from H.2.2.2.1.1]; exact nI_pos' (by omega)
  have hw0 : 0 ≤ gI S 35 3 := by rw [show gI S 35 3 = nI b from H.2.1.1]; exact nI_pos' (by omega)
  have hm3 : gI S 35 13 ≤ 3 := H.2.2.2.2.1.2
  have hm := most_N (m := gI S 35 13) H.2.2.2.2.1.1 hm3
  refine fV.run iX8_sees_50_3 oX8_sees_50_3 (pc' := 53) (L' := [(0, .ref 35), (1, .int x), (2, .int y), (3, .int p), (4, .int q), (5, .int r), (6, .int kn)]) (st' := [.int y, .int x, .ref 35]) (S' := S) rfl trivial ?_
  refine fV.callV (M2 := mX8_areThere) (d := d + 5) (o := 35) (av := [.int x, .int y]) (rest := []) kX8_areThere dX8_sees_53 lX8_201 rfl rfl rfl (Nat.le_of_ble_eq_true rfl) (fRoom (by decide)) ⟨Nat.le_refl _, Nat.le_refl _⟩ (qX8_areThere _ _ ho0 he0) ?_
  rintro _ S9 ⟨rfl, h9⟩
  rw [h9]
  clear h9 S9
  refine fV.to (pc' := 56) (L' := [(0, .ref 35), (1, .int x), (2, .int y), (3, .int p), (4, .int q), (5, .int r), (6, .int kn)]) (st' := [.int (fB (decide ((0 ≤ x ∧ x < (gI S 35 6)) ∧ (0 ≤ y ∧ y < (gI S 35 10)))))]) (S' := S) rfl rfl rfl rfl ?_
  refine fV.if_eq bX8_sees_56 (fun c56 => ?_) (fun c56 => ?_)
  · refine fV.run iX8_sees_64_1 oX8_sees_64_1 (pc' := 67) (L' := [(0, .ref 35), (1, .int x), (2, .int y), (3, .int p), (4, .int q), (5, .int r), (6, .int kn)]) (st' := [.int (-1001)]) (S' := S) rfl trivial ?_
    exact fV.iret rfl dX8_sees_67 ⟨by unfold oSees; rw [if_neg (show ¬ ((thr (hD S) x y ∧ isW (hD S) p) ∧ (isW (hD S) q ∧ isW (hD S) r)) from by unfold thr; grind [fB, hD])], ke.rf⟩
  · refine fV.run iX8_sees_59_1 oX8_sees_59_1 (pc' := 61) (L' := [(0, .ref 35), (1, .int x), (2, .int y), (3, .int p), (4, .int q), (5, .int r), (6, .int kn)]) (st' := [.int kn]) (S' := S) rfl trivial ?_
    refine fV.if_ne bX8_sees_61 (fun c61 => ?_) (fun c61 => ?_)
    · refine fV.run iX8_sees_68_2 oX8_sees_68_2 (pc' := 70) (L' := [(0, .ref 35), (1, .int x), (2, .int y), (3, .int p), (4, .int q), (5, .int r), (6, .int kn)]) (st' := [.int (-1), .int p]) (S' := S) rfl trivial ?_
      refine fV.icmp_ne bX8_sees_70 (fun c70 => ?_) (fun c70 => ?_)
      · refine fV.run iX8_sees_83_2 oX8_sees_83_2 (pc' := 86) (L' := [(0, .ref 35), (1, .int x), (2, .int y), (3, .int p), (4, .int q), (5, .int r), (6, .int kn)]) (st' := [.int (-1), .int q]) (S' := S) rfl trivial ?_
        refine fV.icmp_ne bX8_sees_86 (fun c86 => ?_) (fun c86 => ?_)
        · have hcn := (show (thr (hD S) x y ∧ isW (hD S) p) ∧ (isW (hD S) q ∧ isW (hD S) r) from by unfold thr; grind [fB, hD])
          have hno : ¬ ((p = -1 ∧ ¬ q = -1) ∨ (q = -1 ∧ ¬ r = -1)) := by
            obtain ⟨⟨z1, z2⟩, z3, z4⟩ := hcn
            unfold isW at z2 z3 z4
            grind
          obtain ⟨w1, w2, w3, w4, w5⟩ := wl_ok H.2.1.1 hb16 hcn.1.2 hcn.2.1 hcn.2.2 hno
          have hna := na_wl w1 (fun w hw => Nat.lt_of_lt_of_le (w2 w hw) hb16)
          rw [w3, w4, w5] at hna
          rw [show oSees (hD S) b x y p q r = seeN (gA S 38) b (hSrc (hD S) x.toNatClampNeg) (hSeat (hD S) y.toNatClampNeg) (wl p q r) from see_o hcn hno hna]
          generalize wl p q r = l at *
          subst w3 w4 w5
          obtain ⟨si, hsi, rfl⟩ := n_in (x := x) (n := c) (by omega) hcn.1.1.1.1 (by rw [← show (hD S).2.2.1.1 = nI c from H.2.2.1.1]; exact hcn.1.1.1.2)
          obtain ⟨ei, hei, rfl⟩ := n_in (x := y) (n := e) (by omega) hcn.1.1.2.1 (by rw [← show (hD S).2.2.2.1.1 = nI e from H.2.2.2.1.1]; exact hcn.1.1.2.2)
          rw [nI_clamp (by omega), nI_clamp (by omega)]
          refine fV.pick (L' := [(0, .ref 35), (1, .int (nI si)), (2, .int (nI ei)), (3, .int (wOf l 0)), (4, .int (wOf l 1)), (5, .int (wOf l 2))]) [0, 1, 2, 3, 4, 5] rfl ?_
          exact tlX8_sees H hsi hei w1 w2
        · refine fV.run iX8_sees_89_1 oX8_sees_89_1 (pc' := 91) (L' := [(0, .ref 35), (1, .int x), (2, .int y), (3, .int p), (4, .int q), (5, .int r), (6, .int kn)]) (st' := [.int r]) (S' := S) rfl trivial ?_
          refine fV.if_lt bX8_sees_91 (fun c91 => ?_) (fun c91 => ?_)
          · have hcn := (show (thr (hD S) x y ∧ isW (hD S) p) ∧ (isW (hD S) q ∧ isW (hD S) r) from by unfold thr; grind [fB, hD])
            have hno : ¬ ((p = -1 ∧ ¬ q = -1) ∨ (q = -1 ∧ ¬ r = -1)) := by
              obtain ⟨⟨z1, z2⟩, z3, z4⟩ := hcn
              unfold isW at z2 z3 z4
              grind
            obtain ⟨w1, w2, w3, w4, w5⟩ := wl_ok H.2.1.1 hb16 hcn.1.2 hcn.2.1 hcn.2.2 hno
            have hna := na_wl w1 (fun w hw => Nat.lt_of_lt_of_le (w2 w hw) hb16)
            rw [w3, w4, w5] at hna
            rw [show oSees (hD S) b x y p q r = seeN (gA S 38) b (hSrc (hD S) x.toNatClampNeg) (hSeat (hD S) y.toNatClampNeg) (wl p q r) from see_o hcn hno hna]
            generalize wl p q r = l at *
            subst w3 w4 w5
            obtain ⟨si, hsi, rfl⟩ := n_in (x := x) (n := c) (by omega) hcn.1.1.1.1 (by rw [← show (hD S).2.2.1.1 = nI c from H.2.2.1.1]; exact hcn.1.1.1.2)
            obtain ⟨ei, hei, rfl⟩ := n_in (x := y) (n := e) (by omega) hcn.1.1.2.1 (by rw [← show (hD S).2.2.2.1.1 = nI e from H.2.2.2.1.1]; exact hcn.1.1.2.2)
            rw [nI_clamp (by omega), nI_clamp (by omega)]
            refine fV.pick (L' := [(0, .ref 35), (1, .int (nI si)), (2, .int (nI ei)), (3, .int (wOf l 0)), (4, .int (wOf l 1)), (5, .int (wOf l 2))]) [0, 1, 2, 3, 4, 5] rfl ?_
            exact tlX8_sees H hsi hei w1 w2
          · refine fV.run iX8_sees_94_1 oX8_sees_94_1 (pc' := 97) (L' := [(0, .ref 35), (1, .int x), (2, .int y), (3, .int p), (4, .int q), (5, .int r), (6, .int kn)]) (st' := [.int (-1002)]) (S' := S) rfl trivial ?_
            exact fV.iret rfl dX8_sees_97 ⟨by (have hcn := (show (thr (hD S) x y ∧ isW (hD S) p) ∧ (isW (hD S) q ∧ isW (hD S) r) from by unfold thr; grind [fB, hD])); (obtain ⟨⟨z1, z2⟩, z3, z4⟩ := hcn); unfold isW at z2 z3 z4; unfold oSees; rw [if_pos (show (thr (hD S) x y ∧ isW (hD S) p) ∧ (isW (hD S) q ∧ isW (hD S) r) from by unfold thr; grind [fB, hD]), if_pos (by grind)], ke.rf⟩
      · refine fV.run iX8_sees_73_1 oX8_sees_73_1 (pc' := 75) (L' := [(0, .ref 35), (1, .int x), (2, .int y), (3, .int p), (4, .int q), (5, .int r), (6, .int kn)]) (st' := [.int q]) (S' := S) rfl trivial ?_
        refine fV.if_ge bX8_sees_75 (fun c75 => ?_) (fun c75 => ?_)
        · refine fV.run iX8_sees_94_1 oX8_sees_94_1 (pc' := 97) (L' := [(0, .ref 35), (1, .int x), (2, .int y), (3, .int p), (4, .int q), (5, .int r), (6, .int kn)]) (st' := [.int (-1002)]) (S' := S) rfl trivial ?_
          exact fV.iret rfl dX8_sees_97 ⟨by (have hcn := (show (thr (hD S) x y ∧ isW (hD S) p) ∧ (isW (hD S) q ∧ isW (hD S) r) from by unfold thr; grind [fB, hD])); (obtain ⟨⟨z1, z2⟩, z3, z4⟩ := hcn); unfold isW at z2 z3 z4; unfold oSees; rw [if_pos (show (thr (hD S) x y ∧ isW (hD S) p) ∧ (isW (hD S) q ∧ isW (hD S) r) from by unfold thr; grind [fB, hD]), if_pos (by grind)], ke.rf⟩
        · refine fV.run iX8_sees_78_1 oX8_sees_78_1 (pc' := 80) (L' := [(0, .ref 35), (1, .int x), (2, .int y), (3, .int p), (4, .int q), (5, .int r), (6, .int kn)]) (st' := [.int r]) (S' := S) rfl trivial ?_
          refine fV.if_ge bX8_sees_80 (fun c80 => ?_) (fun c80 => ?_)
          · refine fV.run iX8_sees_94_1 oX8_sees_94_1 (pc' := 97) (L' := [(0, .ref 35), (1, .int x), (2, .int y), (3, .int p), (4, .int q), (5, .int r), (6, .int kn)]) (st' := [.int (-1002)]) (S' := S) rfl trivial ?_
            exact fV.iret rfl dX8_sees_97 ⟨by (have hcn := (show (thr (hD S) x y ∧ isW (hD S) p) ∧ (isW (hD S) q ∧ isW (hD S) r) from by unfold thr; grind [fB, hD])); (obtain ⟨⟨z1, z2⟩, z3, z4⟩ := hcn); unfold isW at z2 z3 z4; unfold oSees; rw [if_pos (show (thr (hD S) x y ∧ isW (hD S) p) ∧ (isW (hD S) q ∧ isW (hD S) r) from by unfold thr; grind [fB, hD]), if_pos (by grind)], ke.rf⟩
          · refine fV.run iX8_sees_83_2 oX8_sees_83_2 (pc' := 86) (L' := [(0, .ref 35), (1, .int x), (2, .int y), (3, .int p), (4, .int q), (5, .int r), (6, .int kn)]) (st' := [.int (-1), .int q]) (S' := S) rfl trivial ?_
            refine fV.icmp_ne bX8_sees_86 (fun c86 => ?_) (fun c86 => ?_)
            · have hcn := (show (thr (hD S) x y ∧ isW (hD S) p) ∧ (isW (hD S) q ∧ isW (hD S) r) from by unfold thr; grind [fB, hD])
              have hno : ¬ ((p = -1 ∧ ¬ q = -1) ∨ (q = -1 ∧ ¬ r = -1)) := by
                obtain ⟨⟨z1, z2⟩, z3, z4⟩ := hcn
                unfold isW at z2 z3 z4
                grind
              obtain ⟨w1, w2, w3, w4, w5⟩ := wl_ok H.2.1.1 hb16 hcn.1.2 hcn.2.1 hcn.2.2 hno
              have hna := na_wl w1 (fun w hw => Nat.lt_of_lt_of_le (w2 w hw) hb16)
              rw [w3, w4, w5] at hna
              rw [show oSees (hD S) b x y p q r = seeN (gA S 38) b (hSrc (hD S) x.toNatClampNeg) (hSeat (hD S) y.toNatClampNeg) (wl p q r) from see_o hcn hno hna]
              generalize wl p q r = l at *
              subst w3 w4 w5
              obtain ⟨si, hsi, rfl⟩ := n_in (x := x) (n := c) (by omega) hcn.1.1.1.1 (by rw [← show (hD S).2.2.1.1 = nI c from H.2.2.1.1]; exact hcn.1.1.1.2)
              obtain ⟨ei, hei, rfl⟩ := n_in (x := y) (n := e) (by omega) hcn.1.1.2.1 (by rw [← show (hD S).2.2.2.1.1 = nI e from H.2.2.2.1.1]; exact hcn.1.1.2.2)
              rw [nI_clamp (by omega), nI_clamp (by omega)]
              refine fV.pick (L' := [(0, .ref 35), (1, .int (nI si)), (2, .int (nI ei)), (3, .int (wOf l 0)), (4, .int (wOf l 1)), (5, .int (wOf l 2))]) [0, 1, 2, 3, 4, 5] rfl ?_
              exact tlX8_sees H hsi hei w1 w2
            · refine fV.run iX8_sees_89_1 oX8_sees_89_1 (pc' := 91) (L' := [(0, .ref 35), (1, .int x), (2, .int y), (3, .int p), (4, .int q), (5, .int r), (6, .int kn)]) (st' := [.int r]) (S' := S) rfl trivial ?_
              refine fV.if_lt bX8_sees_91 (fun c91 => ?_) (fun c91 => ?_)
              · have hcn := (show (thr (hD S) x y ∧ isW (hD S) p) ∧ (isW (hD S) q ∧ isW (hD S) r) from by unfold thr; grind [fB, hD])
                have hno : ¬ ((p = -1 ∧ ¬ q = -1) ∨ (q = -1 ∧ ¬ r = -1)) := by
                  obtain ⟨⟨z1, z2⟩, z3, z4⟩ := hcn
                  unfold isW at z2 z3 z4
                  grind
                obtain ⟨w1, w2, w3, w4, w5⟩ := wl_ok H.2.1.1 hb16 hcn.1.2 hcn.2.1 hcn.2.2 hno
                have hna := na_wl w1 (fun w hw => Nat.lt_of_lt_of_le (w2 w hw) hb16)
                rw [w3, w4, w5] at hna
                rw [show oSees (hD S) b x y p q r = seeN (gA S 38) b (hSrc (hD S) x.toNatClampNeg) (hSeat (hD S) y.toNatClampNeg) (wl p q r) from see_o hcn hno hna]
                generalize wl p q r = l at *
                subst w3 w4 w5
                obtain ⟨si, hsi, rfl⟩ := n_in (x := x) (n := c) (by omega) hcn.1.1.1.1 (by rw [← show (hD S).2.2.1.1 = nI c from H.2.2.1.1]; exact hcn.1.1.1.2)
                obtain ⟨ei, hei, rfl⟩ := n_in (x := y) (n := e) (by omega) hcn.1.1.2.1 (by rw [← show (hD S).2.2.2.1.1 = nI e from H.2.2.2.1.1]; exact hcn.1.1.2.2)
                rw [nI_clamp (by omega), nI_clamp (by omega)]
                refine fV.pick (L' := [(0, .ref 35), (1, .int (nI si)), (2, .int (nI ei)), (3, .int (wOf l 0)), (4, .int (wOf l 1)), (5, .int (wOf l 2))]) [0, 1, 2, 3, 4, 5] rfl ?_
                exact tlX8_sees H hsi hei w1 w2
              · refine fV.run iX8_sees_94_1 oX8_sees_94_1 (pc' := 97) (L' := [(0, .ref 35), (1, .int x), (2, .int y), (3, .int p), (4, .int q), (5, .int r), (6, .int kn)]) (st' := [.int (-1002)]) (S' := S) rfl trivial ?_
                exact fV.iret rfl dX8_sees_97 ⟨by (have hcn := (show (thr (hD S) x y ∧ isW (hD S) p) ∧ (isW (hD S) q ∧ isW (hD S) r) from by unfold thr; grind [fB, hD])); (obtain ⟨⟨z1, z2⟩, z3, z4⟩ := hcn); unfold isW at z2 z3 z4; unfold oSees; rw [if_pos (show (thr (hD S) x y ∧ isW (hD S) p) ∧ (isW (hD S) q ∧ isW (hD S) r) from by unfold thr; grind [fB, hD]), if_pos (by grind)], ke.rf⟩
    · refine fV.run iX8_sees_64_1 oX8_sees_64_1 (pc' := 67) (L' := [(0, .ref 35), (1, .int x), (2, .int y), (3, .int p), (4, .int q), (5, .int r), (6, .int kn)]) (st' := [.int (-1001)]) (S' := S) rfl trivial ?_
      exact fV.iret rfl dX8_sees_67 ⟨by unfold oSees; rw [if_neg (show ¬ ((thr (hD S) x y ∧ isW (hD S) p) ∧ (isW (hD S) q ∧ isW (hD S) r)) from by unfold thr; grind [fB, hD])], ke.rf⟩
def iX8_sees_0_2 : List Instr := [.iload_n 3, .iconst (-1)]
theorem oX8_sees_0_2 : fOkB cX8_sees 0 iX8_sees_0_2 = true := by decide +kernel
theorem bX8_sees_2 : fBk cX8_sees 2 (.if_icmp .eq) 13 := ⟨11, by decide +kernel, by decide⟩
def iX8_sees_13_2 : List Instr := [.iload 4, .iconst (-1)]
theorem oX8_sees_13_2 : fOkB cX8_sees 13 iX8_sees_13_2 = true := by decide +kernel
theorem bX8_sees_16 : fBk cX8_sees 16 (.if_icmp .eq) 28 := ⟨12, by decide +kernel, by decide⟩
def iX8_sees_28_2 : List Instr := [.iload 5, .iconst (-1)]
theorem oX8_sees_28_2 : fOkB cX8_sees 28 iX8_sees_28_2 = true := by decide +kernel
theorem bX8_sees_31 : fBk cX8_sees 31 (.if_icmp .eq) 43 := ⟨12, by decide +kernel, by decide⟩
def iX8_sees_43_3 : List Instr := [.iconst 1, .goto 4, .istore 6]
theorem oX8_sees_43_3 : fOkB cX8_sees 43 iX8_sees_43_3 = true := by decide +kernel
def iX8_sees_34_2 : List Instr := [.aload_n 0, .iload 5]
theorem oX8_sees_34_2 : fOkB cX8_sees 34 iX8_sees_34_2 = true := by decide +kernel
theorem dX8_sees_37 : decode cX8_sees 37 = .ok (.invokevirtual 100, 3) := by decide +kernel
theorem bX8_sees_40 : fBk cX8_sees 40 (.ifCond .eq) 47 := ⟨7, by decide +kernel, by decide⟩
def iX8_sees_47_2 : List Instr := [.iconst 0, .istore 6]
theorem oX8_sees_47_2 : fOkB cX8_sees 47 iX8_sees_47_2 = true := by decide +kernel
def iX8_sees_19_2 : List Instr := [.aload_n 0, .iload 4]
theorem oX8_sees_19_2 : fOkB cX8_sees 19 iX8_sees_19_2 = true := by decide +kernel
theorem dX8_sees_22 : decode cX8_sees 22 = .ok (.invokevirtual 100, 3) := by decide +kernel
theorem bX8_sees_25 : fBk cX8_sees 25 (.ifCond .eq) 47 := ⟨22, by decide +kernel, by decide⟩
def iX8_sees_5_2 : List Instr := [.aload_n 0, .iload_n 3]
theorem oX8_sees_5_2 : fOkB cX8_sees 5 iX8_sees_5_2 = true := by decide +kernel
theorem dX8_sees_7 : decode cX8_sees 7 = .ok (.invokevirtual 100, 3) := by decide +kernel
theorem bX8_sees_10 : fBk cX8_sees 10 (.ifCond .eq) 47 := ⟨37, by decide +kernel, by decide⟩
set_option maxRecDepth 100000 in
theorem qX8_sees {G : fG} {d : Nat} {S : fS} (x y p q r : Int32) {a b c e : Nat} (H : hOk (hD S) a b c e) : fCtr G (d + 6) mX8_sees [.ref 35, .int x, .int y, .int p, .int q, .int r] S (fun z S' => z = some (.int (oSees (hD S) b x y p q r)) ∧ ke S S') := by
  refine fCtr.of bXX8_sees (Nat.le_of_ble_eq_true rfl) rfl ?_
  have hb16 : b ≤ 16 := H.2.1.2.1
  have ha8 : a ≤ 8 := H.1.2.2.1
  have hc4 : c ≤ 4 := H.2.2.1.2.1
  have he8 : e ≤ 8 := H.2.2.2.1.2.1
  have ho0 : 0 ≤ gI S 35 6 := by rw [show gI S 35 6 = nI c from H.2.2.1.1]; exact nI_pos' (by omega)
  have he0 : 0 ≤ gI S 35 10 := by rw [show gI S 35 10 = nI e from H.2.2.2.1.1]; exact nI_pos' (by omega)
  have hw0 : 0 ≤ gI S 35 3 := by rw [show gI S 35 3 = nI b from H.2.1.1]; exact nI_pos' (by omega)
  have hm3 : gI S 35 13 ≤ 3 := H.2.2.2.2.1.2
  have hm := most_N (m := gI S 35 13) H.2.2.2.2.1.1 hm3
  refine fV.run iX8_sees_0_2 oX8_sees_0_2 (pc' := 2) (L' := [(0, .ref 35), (1, .int x), (2, .int y), (3, .int p), (4, .int q), (5, .int r)]) (st' := [.int (-1), .int p]) (S' := S) rfl trivial ?_
  refine fV.icmp_eq bX8_sees_2 (fun c2 => ?_) (fun c2 => ?_)
  · refine fV.run iX8_sees_13_2 oX8_sees_13_2 (pc' := 16) (L' := [(0, .ref 35), (1, .int x), (2, .int y), (3, .int p), (4, .int q), (5, .int r)]) (st' := [.int (-1), .int q]) (S' := S) rfl trivial ?_
    refine fV.icmp_eq bX8_sees_16 (fun c16 => ?_) (fun c16 => ?_)
    · refine fV.run iX8_sees_28_2 oX8_sees_28_2 (pc' := 31) (L' := [(0, .ref 35), (1, .int x), (2, .int y), (3, .int p), (4, .int q), (5, .int r)]) (st' := [.int (-1), .int r]) (S' := S) rfl trivial ?_
      refine fV.icmp_eq bX8_sees_31 (fun c31 => ?_) (fun c31 => ?_)
      · refine fV.run iX8_sees_43_3 oX8_sees_43_3 (pc' := 50) (L' := [(0, .ref 35), (1, .int x), (2, .int y), (3, .int p), (4, .int q), (5, .int r), (6, .int 1)]) (st' := []) (S' := S) rfl trivial ?_
        exact t2X8_sees H (Or.inl ⟨rfl, by unfold isW; grind [fB, hD]⟩)
      · refine fV.run iX8_sees_34_2 oX8_sees_34_2 (pc' := 37) (L' := [(0, .ref 35), (1, .int x), (2, .int y), (3, .int p), (4, .int q), (5, .int r)]) (st' := [.int r, .ref 35]) (S' := S) rfl trivial ?_
        refine fV.callV (M2 := mX8_isWall) (d := d + 5) (o := 35) (av := [.int r]) (rest := []) kX8_isWall dX8_sees_37 lX8_100 rfl rfl rfl (Nat.le_of_ble_eq_true rfl) (fRoom (by decide)) ⟨Nat.le_refl _, Nat.le_refl _⟩ (qX8_isWall _ hw0) ?_
        rintro _ S9 ⟨rfl, h9⟩
        rw [h9]
        clear h9 S9
        refine fV.to (pc' := 40) (L' := [(0, .ref 35), (1, .int x), (2, .int y), (3, .int p), (4, .int q), (5, .int r)]) (st' := [.int (fB (decide (0 ≤ r ∧ r < (gI S 35 3))))]) (S' := S) rfl rfl rfl rfl ?_
        refine fV.if_eq bX8_sees_40 (fun c40 => ?_) (fun c40 => ?_)
        · refine fV.run iX8_sees_47_2 oX8_sees_47_2 (pc' := 50) (L' := [(0, .ref 35), (1, .int x), (2, .int y), (3, .int p), (4, .int q), (5, .int r), (6, .int 0)]) (st' := []) (S' := S) rfl trivial ?_
          exact t2X8_sees H (Or.inr ⟨rfl, by unfold isW; grind [fB, hD]⟩)
        · refine fV.run iX8_sees_43_3 oX8_sees_43_3 (pc' := 50) (L' := [(0, .ref 35), (1, .int x), (2, .int y), (3, .int p), (4, .int q), (5, .int r), (6, .int 1)]) (st' := []) (S' := S) rfl trivial ?_
          exact t2X8_sees H (Or.inl ⟨rfl, by unfold isW; grind [fB, hD]⟩)
    · refine fV.run iX8_sees_19_2 oX8_sees_19_2 (pc' := 22) (L' := [(0, .ref 35), (1, .int x), (2, .int y), (3, .int p), (4, .int q), (5, .int r)]) (st' := [.int q, .ref 35]) (S' := S) rfl trivial ?_
      refine fV.callV (M2 := mX8_isWall) (d := d + 5) (o := 35) (av := [.int q]) (rest := []) kX8_isWall dX8_sees_22 lX8_100 rfl rfl rfl (Nat.le_of_ble_eq_true rfl) (fRoom (by decide)) ⟨Nat.le_refl _, Nat.le_refl _⟩ (qX8_isWall _ hw0) ?_
      rintro _ S9 ⟨rfl, h9⟩
      rw [h9]
      clear h9 S9
      refine fV.to (pc' := 25) (L' := [(0, .ref 35), (1, .int x), (2, .int y), (3, .int p), (4, .int q), (5, .int r)]) (st' := [.int (fB (decide (0 ≤ q ∧ q < (gI S 35 3))))]) (S' := S) rfl rfl rfl rfl ?_
      refine fV.if_eq bX8_sees_25 (fun c25 => ?_) (fun c25 => ?_)
      · refine fV.run iX8_sees_47_2 oX8_sees_47_2 (pc' := 50) (L' := [(0, .ref 35), (1, .int x), (2, .int y), (3, .int p), (4, .int q), (5, .int r), (6, .int 0)]) (st' := []) (S' := S) rfl trivial ?_
        exact t2X8_sees H (Or.inr ⟨rfl, by unfold isW; grind [fB, hD]⟩)
      · refine fV.run iX8_sees_28_2 oX8_sees_28_2 (pc' := 31) (L' := [(0, .ref 35), (1, .int x), (2, .int y), (3, .int p), (4, .int q), (5, .int r)]) (st' := [.int (-1), .int r]) (S' := S) rfl trivial ?_
        refine fV.icmp_eq bX8_sees_31 (fun c31 => ?_) (fun c31 => ?_)
        · refine fV.run iX8_sees_43_3 oX8_sees_43_3 (pc' := 50) (L' := [(0, .ref 35), (1, .int x), (2, .int y), (3, .int p), (4, .int q), (5, .int r), (6, .int 1)]) (st' := []) (S' := S) rfl trivial ?_
          exact t2X8_sees H (Or.inl ⟨rfl, by unfold isW; grind [fB, hD]⟩)
        · refine fV.run iX8_sees_34_2 oX8_sees_34_2 (pc' := 37) (L' := [(0, .ref 35), (1, .int x), (2, .int y), (3, .int p), (4, .int q), (5, .int r)]) (st' := [.int r, .ref 35]) (S' := S) rfl trivial ?_
          refine fV.callV (M2 := mX8_isWall) (d := d + 5) (o := 35) (av := [.int r]) (rest := []) kX8_isWall dX8_sees_37 lX8_100 rfl rfl rfl (Nat.le_of_ble_eq_true rfl) (fRoom (by decide)) ⟨Nat.le_refl _, Nat.le_refl _⟩ (qX8_isWall _ hw0) ?_
          rintro _ S9 ⟨rfl, h9⟩
          rw [h9]
          clear h9 S9
          refine fV.to (pc' := 40) (L' := [(0, .ref 35), (1, .int x), (2, .int y), (3, .int p), (4, .int q), (5, .int r)]) (st' := [.int (fB (decide (0 ≤ r ∧ r < (gI S 35 3))))]) (S' := S) rfl rfl rfl rfl ?_
          refine fV.if_eq bX8_sees_40 (fun c40 => ?_) (fun c40 => ?_)
          · refine fV.run iX8_sees_47_2 oX8_sees_47_2 (pc' := 50) (L' := [(0, .ref 35), (1, .int x), (2, .int y), (3, .int p), (4, .int q), (5, .int r), (6, .int 0)]) (st' := []) (S' := S) rfl trivial ?_
            exact t2X8_sees H (Or.inr ⟨rfl, by unfold isW; grind [fB, hD]⟩)
          · refine fV.run iX8_sees_43_3 oX8_sees_43_3 (pc' := 50) (L' := [(0, .ref 35), (1, .int x), (2, .int y), (3, .int p), (4, .int q), (5, .int r), (6, .int 1)]) (st' := []) (S' := S) rfl trivial ?_
            exact t2X8_sees H (Or.inl ⟨rfl, by unfold isW; grind [fB, hD]⟩)
  · refine fV.run iX8_sees_5_2 oX8_sees_5_2 (pc' := 7) (L' := [(0, .ref 35), (1, .int x), (2, .int y), (3, .int p), (4, .int q), (5, .int r)]) (st' := [.int p, .ref 35]) (S' := S) rfl trivial ?_
    refine fV.callV (M2 := mX8_isWall) (d := d + 5) (o := 35) (av := [.int p]) (rest := []) kX8_isWall dX8_sees_7 lX8_100 rfl rfl rfl (Nat.le_of_ble_eq_true rfl) (fRoom (by decide)) ⟨Nat.le_refl _, Nat.le_refl _⟩ (qX8_isWall _ hw0) ?_
    rintro _ S9 ⟨rfl, h9⟩
    rw [h9]
    clear h9 S9
    refine fV.to (pc' := 10) (L' := [(0, .ref 35), (1, .int x), (2, .int y), (3, .int p), (4, .int q), (5, .int r)]) (st' := [.int (fB (decide (0 ≤ p ∧ p < (gI S 35 3))))]) (S' := S) rfl rfl rfl rfl ?_
    refine fV.if_eq bX8_sees_10 (fun c10 => ?_) (fun c10 => ?_)
    · refine fV.run iX8_sees_47_2 oX8_sees_47_2 (pc' := 50) (L' := [(0, .ref 35), (1, .int x), (2, .int y), (3, .int p), (4, .int q), (5, .int r), (6, .int 0)]) (st' := []) (S' := S) rfl trivial ?_
      exact t2X8_sees H (Or.inr ⟨rfl, by unfold isW; grind [fB, hD]⟩)
    · refine fV.run iX8_sees_13_2 oX8_sees_13_2 (pc' := 16) (L' := [(0, .ref 35), (1, .int x), (2, .int y), (3, .int p), (4, .int q), (5, .int r)]) (st' := [.int (-1), .int q]) (S' := S) rfl trivial ?_
      refine fV.icmp_eq bX8_sees_16 (fun c16 => ?_) (fun c16 => ?_)
      · refine fV.run iX8_sees_28_2 oX8_sees_28_2 (pc' := 31) (L' := [(0, .ref 35), (1, .int x), (2, .int y), (3, .int p), (4, .int q), (5, .int r)]) (st' := [.int (-1), .int r]) (S' := S) rfl trivial ?_
        refine fV.icmp_eq bX8_sees_31 (fun c31 => ?_) (fun c31 => ?_)
        · refine fV.run iX8_sees_43_3 oX8_sees_43_3 (pc' := 50) (L' := [(0, .ref 35), (1, .int x), (2, .int y), (3, .int p), (4, .int q), (5, .int r), (6, .int 1)]) (st' := []) (S' := S) rfl trivial ?_
          exact t2X8_sees H (Or.inl ⟨rfl, by unfold isW; grind [fB, hD]⟩)
        · refine fV.run iX8_sees_34_2 oX8_sees_34_2 (pc' := 37) (L' := [(0, .ref 35), (1, .int x), (2, .int y), (3, .int p), (4, .int q), (5, .int r)]) (st' := [.int r, .ref 35]) (S' := S) rfl trivial ?_
          refine fV.callV (M2 := mX8_isWall) (d := d + 5) (o := 35) (av := [.int r]) (rest := []) kX8_isWall dX8_sees_37 lX8_100 rfl rfl rfl (Nat.le_of_ble_eq_true rfl) (fRoom (by decide)) ⟨Nat.le_refl _, Nat.le_refl _⟩ (qX8_isWall _ hw0) ?_
          rintro _ S9 ⟨rfl, h9⟩
          rw [h9]
          clear h9 S9
          refine fV.to (pc' := 40) (L' := [(0, .ref 35), (1, .int x), (2, .int y), (3, .int p), (4, .int q), (5, .int r)]) (st' := [.int (fB (decide (0 ≤ r ∧ r < (gI S 35 3))))]) (S' := S) rfl rfl rfl rfl ?_
          refine fV.if_eq bX8_sees_40 (fun c40 => ?_) (fun c40 => ?_)
          · refine fV.run iX8_sees_47_2 oX8_sees_47_2 (pc' := 50) (L' := [(0, .ref 35), (1, .int x), (2, .int y), (3, .int p), (4, .int q), (5, .int r), (6, .int 0)]) (st' := []) (S' := S) rfl trivial ?_
            exact t2X8_sees H (Or.inr ⟨rfl, by unfold isW; grind [fB, hD]⟩)
          · refine fV.run iX8_sees_43_3 oX8_sees_43_3 (pc' := 50) (L' := [(0, .ref 35), (1, .int x), (2, .int y), (3, .int p), (4, .int q), (5, .int r), (6, .int 1)]) (st' := []) (S' := S) rfl trivial ?_
            exact t2X8_sees H (Or.inl ⟨rfl, by unfold isW; grind [fB, hD]⟩)
      · refine fV.run iX8_sees_19_2 oX8_sees_19_2 (pc' := 22) (L' := [(0, .ref 35), (1, .int x), (2, .int y), (3, .int p), (4, .int q), (5, .int r)]) (st' := [.int q, .ref 35]) (S' := S) rfl trivial ?_
        refine fV.callV (M2 := mX8_isWall) (d := d + 5) (o := 35) (av := [.int q]) (rest := []) kX8_isWall dX8_sees_22 lX8_100 rfl rfl rfl (Nat.le_of_ble_eq_true rfl) (fRoom (by decide)) ⟨Nat.le_refl _, Nat.le_refl _⟩ (qX8_isWall _ hw0) ?_
        rintro _ S9 ⟨rfl, h9⟩
        rw [h9]
        clear h9 S9
        refine fV.to (pc' := 25) (L' := [(0, .ref 35), (1, .int x), (2, .int y), (3, .int p), (4, .int q), (5, .int r)]) (st' := [.int (fB (decide (0 ≤ q ∧ q < (gI S 35 3))))]) (S' := S) rfl rfl rfl rfl ?_
        refine fV.if_eq bX8_sees_25 (fun c25 => ?_) (fun c25 => ?_)
        · refine fV.run iX8_sees_47_2 oX8_sees_47_2 (pc' := 50) (L' := [(0, .ref 35), (1, .int x), (2, .int y), (3, .int p), (4, .int q), (5, .int r), (6, .int 0)]) (st' := []) (S' := S) rfl trivial ?_
          exact t2X8_sees H (Or.inr ⟨rfl, by unfold isW; grind [fB, hD]⟩)
        · refine fV.run iX8_sees_28_2 oX8_sees_28_2 (pc' := 31) (L' := [(0, .ref 35), (1, .int x), (2, .int y), (3, .int p), (4, .int q), (5, .int r)]) (st' := [.int (-1), .int r]) (S' := S) rfl trivial ?_
          refine fV.icmp_eq bX8_sees_31 (fun c31 => ?_) (fun c31 => ?_)
          · refine fV.run iX8_sees_43_3 oX8_sees_43_3 (pc' := 50) (L' := [(0, .ref 35), (1, .int x), (2, .int y), (3, .int p), (4, .int q), (5, .int r), (6, .int 1)]) (st' := []) (S' := S) rfl trivial ?_
            exact t2X8_sees H (Or.inl ⟨rfl, by unfold isW; grind [fB, hD]⟩)
          · refine fV.run iX8_sees_34_2 oX8_sees_34_2 (pc' := 37) (L' := [(0, .ref 35), (1, .int x), (2, .int y), (3, .int p), (4, .int q), (5, .int r)]) (st' := [.int r, .ref 35]) (S' := S) rfl trivial ?_
            refine fV.callV (M2 := mX8_isWall) (d := d + 5) (o := 35) (av := [.int r]) (rest := []) kX8_isWall dX8_sees_37 lX8_100 rfl rfl rfl (Nat.le_of_ble_eq_true rfl) (fRoom (by decide)) ⟨Nat.le_refl _, Nat.le_refl _⟩ (qX8_isWall _ hw0) ?_
            rintro _ S9 ⟨rfl, h9⟩
            rw [h9]
            clear h9 S9
            refine fV.to (pc' := 40) (L' := [(0, .ref 35), (1, .int x), (2, .int y), (3, .int p), (4, .int q), (5, .int r)]) (st' := [.int (fB (decide (0 ≤ r ∧ r < (gI S 35 3))))]) (S' := S) rfl rfl rfl rfl ?_
            refine fV.if_eq bX8_sees_40 (fun c40 => ?_) (fun c40 => ?_)
            · refine fV.run iX8_sees_47_2 oX8_sees_47_2 (pc' := 50) (L' := [(0, .ref 35), (1, .int x), (2, .int y), (3, .int p), (4, .int q), (5, .int r), (6, .int 0)]) (st' := []) (S' := S) rfl trivial ?_
              exact t2X8_sees H (Or.inr ⟨rfl, by unfold isW; grind [fB, hD]⟩)
            · refine fV.run iX8_sees_43_3 oX8_sees_43_3 (pc' := 50) (L' := [(0, .ref 35), (1, .int x), (2, .int y), (3, .int p), (4, .int q), (5, .int r), (6, .int 1)]) (st' := []) (S' := S) rfl trivial ?_
              exact t2X8_sees H (Or.inl ⟨rfl, by unfold isW; grind [fB, hD]⟩)

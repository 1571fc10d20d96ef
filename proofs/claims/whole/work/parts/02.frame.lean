/-! THE FRAME: a small machine over numbers (a heap of fixed cells), and that the JVM does what it does. -/
/-- a half of the state: int fields (cell, slot), long fields, int arrays (cell, place), long arrays -/
abbrev fH : Type := (Nat → Nat → Int32) × (Nat → Nat → Int64) × (Nat → Nat → Int32) × (Nat → Nat → Int64)
/-- the state: the half of the landed program (cells below 35), the half of the reference -/
abbrev fS : Type := fH × fH
def fup {α : Type} (f : Nat → α) (k : Nat) (x : α) : Nat → α := fun j => if j = k then x else f j
theorem fup_s {α : Type} (f : Nat → α) (k : Nat) (x : α) : fup f k x k = x := if_pos rfl
theorem fup_n {α : Type} (f : Nat → α) {k j : Nat} (x : α) (h : j ≠ k) : fup f k x j = f j := if_neg h
def gI (S : fS) (o k : Nat) : Int32 := bif Nat.blt o 35 then S.1.1 o k else S.2.1 o k
def gJ (S : fS) (o k : Nat) : Int64 := bif Nat.blt o 35 then S.1.2.1 o k else S.2.2.1 o k
def gA (S : fS) (o : Nat) : Nat → Int32 := bif Nat.blt o 35 then S.1.2.2.1 o else S.2.2.2.1 o
def gB (S : fS) (o : Nat) : Nat → Int64 := bif Nat.blt o 35 then S.1.2.2.2 o else S.2.2.2.2 o
def wI (S : fS) (o k : Nat) (x : Int32) : fS := bif Nat.blt o 35 then ((fup S.1.1 o (fup (S.1.1 o) k x), S.1.2), S.2) else (S.1, (fup S.2.1 o (fup (S.2.1 o) k x), S.2.2))
def wJ (S : fS) (o k : Nat) (x : Int64) : fS := bif Nat.blt o 35 then ((S.1.1, fup S.1.2.1 o (fup (S.1.2.1 o) k x), S.1.2.2), S.2) else (S.1, (S.2.1, fup S.2.2.1 o (fup (S.2.2.1 o) k x), S.2.2.2))
def wA (S : fS) (o : Nat) (g : Nat → Int32) : fS := bif Nat.blt o 35 then ((S.1.1, S.1.2.1, fup S.1.2.2.1 o g, S.1.2.2.2), S.2) else (S.1, (S.2.1, S.2.2.1, fup S.2.2.2.1 o g, S.2.2.2.2))
def wB (S : fS) (o : Nat) (g : Nat → Int64) : fS := bif Nat.blt o 35 then ((S.1.1, S.1.2.1, S.1.2.2.1, fup S.1.2.2.2 o g), S.2) else (S.1, (S.2.1, S.2.2.1, S.2.2.2.1, fup S.2.2.2.2 o g))
section ReadWrite
variable (S : fS) (o k a b : Nat)
theorem gI_wI (x : Int32) : gI (wI S o k x) a b = if a = o then (if b = k then x else gI S a b) else gI S a b := by
  unfold gI wI
  cases h : Nat.blt o 35 <;> cases h2 : Nat.blt a 35 <;> simp only [cond_true, cond_false, fup] <;> (by_cases e : a = o)
  all_goals first | (subst e; rw [h] at h2; cases h2; done) | (subst e; simp [fup]; done) | (simp [e]; done)
theorem gJ_wJ (x : Int64) : gJ (wJ S o k x) a b = if a = o then (if b = k then x else gJ S a b) else gJ S a b := by
  unfold gJ wJ
  cases h : Nat.blt o 35 <;> cases h2 : Nat.blt a 35 <;> simp only [cond_true, cond_false, fup] <;> (by_cases e : a = o)
  all_goals first | (subst e; rw [h] at h2; cases h2; done) | (subst e; simp [fup]; done) | (simp [e]; done)
theorem gA_wA (g : Nat → Int32) : gA (wA S o g) a = if a = o then g else gA S a := by
  unfold gA wA
  cases h : Nat.blt o 35 <;> cases h2 : Nat.blt a 35 <;> simp only [cond_true, cond_false, fup] <;> (by_cases e : a = o)
  all_goals first | (subst e; rw [h] at h2; cases h2; done) | (subst e; simp [fup]; done) | (simp [e]; done)
theorem gB_wB (g : Nat → Int64) : gB (wB S o g) a = if a = o then g else gB S a := by
  unfold gB wB
  cases h : Nat.blt o 35 <;> cases h2 : Nat.blt a 35 <;> simp only [cond_true, cond_false, fup] <;> (by_cases e : a = o)
  all_goals first | (subst e; rw [h] at h2; cases h2; done) | (subst e; simp [fup]; done) | (simp [e]; done)
theorem gI_wJ (x : Int64) : gI (wJ S o k x) = gI S := by funext a b; unfold gI wJ; cases Nat.blt o 35 <;> rfl
theorem gI_wA (g : Nat → Int32) : gI (wA S o g) = gI S := by funext a b; unfold gI wA; cases Nat.blt o 35 <;> rfl
theorem gI_wB (g : Nat → Int64) : gI (wB S o g) = gI S := by funext a b; unfold gI wB; cases Nat.blt o 35 <;> rfl
theorem gJ_wI (x : Int32) : gJ (wI S o k x) = gJ S := by funext a b; unfold gJ wI; cases Nat.blt o 35 <;> rfl
theorem gJ_wA (g : Nat → Int32) : gJ (wA S o g) = gJ S := by funext a b; unfold gJ wA; cases Nat.blt o 35 <;> rfl
theorem gJ_wB (g : Nat → Int64) : gJ (wB S o g) = gJ S := by funext a b; unfold gJ wB; cases Nat.blt o 35 <;> rfl
theorem gA_wI (x : Int32) : gA (wI S o k x) = gA S := by funext a; unfold gA wI; cases Nat.blt o 35 <;> rfl
theorem gA_wJ (x : Int64) : gA (wJ S o k x) = gA S := by funext a; unfold gA wJ; cases Nat.blt o 35 <;> rfl
theorem gA_wB (g : Nat → Int64) : gA (wB S o g) = gA S := by funext a; unfold gA wB; cases Nat.blt o 35 <;> rfl
theorem gB_wI (x : Int32) : gB (wI S o k x) = gB S := by funext a; unfold gB wI; cases Nat.blt o 35 <;> rfl
theorem gB_wJ (x : Int64) : gB (wJ S o k x) = gB S := by funext a; unfold gB wJ; cases Nat.blt o 35 <;> rfl
theorem gB_wA (g : Nat → Int32) : gB (wA S o g) = gB S := by funext a; unfold gB wA; cases Nat.blt o 35 <;> rfl
end ReadWrite
/-- the cells: an object (its kind below 20; its slots: 0 a reference and to which cell, 1 an int, 2 a long, 3 a boolean), 20 an int array, 21 a long array (its length) -/
def fLay : List (Nat × List (Nat × Nat)) := [
  (7, [(0, 1), (0, 4), (0, 11), (0, 14), (0, 17), (0, 18), (0, 24), (0, 27), (0, 28), (1, 0), (1, 0)]),
  (4, [(0, 2), (0, 3), (1, 0)]), (20, [(8, 0)]), (20, [(8, 0)]),
  (6, [(0, 5), (0, 6), (0, 7), (0, 8), (0, 9), (0, 10), (1, 0)]), (20, [(64, 0)]), (20, [(16, 0)]), (20, [(16, 0)]), (20, [(16, 0)]), (20, [(16, 0)]), (20, [(16, 0)]),
  (2, [(0, 12), (0, 13), (1, 0)]), (20, [(4, 0)]), (20, [(4, 0)]),
  (2, [(0, 15), (0, 16), (1, 0)]), (20, [(8, 0)]), (20, [(8, 0)]), (20, [(4, 0)]),
  (3, [(0, 19), (0, 20), (0, 21), (0, 22), (0, 23), (1, 0), (1, 0), (1, 0)]), (20, [(3, 0)]), (20, [(8, 0)]), (20, [(8, 0)]), (21, [(5, 0)]), (21, [(5, 0)]),
  (1, [(0, 25), (0, 26), (1, 0), (1, 0)]), (20, [(3857, 0)]), (21, [(3857, 0)]),
  (5, [(2, 0), (2, 0), (2, 0)]),
  (0, [(0, 29), (0, 30), (0, 31), (0, 32), (0, 33), (0, 34), (1, 0), (1, 0), (1, 0), (3, 0), (1, 0), (1, 0), (1, 0)]), (20, [(4, 0)]), (20, [(16, 0)]), (20, [(3857, 0)]), (20, [(6, 0)]), (21, [(5, 0)]), (21, [(5, 0)]),
  (8, [(1, 0), (0, 36), (0, 37), (1, 0), (0, 38), (0, 39), (1, 0), (0, 40), (0, 41), (0, 42), (1, 0), (0, 43), (0, 44), (1, 0), (1, 0), (0, 45), (0, 46), (0, 47), (0, 48), (0, 49), (0, 50), (0, 51), (1, 0), (2, 0), (2, 0), (1, 0), (0, 52), (0, 53), (0, 54), (0, 55)]), (20, [(8, 0)]), (20, [(8, 0)]), (20, [(64, 0)]), (20, [(16, 0)]), (20, [(4, 0)]), (20, [(4, 0)]), (20, [(4, 0)]), (20, [(8, 0)]), (20, [(8, 0)]), (21, [(2, 0)]), (21, [(2, 0)]), (21, [(8, 0)]), (21, [(8, 0)]), (21, [(5, 0)]), (21, [(5, 0)]), (20, [(3, 0)]), (20, [(4000, 0)]), (20, [(4000, 0)]), (21, [(4000, 0)]), (20, [(16, 0)])]
theorem fLay_len : fLay.length = 56 := by decide
/-- a value of the small machine (its references are cells' numbers) as the JVM has it -/
def cv (ad : Nat → Nat) (v : Value) : Value := match v with
  | .ref o => .ref (ad o)
  | v => v
theorem cv_cat (ad : Nat → Nat) (v : Value) : (cv ad v).category = v.category := by cases v <;> rfl
def fFld (S : fS) (o k : Nat) (d : Nat × Nat) : Value := match d.1 with
  | 0 => .ref d.2
  | 2 => .long (gJ S o k)
  | _ => .int (gI S o k)
def fLen (e : Nat × List (Nat × Nat)) : Nat := (e.2.headD (0, 0)).1
def fCell (ad : Nat → Nat) (cI cJ : ClassId) (S : fS) (o : Nat) (e : Nat × List (Nat × Nat)) : va_E := match e.1 with
  | 20 => .inl (cI, fLen e, .inl (gA S o))
  | 21 => .inl (cJ, fLen e, .inr (.inl (gB S o)))
  | ci => .inr (ci, e.2.mapIdx fun k d => cv ad (fFld S o k d))
def fW (ad : Nat → Nat) (cI cJ : ClassId) (S : fS) : va_W := fLay.mapIdx fun o e => (ad o, fCell ad cI cJ S o e)
theorem fW_at (ad : Nat → Nat) (cI cJ : ClassId) (S : fS) {o : Nat} {e : Nat × List (Nat × Nat)} (h : fLay[o]? = some e) : (fW ad cI cJ S)[o]? = some (ad o, fCell ad cI cJ S o e) := by
  simp [fW, List.getElem?_mapIdx, h]
theorem fCell_obj (ad : Nat → Nat) (cI cJ : ClassId) (S : fS) (o ci : Nat) (fs : List (Nat × Nat)) (h : ci < 20) : fCell ad cI cJ S o (ci, fs) = .inr (ci, fs.mapIdx fun k d => cv ad (fFld S o k d)) := by
  unfold fCell
  split
  · rename_i q; simp only at q; omega
  · rename_i q; simp only at q; omega
  · rfl
theorem fCell_int (ad : Nat → Nat) (cI cJ : ClassId) (S : fS) (o : Nat) (fs : List (Nat × Nat)) : fCell ad cI cJ S o (20, fs) = .inl (cI, fLen (20, fs), .inl (gA S o)) := rfl
theorem fCell_long (ad : Nat → Nat) (cI cJ : ClassId) (S : fS) (o : Nat) (fs : List (Nat × Nat)) : fCell ad cI cJ S o (21, fs) = .inl (cJ, fLen (21, fs), .inr (.inl (gB S o))) := rfl
/-- a world with one cell changed -/
theorem fW_set (ad : Nat → Nat) (cI cJ : ClassId) (S S' : fS) {o : Nat} {e : Nat × List (Nat × Nat)} (h : fLay[o]? = some e) (hs : ∀ (a : Nat) (d : Nat × List (Nat × Nat)), fLay[a]? = some d → a ≠ o → fCell ad cI cJ S' a d = fCell ad cI cJ S a d) : (fW ad cI cJ S).set o (ad o, fCell ad cI cJ S' o e) = fW ad cI cJ S' := by
  apply List.ext_getElem?
  intro i
  by_cases hi : i = o
  · subst hi
    rw [List.getElem?_set_self (by simp only [fW, List.length_mapIdx]; exact (List.getElem?_eq_some_iff.mp h).1), fW_at ad cI cJ S' h]
  · rw [List.getElem?_set_ne (Ne.symm hi)]
    simp only [fW, List.getElem?_mapIdx]
    cases hd : fLay[i]? with
    | none => rfl
    | some d => simp only [Option.map_some]; rw [hs i d hd hi]
/-- a cell looks only at its own numbers -/
theorem fCell_eq (ad : Nat → Nat) (cI cJ : ClassId) (S S' : fS) (a : Nat) (d : Nat × List (Nat × Nat)) (hI : gI S' a = gI S a) (hJ : gJ S' a = gJ S a) (hA : gA S' a = gA S a) (hB : gB S' a = gB S a) : fCell ad cI cJ S' a d = fCell ad cI cJ S a d := by
  unfold fCell
  rw [hA, hB]
  have : (fun k d => cv ad (fFld S' a k d)) = (fun k d => cv ad (fFld S a k d)) := by
    funext k d
    unfold fFld
    rw [hI, hJ]
  rw [this]

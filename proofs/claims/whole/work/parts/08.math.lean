/-! Math's methods, by the kit's rows -/
section MathRules
variable {G : fG} {M : fM} {Z : fZ} {pc : Nat} {L : fL} {S : fS} {x y : Int32} {u : Int64} {r : List Value} {idx : Nat}
theorem fV.mmax (hd : decode M.2.1 pc = .ok (.invokestatic idx, 3)) (hlink : Cond.methodLink M.1.cls idx yJ9_max_7cf53 ∈ fTB) (hf : 1 ≤ Z.2.1.frames ∧ (r.map fun v => v.category).sum + 13 ≤ Z.2.1.locals ∧ Z.2.2.2.1.1 ≤ Z.2.1.cells ∧ Z.2.2.2.1.2 ≤ Z.2.1.slots) (k : fV G M Z (pc + 3) L (.int (if x < y then y else x) :: r) S) : fV G M Z pc L (.int y :: .int x :: r) S :=
  fun p e s m args below meth c X h1 h2 h3 h4 H locs ls g1 g2 g3 => va_mmax X.1 X.2.1 (h1.trans g3.1.symm) X.2.2.1 (X.2.2.2.1 _ hlink) (X.2.2.2.1 _ kJ9_max_7cf53.2) (X.2.2.2.1 _ kJ9_max_7cf53.1.2.1) (X.2.2.2.1 _ kJ9_max_7cf53.1.1) hf.1 (by rw [fCat]; exact hf.2.1) hf.2.2.1 hf.2.2.2 hd (k p e s m args below meth c X h1 h2 h3 h4 H locs ls g1 g2 g3)
theorem fV.mmin (hd : decode M.2.1 pc = .ok (.invokestatic idx, 3)) (hlink : Cond.methodLink M.1.cls idx yJ9_min_7cf53 ∈ fTB) (hf : 1 ≤ Z.2.1.frames ∧ (r.map fun v => v.category).sum + 13 ≤ Z.2.1.locals ∧ Z.2.2.2.1.1 ≤ Z.2.1.cells ∧ Z.2.2.2.1.2 ≤ Z.2.1.slots) (k : fV G M Z (pc + 3) L (.int (if y < x then y else x) :: r) S) : fV G M Z pc L (.int y :: .int x :: r) S :=
  fun p e s m args below meth c X h1 h2 h3 h4 H locs ls g1 g2 g3 => va_mmin X.1 X.2.1 (h1.trans g3.1.symm) X.2.2.1 (X.2.2.2.1 _ hlink) (X.2.2.2.1 _ kJ9_min_7cf53.2) (X.2.2.2.1 _ kJ9_min_7cf53.1.2.1) (X.2.2.2.1 _ kJ9_min_7cf53.1.1) hf.1 (by rw [fCat]; exact hf.2.1) hf.2.2.1 hf.2.2.2 hd (k p e s m args below meth c X h1 h2 h3 h4 H locs ls g1 g2 g3)
theorem fV.mabs (hd : decode M.2.1 pc = .ok (.invokestatic idx, 3)) (hlink : Cond.methodLink M.1.cls idx yJ9_abs_067f4 ∈ fTB) (hf : 1 ≤ Z.2.1.frames ∧ (r.map fun v => v.category).sum + 20 ≤ Z.2.1.locals ∧ Z.2.2.2.1.1 ≤ Z.2.1.cells ∧ Z.2.2.2.1.2 ≤ Z.2.1.slots) (k : fV G M Z (pc + 3) L (.long (if 0 < u then u else -u) :: r) S) : fV G M Z pc L (.long u :: r) S :=
  fun p e s m args below meth c X h1 h2 h3 h4 H locs ls g1 g2 g3 => va_mabs_long X.1 X.2.1 (h1.trans g3.1.symm) X.2.2.1 (X.2.2.2.1 _ hlink) (X.2.2.2.1 _ kJ9_abs_067f4.2) (X.2.2.2.1 _ kJ9_abs_067f4.1.2.1) (X.2.2.2.1 _ kJ9_abs_067f4.1.1) hf.1 (by rw [fCat]; have := hf.2.1; omega) hf.2.2.1 hf.2.2.2 hd (k p e s m args below meth c X h1 h2 h3 h4 H locs ls g1 g2 g3)
theorem fRoom {nl d : Nat} (h : nl ≤ 45) : d + 1 ≤ (fRm (d + 1)).frames ∧ 8 + (nl + 11) + 64 * d ≤ (fRm (d + 1)).locals := ⟨Nat.le_refl _, by show _ ≤ 64 * (d + 1); omega⟩
theorem fRoomM {n d : Nat} (h : n ≤ 30) : 1 ≤ (fRm (d + 1)).frames ∧ n + 20 ≤ (fRm (d + 1)).locals ∧ 0 ≤ (fRm (d + 1)).cells ∧ 0 ≤ (fRm (d + 1)).slots := ⟨by show 1 ≤ d + 1; omega, by show _ ≤ 64 * (d + 1); omega, Nat.zero_le _, Nat.zero_le _⟩
theorem fRoomN {n d : Nat} (h : n ≤ 30) : 1 ≤ (fRm (d + 1)).frames ∧ n + 13 ≤ (fRm (d + 1)).locals ∧ 0 ≤ (fRm (d + 1)).cells ∧ 0 ≤ (fRm (d + 1)).slots := ⟨by show 1 ≤ d + 1; omega, by show _ ≤ 64 * (d + 1); omega, Nat.zero_le _, Nat.zero_le _⟩
/-- a truth as the JVM has it -/
def fB (b : Bool) : Int32 := bif b then 1 else 0
theorem fB01 (b : Bool) : fB b = 0 ∨ fB b = 1 := by cases b <;> simp [fB]
theorem fB0 {b : Bool} : fB b = 0 ↔ b = false := by cases b <;> decide
theorem fBn {b : Bool} : ¬ fB b = 0 ↔ b = true := by cases b <;> decide
end MathRules

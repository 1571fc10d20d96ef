/-! numbers, truths, the hall -/
theorem vin {x : Int32} {n : Nat} (hn : n < 2 ^ 31) (h0 : 0 ≤ x) (h1 : x < OfNat.ofNat n) : vp_in x n := by
  rw [vp_in_iff]
  have a := Int32.le_iff_toInt_le.mp h0
  have b := Int32.lt_iff_toInt_lt.mp h1
  have e : (OfNat.ofNat n : Int32).toInt = (n : Int) := nI_toInt hn
  have z : (0 : Int32).toInt = 0 := by decide
  omega
theorem vinN {w n : Nat} (h : w < n) (hn : n < 2 ^ 31) {x : Int32} (hx : x = nI w) : vp_in x n := by subst hx; exact vp_in_nI h hn
theorem fBt {P : Prop} [Decidable P] (h : P) : some (Value.int 1) = some (Value.int (fB (decide P))) := by simp [fB, h]
theorem fBf {P : Prop} [Decidable P] (h : ¬ P) : some (Value.int 0) = some (Value.int (fB (decide P))) := by simp [fB, h]
theorem fBd0 {P : Prop} [Decidable P] : fB (decide P) = 0 ↔ ¬ P := by by_cases h : P <;> simp [fB, h]
theorem fBd1 {P : Prop} [Decidable P] : ¬ fB (decide P) = 0 ↔ P := by by_cases h : P <;> simp [fB, h]
theorem nlit (k : Nat) : (OfNat.ofNat k : Int32) = nI k := rfl
theorem w_le (x y : Int32) : x.toInt64 ≤ y.toInt64 ↔ x ≤ y := by rw [Int64.le_iff_toInt_le, Int32.le_iff_toInt_le, Int32.toInt_toInt64, Int32.toInt_toInt64]
theorem w_lt (x y : Int32) : x.toInt64 < y.toInt64 ↔ x < y := by rw [Int64.lt_iff_toInt_lt, Int32.lt_iff_toInt_lt, Int32.toInt_toInt64, Int32.toInt_toInt64]
theorem w_eq (x y : Int32) : x.toInt64 = y.toInt64 ↔ x = y := by rw [← Int64.toInt_inj, ← Int32.toInt_inj, Int32.toInt_toInt64, Int32.toInt_toInt64]
theorem w_lit {n : Nat} (h : n < 2 ^ 31) : (OfNat.ofNat n : Int64) = (OfNat.ofNat n : Int32).toInt64 := (nI_l h).symm
theorem w_leN {n : Nat} (h : n < 2 ^ 31) (x : Int32) : x.toInt64 ≤ OfNat.ofNat n ↔ x ≤ OfNat.ofNat n := by rw [w_lit h, w_le]
theorem w_geN {n : Nat} (h : n < 2 ^ 31) (x : Int32) : OfNat.ofNat n ≤ x.toInt64 ↔ OfNat.ofNat n ≤ x := by rw [w_lit h, w_le]
theorem n_in {x : Int32} {n : Nat} (hn : n < 2 ^ 31) (h0 : 0 ≤ x) (h1 : x < nI n) : ∃ w : Nat, w < n ∧ x = nI w := by
  obtain ⟨j, h2, h3⟩ := nI_of (x := x) (by grind)
  subst h3
  exact ⟨j, (nI_ltI h2 hn).mp h1, rfl⟩
/-- the hall: stuffs, walls, sources, seats, rules -/
abbrev hH : Type := (Int32 × (Nat → Int32) × (Nat → Int32)) × (Int32 × (Nat → Int32) × (Nat → Int32)) × (Int32 × (Nat → Int32) × (Nat → Int32) × (Nat → Int32)) × (Int32 × (Nat → Int32) × (Nat → Int32)) × (Int32 × Int32)
def hC (S : fS) : hH := ((gI S 1 2, gA S 2, gA S 3), (gI S 4 6, gA S 5, gA S 6), (gI S 11 2, gA S 12, gA S 13, gA S 17), (gI S 14 2, gA S 15, gA S 16), (gI S 0 9, gI S 0 10))
def hD (S : fS) : hH := ((gI S 35 0, gA S 36, gA S 37), (gI S 35 3, gA S 38, gA S 39), (gI S 35 6, gA S 40, gA S 41, gA S 42), (gI S 35 10, gA S 43, gA S 44), (gI S 35 13, gI S 35 14))
/-- the hall's numbers are within their bounds: a stuffs, b walls, c sources, e seats -/
def hOk (h : hH) (a b c e : Nat) : Prop :=
  (h.1.1 = nI a ∧ 1 ≤ a ∧ a ≤ 8 ∧ ∀ i, i < a → (0 ≤ h.1.2.1 i ∧ h.1.2.1 i ≤ 100) ∧ (0 ≤ h.1.2.2 i ∧ h.1.2.2 i ≤ 1000)) ∧
  (h.2.1.1 = nI b ∧ b ≤ 16 ∧ ∀ w, w < b → ((∀ j, j < 4 → 0 ≤ h.2.1.2.1 (4 * w + j) ∧ h.2.1.2.1 (4 * w + j) ≤ 1000) ∧ ((h.2.1.2.1 (4 * w) = h.2.1.2.1 (4 * w + 2) ∧ ¬ h.2.1.2.1 (4 * w + 1) = h.2.1.2.1 (4 * w + 3)) ∨ (¬ h.2.1.2.1 (4 * w) = h.2.1.2.1 (4 * w + 2) ∧ h.2.1.2.1 (4 * w + 1) = h.2.1.2.1 (4 * w + 3)))) ∧ ∃ i, i < a ∧ h.2.1.2.2 w = nI i) ∧
  (h.2.2.1.1 = nI c ∧ c ≤ 4 ∧ ∀ i, i < c → (0 ≤ h.2.2.1.2.1 i ∧ h.2.2.1.2.1 i ≤ 1000) ∧ (0 ≤ h.2.2.1.2.2.1 i ∧ h.2.2.1.2.2.1 i ≤ 1000) ∧ (1 ≤ h.2.2.1.2.2.2 i ∧ h.2.2.1.2.2.2 i ≤ 1000)) ∧
  (h.2.2.2.1.1 = nI e ∧ e ≤ 8 ∧ ∀ i, i < e → (0 ≤ h.2.2.2.1.2.1 i ∧ h.2.2.2.1.2.1 i ≤ 1000) ∧ (0 ≤ h.2.2.2.1.2.2 i ∧ h.2.2.2.1.2.2 i ≤ 1000)) ∧
  (0 ≤ h.2.2.2.2.1 ∧ h.2.2.2.2.1 ≤ 3) ∧ (1 ≤ h.2.2.2.2.2 ∧ h.2.2.2.2.2 ≤ 100)
/-- what the landed program keeps beside: a wall's axis, line, low and high end -/
def hAx (en : Nat → Int32) (w : Nat) : Bool := decide (en (4 * w) = en (4 * w + 2))
def hLine (en : Nat → Int32) (w : Nat) : Int32 := if en (4 * w) = en (4 * w + 2) then en (4 * w) else en (4 * w + 1)
def hLow (en : Nat → Int32) (w : Nat) : Int32 := if en (4 * w) = en (4 * w + 2) then (if en (4 * w + 3) < en (4 * w + 1) then en (4 * w + 3) else en (4 * w + 1)) else (if en (4 * w + 2) < en (4 * w) then en (4 * w + 2) else en (4 * w))
def hHigh (en : Nat → Int32) (w : Nat) : Int32 := if en (4 * w) = en (4 * w + 2) then (if en (4 * w + 1) < en (4 * w + 3) then en (4 * w + 3) else en (4 * w + 1)) else (if en (4 * w) < en (4 * w + 2) then en (4 * w + 2) else en (4 * w))
def hAxI (en : Nat → Int32) (w : Nat) : Int32 := if en (4 * w) = en (4 * w + 2) then 0 else 1
def hGeo (S : fS) (b : Nat) : Prop := ∀ w, w < b → gA S 7 w = hAxI (gA S 5) w ∧ gA S 8 w = hLine (gA S 5) w ∧ gA S 9 w = hLow (gA S 5) w ∧ gA S 10 w = hHigh (gA S 5) w

/-! THE JVM DOES WHAT THE SMALL MACHINE DOES -/
def fLs (ad : Nat → Nat) (L : fL) : fL := L.map fun q => (q.1, cv ad q.2)
theorem fGet_mem : ∀ {L : fL} {i : Nat} {v : Value}, fGet L i = some v → (i, v) ∈ L
  | [], _, _, h => by cases h
  | q :: t, i, v, h => by
    unfold fGet at h
    cases hq : Nat.beq q.1 i with
    | true =>
      rw [hq] at h
      have e := Nat.eq_of_beq_eq_true hq
      simp only [cond_true, Option.some.injEq] at h
      subst h
      subst e
      exact List.mem_cons_self
    | false =>
      rw [hq] at h
      exact List.mem_cons_of_mem _ (fGet_mem h)
theorem fIns_mem (i : Nat) (v : Value) : ∀ (L : fL) (q : Nat × Value), q ∈ fIns i v L → q = (i, v) ∨ q ∈ L
  | [], q, h => by simp [fIns] at h; exact Or.inl h
  | r :: t, q, h => by
    unfold fIns at h
    cases hq : Nat.blt i r.1 with
    | true => rw [hq] at h; simpa using h
    | false =>
      rw [hq] at h
      rcases List.mem_cons.mp h with e | e
      · exact Or.inr (e ▸ List.mem_cons_self)
      · rcases fIns_mem i v t q e with e | e
        · exact Or.inl e
        · exact Or.inr (List.mem_cons_of_mem _ e)
theorem fls_less {ls : Array Slot} {nL : Nat} {l l' : fL} (h : lv_has ls nL l) (hm : ∀ q ∈ l', q ∈ l) : lv_has ls nL l' := ⟨h.1, h.2.1, fun q hq => h.2.2 q (hm q hq)⟩
theorem fbeq (a b : Nat) : (a == b) = Nat.beq a b := by rw [Bool.eq_iff_iff]; simp
theorem fSet1_less (ad : Nat → Nat) (L : fL) (i : Nat) (v : Value) : ∀ q ∈ fLs ad (fSet1 L i v), q ∈ (i, cv ad v) :: (fLs ad L).filter (fun q => !(q.1 == i) && !(q.1 + 1 == i && q.2.category == 2)) := by
  intro q hq
  obtain ⟨r, hr, rfl⟩ := List.mem_map.mp hq
  rcases fIns_mem i v _ r hr with e | e
  · subst e; exact List.mem_cons_self
  · refine List.mem_cons_of_mem _ (List.mem_filter.mpr ⟨List.mem_map.mpr ⟨r, (List.mem_filter.mp e).1, rfl⟩, ?_⟩)
    have h2 := (List.mem_filter.mp e).2
    simp only [cv_cat, fbeq]
    exact h2
theorem fSet2_less (ad : Nat → Nat) (L : fL) (i : Nat) (v : Value) : ∀ q ∈ fLs ad (fSet2 L i v), q ∈ (i, cv ad v) :: (fLs ad L).filter (fun q => !(q.1 == i) && (!(q.1 == i + 1) && !(q.1 + 1 == i && q.2.category == 2))) := by
  intro q hq
  obtain ⟨r, hr, rfl⟩ := List.mem_map.mp hq
  rcases fIns_mem i v _ r hr with e | e
  · subst e; exact List.mem_cons_self
  · refine List.mem_cons_of_mem _ (List.mem_filter.mpr ⟨List.mem_map.mpr ⟨r, (List.mem_filter.mp e).1, rfl⟩, ?_⟩)
    have h2 := (List.mem_filter.mp e).2
    simp only [cv_cat, fbeq]
    exact h2
theorem fLit_ofInt (n : Int) : fLit n = Int32.ofInt n := by
  cases n with
  | ofNat k => rfl
  | negSucc k =>
    show -(Int32.ofNat (k + 1)) = Int32.ofInt (Int.negSucc k)
    rw [show Int.negSucc k = -((k + 1 : Nat) : Int) from rfl, Int32.ofInt_neg]
    rfl
theorem fLit_8 {n : Int} (h1 : -128 ≤ n) (h2 : n < 128) : (Int8.ofInt n).toInt32 = fLit n := by
  rw [fLit_ofInt]
  apply Int32.toInt_inj.mp
  rw [Int8.toInt_toInt32, Int8.toInt_ofInt, Int32.toInt_ofInt]
  have a : n.bmod 256 = n := by rw [Int.bmod_def]; omega
  have b : n.bmod 4294967296 = n := by rw [Int.bmod_def]; omega
  simp only [Int8.size, Int32.size] at *
  omega
theorem fLit_16 {n : Int} (h1 : -32768 ≤ n) (h2 : n < 32768) : (Int16.ofInt n).toInt32 = fLit n := by
  rw [fLit_ofInt]
  apply Int32.toInt_inj.mp
  rw [Int16.toInt_toInt32, Int16.toInt_ofInt, Int32.toInt_ofInt]
  have a : n.bmod 65536 = n := by rw [Int.bmod_def]; omega
  have b : n.bmod 4294967296 = n := by rw [Int.bmod_def]; omega
  simp only [Int16.size, Int32.size] at *
  omega
/-- what the tables must say of the constant pool's numbers -/
def fFlOk (own : String) (fl : Nat → Option (Nat × Nat)) : Prop := ∀ (idx ci k : Nat), fl idx = some (ci, k) → ∃ (C : String) (T : u_T) (N : Nat), vwCl[ci]? = some (C, T, N) ∧ k < N ∧ Cond.fieldLink own idx (T k).1 (T k).2.1 (T k).2.2.1 ∈ fTB
def fKcOk (own : String) (kc : Nat → Option Value) : Prop := ∀ idx : Nat, (∀ x : Int32, kc idx = some (.int x) → Cond.constant own idx x ∈ fTB) ∧ (∀ x : Int64, kc idx = some (.long x) → Cond.constantLong own idx x ∈ fTB)
def fScOk (sc : fSc) (ad : Nat → Nat) (A : Nat → Prop) (s : State) : Prop := match sc with
  | none => True
  | some q => va_X (ad 99) q.1 q.2 s s.heap ∧ ad 99 < s.heap.size ∧ ¬ A (ad 99)
theorem fin_ws {ci : Nat} {C : String} {T : u_T} {N : Nat} (h : vwCl[ci]? = some (C, T, N)) : (∀ w ∈ u_ws C T N, w ∈ fTB) ∧ ∃ ty0 : Nat → FieldType, (∀ k, k < N → parseFieldDescriptor (T k).2.2.1 = some (ty0 k)) ∧ (∀ a, a < N → ∀ b, b < N → a ≠ b → (T a).2.1 ≠ (T b).2.1) := by
  match ci, h with
  | 0, h => cases h; exact ⟨inT0, tyX0, tyX0_ok, nmX0⟩
  | 1, h => cases h; exact ⟨inT1, tyX1, tyX1_ok, nmX1⟩
  | 2, h => cases h; exact ⟨inT2, tyX2, tyX2_ok, nmX2⟩
  | 3, h => cases h; exact ⟨inT3, tyX3, tyX3_ok, nmX3⟩
  | 4, h => cases h; exact ⟨inT4, tyX4, tyX4_ok, nmX4⟩
  | 5, h => cases h; exact ⟨inT5, tyX5, tyX5_ok, nmX5⟩
  | 6, h => cases h; exact ⟨inT6, tyX6, tyX6_ok, nmX6⟩
  | 7, h => cases h; exact ⟨inT7, tyX7, tyX7_ok, nmX7⟩
  | 8, h => cases h; exact ⟨inT8, tyX8, tyX8_ok, nmX8⟩
  | k + 9, h => simp [vwCl] at h
/-- the layout and the tables' fields say the same -/
def fLayChk (e : Nat × List (Nat × Nat)) : Bool := match vwCl[e.1]? with
  | none => decide (20 ≤ e.1)
  | some q => decide (e.2.length = q.2.2) && decide (e.1 < 20) && (e.2.zipIdx.all fun d => match d.1.1 with
    | 1 => decide ((q.2.1 d.2).2.2 = ("I", false))
    | 2 => decide ((q.2.1 d.2).2.2 = ("J", false))
    | 3 => decide ((q.2.1 d.2).2.2 = ("Z", false))
    | _ => true)
theorem fLay_chk : ∀ e ∈ fLay, fLayChk e = true := by decide +kernel
theorem fLay_obj {o : Nat} {e : Nat × List (Nat × Nat)} {C : String} {T : u_T} {N : Nat} (h : fLay[o]? = some e) (hc : vwCl[e.1]? = some (C, T, N)) : e.2.length = N ∧ e.1 < 20 ∧ ∀ (k : Nat) (d : Nat × Nat), e.2[k]? = some d → (d.1 = 1 → (T k).2.2 = ("I", false)) ∧ (d.1 = 2 → (T k).2.2 = ("J", false)) ∧ (d.1 = 3 → (T k).2.2 = ("Z", false)) := by
  have q := fLay_chk e (List.mem_of_getElem? h)
  unfold fLayChk at q
  rw [hc] at q
  simp only [Bool.and_eq_true, decide_eq_true_eq, List.all_eq_true] at q
  refine ⟨q.1.1, q.1.2, fun k d hd => ?_⟩
  have hm : (d, k) ∈ e.2.zipIdx := by
    rw [List.mem_zipIdx_iff_getElem?]
    exact hd
  have z := q.2 (d, k) hm
  refine ⟨fun e1 => ?_, fun e1 => ?_, fun e1 => ?_⟩ <;> (simp only [e1, decide_eq_true_eq] at z; exact z)

section Sound
variable {p : Program} {l : Launch} {e : Env} {R : Room} {s : State} {m : MethodId} {args : Array Value} {below : List Frame} {meth : Method} {c : Code} {cells slots : Nat} {Q : State → Prop}
variable {D : va_G} {ad : Nat → Nat} {cI cJ : ClassId} {A : Nat → Prop} {own : String} {cc : ByteArray} {nl : Nat} {fl : Nat → Option (Nat × Nat)} {kc : Nat → Option Value} {sc : fSc}
variable {L L' : fL} {st st' : List Value} {S S' : fS} {H : Heap} {locs : List Loc} {ls : Array Slot} {pc : Nat} {P : Option Prop} {i : Instr}
theorem fLdI_inv {k : Nat} (h : fLdI L k st S = some (P, L', st', S')) : ∃ x, fGet L k = some (.int x) ∧ L' = L ∧ st' = .int x :: st ∧ S' = S := by
  unfold fLdI at h
  split at h
  · rename_i x hx
    simp only [Option.some.injEq, Prod.mk.injEq] at h
    exact ⟨x, hx, h.2.1.symm, h.2.2.1.symm, h.2.2.2.symm⟩
  · cases h
theorem fLdJ_inv {k : Nat} (h : fLdJ L k st S = some (P, L', st', S')) : ∃ x, fGet L k = some (.long x) ∧ L' = L ∧ st' = .long x :: st ∧ S' = S := by
  unfold fLdJ at h
  split at h
  · rename_i x hx
    simp only [Option.some.injEq, Prod.mk.injEq] at h
    exact ⟨x, hx, h.2.1.symm, h.2.2.1.symm, h.2.2.2.symm⟩
  · cases h
theorem fLdA_inv {k : Nat} (h : fLdA L k st S = some (P, L', st', S')) : ∃ x, fGet L k = some (.ref x) ∧ L' = L ∧ st' = .ref x :: st ∧ S' = S := by
  unfold fLdA at h
  split at h
  · rename_i x hx
    simp only [Option.some.injEq, Prod.mk.injEq] at h
    exact ⟨x, hx, h.2.1.symm, h.2.2.1.symm, h.2.2.2.symm⟩
  · cases h
theorem fStI_inv {k : Nat} (h : fStI nl L k st S = some (P, L', st', S')) : ∃ x, st = .int x :: st' ∧ k < nl ∧ L' = fSet1 L k (.int x) ∧ S' = S := by
  unfold fStI at h
  split at h
  · rename_i x r
    cases hb : Nat.blt k nl with
    | true =>
      rw [hb] at h
      simp only [cond_true, Option.some.injEq, Prod.mk.injEq] at h
      exact ⟨x, by rw [h.2.2.1], Nat.le_of_ble_eq_true hb, h.2.1.symm, h.2.2.2.symm⟩
    | false => rw [hb] at h; cases h
  · cases h
theorem fStA_inv {k : Nat} (h : fStA nl L k st S = some (P, L', st', S')) : ∃ x, st = .ref x :: st' ∧ k < nl ∧ L' = fSet1 L k (.ref x) ∧ S' = S := by
  unfold fStA at h
  split at h
  · rename_i x r
    cases hb : Nat.blt k nl with
    | true =>
      rw [hb] at h
      simp only [cond_true, Option.some.injEq, Prod.mk.injEq] at h
      exact ⟨x, by rw [h.2.2.1], Nat.le_of_ble_eq_true hb, h.2.1.symm, h.2.2.2.symm⟩
    | false => rw [hb] at h; cases h
  · cases h
theorem fStJ_inv {k : Nat} (h : fStJ nl L k st S = some (P, L', st', S')) : ∃ x, st = .long x :: st' ∧ k + 1 < nl ∧ L' = fSet2 L k (.long x) ∧ S' = S := by
  unfold fStJ at h
  split at h
  · rename_i x r
    cases hb : Nat.blt (k + 1) nl with
    | true =>
      rw [hb] at h
      simp only [cond_true, Option.some.injEq, Prod.mk.injEq] at h
      exact ⟨x, by rw [h.2.2.1], Nat.le_of_ble_eq_true hb, h.2.1.symm, h.2.2.2.symm⟩
    | false => rw [hb] at h; cases h
  · cases h
theorem fII_inv {f : Int32 → Int32 → Int32} (h : fII f L st S = some (P, L', st', S')) : ∃ x y r, st = .int y :: .int x :: r ∧ L' = L ∧ st' = .int (f x y) :: r ∧ S' = S := by
  unfold fII at h
  split at h
  · rename_i y x r
    simp only [Option.some.injEq, Prod.mk.injEq] at h
    exact ⟨x, y, r, rfl, h.2.1.symm, h.2.2.1.symm, h.2.2.2.symm⟩
  · cases h
theorem fJJ_inv {f : Int64 → Int64 → Int64} (h : fJJ f L st S = some (P, L', st', S')) : ∃ x y r, st = .long y :: .long x :: r ∧ L' = L ∧ st' = .long (f x y) :: r ∧ S' = S := by
  unfold fJJ at h
  split at h
  · rename_i y x r
    simp only [Option.some.injEq, Prod.mk.injEq] at h
    exact ⟨x, y, r, rfl, h.2.1.symm, h.2.2.1.symm, h.2.2.2.symm⟩
  · cases h
theorem fJI_inv {f : Int64 → Int32 → Int64} (h : fJI f L st S = some (P, L', st', S')) : ∃ x y r, st = .int y :: .long x :: r ∧ L' = L ∧ st' = .long (f x y) :: r ∧ S' = S := by
  unfold fJI at h
  split at h
  · rename_i y x r
    simp only [Option.some.injEq, Prod.mk.injEq] at h
    exact ⟨x, y, r, rfl, h.2.1.symm, h.2.2.1.symm, h.2.2.2.symm⟩
  · cases h
theorem fIIq_inv {f : Int32 → Int32 → Int32} (h : fIIq f L st S = some (P, L', st', S')) : ∃ x y r, st = .int y :: .int x :: r ∧ P = some (¬ y = 0) ∧ L' = L ∧ st' = .int (f x y) :: r ∧ S' = S := by
  unfold fIIq at h
  split at h
  · rename_i y x r
    simp only [Option.some.injEq, Prod.mk.injEq] at h
    exact ⟨x, y, r, rfl, h.1.symm, h.2.1.symm, h.2.2.1.symm, h.2.2.2.symm⟩
  · cases h
theorem fJJq_inv {f : Int64 → Int64 → Int64} (h : fJJq f L st S = some (P, L', st', S')) : ∃ x y r, st = .long y :: .long x :: r ∧ P = some (¬ y = 0) ∧ L' = L ∧ st' = .long (f x y) :: r ∧ S' = S := by
  unfold fJJq at h
  split at h
  · rename_i y x r
    simp only [Option.some.injEq, Prod.mk.injEq] at h
    exact ⟨x, y, r, rfl, h.1.symm, h.2.1.symm, h.2.2.1.symm, h.2.2.2.symm⟩
  · cases h
theorem fCmp_inv (h : fCmp L st S = some (P, L', st', S')) : ∃ x y r, st = .long y :: .long x :: r ∧ L' = L ∧ st' = .int (lg_cmp x y) :: r ∧ S' = S := by
  unfold fCmp at h
  split at h
  · rename_i y x r
    simp only [Option.some.injEq, Prod.mk.injEq] at h
    exact ⟨x, y, r, rfl, h.2.1.symm, h.2.2.1.symm, h.2.2.2.symm⟩
  · cases h
theorem fUn_inv {f : Value → Option Value} (h : fUn L st S f = some (P, L', st', S')) : ∃ v w r, st = v :: r ∧ f v = some w ∧ L' = L ∧ st' = w :: r ∧ S' = S := by
  unfold fUn at h
  split at h
  · rename_i v r
    split at h
    · rename_i w hw
      simp only [Option.some.injEq, Prod.mk.injEq] at h
      exact ⟨v, w, r, rfl, hw, h.2.1.symm, h.2.2.1.symm, h.2.2.2.symm⟩
    · cases h
  · cases h
theorem fDup_inv (h : fDup L st S = some (P, L', st', S')) : ∃ v r, st = v :: r ∧ v.category = 1 ∧ L' = L ∧ st' = v :: v :: r ∧ S' = S := by
  unfold fDup at h
  split at h
  · rename_i v r
    cases hb : Nat.beq v.category 1 with
    | true =>
      rw [hb] at h
      simp only [cond_true, Option.some.injEq, Prod.mk.injEq] at h
      exact ⟨v, r, rfl, Nat.eq_of_beq_eq_true hb, h.2.1.symm, h.2.2.1.symm, h.2.2.2.symm⟩
    | false => rw [hb] at h; cases h
  · cases h
theorem fIinc_inv {k : Nat} {n : Int} (h : fIinc nl L k n st S = some (P, L', st', S')) : ∃ x, fGet L k = some (.int x) ∧ k < nl ∧ L' = fSet1 L k (.int (x + fLit n)) ∧ st' = st ∧ S' = S := by
  unfold fIinc at h
  split at h
  · rename_i x hx
    cases hb : Nat.blt k nl with
    | true =>
      rw [hb] at h
      simp only [cond_true, Option.some.injEq, Prod.mk.injEq] at h
      exact ⟨x, hx, Nat.le_of_ble_eq_true hb, h.2.1.symm, h.2.2.1.symm, h.2.2.2.symm⟩
    | false => rw [hb] at h; cases h
  · cases h
theorem fKcI_inv {d : Option Value} (h : fKcI d L st S = some (P, L', st', S')) : ∃ x, d = some (.int x) ∧ L' = L ∧ st' = .int x :: st ∧ S' = S := by
  unfold fKcI at h
  split at h
  · rename_i x
    simp only [Option.some.injEq, Prod.mk.injEq] at h
    exact ⟨x, rfl, h.2.1.symm, h.2.2.1.symm, h.2.2.2.symm⟩
  · cases h
theorem fKcJ_inv {d : Option Value} (h : fKcJ d L st S = some (P, L', st', S')) : ∃ x, d = some (.long x) ∧ L' = L ∧ st' = .long x :: st ∧ S' = S := by
  unfold fKcJ at h
  split at h
  · rename_i x
    simp only [Option.some.injEq, Prod.mk.injEq] at h
    exact ⟨x, rfl, h.2.1.symm, h.2.2.1.symm, h.2.2.2.symm⟩
  · cases h
theorem fGetf_inv {z : Option (Nat × Nat)} (h : fGetf z L st S = some (P, L', st', S')) : ∃ ci k o r e d, z = some (ci, k) ∧ st = .ref o :: r ∧ fLay[o]? = some e ∧ e.1 = ci ∧ e.2[k]? = some d ∧ L' = L ∧ st' = fFld S o k d :: r ∧ S' = S := by
  unfold fGetf at h
  split at h
  · rename_i ci k o r
    split at h
    · rename_i e he
      cases hb : Nat.beq e.1 ci with
      | true =>
        rw [hb] at h
        simp only [cond_true] at h
        split at h
        · rename_i d hd
          simp only [Option.some.injEq, Prod.mk.injEq] at h
          exact ⟨ci, k, o, r, e, d, rfl, rfl, he, Nat.eq_of_beq_eq_true hb, hd, h.2.1.symm, h.2.2.1.symm, h.2.2.2.symm⟩
        · cases h
      | false => rw [hb] at h; cases h
    · cases h
  · cases h
theorem fPutf_inv {z : Option (Nat × Nat)} (h : fPutf z L st S = some (P, L', st', S')) : ∃ ci k o v e d, z = some (ci, k) ∧ st = v :: .ref o :: st' ∧ fLay[o]? = some e ∧ e.1 = ci ∧ e.2[k]? = some d ∧ L' = L ∧ ((∃ x, d.1 = 1 ∧ v = .int x ∧ S' = wI S o k x) ∨ (∃ x, d.1 = 2 ∧ v = .long x ∧ S' = wJ S o k x) ∨ (∃ x, d.1 = 3 ∧ v = .int x ∧ P = some (x = 0 ∨ x = 1) ∧ S' = wI S o k x)) := by
  unfold fPutf at h
  split at h
  · rename_i ci k v o r
    split at h
    · rename_i e he
      cases hb : Nat.beq e.1 ci with
      | true =>
        rw [hb] at h
        simp only [cond_true] at h
        split at h
        · rename_i d hd
          have hci := Nat.eq_of_beq_eq_true hb
          unfold fPut1 at h
          split at h
          · rename_i x h1
            simp only [Option.some.injEq, Prod.mk.injEq] at h
            exact ⟨ci, k, o, _, e, d, rfl, by rw [h.2.2.1], he, hci, hd, h.2.1.symm, Or.inl ⟨x, h1, rfl, h.2.2.2.symm⟩⟩
          · rename_i x h1
            simp only [Option.some.injEq, Prod.mk.injEq] at h
            exact ⟨ci, k, o, _, e, d, rfl, by rw [h.2.2.1], he, hci, hd, h.2.1.symm, Or.inr (Or.inl ⟨x, h1, rfl, h.2.2.2.symm⟩)⟩
          · rename_i x h1
            simp only [Option.some.injEq, Prod.mk.injEq] at h
            exact ⟨ci, k, o, _, e, d, rfl, by rw [h.2.2.1], he, hci, hd, h.2.1.symm, Or.inr (Or.inr ⟨x, h1, rfl, h.1.symm, h.2.2.2.symm⟩)⟩
          · cases h
        · cases h
      | false => rw [hb] at h; cases h
    · cases h
  · cases h
theorem fIald_inv (h : fIald sc L st S = some (P, L', st', S')) : ∃ i o r, st = .int i :: .ref o :: r ∧ L' = L ∧ S' = S ∧ ((o = 99 ∧ ∃ q, sc = some q ∧ P = some (vp_in i q.1) ∧ st' = .int (q.2 i.toNatClampNeg) :: r) ∨ (∃ e, fLay[o]? = some e ∧ e.1 = 20 ∧ P = some (vp_in i (fLen e)) ∧ st' = .int (gA S o i.toNatClampNeg) :: r)) := by
  unfold fIald at h
  split at h
  · rename_i i o r
    cases hb : Nat.beq o 99 with
    | true =>
      rw [hb] at h
      simp only [cond_true] at h
      split at h
      · rename_i q
        simp only [Option.some.injEq, Prod.mk.injEq] at h
        exact ⟨i, o, r, rfl, h.2.1.symm, h.2.2.2.symm, Or.inl ⟨Nat.eq_of_beq_eq_true hb, q, rfl, h.1.symm, h.2.2.1.symm⟩⟩
      · cases h
    | false =>
      rw [hb] at h
      simp only [cond_false] at h
      split at h
      · rename_i e he
        cases hb2 : Nat.beq e.1 20 with
        | true =>
          rw [hb2] at h
          simp only [cond_true, Option.some.injEq, Prod.mk.injEq] at h
          exact ⟨i, o, r, rfl, h.2.1.symm, h.2.2.2.symm, Or.inr ⟨e, he, Nat.eq_of_beq_eq_true hb2, h.1.symm, h.2.2.1.symm⟩⟩
        | false => rw [hb2] at h; cases h
      · cases h
  · cases h
theorem fLald_inv (h : fLald L st S = some (P, L', st', S')) : ∃ i o r e, st = .int i :: .ref o :: r ∧ L' = L ∧ S' = S ∧ fLay[o]? = some e ∧ e.1 = 21 ∧ P = some (vp_in i (fLen e)) ∧ st' = .long (gB S o i.toNatClampNeg) :: r := by
  unfold fLald at h
  split at h
  · rename_i i o r
    split at h
    · rename_i e he
      cases hb2 : Nat.beq e.1 21 with
      | true =>
        rw [hb2] at h
        simp only [cond_true, Option.some.injEq, Prod.mk.injEq] at h
        exact ⟨i, o, r, e, rfl, h.2.1.symm, h.2.2.2.symm, he, Nat.eq_of_beq_eq_true hb2, h.1.symm, h.2.2.1.symm⟩
      | false => rw [hb2] at h; cases h
    · cases h
  · cases h
theorem fIast_inv (h : fIast L st S = some (P, L', st', S')) : ∃ x i o e, st = .int x :: .int i :: .ref o :: st' ∧ L' = L ∧ fLay[o]? = some e ∧ e.1 = 20 ∧ P = some (vp_in i (fLen e)) ∧ S' = wA S o (upd (gA S o) i.toNatClampNeg x) := by
  unfold fIast at h
  split at h
  · rename_i x i o r
    split at h
    · rename_i e he
      cases hb2 : Nat.beq e.1 20 with
      | true =>
        rw [hb2] at h
        simp only [cond_true, Option.some.injEq, Prod.mk.injEq] at h
        exact ⟨x, i, o, e, by rw [h.2.2.1], h.2.1.symm, he, Nat.eq_of_beq_eq_true hb2, h.1.symm, h.2.2.2.symm⟩
      | false => rw [hb2] at h; cases h
    · cases h
  · cases h
theorem fLast_inv (h : fLast L st S = some (P, L', st', S')) : ∃ x i o e, st = .long x :: .int i :: .ref o :: st' ∧ L' = L ∧ fLay[o]? = some e ∧ e.1 = 21 ∧ P = some (vp_in i (fLen e)) ∧ S' = wB S o (vp_updL (gB S o) i.toNatClampNeg x) := by
  unfold fLast at h
  split at h
  · rename_i x i o r
    split at h
    · rename_i e he
      cases hb2 : Nat.beq e.1 21 with
      | true =>
        rw [hb2] at h
        simp only [cond_true, Option.some.injEq, Prod.mk.injEq] at h
        exact ⟨x, i, o, e, by rw [h.2.2.1], h.2.1.symm, he, Nat.eq_of_beq_eq_true hb2, h.1.symm, h.2.2.2.symm⟩
      | false => rw [hb2] at h; cases h
    · cases h
  · cases h
theorem fAlen_inv (h : fAlen sc L st S = some (P, L', st', S')) : ∃ o r, st = .ref o :: r ∧ L' = L ∧ S' = S ∧ ((o = 99 ∧ ∃ q, sc = some q ∧ st' = .int (Int32.ofNat q.1) :: r) ∨ (∃ e, fLay[o]? = some e ∧ e.1 = 20 ∧ st' = .int (OfNat.ofNat (fLen e)) :: r)) := by
  unfold fAlen at h
  split at h
  · rename_i o r
    cases hb : Nat.beq o 99 with
    | true =>
      rw [hb] at h
      simp only [cond_true] at h
      split at h
      · rename_i q
        simp only [Option.some.injEq, Prod.mk.injEq] at h
        exact ⟨o, r, rfl, h.2.1.symm, h.2.2.2.symm, Or.inl ⟨Nat.eq_of_beq_eq_true hb, q, rfl, h.2.2.1.symm⟩⟩
      · cases h
    | false =>
      rw [hb] at h
      simp only [cond_false] at h
      split at h
      · rename_i e he
        cases hb2 : Nat.beq e.1 20 with
        | true =>
          rw [hb2] at h
          simp only [cond_true, Option.some.injEq, Prod.mk.injEq] at h
          exact ⟨o, r, rfl, h.2.1.symm, h.2.2.2.symm, Or.inr ⟨e, he, Nat.eq_of_beq_eq_true hb2, h.2.2.1.symm⟩⟩
        | false => rw [hb2] at h; cases h
      · cases h
  · cases h
end Sound

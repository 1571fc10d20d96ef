/-! paths found: packed rows, squares, ticks -/
theorem a_or (a b : Nat) : nI a ||| nI b = nI (a ||| b) := by
  apply Int32.toBitVec_inj.1
  show BitVec.ofNat 32 a ||| BitVec.ofNat 32 b = BitVec.ofNat 32 (a ||| b)
  apply BitVec.eq_of_getLsbD_eq
  intro i hi
  simp [hi]
def pkN (r : Nat → Nat) : Nat → Nat
  | 0 => 0
  | i + 1 => pkN r i + (r i + 1) * 32 ^ i
theorem pkN_lt {r : Nat → Nat} : ∀ {k : Nat}, (∀ i, i < k → r i < 16) → pkN r k < 32 ^ k
  | 0, _ => by simp [pkN]
  | k + 1, h => by
    have h1 := pkN_lt (r := r) (k := k) (fun i hi => h i (by omega))
    have h2 := h k (by omega)
    have h3 : (r k + 1) * 32 ^ k ≤ 16 * 32 ^ k := Nat.mul_le_mul_right _ (by omega)
    have h4 : 32 ^ (k + 1) = 32 * 32 ^ k := by rw [Nat.pow_succ, Nat.mul_comm]
    show pkN r k + (r k + 1) * 32 ^ k < 32 ^ (k + 1)
    omega
theorem sh5 : ∀ i, i < 3 → ((5 * nI i &&& 31).toBitVec.smod 32).toNat = 5 * i := by decide
theorem p32 (i : Nat) : 32 ^ i = 2 ^ (5 * i) := by rw [Nat.pow_mul]
theorem pk_step {r : Nat → Nat} {i : Nat} (hi : i < 3) (h : ∀ j, j ≤ i → r j < 16) : nI (pkN r i) ||| ((nI (r i) + 1) <<< (5 * nI i &&& 31)) = nI (pkN r (i + 1)) := by
  have h1 := pkN_lt (r := r) (k := i) (fun j hj => h j (by omega))
  have h2 := h i (Nat.le_refl _)
  have h3 : 2 ^ (5 * i) ≤ 2 ^ 10 := Nat.pow_le_pow_right (by decide) (by omega)
  rw [p32] at h1
  have h4 : (r i + 1) * 2 ^ (5 * i) ≤ 16 * 2 ^ 10 := Nat.mul_le_mul (by omega) h3
  rw [nI_1, pk_shlN _ (5 * i) (sh5 i hi) (by omega), a_or, Nat.or_comm, Nat.mul_comm, ← Nat.two_pow_add_eq_or_of_lt h1]
  show nI (2 ^ (5 * i) * (r i + 1) + pkN r i) = nI (pkN r i + (r i + 1) * 32 ^ i)
  rw [p32, Nat.mul_comm, Nat.add_comm]
theorem pk_dig {r : Nat → Nat} {k t : Nat} (hk : k ≤ 3) (ht : t < 3) (h : ∀ j, j < k → r j < 16) : pkN r k / 2 ^ (5 * t) % 2 ^ 5 = if t < k then r t + 1 else 0 := by
  have h0 := h 0
  have h1 := h 1
  have h2 := h 2
  match k, hk with
  | 0, _ => simp [pkN]
  | 1, _ =>
    match t, ht with
    | 0, _ => simp only [pkN]; simp; omega
    | 1, _ => simp only [pkN]; simp; omega
    | 2, _ => simp only [pkN]; simp; omega
  | 2, _ =>
    match t, ht with
    | 0, _ => simp only [pkN]; simp; omega
    | 1, _ => simp only [pkN]; simp; omega
    | 2, _ => simp only [pkN]; simp; omega
  | 3, _ =>
    match t, ht with
    | 0, _ => simp only [pkN]; simp; omega
    | 1, _ => simp only [pkN]; simp; omega
    | 2, _ => simp only [pkN]; simp; omega
theorem pk_wall {r : Nat → Nat} {k t : Nat} (hk : k ≤ 3) (ht : t < 3) (h : ∀ j, j < k → r j < 16) : (nI (pkN r k) >>> (5 * nI t &&& 31)) &&& 31 = nI (if t < k then r t + 1 else 0) := by
  have h1 := pkN_lt h
  have h2 : (32 : Nat) ^ k ≤ 32 ^ 3 := Nat.pow_le_pow_right (by decide) hk
  have h3 : pkN r k / 2 ^ (5 * t) ≤ pkN r k := Nat.div_le_self _ _
  rw [pk_shrN (by omega) _ (5 * t) (sh5 t ht), pk_andN (by omega) 5 (by decide), pk_dig hk ht h]
/-- the whole root, bit by bit -/
def bitN : Nat → Int64
  | 0 => 0
  | i + 1 => lN (2 ^ i)
def rtN (sq : Int64) : Nat → Int64 → Int64
  | 0, r => r
  | i + 1, r => rtN sq i (if sq < (r + bitN (i + 1)) * (r + bitN (i + 1)) then r else r + bitN (i + 1))
theorem bit_half : ∀ i, i < 16 → bitN (i + 1) >>> (Int32.toInt64 1 &&& 63) = bitN i := by decide
theorem bit_pos : ∀ i, i < 16 → ¬ bitN (i + 1) ≤ 0 := by decide
def tickF (sq : Int64) : Int32 := (rtN sq 15 0 / 50).toInt32
theorem rtN_bd (sq : Int64) : ∀ (i : Nat) (r : Int64), i ≤ 15 → 0 ≤ r.toInt → r.toInt + 2 ^ i ≤ 32768 → 0 ≤ (rtN sq i r).toInt ∧ (rtN sq i r).toInt ≤ 32767
  | 0, r, _, h1, h2 => by simp only [rtN]; omega
  | i + 1, r, hi, h1, h2 => by
    have e : (2 : Int) ^ (i + 1) = 2 * 2 ^ i := by rw [Int.pow_succ, Int.mul_comm]
    have p0 : (0 : Int) < 2 ^ i := Int.pow_pos (by decide)
    have eb : (bitN (i + 1)).toInt = 2 ^ i := by
      show (lN (2 ^ i)).toInt = 2 ^ i
      rw [pk_lT (Nat.lt_of_le_of_lt (Nat.pow_le_pow_right (by decide) (show i ≤ 15 by omega)) (by decide))]
      exact Int.natCast_pow 2 i
    simp only [rtN]
    split
    · exact rtN_bd sq i r (by omega) h1 (by omega)
    · have es : (r + bitN (i + 1)).toInt = r.toInt + 2 ^ i := by rw [j_add (by omega) (by omega), eb]
      exact rtN_bd sq i _ (by omega) (by omega) (by omega)
theorem rt16 {sq : Int64} (h : sq < 1073741824) : rtN sq 16 0 = rtN sq 15 0 := by
  show rtN sq 15 (if sq < (0 + bitN 16) * (0 + bitN 16) then 0 else 0 + bitN 16) = _
  rw [if_pos (show sq < (0 + bitN 16) * (0 + bitN 16) by rw [show (0 + bitN 16) * (0 + bitN 16) = 1073741824 by decide]; exact h)]
theorem tick_c {sq : Int64} (h : sq < 1073741824) : (rtN sq 16 0).toInt32 / 50 = tickF sq := by
  rw [rt16 h]
  obtain ⟨h1, h2⟩ := rtN_bd sq 15 0 (by omega) (by decide) (by decide)
  unfold tickF
  generalize rtN sq 15 0 = x at *
  have e1 : (50 : Int32).toInt = 50 := by decide
  have e2 : (50 : Int64).toInt = 50 := by decide
  have e3 : x.toInt32.toInt = x.toInt := by rw [Int64.toInt_toInt32, Int.bmod_def]; omega
  apply Int32.toInt_inj.mp
  rw [lg_idiv_nonneg (by omega) (by omega), e1, e3, Int64.toInt_toInt32, lg_ldiv_nonneg (by omega) (by omega), e2, Int.bmod_def]
  omega
theorem tick_nn (sq : Int64) : 0 ≤ tickF sq ∧ tickF sq ≤ 655 := by
  obtain ⟨h1, h2⟩ := rtN_bd sq 15 0 (by omega) (by decide) (by decide)
  unfold tickF
  generalize rtN sq 15 0 = x at *
  have e2 : (50 : Int64).toInt = 50 := by decide
  have e0 : (0 : Int32).toInt = 0 := by decide
  have e6 : (655 : Int32).toInt = 655 := by decide
  have e3 : (x / 50).toInt32.toInt = x.toInt / 50 := by rw [Int64.toInt_toInt32, lg_ldiv_nonneg (by omega) (by omega), e2, Int.bmod_def]; omega
  rw [t_le, t_le, e3, e0, e6]
  omega
def iX1_wholeRoot_7_3 : List Instr := [.lload 4, .lconst 0, .lcmp]
theorem oX1_wholeRoot_7_3 : fOkB cX1_wholeRoot 7 iX1_wholeRoot_7_3 = true := by decide +kernel
theorem bX1_wholeRoot_11 : fBk cX1_wholeRoot 11 (.ifCond .le) 42 := ⟨31, by decide +kernel, by decide⟩
def iX1_wholeRoot_42_2 : List Instr := [.lload_n 2, .l2i]
theorem oX1_wholeRoot_42_2 : fOkB cX1_wholeRoot 42 iX1_wholeRoot_42_2 = true := by decide +kernel
theorem dX1_wholeRoot_44 : decode cX1_wholeRoot 44 = .ok (.ireturn, 1) := by decide +kernel
def iX1_wholeRoot_14_9 : List Instr := [.lload_n 2, .lload 4, .ladd, .lload_n 2, .lload 4, .ladd, .lmul, .lload_n 0, .lcmp]
theorem oX1_wholeRoot_14_9 : fOkB cX1_wholeRoot 14 iX1_wholeRoot_14_9 = true := by decide +kernel
theorem bX1_wholeRoot_25 : fBk cX1_wholeRoot 25 (.ifCond .gt) 33 := ⟨8, by decide +kernel, by decide⟩
def iX1_wholeRoot_33_5 : List Instr := [.lload 4, .iconst 1, .lshr, .lstore 4, .goto (-32)]
theorem oX1_wholeRoot_33_5 : fOkB cX1_wholeRoot 33 iX1_wholeRoot_33_5 = true := by decide +kernel
def iX1_wholeRoot_28_9 : List Instr := [.lload_n 2, .lload 4, .ladd, .lstore_n 2, .lload 4, .iconst 1, .lshr, .lstore 4, .goto (-32)]
theorem oX1_wholeRoot_28_9 : fOkB cX1_wholeRoot 28 iX1_wholeRoot_28_9 = true := by decide +kernel
set_option maxRecDepth 100000 in
theorem lpX1_root {G : fG} {d : Nat} {S : fS} {sq : Int64} : ∀ (i : Nat) (x : Int64), i ≤ 16 → fV G mX1_wholeRoot (fZm G d (fun z S' => z = some (.int (Int64.toInt32 (rtN sq i x))) ∧ S' = S)) 7 [(0, .long sq), (2, .long x), (4, .long (bitN i))] [] S := by
  intro i
  induction i with
  | zero =>
    intro x hi
    refine fV.run iX1_wholeRoot_7_3 oX1_wholeRoot_7_3 (pc' := 11) (L' := [(0, .long sq), (2, .long x), (4, .long (bitN 0))]) (st' := [.int (lg_cmp (bitN 0) 0)]) (S' := S) rfl trivial ?_
    refine fV.lif_le bX1_wholeRoot_11 (fun c11 => ?_) (fun c11 => ?_)
    · refine fV.run iX1_wholeRoot_42_2 oX1_wholeRoot_42_2 (pc' := 44) (L' := [(0, .long sq), (2, .long x), (4, .long (bitN 0))]) (st' := [.int (Int64.toInt32 x)]) (S' := S) rfl trivial ?_
      exact fV.iret rfl dX1_wholeRoot_44 ⟨rfl, rfl⟩
    · exact absurd c11 (by decide)
  | succ i ih =>
    intro x hi
    refine fV.run iX1_wholeRoot_7_3 oX1_wholeRoot_7_3 (pc' := 11) (L' := [(0, .long sq), (2, .long x), (4, .long (bitN (i + 1)))]) (st' := [.int (lg_cmp (bitN (i + 1)) 0)]) (S' := S) rfl trivial ?_
    refine fV.lif_le bX1_wholeRoot_11 (fun c11 => ?_) (fun c11 => ?_)
    · exact absurd c11 (bit_pos i (by omega))
    · refine fV.run iX1_wholeRoot_14_9 oX1_wholeRoot_14_9 (pc' := 25) (L' := [(0, .long sq), (2, .long x), (4, .long (bitN (i + 1)))]) (st' := [.int (lg_cmp ((x + (bitN (i + 1))) * (x + (bitN (i + 1)))) sq)]) (S' := S) rfl trivial ?_
      refine fV.lif_gt bX1_wholeRoot_25 (fun c25 => ?_) (fun c25 => ?_)
      · refine fV.run iX1_wholeRoot_33_5 oX1_wholeRoot_33_5 (pc' := 7) (L' := [(0, .long sq), (2, .long x), (4, .long ((bitN (i + 1)) >>> (Int32.toInt64 1 &&& 63)))]) (st' := []) (S' := S) rfl trivial ?_
        refine fV.to (L' := [(0, .long sq), (2, .long x), (4, .long (bitN i))]) rfl (by rw [bit_half i (by omega)]) rfl rfl ?_
        have e9 := ih x (by omega)
        simp only [rtN, if_pos c25]
        exact e9
      · refine fV.run iX1_wholeRoot_28_9 oX1_wholeRoot_28_9 (pc' := 7) (L' := [(0, .long sq), (2, .long (x + (bitN (i + 1)))), (4, .long ((bitN (i + 1)) >>> (Int32.toInt64 1 &&& 63)))]) (st' := []) (S' := S) rfl trivial ?_
        refine fV.to (L' := [(0, .long sq), (2, .long (x + (bitN (i + 1)))), (4, .long (bitN i))]) rfl (by rw [bit_half i (by omega)]) rfl rfl ?_
        have e9 := ih (x + (bitN (i + 1))) (by omega)
        simp only [rtN, if_neg c25]
        exact e9
def iX1_wholeRoot_0_4 : List Instr := [.lconst 0, .lstore_n 2, .ldc2_w 46, .lstore 4]
theorem oX1_wholeRoot_0_4 : fOkB cX1_wholeRoot 0 iX1_wholeRoot_0_4 = true := by decide +kernel
set_option maxRecDepth 100000 in
theorem qX1_root {G : fG} {d : Nat} {S : fS} (sq : Int64)  : fCtr G (d) mX1_wholeRoot [.long sq] S (fun z S' => z = some (.int (Int64.toInt32 (rtN sq 16 0))) ∧ S' = S) := by
  refine fCtr.of bXX1_wholeRoot (Nat.le_of_ble_eq_true rfl) rfl ?_
  refine fV.run iX1_wholeRoot_0_4 oX1_wholeRoot_0_4 (pc' := 7) (L' := [(0, .long sq), (2, .long 0), (4, .long 32768)]) (st' := []) (S' := S) rfl trivial ?_
  exact lpX1_root 16 0 (by omega)
/-- a path: its row, its length squared -/
abbrev pTh : Type := List Nat × Int64
def fnL (l : List Nat) : Nat → Nat := fun i => l.getD i 0
def lsF (l : Int32) (t : Int32) : Int32 := if l = -1 ∨ t < l then t else l
def leastF (PL : List pTh) : Int32 := PL.foldl (fun l x => lsF l (tickF x.2)) (-1)
def plOk (b : Nat) (PL : List pTh) : Prop := ∀ x ∈ PL, x.1.length ≤ 3 ∧ ∀ w ∈ x.1, w < b
/-- a path's row and its tick, in one number -/
def ptF (x : pTh) : Int32 := nI (pkN (fnL x.1) x.1.length) ||| (tickF x.2 <<< ((15 : Int32) &&& 31))
/-- the found paths, as the landed program holds them -/
def fdOk (S : fS) (PL : List pTh) : Prop := gI S 24 2 = nI PL.length ∧ PL.length ≤ 3857 ∧ gI S 24 3 = leastF PL ∧ ∀ (i : Nat) (x : pTh), PL[i]? = some x → gA S 25 i = ptF x ∧ gB S 26 i = x.2
def fAdd (S : fS) (n : Nat) (pk : Int32) (sq : Int64) (tk ls : Int32) : fS := wI (wI (wB (wA S 25 (upd (gA S 25) n (pk ||| (tk <<< ((15 : Int32) &&& 31))))) 26 (vp_updL (gB S 26) n sq)) 24 2 (nI (n + 1))) 24 3 ls
theorem tick_N (sq : Int64) : ∃ T : Nat, T < 656 ∧ tickF sq = nI T := by
  obtain ⟨h1, h2⟩ := tick_nn sq
  exact n_in (by decide) h1 (by show tickF sq < 656; grind)
theorem pt_sum {p T : Nat} (hp : p < 32768) (hT : T < 656) : nI p ||| (nI T <<< ((15 : Int32) &&& 31)) = nI (p + T * 2 ^ 15) := by
  have h1 : p < 2 ^ 15 := hp
  rw [pk_shlN _ 15 (by decide) (by omega), a_or, Nat.or_comm, Nat.mul_comm, ← Nat.two_pow_add_eq_or_of_lt h1, Nat.mul_comm, Nat.add_comm]
theorem pk3_lt {r : Nat → Nat} {k : Nat} (hk : k ≤ 3) (h : ∀ j, j < k → r j < 16) : pkN r k < 32768 := by
  have h1 := pkN_lt h
  have h2 : (32 : Nat) ^ k ≤ 32 ^ 3 := Nat.pow_le_pow_right (by decide) hk
  omega
theorem pt_wall {x : pTh} {t : Nat} (hk : x.1.length ≤ 3) (ht : t < 3) (h : ∀ j, j < x.1.length → fnL x.1 j < 16) : (ptF x >>> (5 * nI t &&& 31)) &&& 31 = nI (if t < x.1.length then fnL x.1 t + 1 else 0) := by
  obtain ⟨T, hT, eT⟩ := tick_N x.2
  have h1 := pk3_lt hk h
  rw [← pk_dig hk ht h]
  unfold ptF
  rw [eT, pt_sum h1 hT]
  generalize pkN (fnL x.1) x.1.length = p at *
  have h3 : (p + T * 2 ^ 15) / 2 ^ (5 * t) ≤ p + T * 2 ^ 15 := Nat.div_le_self _ _
  rw [pk_shrN (by omega) _ (5 * t) (sh5 t ht), pk_andN (by omega) 5 (by decide)]
  congr 1
  match t, ht with
  | 0, _ => simp only [Nat.mul_zero, Nat.pow_zero]; omega
  | 1, _ => simp only [Nat.mul_one]; omega
  | 2, _ => simp only [Nat.reduceMul]; omega
theorem pt_tick {x : pTh} (hk : x.1.length ≤ 3) (h : ∀ j, j < x.1.length → fnL x.1 j < 16) : ptF x >>> ((15 : Int32) &&& 31) = tickF x.2 := by
  obtain ⟨T, hT, eT⟩ := tick_N x.2
  have h1 := pk3_lt hk h
  unfold ptF
  rw [eT, pt_sum h1 hT]
  generalize pkN (fnL x.1) x.1.length = p at *
  rw [pk_shrN (by omega) _ 15 (by decide)]
  congr 1
  omega
theorem fnL_lt {l : List Nat} {b : Nat} (h : ∀ w ∈ l, w < b) {i : Nat} (hi : i < l.length) : fnL l i < b := by
  unfold fnL
  rw [List.getD_eq_getElem?_getD, List.getElem?_eq_getElem hi]
  exact h _ (List.getElem_mem hi)
theorem fd_add {S : fS} {PL : List pTh} {x : pTh} (h : fdOk S PL) (hn : PL.length < 3857) : fdOk (fAdd S PL.length (nI (pkN (fnL x.1) x.1.length)) x.2 (tickF x.2) (lsF (gI S 24 3) (tickF x.2))) (PL ++ [x]) := by
  obtain ⟨h1, h2, h3, h4⟩ := h
  refine ⟨?_, ?_, ?_, fun i y hy => ?_⟩
  · rw [List.length_append]; rfl
  · rw [List.length_append]; simp only [List.length_cons, List.length_nil]; omega
  · show lsF (gI S 24 3) (tickF x.2) = _
    unfold leastF at h3 ⊢
    rw [List.foldl_append, ← h3]
    rfl
  · show upd (gA S 25) PL.length _ i = _ ∧ vp_updL (gB S 26) PL.length _ i = _
    by_cases e : i = PL.length
    · subst e
      rw [List.getElem?_append_right (Nat.le_refl _), Nat.sub_self] at hy
      cases hy
      rw [upd_at, pk_uLs]
      exact ⟨rfl, rfl⟩
    · have hl : i < PL.length := by
        have := (List.getElem?_eq_some_iff.mp hy).1
        rw [List.length_append] at this
        simp only [List.length_cons, List.length_nil] at this
        omega
      rw [List.getElem?_append_left hl] at hy
      rw [upd_ne e, pk_uLn e]
      exact h4 i y hy
def wOf (l : List Nat) (t : Nat) : Int32 := if t < l.length then nI (fnL l t) else -1
theorem least_nn (PL : List pTh) : leastF PL = -1 ∨ (0 ≤ leastF PL ∧ leastF PL ≤ 655) := by
  unfold leastF
  have : ∀ (l : List pTh) (z : Int32), (z = -1 ∨ (0 ≤ z ∧ z ≤ 655)) → (l.foldl (fun l x => lsF l (tickF x.2)) z = -1 ∨ (0 ≤ l.foldl (fun l x => lsF l (tickF x.2)) z ∧ l.foldl (fun l x => lsF l (tickF x.2)) z ≤ 655)) := by
    intro l
    induction l with
    | nil => intro z hz; exact hz
    | cons x t ih =>
      intro z hz
      have := tick_nn x.2
      have h2 : lsF z (tickF x.2) = -1 ∨ (0 ≤ lsF z (tickF x.2) ∧ lsF z (tickF x.2) ≤ 655) := by
        unfold lsF
        split
        · exact Or.inr this
        · exact hz
      exact ih _ h2
  exact this PL (-1) (Or.inl rfl)
def iX1_clear_0_6 : List Instr := [.aload_n 0, .iconst 0, .putfield 19, .aload_n 0, .iconst (-1), .putfield 23]
theorem oX1_clear_0_6 : fOkB cX1_clear 0 iX1_clear_0_6 = true := by decide +kernel
theorem dX1_clear_10 : decode cX1_clear 10 = .ok (.return_, 1) := by decide +kernel
set_option maxRecDepth 100000 in
theorem qX1_clear {G : fG} {d : Nat} {S : fS}   : fCtr G (d) mX1_clear [.ref 24] S (fun r S' => r = none ∧ S' = wI (wI S 24 2 0) 24 3 (-1)) := by
  refine fCtr.of bXX1_clear (Nat.le_of_ble_eq_true rfl) rfl ?_
  refine fV.run iX1_clear_0_6 oX1_clear_0_6 (pc' := 10) (L' := [(0, .ref 24)]) (st' := []) (S' := (wI (wI S 24 2 0) 24 3 (-1))) rfl trivial ?_
  exact fV.vret rfl dX1_clear_10 ⟨rfl, rfl⟩
def iX1_wallOf_0_12 : List Instr := [.aload_n 0, .getfield 11, .iload_n 1, .iaload, .iconst 5, .iload_n 2, .imul, .ishr, .bipush 31, .iand, .iconst 1, .isub]
theorem oX1_wallOf_0_12 : fOkB cX1_wallOf 0 iX1_wallOf_0_12 = true := by decide +kernel
theorem dX1_wallOf_15 : decode cX1_wallOf 15 = .ok (.ireturn, 1) := by decide +kernel
set_option maxRecDepth 100000 in
theorem qX1_wallOf {G : fG} {d : Nat} {S : fS} {b n t : Nat} {PL : List pTh} {x : pTh} (hb : b ≤ 16) (F : fdOk S PL) (hp : plOk b PL) (hx : PL[n]? = some x) (ht : t < 3)  : fCtr G (d) mX1_wallOf [.ref 24, .int (nI n), .int (nI t)] S (fun r S' => r = some (.int (wOf x.1 t)) ∧ S' = S) := by
  refine fCtr.of bXX1_wallOf (Nat.le_of_ble_eq_true rfl) rfl ?_
  have hn : n < PL.length := (List.getElem?_eq_some_iff.mp hx).1
  have hn2 : PL.length ≤ 3857 := F.2.1
  have hp1 := hp x (List.mem_of_getElem? hx)
  have hp2 : ∀ j, j < x.1.length → fnL x.1 j < 16 := fun j hj => Nat.lt_of_lt_of_le (fnL_lt hp1.2 hj) hb
  refine fV.run iX1_wallOf_0_12 oX1_wallOf_0_12 (pc' := 15) (L' := [(0, .ref 24), (1, .int (nI n)), (2, .int (nI t))]) (st' := [.int ((((gA S 25 (nI n).toNatClampNeg) >>> ((5 * (nI t)) &&& 31)) &&& 31) - 1)]) (S' := S) (P := vp_in (nI n) 3857 ∧ True) rfl ⟨(vp_in_nI (by omega) (by decide)), trivial⟩ ?_
  exact fV.iret rfl dX1_wallOf_15 ⟨by rw [nI_clamp (by omega), (F.2.2.2 n x hx).1, pt_wall hp1.1 ht hp2]; unfold wOf; split <;> first | rw [nI_pred] | rfl | decide, rfl⟩
def iX1_tickOf_0_6 : List Instr := [.aload_n 0, .getfield 11, .iload_n 1, .iaload, .bipush 15, .ishr]
theorem oX1_tickOf_0_6 : fOkB cX1_tickOf 0 iX1_tickOf_0_6 = true := by decide +kernel
theorem dX1_tickOf_9 : decode cX1_tickOf 9 = .ok (.ireturn, 1) := by decide +kernel
set_option maxRecDepth 100000 in
theorem qX1_tickOf {G : fG} {d : Nat} {S : fS} {b n : Nat} {PL : List pTh} {x : pTh} (hb : b ≤ 16) (F : fdOk S PL) (hp : plOk b PL) (hx : PL[n]? = some x)  : fCtr G (d) mX1_tickOf [.ref 24, .int (nI n)] S (fun r S' => r = some (.int (tickF x.2)) ∧ S' = S) := by
  refine fCtr.of bXX1_tickOf (Nat.le_of_ble_eq_true rfl) rfl ?_
  have hn : n < PL.length := (List.getElem?_eq_some_iff.mp hx).1
  have hn2 : PL.length ≤ 3857 := F.2.1
  have hp1 := hp x (List.mem_of_getElem? hx)
  have hp2 : ∀ j, j < x.1.length → fnL x.1 j < 16 := fun j hj => Nat.lt_of_lt_of_le (fnL_lt hp1.2 hj) hb
  refine fV.run iX1_tickOf_0_6 oX1_tickOf_0_6 (pc' := 9) (L' := [(0, .ref 24), (1, .int (nI n))]) (st' := [.int ((gA S 25 (nI n).toNatClampNeg) >>> ((15 : Int32) &&& 31))]) (S' := S) (P := vp_in (nI n) 3857 ∧ True) rfl ⟨(vp_in_nI (by omega) (by decide)), trivial⟩ ?_
  exact fV.iret rfl dX1_tickOf_9 ⟨by rw [nI_clamp (by omega), (F.2.2.2 n x hx).1, pt_tick hp1.1 hp2], rfl⟩
theorem wOf_n {l : List Nat} {t : Nat} (h : ∀ j, j < l.length → fnL l j < 16) : wOf l t = -1 ↔ l.length ≤ t := by
  unfold wOf
  split
  · rename_i ht
    constructor
    · intro z
      exact absurd z (by
        have := h t ht
        intro e
        have e2 := congrArg Int32.toInt e
        rw [nI_toInt (by omega)] at e2
        have : (-1 : Int32).toInt = -1 := by decide
        omega)
    · intro z; omega
  · rename_i ht
    exact ⟨fun _ => by omega, fun _ => rfl⟩
def iX1_orderOf_4_2 : List Instr := [.iload_n 3, .iconst 3]
theorem oX1_orderOf_4_2 : fOkB cX1_orderOf 4 iX1_orderOf_4_2 = true := by decide +kernel
theorem bX1_orderOf_6 : fBk cX1_orderOf 6 (.if_icmp .ge) 28 := ⟨22, by decide +kernel, by decide⟩
def iX1_orderOf_28_1 : List Instr := [.iload_n 2]
theorem oX1_orderOf_28_1 : fOkB cX1_orderOf 28 iX1_orderOf_28_1 = true := by decide +kernel
theorem dX1_orderOf_29 : decode cX1_orderOf 29 = .ok (.ireturn, 1) := by decide +kernel
def iX1_orderOf_9_3 : List Instr := [.aload_n 0, .iload_n 1, .iload_n 3]
theorem oX1_orderOf_9_3 : fOkB cX1_orderOf 9 iX1_orderOf_9_3 = true := by decide +kernel
set_option maxRecDepth 100000 in
theorem lX1_42 : Cond.methodLink RX1 42 yX1_wallOf ∈ fTB := fTB_at 507 rfl rfl
theorem dX1_orderOf_12 : decode cX1_orderOf 12 = .ok (.invokevirtual 42, 3) := by decide +kernel
def iX1_orderOf_15_1 : List Instr := [.iconst (-1)]
theorem oX1_orderOf_15_1 : fOkB cX1_orderOf 15 iX1_orderOf_15_1 = true := by decide +kernel
theorem bX1_orderOf_16 : fBk cX1_orderOf 16 (.if_icmp .eq) 22 := ⟨6, by decide +kernel, by decide⟩
def iX1_orderOf_22_2 : List Instr := [.iinc 3 1, .goto (-21)]
theorem oX1_orderOf_22_2 : fOkB cX1_orderOf 22 iX1_orderOf_22_2 = true := by decide +kernel
def iX1_orderOf_19_3 : List Instr := [.iinc 2 1, .iinc 3 1, .goto (-21)]
theorem oX1_orderOf_19_3 : fOkB cX1_orderOf 19 iX1_orderOf_19_3 = true := by decide +kernel
set_option maxRecDepth 100000 in
theorem lpX1_ord {G : fG} {d : Nat} {S : fS}  {b n : Nat} {PL : List pTh} {x : pTh} (hb : b ≤ 16) (F : fdOk S PL) (hp : plOk b PL) (hx : PL[n]? = some x) : ∀ (u9 t : Nat), t + u9 = 3 → fV G mX1_orderOf (fZm G (d + 1) (fun r S' => r = some (.int (nI x.1.length)) ∧ S' = S)) 4 [(0, .ref 24), (1, .int (nI n)), (2, .int (nI (min t x.1.length))), (3, .int (nI t))] [] S := by
  have hn : n < PL.length := (List.getElem?_eq_some_iff.mp hx).1
  have hn2 : PL.length ≤ 3857 := F.2.1
  have hp1 := hp x (List.mem_of_getElem? hx)
  have hp2 : ∀ j, j < x.1.length → fnL x.1 j < 16 := fun j hj => Nat.lt_of_lt_of_le (fnL_lt hp1.2 hj) hb
  intro u9
  induction u9 with
  | zero =>
    intro t  hik
    refine fV.run iX1_orderOf_4_2 oX1_orderOf_4_2 (pc' := 6) (L' := [(0, .ref 24), (1, .int (nI n)), (2, .int (nI (min t x.1.length))), (3, .int (nI t))]) (st' := [.int 3, .int (nI t)]) (S' := S) rfl trivial ?_
    refine fV.icmp_ge bX1_orderOf_6 (fun c6 => ?_) (fun c6 => ?_)
    · refine fV.run iX1_orderOf_28_1 oX1_orderOf_28_1 (pc' := 29) (L' := [(0, .ref 24), (1, .int (nI n)), (2, .int (nI (min t x.1.length))), (3, .int (nI t))]) (st' := [.int (nI (min t x.1.length))]) (S' := S) rfl trivial ?_
      exact fV.iret rfl dX1_orderOf_29 ⟨by rw [show min t x.1.length = x.1.length by omega], rfl⟩
    · exact absurd c6 (by rw [show (3 : Int32) = nI 3 from rfl, nI_leI (by omega) (by omega)]; omega)
  | succ u9 ih =>
    intro t  hik
    refine fV.run iX1_orderOf_4_2 oX1_orderOf_4_2 (pc' := 6) (L' := [(0, .ref 24), (1, .int (nI n)), (2, .int (nI (min t x.1.length))), (3, .int (nI t))]) (st' := [.int 3, .int (nI t)]) (S' := S) rfl trivial ?_
    refine fV.icmp_ge bX1_orderOf_6 (fun c6 => ?_) (fun c6 => ?_)
    · exact absurd c6 (by rw [show (3 : Int32) = nI 3 from rfl, nI_leI (by omega) (by omega)]; omega)
    · refine fV.run iX1_orderOf_9_3 oX1_orderOf_9_3 (pc' := 12) (L' := [(0, .ref 24), (1, .int (nI n)), (2, .int (nI (min t x.1.length))), (3, .int (nI t))]) (st' := [.int (nI t), .int (nI n), .ref 24]) (S' := S) rfl trivial ?_
      refine fV.callV (M2 := mX1_wallOf) (d := d) (o := 24) (av := [.int (nI n), .int (nI t)]) (rest := []) kX1_wallOf dX1_orderOf_12 lX1_42 rfl rfl rfl (Nat.le_of_ble_eq_true rfl) (fRoom (by decide)) ⟨Nat.le_refl _, Nat.le_refl _⟩ (qX1_wallOf (t := t) hb F hp hx (by omega)) ?_
      rintro _ S9 ⟨rfl, h9⟩
      rw [h9]
      clear h9 S9
      refine fV.to (pc' := 15) (L' := [(0, .ref 24), (1, .int (nI n)), (2, .int (nI (min t x.1.length))), (3, .int (nI t))]) (st' := [.int (wOf x.1 t)]) (S' := S) rfl rfl rfl rfl ?_
      refine fV.run iX1_orderOf_15_1 oX1_orderOf_15_1 (pc' := 16) (L' := [(0, .ref 24), (1, .int (nI n)), (2, .int (nI (min t x.1.length))), (3, .int (nI t))]) (st' := [.int (-1), .int (wOf x.1 t)]) (S' := S) rfl trivial ?_
      refine fV.icmp_eq bX1_orderOf_16 (fun c16 => ?_) (fun c16 => ?_)
      · refine fV.run iX1_orderOf_22_2 oX1_orderOf_22_2 (pc' := 4) (L' := [(0, .ref 24), (1, .int (nI n)), (2, .int (nI (min t x.1.length))), (3, .int ((nI t) + 1))]) (st' := []) (S' := S) rfl trivial ?_
        refine fV.to (L' := [(0, .ref 24), (1, .int (nI n)), (2, .int (nI (min (t + 1) x.1.length))), (3, .int (nI (t + 1)))]) rfl (by rw [nI_1, show min t x.1.length = min (t + 1) x.1.length by have := (wOf_n hp2).mp c16; omega]) rfl rfl (ih (t + 1) (by omega))
      · refine fV.run iX1_orderOf_19_3 oX1_orderOf_19_3 (pc' := 4) (L' := [(0, .ref 24), (1, .int (nI n)), (2, .int ((nI (min t x.1.length)) + 1)), (3, .int ((nI t) + 1))]) (st' := []) (S' := S) rfl trivial ?_
        refine fV.to (L' := [(0, .ref 24), (1, .int (nI n)), (2, .int (nI (min (t + 1) x.1.length))), (3, .int (nI (t + 1)))]) rfl (by rw [nI_1, nI_1, show min t x.1.length + 1 = min (t + 1) x.1.length by have := mt (wOf_n hp2).mpr c16; omega]) rfl rfl (ih (t + 1) (by omega))
def iX1_orderOf_0_4 : List Instr := [.iconst 0, .istore_n 2, .iconst 0, .istore_n 3]
theorem oX1_orderOf_0_4 : fOkB cX1_orderOf 0 iX1_orderOf_0_4 = true := by decide +kernel
set_option maxRecDepth 100000 in
theorem qX1_ord {G : fG} {d : Nat} {S : fS} {b n : Nat} {PL : List pTh} {x : pTh} (hb : b ≤ 16) (F : fdOk S PL) (hp : plOk b PL) (hx : PL[n]? = some x)  : fCtr G (d + 1) mX1_orderOf [.ref 24, .int (nI n)] S (fun r S' => r = some (.int (nI x.1.length)) ∧ S' = S) := by
  refine fCtr.of bXX1_orderOf (Nat.le_of_ble_eq_true rfl) rfl ?_
  refine fV.run iX1_orderOf_0_4 oX1_orderOf_0_4 (pc' := 4) (L' := [(0, .ref 24), (1, .int (nI n)), (2, .int 0), (3, .int 0)]) (st' := []) (S' := S) rfl trivial ?_
  refine fV.to (L' := [(0, .ref 24), (1, .int (nI n)), (2, .int (nI (min 0 x.1.length))), (3, .int (nI 0))]) rfl (by rw [Nat.zero_min]; rfl) rfl rfl ?_
  exact lpX1_ord hb F hp hx 3 0 (by omega)
theorem gI_upd_least (S : fS) (n : Nat) (pk : Int32) (sq : Int64) (tk : Int32) : fAdd S n pk sq tk (gI S 24 3) = wI (wB (wA S 25 (upd (gA S 25) n (pk ||| (tk <<< ((15 : Int32) &&& 31))))) 26 (vp_updL (gB S 26) n sq)) 24 2 (nI (n + 1)) := by
  unfold fAdd
  exact rwI_self _ 24 3
def iX1_add_15_3 : List Instr := [.iload_n 3, .aload_n 1, .getfield 26]
theorem oX1_add_15_3 : fOkB cX1_add 15 iX1_add_15_3 = true := by decide +kernel
theorem bX1_add_20 : fBk cX1_add 20 (.if_icmp .ge) 44 := ⟨24, by decide +kernel, by decide⟩
def iX1_add_44_1 : List Instr := [.aload_n 1]
theorem oX1_add_44_1 : fOkB cX1_add 44 iX1_add_44_1 = true := by decide +kernel
set_option maxRecDepth 100000 in
theorem lX1_34 : Cond.methodLink RX1 34 yX3_lengthSquared ∈ fTB := fTB_at 484 rfl rfl
theorem dX1_add_45 : decode cX1_add 45 = .ok (.invokevirtual 34, 3) := by decide +kernel
def iX1_add_48_2 : List Instr := [.lstore_n 3, .lload_n 3]
theorem oX1_add_48_2 : fOkB cX1_add 48 iX1_add_48_2 = true := by decide +kernel
set_option maxRecDepth 100000 in
theorem lX1_38 : Cond.methodLink RX1 38 yX1_wholeRoot ∈ fTB := fTB_at 488 rfl rfl
theorem dX1_add_50 : decode cX1_add 50 = .ok (.invokestatic 38, 3) := by decide +kernel
def iX1_add_53_2 : List Instr := [.bipush 50, .idiv]
theorem oX1_add_53_2 : fOkB cX1_add 53 iX1_add_53_2 = true := by decide +kernel
def iX1_add_56_26 : List Instr := [.istore 5, .aload_n 0, .getfield 11, .aload_n 0, .getfield 19, .iload_n 2, .iload 5, .bipush 15, .ishl, .ior, .iastore, .aload_n 0, .getfield 15, .aload_n 0, .getfield 19, .lload_n 3, .lastore, .aload_n 0, .dup, .getfield 19, .iconst 1, .iadd, .putfield 19, .aload_n 0, .getfield 23, .iconst (-1)]
theorem oX1_add_56_26 : fOkB cX1_add 56 iX1_add_56_26 = true := by decide +kernel
theorem bX1_add_99 : fBk cX1_add 99 (.if_icmp .eq) 111 := ⟨12, by decide +kernel, by decide⟩
def iX1_add_111_3 : List Instr := [.aload_n 0, .iload 5, .putfield 23]
theorem oX1_add_111_3 : fOkB cX1_add 111 iX1_add_111_3 = true := by decide +kernel
theorem dX1_add_117 : decode cX1_add 117 = .ok (.return_, 1) := by decide +kernel
def iX1_add_102_3 : List Instr := [.iload 5, .aload_n 0, .getfield 23]
theorem oX1_add_102_3 : fOkB cX1_add 102 iX1_add_102_3 = true := by decide +kernel
theorem bX1_add_108 : fBk cX1_add 108 (.if_icmp .ge) 117 := ⟨9, by decide +kernel, by decide⟩
def iX1_add_23_15 : List Instr := [.iload_n 2, .aload_n 1, .getfield 31, .iload_n 3, .iaload, .iconst 1, .iadd, .iconst 5, .iload_n 3, .imul, .ishl, .ior, .istore_n 2, .iinc 3 1, .goto (-26)]
theorem oX1_add_23_15 : fOkB cX1_add 23 iX1_add_23_15 = true := by decide +kernel
set_option maxRecDepth 100000 in
theorem lpX1_add {G : fG} {d : Nat} {S : fS}  {b k : Nat} {src seat : zP} {r : Nat → Nat} {PL : List pTh} (hb : b ≤ 16) (R : rtRow S b src seat r k) (F : fdOk S PL) (hn : PL.length < 3857) {sq : Int64} (hsq : sq = ((gA S 20 (2 * k) - gI S 18 5).toInt64 * (gA S 20 (2 * k) - gI S 18 5).toInt64 + (gA S 20 (2 * k + 1) - gI S 18 6).toInt64 * (gA S 20 (2 * k + 1) - gI S 18 6).toInt64)) (hlt : sq < 1073741824) : ∀ (u9 i : Nat), i + u9 = k → fV G mX1_add (fZm G (d + 1) (fun z S' => z = none ∧ S' = fAdd S PL.length (nI (pkN r k)) sq (tickF sq) (lsF (gI S 24 3) (tickF sq)))) 15 [(0, .ref 24), (1, .ref 18), (2, .int (nI (pkN r i))), (3, .int (nI i))] [] S := by
  have hk3 : k ≤ 3 := R.2.1
  have h16 : ∀ i, i < k → r i < 16 := fun i hi => Nat.lt_of_lt_of_le (R.2.2.1 i hi).2 hb
  intro u9
  induction u9 with
  | zero =>
    intro i  hik
    refine fV.run iX1_add_15_3 oX1_add_15_3 (pc' := 20) (L' := [(0, .ref 24), (1, .ref 18), (2, .int (nI (pkN r i))), (3, .int (nI i))]) (st' := [.int (gI S 18 7), .int (nI i)]) (S' := S) rfl trivial ?_
    refine fV.icmp_ge bX1_add_20 (fun c20 => ?_) (fun c20 => ?_)
    · refine fV.to (L' := [(0, .ref 24), (1, .ref 18), (2, .int (nI (pkN r k))), (3, .int (nI i))]) (st' := []) rfl (by rw [show (nI (pkN r i) : Int32) = nI (pkN r k) from by rw [show i = k by omega]]) rfl rfl ?_
      refine fV.run iX1_add_44_1 oX1_add_44_1 (pc' := 45) (L' := [(0, .ref 24), (1, .ref 18), (2, .int (nI (pkN r k))), (3, .int (nI i))]) (st' := [.ref 18]) (S' := S) rfl trivial ?_
      refine fV.callV (M2 := mX3_lengthSquared) (d := d) (o := 18) (av := []) (rest := []) kX3_lengthSquared dX1_add_45 lX1_34 rfl rfl rfl (Nat.le_of_ble_eq_true rfl) (fRoom (by decide)) ⟨Nat.le_refl _, Nat.le_refl _⟩ (qX3_len2 R.1 R.2.1) ?_
      rintro _ S9 ⟨rfl, h9⟩
      rw [h9, ← hsq]
      clear h9 S9
      refine fV.to (pc' := 48) (L' := [(0, .ref 24), (1, .ref 18), (2, .int (nI (pkN r k))), (3, .int (nI i))]) (st' := [.long sq]) (S' := S) rfl rfl rfl rfl ?_
      refine fV.run iX1_add_48_2 oX1_add_48_2 (pc' := 50) (L' := [(0, .ref 24), (1, .ref 18), (2, .int (nI (pkN r k))), (3, .long sq)]) (st' := [.long sq]) (S' := S) rfl trivial ?_
      refine fV.callS (M2 := mX1_wholeRoot) (d := d) (av := [.long sq]) (rest := []) kX1_wholeRoot dX1_add_50 lX1_38 rfl rfl (Nat.le_of_ble_eq_true rfl) (fRoom (by decide)) ⟨Nat.le_refl _, Nat.le_refl _⟩ (qX1_root _) ?_
      rintro _ S9 ⟨rfl, h9⟩
      rw [h9]
      clear h9 S9
      refine fV.to (pc' := 53) (L' := [(0, .ref 24), (1, .ref 18), (2, .int (nI (pkN r k))), (3, .long sq)]) (st' := [.int (Int64.toInt32 (rtN sq 16 0))]) (S' := S) rfl rfl rfl rfl ?_
      refine fV.run iX1_add_53_2 oX1_add_53_2 (pc' := 56) (L' := [(0, .ref 24), (1, .ref 18), (2, .int (nI (pkN r k))), (3, .long sq)]) (st' := [.int ((Int64.toInt32 (rtN sq 16 0)) / 50)]) (S' := S) (P := ¬ 50 = 0 ∧ True) rfl ⟨(by decide), trivial⟩ ?_
      refine fV.to (L' := [(0, .ref 24), (1, .ref 18), (2, .int (nI (pkN r k))), (3, .long sq)]) (st' := [.int (tickF sq)]) rfl rfl (by rw [show ((Int64.toInt32 (rtN sq 16 0)) / 50 : Int32) = tickF sq from tick_c hlt]) rfl ?_
      refine fV.run iX1_add_56_26 oX1_add_56_26 (pc' := 99) (L' := [(0, .ref 24), (1, .ref 18), (2, .int (nI (pkN r k))), (3, .long sq), (5, .int (tickF sq))]) (st' := [.int (-1), .int (gI S 24 3)]) (S' := (wI (wB (wA S 25 (upd (gA S 25) (gI S 24 2).toNatClampNeg ((nI (pkN r k)) ||| ((tickF sq) <<< ((15 : Int32) &&& 31))))) 26 (vp_updL (gB S 26) (gI S 24 2).toNatClampNeg sq)) 24 2 ((gI S 24 2) + 1))) (P := vp_in (gI S 24 2) 3857 ∧ vp_in (gI S 24 2) 3857 ∧ True) rfl ⟨(vinN (w := PL.length) (by omega) (by decide) F.1), (vinN (w := PL.length) (by omega) (by decide) F.1), trivial⟩ ?_
      refine fV.icmp_eq bX1_add_99 (fun c99 => ?_) (fun c99 => ?_)
      · refine fV.run iX1_add_111_3 oX1_add_111_3 (pc' := 117) (L' := [(0, .ref 24), (1, .ref 18), (2, .int (nI (pkN r k))), (3, .long sq), (5, .int (tickF sq))]) (st' := []) (S' := (wI (wI (wB (wA S 25 (upd (gA S 25) (gI S 24 2).toNatClampNeg ((nI (pkN r k)) ||| ((tickF sq) <<< ((15 : Int32) &&& 31))))) 26 (vp_updL (gB S 26) (gI S 24 2).toNatClampNeg sq)) 24 2 ((gI S 24 2) + 1)) 24 3 (tickF sq))) rfl trivial ?_
        exact fV.vret rfl dX1_add_117 ⟨rfl, by rw [F.1, nI_clamp (by omega), nI_1, show lsF (gI S 24 3) (tickF sq) = tickF sq from if_pos (by first | exact Or.inl c99 | exact Or.inr (by grind))]; rfl⟩
      · refine fV.run iX1_add_102_3 oX1_add_102_3 (pc' := 108) (L' := [(0, .ref 24), (1, .ref 18), (2, .int (nI (pkN r k))), (3, .long sq), (5, .int (tickF sq))]) (st' := [.int (gI S 24 3), .int (tickF sq)]) (S' := (wI (wB (wA S 25 (upd (gA S 25) (gI S 24 2).toNatClampNeg ((nI (pkN r k)) ||| ((tickF sq) <<< ((15 : Int32) &&& 31))))) 26 (vp_updL (gB S 26) (gI S 24 2).toNatClampNeg sq)) 24 2 ((gI S 24 2) + 1))) rfl trivial ?_
        refine fV.icmp_ge bX1_add_108 (fun c108 => ?_) (fun c108 => ?_)
        · exact fV.vret rfl dX1_add_117 ⟨rfl, by rw [F.1, nI_clamp (by omega), nI_1, show lsF (gI S 24 3) (tickF sq) = gI S 24 3 from if_neg (by grind), gI_upd_least]⟩
        · refine fV.run iX1_add_111_3 oX1_add_111_3 (pc' := 117) (L' := [(0, .ref 24), (1, .ref 18), (2, .int (nI (pkN r k))), (3, .long sq), (5, .int (tickF sq))]) (st' := []) (S' := (wI (wI (wB (wA S 25 (upd (gA S 25) (gI S 24 2).toNatClampNeg ((nI (pkN r k)) ||| ((tickF sq) <<< ((15 : Int32) &&& 31))))) 26 (vp_updL (gB S 26) (gI S 24 2).toNatClampNeg sq)) 24 2 ((gI S 24 2) + 1)) 24 3 (tickF sq))) rfl trivial ?_
          exact fV.vret rfl dX1_add_117 ⟨rfl, by rw [F.1, nI_clamp (by omega), nI_1, show lsF (gI S 24 3) (tickF sq) = tickF sq from if_pos (by first | exact Or.inl c99 | exact Or.inr (by grind))]; rfl⟩
    · exact absurd c20 (by rw [R.1, nI_leI (by omega) (by omega)]; omega)
  | succ u9 ih =>
    intro i  hik
    refine fV.run iX1_add_15_3 oX1_add_15_3 (pc' := 20) (L' := [(0, .ref 24), (1, .ref 18), (2, .int (nI (pkN r i))), (3, .int (nI i))]) (st' := [.int (gI S 18 7), .int (nI i)]) (S' := S) rfl trivial ?_
    refine fV.icmp_ge bX1_add_20 (fun c20 => ?_) (fun c20 => ?_)
    · exact absurd c20 (by rw [R.1, nI_leI (by omega) (by omega)]; omega)
    · refine fV.run iX1_add_23_15 oX1_add_23_15 (pc' := 15) (L' := [(0, .ref 24), (1, .ref 18), (2, .int ((nI (pkN r i)) ||| (((gA S 19 (nI i).toNatClampNeg) + 1) <<< ((5 * (nI i)) &&& 31)))), (3, .int ((nI i) + 1))]) (st' := []) (S' := S) (P := vp_in (nI i) 3 ∧ True) rfl ⟨(vp_in_nI (show i < 3 by omega) (by decide)), trivial⟩ ?_
      refine fV.to (L' := [(0, .ref 24), (1, .ref 18), (2, .int (nI (pkN r (i + 1)))), (3, .int (nI (i + 1)))]) rfl (by rw [nI_clamp (by omega), (R.2.2.1 i (by omega)).1, pk_step (by omega) (fun j hj => h16 j (by omega)), nI_1]) rfl rfl (ih (i + 1) (by omega))
def iX1_add_0_3 : List Instr := [.aload_n 0, .getfield 19, .sipush 3857]
theorem oX1_add_0_3 : fOkB cX1_add 0 iX1_add_0_3 = true := by decide +kernel
theorem bX1_add_7 : fBk cX1_add 7 (.if_icmp .lt) 11 := ⟨4, by decide +kernel, by decide⟩
def iX1_add_11_4 : List Instr := [.iconst 0, .istore_n 2, .iconst 0, .istore_n 3]
theorem oX1_add_11_4 : fOkB cX1_add 11 iX1_add_11_4 = true := by decide +kernel
set_option maxRecDepth 100000 in
theorem qX1_add {G : fG} {d : Nat} {S : fS} {b k : Nat} {src seat : zP} {r : Nat → Nat} {PL : List pTh} (hb : b ≤ 16) (R : rtRow S b src seat r k) (F : fdOk S PL) (hn : PL.length < 3857) {sq : Int64} (hsq : sq = ((gA S 20 (2 * k) - gI S 18 5).toInt64 * (gA S 20 (2 * k) - gI S 18 5).toInt64 + (gA S 20 (2 * k + 1) - gI S 18 6).toInt64 * (gA S 20 (2 * k + 1) - gI S 18 6).toInt64)) (hlt : sq < 1073741824)  : fCtr G (d + 1) mX1_add [.ref 24, .ref 18] S (fun z S' => z = none ∧ S' = fAdd S PL.length (nI (pkN r k)) sq (tickF sq) (lsF (gI S 24 3) (tickF sq))) := by
  refine fCtr.of bXX1_add (Nat.le_of_ble_eq_true rfl) rfl ?_
  have hk3 : k ≤ 3 := R.2.1
  have h16 : ∀ i, i < k → r i < 16 := fun i hi => Nat.lt_of_lt_of_le (R.2.2.1 i hi).2 hb
  refine fV.run iX1_add_0_3 oX1_add_0_3 (pc' := 7) (L' := [(0, .ref 24), (1, .ref 18)]) (st' := [.int 3857, .int (gI S 24 2)]) (S' := S) rfl trivial ?_
  refine fV.icmp_lt bX1_add_7 (fun c7 => ?_) (fun c7 => ?_)
  · refine fV.run iX1_add_11_4 oX1_add_11_4 (pc' := 15) (L' := [(0, .ref 24), (1, .ref 18), (2, .int 0), (3, .int 0)]) (st' := []) (S' := S) rfl trivial ?_
    exact lpX1_add hb R F hn hsq hlt k 0 (by omega)
  · exact absurd c7 (by rw [F.1, show (3857 : Int32) = nI 3857 from rfl, nI_ltI (by omega) (by omega)]; omega)

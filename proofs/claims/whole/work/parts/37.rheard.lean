/-! the reference: what is heard, and the bounds of its sums -/
def shOk (sh sf : Nat → Int32) (b : Nat) : Prop := ∀ w, w < b → 0 ≤ (sh (sf w).toNatClampNeg).toInt ∧ (sh (sf w).toNatClampNeg).toInt ≤ 100
theorem j100 : (100 : Int64).toInt = 100 := by decide
theorem en_step {u : Int64} {s : Int32} (h0 : 0 ≤ u.toInt) (h1 : u.toInt ≤ 1000000000) (s0 : 0 ≤ s.toInt) (s1 : s.toInt ≤ 100) : 0 ≤ (u * s.toInt64 / 100).toInt ∧ (u * s.toInt64 / 100).toInt ≤ u.toInt := by
  have e0 : s.toInt64.toInt = s.toInt := Int32.toInt_toInt64 s
  have m1 : u.toInt * s.toInt ≤ u.toInt * 100 := Int.mul_le_mul_of_nonneg_left s1 h0
  have m0 : 0 ≤ u.toInt * s.toInt := Int.mul_nonneg h0 s0
  have e1 : (u * s.toInt64).toInt = u.toInt * s.toInt := by rw [j_mul (by rw [e0]; omega) (by rw [e0]; omega), e0]
  rw [lg_ldiv_nonneg (by omega) (by rw [j100]; omega), j100, e1]
  omega
theorem enI_bd {sh sf : Nat → Int32} {b : Nat} {e0 : Int64} {l : List Nat} (hs : shOk sh sf b) (h0 : 0 ≤ e0.toInt) (h1 : e0.toInt ≤ 1000000000) (hl : ∀ w ∈ l, w < b) : ∀ t : Nat, t ≤ l.length → 0 ≤ (enI sh sf e0 l t).toInt ∧ (enI sh sf e0 l t).toInt ≤ 1000000000
  | 0, _ => ⟨h0, h1⟩
  | t + 1, ht => by
    obtain ⟨a1, a2⟩ := enI_bd hs h0 h1 hl t (by omega)
    obtain ⟨s0, s1⟩ := hs (fnL l t) (fnL_lt hl (by omega))
    obtain ⟨r1, r2⟩ := en_step a1 a2 s0 s1
    exact ⟨r1, by show (enI sh sf e0 l t * (sh (sf (fnL l t)).toNatClampNeg).toInt64 / 100).toInt ≤ _; omega⟩
theorem enF_bd {sh sf : Nat → Int32} {b : Nat} {pw : Int32} {x : pTh} (hs : shOk sh sf b) (h0 : 0 ≤ pw.toInt) (h1 : pw.toInt ≤ 1000) (hl : ∀ w ∈ x.1, w < b) (hq : x.2 < 1073741824 ∧ 0 ≤ x.2) : 0 ≤ (enF sh sf pw x).toInt ∧ (enF sh sf pw x).toInt ≤ 1000000000 := by
  have e6 : (1000000 : Int64).toInt = 1000000 := by decide
  have e0 : pw.toInt64.toInt = pw.toInt := Int32.toInt_toInt64 pw
  have ep : (pw.toInt64 * 1000000).toInt = pw.toInt * 1000000 := by rw [j_mul (by rw [e0, e6]; omega) (by rw [e0, e6]; omega), e0, e6]
  obtain ⟨a1, a2⟩ := enI_bd (e0 := pw.toInt64 * 1000000) hs (by omega) (by omega) hl x.1.length (Nat.le_refl _)
  unfold enF
  generalize enI sh sf (pw.toInt64 * 1000000) x.1 x.1.length = u at *
  obtain ⟨q1, q2⟩ := hq
  have eb : (1073741824 : Int64).toInt = 1073741824 := by decide
  have ez : (0 : Int64).toInt = 0 := by decide
  have e1 : (1 : Int64).toInt = 1 := by decide
  rw [Int64.lt_iff_toInt_lt, eb] at q1
  rw [Int64.le_iff_toInt_le, ez] at q2
  have es : (x.2 + 1).toInt = x.2.toInt + 1 := by rw [j_add (by omega) (by omega), e1]
  rw [lg_ldiv_nonneg a1 (by omega), es]
  exact ⟨Int.ediv_nonneg a1 (by omega), Int.le_trans (Int.ediv_le_self _ a1) a2⟩
theorem smE_bd {f : pTh → Int64} {p : pTh → Bool} : ∀ (PL : List pTh) (z : Int64), (∀ x ∈ PL, 0 ≤ (f x).toInt ∧ (f x).toInt ≤ 1000000000) → 0 ≤ z.toInt → z.toInt + 1000000000 * PL.length ≤ 4000000000000 → 0 ≤ (PL.foldl (fun a x => bif p x then a + f x else a) z).toInt ∧ (PL.foldl (fun a x => bif p x then a + f x else a) z).toInt ≤ 4000000000000
  | [], z, _, h0, h1 => ⟨h0, by simp at h1; exact h1⟩
  | x :: PL, z, h, h0, h1 => by
    obtain ⟨f0, f1⟩ := h x (by simp)
    simp only [List.length_cons] at h1
    rw [List.foldl_cons]
    cases p x with
    | true =>
      have e : (z + f x).toInt = z.toInt + (f x).toInt := j_add (by omega) (by omega)
      exact smE_bd PL _ (fun y hy => h y (by simp [hy])) (by show 0 ≤ (z + f x).toInt; omega) (by show (z + f x).toInt + _ ≤ _; omega)
    | false => exact smE_bd PL _ (fun y hy => h y (by simp [hy])) h0 (by show z.toInt + _ ≤ _; omega)
theorem smE_b {f : pTh → Int64} {p : pTh → Bool} {PL : List pTh} (h : ∀ x ∈ PL, 0 ≤ (f x).toInt ∧ (f x).toInt ≤ 1000000000) (hl : PL.length ≤ 3857) : 0 ≤ (smE f p PL).toInt ∧ (smE f p PL).toInt ≤ 4000000000000 := smE_bd PL 0 h (by decide) (by have : (0 : Int64).toInt = 0 := (by decide); omega)
theorem cl_l {e l : Int64} (he : 0 ≤ e.toInt ∧ e.toInt ≤ 4000000000000) (hl : 0 ≤ l.toInt ∧ l.toInt ≤ 4000000000000) : (clF e l).toInt64 = if e + l = 0 then -1 else 1000 * e / (e + l) := by
  obtain ⟨e0, e1⟩ := he
  obtain ⟨l0, l1⟩ := hl
  unfold clF
  split
  · decide
  · rename_i hz
    have k : (1000 : Int64).toInt = 1000 := by decide
    have z0 : (0 : Int64).toInt = 0 := by decide
    have es : (e + l).toInt = e.toInt + l.toInt := j_add (by omega) (by omega)
    have em : (1000 * e).toInt = 1000 * e.toInt := by rw [j_mul (by rw [k]; omega) (by rw [k]; omega), k]
    have hp : 0 < e.toInt + l.toInt := by
      rcases Int.lt_or_le 0 (e.toInt + l.toInt) with q | q
      · exact q
      · exact absurd (Int64.toInt_inj.mp (by rw [es, z0]; omega)) hz
    have ed : (1000 * e / (e + l)).toInt = 1000 * e.toInt / (e.toInt + l.toInt) := by rw [lg_ldiv_nonneg (by omega) (by omega), em, es]
    have b1 : 1000 * e.toInt / (e.toInt + l.toInt) ≤ 1000 := Int.ediv_le_of_le_mul hp (by omega)
    have b0 : 0 ≤ 1000 * e.toInt / (e.toInt + l.toInt) := Int.ediv_nonneg (by omega) (by omega)
    apply Int64.toInt_inj.mp
    rw [Int32.toInt_toInt64, Int64.toInt_toInt32, ed, Int.bmod_def]
    omega
def hvl (E L D : Int64) (ls q : Int32) : Int64 := if q = 0 then E else if q = 1 then L else if q = 2 then (clF E L).toInt64 else if q = 3 then ceF (E + L) D else ls.toInt64
theorem l0a (x : Int64) : x + 0 = x := by grind
def iX8_heardBy_106_5 : List Instr := [.lload 4, .lload 6, .ladd, .lstore 10, .iload_n 2]
theorem oX8_heardBy_106_5 : fOkB cX8_heardBy 106 iX8_heardBy_106_5 = true := by decide +kernel
theorem dX8_heardBy_114 : decode cX8_heardBy 114 = .ok (.tableswitch 78 0 3 #[30, 33, 36, 59], 30) := by decide +kernel
def iX8_heardBy_144_1 : List Instr := [.lload 4]
theorem oX8_heardBy_144_1 : fOkB cX8_heardBy 144 iX8_heardBy_144_1 = true := by decide +kernel
theorem dX8_heardBy_146 : decode cX8_heardBy 146 = .ok (.lreturn, 1) := by decide +kernel
def iX8_heardBy_147_1 : List Instr := [.lload 6]
theorem oX8_heardBy_147_1 : fOkB cX8_heardBy 147 iX8_heardBy_147_1 = true := by decide +kernel
theorem dX8_heardBy_149 : decode cX8_heardBy 149 = .ok (.lreturn, 1) := by decide +kernel
def iX8_heardBy_150_3 : List Instr := [.lload 10, .lconst 0, .lcmp]
theorem oX8_heardBy_150_3 : fOkB cX8_heardBy 150 iX8_heardBy_150_3 = true := by decide +kernel
theorem bX8_heardBy_154 : fBk cX8_heardBy 154 (.ifCond .ne) 163 := ⟨9, by decide +kernel, by decide⟩
def iX8_heardBy_163_5 : List Instr := [.ldc2_w 81, .lload 4, .lmul, .lload 10, .ldiv]
theorem oX8_heardBy_163_5 : fOkB cX8_heardBy 163 iX8_heardBy_163_5 = true := by decide +kernel
theorem dX8_heardBy_172 : decode cX8_heardBy 172 = .ok (.lreturn, 1) := by decide +kernel
def iX8_heardBy_157_2 : List Instr := [.ldc2_w 204, .goto 12]
theorem oX8_heardBy_157_2 : fOkB cX8_heardBy 157 iX8_heardBy_157_2 = true := by decide +kernel
def iX8_heardBy_173_3 : List Instr := [.lload 10, .lconst 0, .lcmp]
theorem oX8_heardBy_173_3 : fOkB cX8_heardBy 173 iX8_heardBy_173_3 = true := by decide +kernel
theorem bX8_heardBy_177 : fBk cX8_heardBy 177 (.ifCond .ne) 186 := ⟨9, by decide +kernel, by decide⟩
def iX8_heardBy_186_3 : List Instr := [.lload 8, .lload 10, .ldiv]
theorem oX8_heardBy_186_3 : fOkB cX8_heardBy 186 iX8_heardBy_186_3 = true := by decide +kernel
theorem dX8_heardBy_191 : decode cX8_heardBy 191 = .ok (.lreturn, 1) := by decide +kernel
def iX8_heardBy_180_2 : List Instr := [.ldc2_w 204, .goto 8]
theorem oX8_heardBy_180_2 : fOkB cX8_heardBy 180 iX8_heardBy_180_2 = true := by decide +kernel
def iX8_heardBy_192_2 : List Instr := [.iload_n 3, .i2l]
theorem oX8_heardBy_192_2 : fOkB cX8_heardBy 192 iX8_heardBy_192_2 = true := by decide +kernel
theorem dX8_heardBy_194 : decode cX8_heardBy 194 = .ok (.lreturn, 1) := by decide +kernel
set_option maxRecDepth 100000 in
theorem tlX8_heard {G : fG} {d : Nat} {S : fS} {E L D : Int64} {ls q s0 n0 : Int32} (hcl : (clF E L).toInt64 = if E + L = 0 then -1 else 1000 * E / (E + L)) : fV G mX8_heardBy (fZm G (d + 2) (fun r S' => r = some (.long (hvl E L D ls q)) ∧ S' = S)) 106 [(0, .ref 35), (1, .int s0), (2, .int q), (3, .int ls), (4, .long E), (6, .long L), (8, .long D), (10, .int n0)] [] S := by
  refine fV.run iX8_heardBy_106_5 oX8_heardBy_106_5 (pc' := 114) (L' := [(0, .ref 35), (1, .int s0), (2, .int q), (3, .int ls), (4, .long E), (6, .long L), (8, .long D), (10, .long (E + L))]) (st' := [.int q]) (S' := S) rfl trivial ?_
  refine fV.tsw (tgt := 192) dX8_heardBy_114 (by decide) (fun h1 h2 => ?_) (fun hx => ?_)
  · rcases (show Int32.toInt q = 0 ∨ Int32.toInt q = 1 ∨ Int32.toInt q = 2 ∨ Int32.toInt q = 3 by omega) with hx | hx | hx | hx
    · refine ⟨30, 144, by rw [hx]; rfl, by decide, ?_⟩
      refine fV.run iX8_heardBy_144_1 oX8_heardBy_144_1 (pc' := 146) (L' := [(0, .ref 35), (1, .int s0), (2, .int q), (3, .int ls), (4, .long E), (6, .long L), (8, .long D), (10, .long (E + L))]) (st' := [.long E]) (S' := S) rfl trivial ?_
      exact fV.lret rfl dX8_heardBy_146 ⟨by unfold hvl; (have hq : q = 0 := i_of_toInt hx _ (by decide)); subst hq; rfl, rfl⟩
    · refine ⟨33, 147, by rw [hx]; rfl, by decide, ?_⟩
      refine fV.run iX8_heardBy_147_1 oX8_heardBy_147_1 (pc' := 149) (L' := [(0, .ref 35), (1, .int s0), (2, .int q), (3, .int ls), (4, .long E), (6, .long L), (8, .long D), (10, .long (E + L))]) (st' := [.long L]) (S' := S) rfl trivial ?_
      exact fV.lret rfl dX8_heardBy_149 ⟨by unfold hvl; (have hq : q = 1 := i_of_toInt hx _ (by decide)); subst hq; rfl, rfl⟩
    · refine ⟨36, 150, by rw [hx]; rfl, by decide, ?_⟩
      refine fV.run iX8_heardBy_150_3 oX8_heardBy_150_3 (pc' := 154) (L' := [(0, .ref 35), (1, .int s0), (2, .int q), (3, .int ls), (4, .long E), (6, .long L), (8, .long D), (10, .long (E + L))]) (st' := [.int (lg_cmp (E + L) 0)]) (S' := S) rfl trivial ?_
      refine fV.lif_ne bX8_heardBy_154 (fun c154 => ?_) (fun c154 => ?_)
      · refine fV.run iX8_heardBy_163_5 oX8_heardBy_163_5 (pc' := 172) (L' := [(0, .ref 35), (1, .int s0), (2, .int q), (3, .int ls), (4, .long E), (6, .long L), (8, .long D), (10, .long (E + L))]) (st' := [.long ((1000 * E) / (E + L))]) (S' := S) (P := ¬ (E + L) = 0 ∧ True) rfl ⟨c154, trivial⟩ ?_
        exact fV.lret rfl dX8_heardBy_172 ⟨by unfold hvl; (have hq : q = 2 := i_of_toInt hx _ (by decide)); subst hq; rw [if_neg (by decide), if_neg (by decide), if_pos rfl, hcl, if_neg c154], rfl⟩
      · refine fV.run iX8_heardBy_157_2 oX8_heardBy_157_2 (pc' := 172) (L' := [(0, .ref 35), (1, .int s0), (2, .int q), (3, .int ls), (4, .long E), (6, .long L), (8, .long D), (10, .long (E + L))]) (st' := [.long (-1)]) (S' := S) rfl trivial ?_
        exact fV.lret rfl dX8_heardBy_172 ⟨by unfold hvl; (have hq : q = 2 := i_of_toInt hx _ (by decide)); subst hq; rw [if_neg (by decide), if_neg (by decide), if_pos rfl, hcl, if_pos c154], rfl⟩
    · refine ⟨59, 173, by rw [hx]; rfl, by decide, ?_⟩
      refine fV.run iX8_heardBy_173_3 oX8_heardBy_173_3 (pc' := 177) (L' := [(0, .ref 35), (1, .int s0), (2, .int q), (3, .int ls), (4, .long E), (6, .long L), (8, .long D), (10, .long (E + L))]) (st' := [.int (lg_cmp (E + L) 0)]) (S' := S) rfl trivial ?_
      refine fV.lif_ne bX8_heardBy_177 (fun c177 => ?_) (fun c177 => ?_)
      · refine fV.run iX8_heardBy_186_3 oX8_heardBy_186_3 (pc' := 191) (L' := [(0, .ref 35), (1, .int s0), (2, .int q), (3, .int ls), (4, .long E), (6, .long L), (8, .long D), (10, .long (E + L))]) (st' := [.long (D / (E + L))]) (S' := S) (P := ¬ (E + L) = 0 ∧ True) rfl ⟨c177, trivial⟩ ?_
        exact fV.lret rfl dX8_heardBy_191 ⟨by unfold hvl ceF; (have hq : q = 3 := i_of_toInt hx _ (by decide)); subst hq; rw [if_neg (by decide), if_neg (by decide), if_neg (by decide), if_pos rfl, if_neg c177], rfl⟩
      · refine fV.run iX8_heardBy_180_2 oX8_heardBy_180_2 (pc' := 191) (L' := [(0, .ref 35), (1, .int s0), (2, .int q), (3, .int ls), (4, .long E), (6, .long L), (8, .long D), (10, .long (E + L))]) (st' := [.long (-1)]) (S' := S) rfl trivial ?_
        exact fV.lret rfl dX8_heardBy_191 ⟨by unfold hvl ceF; (have hq : q = 3 := i_of_toInt hx _ (by decide)); subst hq; rw [if_neg (by decide), if_neg (by decide), if_neg (by decide), if_pos rfl, if_pos c177], rfl⟩
  · refine fV.run iX8_heardBy_192_2 oX8_heardBy_192_2 (pc' := 194) (L' := [(0, .ref 35), (1, .int s0), (2, .int q), (3, .int ls), (4, .long E), (6, .long L), (8, .long D), (10, .long (E + L))]) (st' := [.long (Int32.toInt64 ls)]) (S' := S) rfl trivial ?_
    exact fV.lret rfl dX8_heardBy_194 ⟨by unfold hvl; rw [if_neg (fun z => by subst z; revert hx; decide), if_neg (fun z => by subst z; revert hx; decide), if_neg (fun z => by subst z; revert hx; decide), if_neg (fun z => by subst z; revert hx; decide)], rfl⟩
def iX8_heardBy_17_3 : List Instr := [.iload 10, .aload_n 0, .getfield 181]
theorem oX8_heardBy_17_3 : fOkB cX8_heardBy 17 iX8_heardBy_17_3 = true := by decide +kernel
theorem bX8_heardBy_23 : fBk cX8_heardBy 23 (.if_icmp .ge) 106 := ⟨83, by decide +kernel, by decide⟩
def iX8_heardBy_26_3 : List Instr := [.aload_n 0, .iload_n 1, .iload 10]
theorem oX8_heardBy_26_3 : fOkB cX8_heardBy 26 iX8_heardBy_26_3 = true := by decide +kernel
set_option maxRecDepth 100000 in
theorem lX8_216 : Cond.methodLink RX8 216 yX8_energyOf ∈ fTB := fTB_at 865 rfl rfl
theorem dX8_heardBy_30 : decode cX8_heardBy 30 = .ok (.invokevirtual 216, 3) := by decide +kernel
def iX8_heardBy_33_3 : List Instr := [.lstore 11, .aload_n 0, .iload 10]
theorem oX8_heardBy_33_3 : fOkB cX8_heardBy 33 iX8_heardBy_33_3 = true := by decide +kernel
theorem dX8_heardBy_38 : decode cX8_heardBy 38 = .ok (.invokevirtual 220, 3) := by decide +kernel
def iX8_heardBy_41_7 : List Instr := [.istore 13, .lload 4, .iload 13, .iload_n 3, .aload_n 0, .getfield 41, .iadd]
theorem oX8_heardBy_41_7 : fOkB cX8_heardBy 41 iX8_heardBy_41_7 = true := by decide +kernel
theorem bX8_heardBy_53 : fBk cX8_heardBy 53 (.if_icmp .ge) 61 := ⟨8, by decide +kernel, by decide⟩
def iX8_heardBy_61_9 : List Instr := [.lconst 0, .ladd, .lstore 4, .lload 6, .iload 13, .iload_n 3, .aload_n 0, .getfield 41, .iadd]
theorem oX8_heardBy_61_9 : fOkB cX8_heardBy 61 iX8_heardBy_61_9 = true := by decide +kernel
theorem bX8_heardBy_75 : fBk cX8_heardBy 75 (.if_icmp .ge) 82 := ⟨7, by decide +kernel, by decide⟩
def iX8_heardBy_82_14 : List Instr := [.lload 11, .ladd, .lstore 6, .lload 8, .lload 11, .iload 13, .iload_n 3, .isub, .i2l, .lmul, .ladd, .lstore 8, .iinc 10 1, .goto (-86)]
theorem oX8_heardBy_82_14 : fOkB cX8_heardBy 82 iX8_heardBy_82_14 = true := by decide +kernel
def iX8_heardBy_56_10 : List Instr := [.lload 11, .goto 4, .ladd, .lstore 4, .lload 6, .iload 13, .iload_n 3, .aload_n 0, .getfield 41, .iadd]
theorem oX8_heardBy_56_10 : fOkB cX8_heardBy 56 iX8_heardBy_56_10 = true := by decide +kernel
def iX8_heardBy_78_15 : List Instr := [.lconst 0, .goto 5, .ladd, .lstore 6, .lload 8, .lload 11, .iload 13, .iload_n 3, .isub, .i2l, .lmul, .ladd, .lstore 8, .iinc 10 1, .goto (-86)]
theorem oX8_heardBy_78_15 : fOkB cX8_heardBy 78 iX8_heardBy_78_15 = true := by decide +kernel
set_option maxRecDepth 100000 in
theorem lpX8_heard {G : fG} {d : Nat} {S : fS} {b si : Nat} {PL : List pTh} {q : Int32} (hb : b ≤ 16) (w3 : gI S 35 3 = nI b) (F : fdR S b PL) (hp : plOk b PL) (hq : plSq PL) (hsi : si < 4) (hsf : ∀ w, w < b → ∃ j, j < 8 ∧ gA S 39 w = nI j) (hsh : shOk (gA S 36) (gA S 39) b) (hpw : 0 ≤ (gA S 42 si).toInt ∧ (gA S 42 si).toInt ≤ 1000) : ∀ (u i : Nat), i + u = PL.length → fV G mX8_heardBy (fZm G (d + 2) (fun r S' => r = some (.long (hvl (smE (enF (gA S 36) (gA S 39) (gA S 42 si)) (erl (gI S 35 14) (leastF PL)) PL) (smE (enF (gA S 36) (gA S 39) (gA S 42 si)) (fun x => !(erl (gI S 35 14) (leastF PL)) x) PL) (smD (enF (gA S 36) (gA S 39) (gA S 42 si)) (leastF PL) PL) (leastF PL) q)) ∧ S' = S)) 17 [(0, .ref 35), (1, .int (nI si)), (2, .int q), (3, .int (leastF PL)), (4, .long (smE (enF (gA S 36) (gA S 39) (gA S 42 si)) (erl (gI S 35 14) (leastF PL)) (PL.take i))), (6, .long (smE (enF (gA S 36) (gA S 39) (gA S 42 si)) (fun x => !(erl (gI S 35 14) (leastF PL)) x) (PL.take i))), (8, .long (smD (enF (gA S 36) (gA S 39) (gA S 42 si)) (leastF PL) (PL.take i))), (10, .int (nI i))] [] S := by
  have hl : PL.length ≤ 3857 := F.2.1
  have hfb : ∀ x ∈ PL, 0 ≤ ((enF (gA S 36) (gA S 39) (gA S 42 si)) x).toInt ∧ ((enF (gA S 36) (gA S 39) (gA S 42 si)) x).toInt ≤ 1000000000 := fun x hx => enF_bd hsh hpw.1 hpw.2 (hp x hx).2 (hq x hx)
  intro u
  induction u with
  | zero =>
    intro i hi
    refine fV.run iX8_heardBy_17_3 oX8_heardBy_17_3 (pc' := 23) (L' := [(0, .ref 35), (1, .int (nI si)), (2, .int q), (3, .int (leastF PL)), (4, .long (smE (enF (gA S 36) (gA S 39) (gA S 42 si)) (erl (gI S 35 14) (leastF PL)) (PL.take i))), (6, .long (smE (enF (gA S 36) (gA S 39) (gA S 42 si)) (fun x => !(erl (gI S 35 14) (leastF PL)) x) (PL.take i))), (8, .long (smD (enF (gA S 36) (gA S 39) (gA S 42 si)) (leastF PL) (PL.take i))), (10, .int (nI i))]) (st' := [.int (gI S 35 25), .int (nI i)]) (S' := S) rfl trivial ?_
    refine fV.icmp_ge bX8_heardBy_23 (fun c23 => ?_) (fun c23 => ?_)
    · refine fV.to (L' := [(0, .ref 35), (1, .int (nI si)), (2, .int q), (3, .int (leastF PL)), (4, .long (smE (enF (gA S 36) (gA S 39) (gA S 42 si)) (erl (gI S 35 14) (leastF PL)) PL)), (6, .long (smE (enF (gA S 36) (gA S 39) (gA S 42 si)) (fun x => !(erl (gI S 35 14) (leastF PL)) x) PL)), (8, .long (smD (enF (gA S 36) (gA S 39) (gA S 42 si)) (leastF PL) PL)), (10, .int (nI i))]) rfl (by rw [List.take_of_length_le (show PL.length ≤ i by omega)]) rfl rfl ?_
      exact tlX8_heard (cl_l (smE_b hfb hl) (smE_b hfb hl))
    · exact absurd c23 (fun z => z (by rw [F.1]; exact nI_le (by omega) (by omega)))
  | succ u ih =>
    intro i hi
    obtain ⟨x, hx⟩ : ∃ x, PL[i]? = some x := ⟨_, List.getElem?_eq_getElem (by omega)⟩
    refine fV.run iX8_heardBy_17_3 oX8_heardBy_17_3 (pc' := 23) (L' := [(0, .ref 35), (1, .int (nI si)), (2, .int q), (3, .int (leastF PL)), (4, .long (smE (enF (gA S 36) (gA S 39) (gA S 42 si)) (erl (gI S 35 14) (leastF PL)) (PL.take i))), (6, .long (smE (enF (gA S 36) (gA S 39) (gA S 42 si)) (fun x => !(erl (gI S 35 14) (leastF PL)) x) (PL.take i))), (8, .long (smD (enF (gA S 36) (gA S 39) (gA S 42 si)) (leastF PL) (PL.take i))), (10, .int (nI i))]) (st' := [.int (gI S 35 25), .int (nI i)]) (S' := S) rfl trivial ?_
    refine fV.icmp_ge bX8_heardBy_23 (fun c23 => ?_) (fun c23 => ?_)
    · exact absurd c23 (by rw [F.1]; exact nI_ge (by omega) (by omega))
    · refine fV.run iX8_heardBy_26_3 oX8_heardBy_26_3 (pc' := 30) (L' := [(0, .ref 35), (1, .int (nI si)), (2, .int q), (3, .int (leastF PL)), (4, .long (smE (enF (gA S 36) (gA S 39) (gA S 42 si)) (erl (gI S 35 14) (leastF PL)) (PL.take i))), (6, .long (smE (enF (gA S 36) (gA S 39) (gA S 42 si)) (fun x => !(erl (gI S 35 14) (leastF PL)) x) (PL.take i))), (8, .long (smD (enF (gA S 36) (gA S 39) (gA S 42 si)) (leastF PL) (PL.take i))), (10, .int (nI i))]) (st' := [.int (nI i), .int (nI si), .ref 35]) (S' := S) rfl trivial ?_
      refine fV.callV (M2 := mX8_energyOf) (d := d + 1) (o := 35) (av := [.int (nI si), .int (nI i)]) (rest := []) kX8_energyOf dX8_heardBy_30 lX8_216 rfl rfl rfl (Nat.le_of_ble_eq_true rfl) (fRoom (by decide)) ⟨Nat.le_refl _, Nat.le_refl _⟩ (qX8_en (S := S) hb w3 F hp hx hsi hq hsf) ?_
      rintro _ S9 ⟨rfl, h9⟩
      rw [h9]
      clear h9 S9
      refine fV.to (pc' := 33) (L' := [(0, .ref 35), (1, .int (nI si)), (2, .int q), (3, .int (leastF PL)), (4, .long (smE (enF (gA S 36) (gA S 39) (gA S 42 si)) (erl (gI S 35 14) (leastF PL)) (PL.take i))), (6, .long (smE (enF (gA S 36) (gA S 39) (gA S 42 si)) (fun x => !(erl (gI S 35 14) (leastF PL)) x) (PL.take i))), (8, .long (smD (enF (gA S 36) (gA S 39) (gA S 42 si)) (leastF PL) (PL.take i))), (10, .int (nI i))]) (st' := [.long (enF (gA S 36) (gA S 39) (gA S 42 si) x)]) (S' := S) rfl rfl rfl rfl ?_
      refine fV.run iX8_heardBy_33_3 oX8_heardBy_33_3 (pc' := 38) (L' := [(0, .ref 35), (1, .int (nI si)), (2, .int q), (3, .int (leastF PL)), (4, .long (smE (enF (gA S 36) (gA S 39) (gA S 42 si)) (erl (gI S 35 14) (leastF PL)) (PL.take i))), (6, .long (smE (enF (gA S 36) (gA S 39) (gA S 42 si)) (fun x => !(erl (gI S 35 14) (leastF PL)) x) (PL.take i))), (8, .long (smD (enF (gA S 36) (gA S 39) (gA S 42 si)) (leastF PL) (PL.take i))), (10, .int (nI i)), (11, .long (enF (gA S 36) (gA S 39) (gA S 42 si) x))]) (st' := [.int (nI i), .ref 35]) (S' := S) rfl trivial ?_
      refine fV.callV (M2 := mX8_tickOf) (d := d + 1) (o := 35) (av := [.int (nI i)]) (rest := []) kX8_tickOf dX8_heardBy_38 lX8_220 rfl rfl rfl (Nat.le_of_ble_eq_true rfl) (fRoom (by decide)) ⟨Nat.le_refl _, Nat.le_refl _⟩ (qX8_tick (S := S) F hx) ?_
      rintro _ S9 ⟨rfl, h9⟩
      rw [h9]
      clear h9 S9
      refine fV.to (pc' := 41) (L' := [(0, .ref 35), (1, .int (nI si)), (2, .int q), (3, .int (leastF PL)), (4, .long (smE (enF (gA S 36) (gA S 39) (gA S 42 si)) (erl (gI S 35 14) (leastF PL)) (PL.take i))), (6, .long (smE (enF (gA S 36) (gA S 39) (gA S 42 si)) (fun x => !(erl (gI S 35 14) (leastF PL)) x) (PL.take i))), (8, .long (smD (enF (gA S 36) (gA S 39) (gA S 42 si)) (leastF PL) (PL.take i))), (10, .int (nI i)), (11, .long (enF (gA S 36) (gA S 39) (gA S 42 si) x))]) (st' := [.int (tickF x.2)]) (S' := S) rfl rfl rfl rfl ?_
      refine fV.run iX8_heardBy_41_7 oX8_heardBy_41_7 (pc' := 53) (L' := [(0, .ref 35), (1, .int (nI si)), (2, .int q), (3, .int (leastF PL)), (4, .long (smE (enF (gA S 36) (gA S 39) (gA S 42 si)) (erl (gI S 35 14) (leastF PL)) (PL.take i))), (6, .long (smE (enF (gA S 36) (gA S 39) (gA S 42 si)) (fun x => !(erl (gI S 35 14) (leastF PL)) x) (PL.take i))), (8, .long (smD (enF (gA S 36) (gA S 39) (gA S 42 si)) (leastF PL) (PL.take i))), (10, .int (nI i)), (11, .long (enF (gA S 36) (gA S 39) (gA S 42 si) x)), (13, .int (tickF x.2))]) (st' := [.int ((leastF PL) + (gI S 35 14)), .int (tickF x.2), .long (smE (enF (gA S 36) (gA S 39) (gA S 42 si)) (erl (gI S 35 14) (leastF PL)) (PL.take i))]) (S' := S) rfl trivial ?_
      refine fV.icmp_ge bX8_heardBy_53 (fun c53 => ?_) (fun c53 => ?_)
      · refine fV.run iX8_heardBy_61_9 oX8_heardBy_61_9 (pc' := 75) (L' := [(0, .ref 35), (1, .int (nI si)), (2, .int q), (3, .int (leastF PL)), (4, .long ((smE (enF (gA S 36) (gA S 39) (gA S 42 si)) (erl (gI S 35 14) (leastF PL)) (PL.take i)) + 0)), (6, .long (smE (enF (gA S 36) (gA S 39) (gA S 42 si)) (fun x => !(erl (gI S 35 14) (leastF PL)) x) (PL.take i))), (8, .long (smD (enF (gA S 36) (gA S 39) (gA S 42 si)) (leastF PL) (PL.take i))), (10, .int (nI i)), (11, .long (enF (gA S 36) (gA S 39) (gA S 42 si) x)), (13, .int (tickF x.2))]) (st' := [.int ((leastF PL) + (gI S 35 14)), .int (tickF x.2), .long (smE (enF (gA S 36) (gA S 39) (gA S 42 si)) (fun x => !(erl (gI S 35 14) (leastF PL)) x) (PL.take i))]) (S' := S) rfl trivial ?_
        refine fV.icmp_ge bX8_heardBy_75 (fun c75 => ?_) (fun c75 => ?_)
        · refine fV.run iX8_heardBy_82_14 oX8_heardBy_82_14 (pc' := 17) (L' := [(0, .ref 35), (1, .int (nI si)), (2, .int q), (3, .int (leastF PL)), (4, .long ((smE (enF (gA S 36) (gA S 39) (gA S 42 si)) (erl (gI S 35 14) (leastF PL)) (PL.take i)) + 0)), (6, .long ((smE (enF (gA S 36) (gA S 39) (gA S 42 si)) (fun x => !(erl (gI S 35 14) (leastF PL)) x) (PL.take i)) + (enF (gA S 36) (gA S 39) (gA S 42 si) x))), (8, .long ((smD (enF (gA S 36) (gA S 39) (gA S 42 si)) (leastF PL) (PL.take i)) + ((enF (gA S 36) (gA S 39) (gA S 42 si) x) * (Int32.toInt64 ((tickF x.2) - (leastF PL)))))), (10, .int ((nI i) + 1)), (11, .long (enF (gA S 36) (gA S 39) (gA S 42 si) x)), (13, .int (tickF x.2))]) (st' := []) (S' := S) rfl trivial ?_
          refine fV.pick (L' := [(0, .ref 35), (1, .int (nI si)), (2, .int q), (3, .int (leastF PL)), (4, .long ((smE (enF (gA S 36) (gA S 39) (gA S 42 si)) (erl (gI S 35 14) (leastF PL)) (PL.take i)) + 0)), (6, .long ((smE (enF (gA S 36) (gA S 39) (gA S 42 si)) (fun x => !(erl (gI S 35 14) (leastF PL)) x) (PL.take i)) + (enF (gA S 36) (gA S 39) (gA S 42 si) x))), (8, .long ((smD (enF (gA S 36) (gA S 39) (gA S 42 si)) (leastF PL) (PL.take i)) + ((enF (gA S 36) (gA S 39) (gA S 42 si) x) * (Int32.toInt64 ((tickF x.2) - (leastF PL)))))), (10, .int ((nI i) + 1))]) [0, 1, 2, 3, 4, 5, 6, 7] rfl ?_
          exact fV.to (L' := [(0, .ref 35), (1, .int (nI si)), (2, .int q), (3, .int (leastF PL)), (4, .long (smE (enF (gA S 36) (gA S 39) (gA S 42 si)) (erl (gI S 35 14) (leastF PL)) (PL.take (i + 1)))), (6, .long (smE (enF (gA S 36) (gA S 39) (gA S 42 si)) (fun x => !(erl (gI S 35 14) (leastF PL)) x) (PL.take (i + 1)))), (8, .long (smD (enF (gA S 36) (gA S 39) (gA S 42 si)) (leastF PL) (PL.take (i + 1)))), (10, .int (nI (i + 1)))]) rfl (by rw [nI_1, l0a, smE_s hx, smE_s hx, smD_s hx, show (erl (gI S 35 14) (leastF PL)) x = false from decide_eq_false (by grind)]; rfl) rfl rfl (ih (i + 1) (by omega))
        · exact absurd c75 (fun z => z c53)
      · refine fV.run iX8_heardBy_56_10 oX8_heardBy_56_10 (pc' := 75) (L' := [(0, .ref 35), (1, .int (nI si)), (2, .int q), (3, .int (leastF PL)), (4, .long ((smE (enF (gA S 36) (gA S 39) (gA S 42 si)) (erl (gI S 35 14) (leastF PL)) (PL.take i)) + (enF (gA S 36) (gA S 39) (gA S 42 si) x))), (6, .long (smE (enF (gA S 36) (gA S 39) (gA S 42 si)) (fun x => !(erl (gI S 35 14) (leastF PL)) x) (PL.take i))), (8, .long (smD (enF (gA S 36) (gA S 39) (gA S 42 si)) (leastF PL) (PL.take i))), (10, .int (nI i)), (11, .long (enF (gA S 36) (gA S 39) (gA S 42 si) x)), (13, .int (tickF x.2))]) (st' := [.int ((leastF PL) + (gI S 35 14)), .int (tickF x.2), .long (smE (enF (gA S 36) (gA S 39) (gA S 42 si)) (fun x => !(erl (gI S 35 14) (leastF PL)) x) (PL.take i))]) (S' := S) rfl trivial ?_
        refine fV.icmp_ge bX8_heardBy_75 (fun c75 => ?_) (fun c75 => ?_)
        · exact absurd c75 c53
        · refine fV.run iX8_heardBy_78_15 oX8_heardBy_78_15 (pc' := 17) (L' := [(0, .ref 35), (1, .int (nI si)), (2, .int q), (3, .int (leastF PL)), (4, .long ((smE (enF (gA S 36) (gA S 39) (gA S 42 si)) (erl (gI S 35 14) (leastF PL)) (PL.take i)) + (enF (gA S 36) (gA S 39) (gA S 42 si) x))), (6, .long ((smE (enF (gA S 36) (gA S 39) (gA S 42 si)) (fun x => !(erl (gI S 35 14) (leastF PL)) x) (PL.take i)) + 0)), (8, .long ((smD (enF (gA S 36) (gA S 39) (gA S 42 si)) (leastF PL) (PL.take i)) + ((enF (gA S 36) (gA S 39) (gA S 42 si) x) * (Int32.toInt64 ((tickF x.2) - (leastF PL)))))), (10, .int ((nI i) + 1)), (11, .long (enF (gA S 36) (gA S 39) (gA S 42 si) x)), (13, .int (tickF x.2))]) (st' := []) (S' := S) rfl trivial ?_
          refine fV.pick (L' := [(0, .ref 35), (1, .int (nI si)), (2, .int q), (3, .int (leastF PL)), (4, .long ((smE (enF (gA S 36) (gA S 39) (gA S 42 si)) (erl (gI S 35 14) (leastF PL)) (PL.take i)) + (enF (gA S 36) (gA S 39) (gA S 42 si) x))), (6, .long ((smE (enF (gA S 36) (gA S 39) (gA S 42 si)) (fun x => !(erl (gI S 35 14) (leastF PL)) x) (PL.take i)) + 0)), (8, .long ((smD (enF (gA S 36) (gA S 39) (gA S 42 si)) (leastF PL) (PL.take i)) + ((enF (gA S 36) (gA S 39) (gA S 42 si) x) * (Int32.toInt64 ((tickF x.2) - (leastF PL)))))), (10, .int ((nI i) + 1))]) [0, 1, 2, 3, 4, 5, 6, 7] rfl ?_
          exact fV.to (L' := [(0, .ref 35), (1, .int (nI si)), (2, .int q), (3, .int (leastF PL)), (4, .long (smE (enF (gA S 36) (gA S 39) (gA S 42 si)) (erl (gI S 35 14) (leastF PL)) (PL.take (i + 1)))), (6, .long (smE (enF (gA S 36) (gA S 39) (gA S 42 si)) (fun x => !(erl (gI S 35 14) (leastF PL)) x) (PL.take (i + 1)))), (8, .long (smD (enF (gA S 36) (gA S 39) (gA S 42 si)) (leastF PL) (PL.take (i + 1)))), (10, .int (nI (i + 1)))]) rfl (by rw [nI_1, l0a, smE_s hx, smE_s hx, smD_s hx, show (erl (gI S 35 14) (leastF PL)) x = true from decide_eq_true (by grind)]; rfl) rfl rfl (ih (i + 1) (by omega))
def iX8_heardBy_0_1 : List Instr := [.aload_n 0]
theorem oX8_heardBy_0_1 : fOkB cX8_heardBy 0 iX8_heardBy_0_1 = true := by decide +kernel
set_option maxRecDepth 100000 in
theorem lX8_223 : Cond.methodLink RX8 223 yX8_leastTick ∈ fTB := fTB_at 889 rfl rfl
theorem dX8_heardBy_1 : decode cX8_heardBy 1 = .ok (.invokevirtual 223, 3) := by decide +kernel
def iX8_heardBy_4_9 : List Instr := [.istore_n 3, .lconst 0, .lstore 4, .lconst 0, .lstore 6, .lconst 0, .lstore 8, .iconst 0, .istore 10]
theorem oX8_heardBy_4_9 : fOkB cX8_heardBy 4 iX8_heardBy_4_9 = true := by decide +kernel
set_option maxRecDepth 100000 in
theorem qX8_heardBy {G : fG} {d : Nat} {S : fS} {b si : Nat} {PL : List pTh} {q : Int32} (hb : b ≤ 16) (w3 : gI S 35 3 = nI b) (F : fdR S b PL) (hp : plOk b PL) (hq : plSq PL) (hsi : si < 4) (hsf : ∀ w, w < b → ∃ j, j < 8 ∧ gA S 39 w = nI j) (hsh : shOk (gA S 36) (gA S 39) b) (hpw : 0 ≤ (gA S 42 si).toInt ∧ (gA S 42 si).toInt ≤ 1000)  : fCtr G (d + 2) mX8_heardBy [.ref 35, .int (nI si), .int q] S (fun r S' => r = some (.long (hvl (smE (enF (gA S 36) (gA S 39) (gA S 42 si)) (erl (gI S 35 14) (leastF PL)) PL) (smE (enF (gA S 36) (gA S 39) (gA S 42 si)) (fun x => !(erl (gI S 35 14) (leastF PL)) x) PL) (smD (enF (gA S 36) (gA S 39) (gA S 42 si)) (leastF PL) PL) (leastF PL) q)) ∧ S' = S) := by
  refine fCtr.of bXX8_heardBy (Nat.le_of_ble_eq_true rfl) rfl ?_
  refine fV.run iX8_heardBy_0_1 oX8_heardBy_0_1 (pc' := 1) (L' := [(0, .ref 35), (1, .int (nI si)), (2, .int q)]) (st' := [.ref 35]) (S' := S) rfl trivial ?_
  refine fV.callV (M2 := mX8_leastTick) (d := d + 1) (o := 35) (av := []) (rest := []) kX8_leastTick dX8_heardBy_1 lX8_223 rfl rfl rfl (Nat.le_of_ble_eq_true rfl) (fRoom (by decide)) ⟨Nat.le_refl _, Nat.le_refl _⟩ (qX8_least F) ?_
  rintro _ S9 ⟨rfl, h9⟩
  rw [h9]
  clear h9 S9
  refine fV.to (pc' := 4) (L' := [(0, .ref 35), (1, .int (nI si)), (2, .int q)]) (st' := [.int (leastF PL)]) (S' := S) rfl rfl rfl rfl ?_
  refine fV.run iX8_heardBy_4_9 oX8_heardBy_4_9 (pc' := 17) (L' := [(0, .ref 35), (1, .int (nI si)), (2, .int q), (3, .int (leastF PL)), (4, .long 0), (6, .long 0), (8, .long 0), (10, .int 0)]) (st' := []) (S' := S) rfl trivial ?_
  exact lpX8_heard hb w3 F hp hq hsi hsf hsh hpw PL.length 0 (by omega)

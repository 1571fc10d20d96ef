/-! the reference: best -/
theorem wsU_ls (m i : Nat) : (wsU m (i + 1)).length = (wsU m i).length + m / 2 ^ i % 2 := by
  rw [wsU_s, List.length_append]
  have h2 : m / 2 ^ i % 2 < 2 := Nat.mod_lt _ (by decide)
  unfold bt1
  rcases (show m / 2 ^ i % 2 = 0 ∨ m / 2 ^ i % 2 = 1 by omega) with h | h
  · rw [h]; rfl
  · rw [h]; rfl
theorem wsU_ex (m i : Nat) : ∀ n, ∃ r, wsU m (i + n) = wsU m i ++ r
  | 0 => ⟨[], by simp⟩
  | n + 1 => by
    obtain ⟨r, hr⟩ := wsU_ex m i n
    exact ⟨r ++ (if bt1 m (i + n) = true then [i + n] else []), by rw [← Nat.add_assoc, wsU_s, hr, List.append_assoc]⟩
theorem wsU_at {m i j : Nat} (h : i < j) (hb : bt1 m i = true) : fnL (wsU m j) (wsU m i).length = i ∧ (wsU m i).length < (wsU m j).length := by
  obtain ⟨r, hr⟩ := wsU_ex m (i + 1) (j - (i + 1))
  rw [show i + 1 + (j - (i + 1)) = j by omega, wsU_s, if_pos hb] at hr
  have hl : (wsU m i ++ [i]).length = (wsU m i).length + 1 := List.length_append
  rw [hr]
  refine ⟨?_, ?_⟩
  · rw [fnL_l (by omega), fnL_last]
  · rw [List.length_append]; omega
def fgR : List Nat → Int32 × Int32
  | [] => (0, 1)
  | f :: fs => ((fgR fs).1 + (fgR fs).2 * nI f, (fgR fs).2 * 8)
theorem fgR_ok : ∀ (fs : List Nat) (z : Int32), fs.foldl (fun a f => 8 * a + nI f) z = z * (fgR fs).2 + (fgR fs).1
  | [], z => by show z = z * 1 + 0; grind
  | f :: fs, z => by
    rw [List.foldl_cons, fgR_ok fs]
    show (8 * z + nI f) * (fgR fs).2 + (fgR fs).1 = z * ((fgR fs).2 * 8) + ((fgR fs).1 + (fgR fs).2 * nI f)
    grind
theorem fgR_fgs (fs : List Nat) : (fgR fs).1 = fgs fs := by
  unfold fgs
  rw [fgR_ok]
  grind
def hSt (h : hH) (g : Nat → Int32) : hH := (h.1, (h.2.1.1, h.2.1.2.1, g), h.2.2)
def kR (T S : fS) : Prop := S.1 = T.1 ∧ hD S = hSt (hD T) (gA S 39) ∧ gI S 35 25 = gI T 35 25 ∧ gA S 52 = gA T 52 ∧ gA S 53 = gA T 53 ∧ gB S 54 = gB T 54
theorem kR.fd {T S : fS} (h : kR T S) {b : Nat} {PL : List pTh} (F : fdR T b PL) : fdR S b PL := by
  unfold fdR
  rw [h.2.2.1, h.2.2.2.1, h.2.2.2.2.1, h.2.2.2.2.2]
  exact F
theorem kR.w40 {T S : fS} (h : kR T S) (g : Nat → Int32) : kR T (wA S 39 g) := by
  refine ⟨h.1, ?_, h.2.2⟩
  show hSt (hD S) g = hSt (hD T) g
  rw [h.2.1]; rfl
theorem kR.w56 {T S : fS} (h : kR T S) (g : Nat → Int32) : kR T (wA S 55 g) := ⟨h.1, h.2.1, h.2.2⟩
theorem kR.rf {T : fS} : kR T T := ⟨rfl, rfl, rfl, rfl, rfl, rfl⟩
theorem kR.ke {T S : fS} (h : kR T S) (h2 : gA S 39 = gA T 39) : ke T S := ⟨by rw [h.2.1, h2]; rfl, h.1⟩
def repS (o : sel) (x y z : Int32) : Prop := match o with
  | none => x = -2
  | some q => x = q.1 ∧ y = q.2.1 ∧ z = q.2.2 ∧ -1 ≤ q.1
theorem rep_lo {o : sel} {x y z : Int32} (h : repS o x y z) : -2 ≤ x := by
  cases o with
  | none => have h : x = -2 := h; rw [h]; decide
  | some q => obtain ⟨h1, h2, h3, h4⟩ := h; grind
theorem rep_y {o : sel} {x y z cl k f : Int32} (h : repS o x y z) (hc : -1 ≤ cl) (c : x < cl ∨ (cl = x ∧ k < y)) : repS (wgh o cl k f) cl k f := by
  cases o with
  | none => exact ⟨rfl, rfl, rfl, hc⟩
  | some q =>
    obtain ⟨h1, h2, h3, h4⟩ := h
    rw [h1, h2] at c
    rw [show wgh (some q) cl k f = some (cl, k, f) from if_neg (by grind)]
    exact ⟨rfl, rfl, rfl, hc⟩
theorem rep_n {o : sel} {x y z cl k f : Int32} (h : repS o x y z) (hc : -1 ≤ cl) (c : ¬ x < cl ∧ ¬ (cl = x ∧ k < y)) : repS (wgh o cl k f) x y z := by
  cases o with
  | none =>
    have h : x = -2 := h
    rw [h] at c
    exact absurd (show (-2 : Int32) < cl by grind) c.1
  | some q =>
    have h' := h
    obtain ⟨h1, h2, h3, h4⟩ := h
    rw [h1, h2] at c
    rw [show wgh (some q) cl k f = some q from if_pos (by grind)]
    exact h'
theorem rep_ask {o : sel} {x y z q : Int32} (h : repS o x y z) : ask3 o q = if x = -2 then -1003 else if q = 0 then x else if q = 1 then y else z := by
  cases o with
  | none => have h : x = -2 := h; rw [if_pos h]; rfl
  | some p =>
    obtain ⟨h1, h2, h3, h4⟩ := h
    rw [if_neg (by rw [h1]; grind), h1, h2, h3]
    rfl
theorem asg_ltA {a b : Nat} : ∀ {sf : Nat → Int32} {ws pre : List Nat}, (∀ w, w < b → ∃ j, j < a ∧ sf w = nI j) → (∀ f ∈ pre, f < a) → ∀ w, w < b → ∃ j, j < a ∧ asg sf ws pre w = nI j
  | _, [], pre, h, _ => by cases pre <;> exact h
  | _, _ :: _, [], h, _ => h
  | sf, v :: ws, p :: pre, h, hp => asg_ltA (sf := upd sf v (nI p)) (ws := ws) (pre := pre) (fun w hw => by
      unfold upd
      split
      · exact ⟨p, hp p (by simp), rfl⟩
      · exact h w hw) (fun f hf => hp f (by simp [hf]))
theorem mem_fnL {l : List Nat} {w : Nat} (h : w ∈ l) : ∃ k, k < l.length ∧ fnL l k = w := by
  obtain ⟨k, -, h1, h2⟩ := mem_drp (n := 0) (ws := l) (w := w) h
  exact ⟨k, h1, h2⟩
theorem cl_ge {e l : Int64} (he : 0 ≤ e.toInt ∧ e.toInt ≤ 4000000000000) (hl : 0 ≤ l.toInt ∧ l.toInt ≤ 4000000000000) : -1 ≤ clF e l := by
  have h := congrArg Int64.toInt (cl_l he hl)
  rw [Int32.toInt_toInt64] at h
  have m1 : (-1 : Int32).toInt = -1 := by decide
  rw [Int32.le_iff_toInt_le, m1, h]
  split
  · decide
  · rename_i hz
    obtain ⟨e0, e1⟩ := he
    obtain ⟨l0, l1⟩ := hl
    have k : (1000 : Int64).toInt = 1000 := by decide
    have z0 : (0 : Int64).toInt = 0 := by decide
    have hz2 : ¬ (e + l).toInt = 0 := fun q => hz (Int64.toInt_inj.mp (by rw [q, z0]))
    have es : (e + l).toInt = e.toInt + l.toInt := j_add (by omega) (by omega)
    have em : (1000 * e).toInt = 1000 * e.toInt := by rw [j_mul (by rw [k]; omega) (by rw [k]; omega), k]
    rw [lg_ldiv_nonneg (by omega) (by omega)]
    have := Int.ediv_nonneg (a := (1000 * e).toInt) (b := (e + l).toInt) (by omega) (by omega)
    omega
theorem l2i2l (x : Int32) : x.toInt64.toInt32 = x := by
  apply Int32.toInt_inj.mp
  have h1 := Int32.le_toInt x
  have h2 := Int32.toInt_lt x
  rw [Int64.toInt_toInt32, Int32.toInt_toInt64, Int.bmod_def]
  omega
/-- within the walls of a way: those from p on have their stuffs -/
def rJ (T S : fS) (b : Nat) (ws fs : List Nat) (p : Nat) : Prop := kR T S ∧ (∀ j, j < b → gA S 55 j = gA T 39 j) ∧ (∀ w, w ∉ ws → gA S 39 w = gA T 39 w) ∧ ∀ j, p ≤ j → j < ws.length → gA S 39 (fnL ws j) = nI (fnL fs j)
theorem nd_fn {ws : List Nat} (h : ws.Nodup) {i j : Nat} (hi : i < ws.length) (hj : j < ws.length) (e : fnL ws i = fnL ws j) : i = j := by
  have h1 := fnL_get hi
  have h2 := fnL_get hj
  rw [e, ← h2, List.getElem?_eq_getElem hi, List.getElem?_eq_getElem hj] at h1
  have h1 := Option.some.inj h1
  have hp := List.pairwise_iff_getElem.mp h
  rcases Nat.lt_trichotomy i j with q | q | q
  · exact absurd h1 (hp i j hi hj q)
  · exact q
  · exact absurd h1.symm (hp j i hj hi q)
theorem rJ_y {T S : fS} {b : Nat} {ws fs : List Nat} {p i w : Nat} (h : rJ T S b ws fs (p + 1)) (hn : ws.Nodup) (hp : p < ws.length) (hi : i = w) (hw : fnL ws p = w) : rJ T (wA S 39 (upd (gA S 39) i (nI (fnL fs p)))) b ws fs p := by
  subst hi
  obtain ⟨h1, h2, h3, h4⟩ := h
  refine ⟨h1.w40 _, h2, fun v hv => ?_, fun j hj hl => ?_⟩
  · show upd (gA S 39) i _ v = _
    rw [upd_n _ _ (fun z => hv (by rw [z, ← hw]; exact fnL_mem hp))]
    exact h3 v hv
  · show upd (gA S 39) i _ (fnL ws j) = _
    by_cases e : j = p
    · subst e; rw [hw, upd_y]
    · rw [upd_n _ _ (fun z => e (nd_fn hn hl hp (by rw [hw]; exact z)))]
      exact h4 j (by omega) hl
theorem rJ_all {T S : fS} {b : Nat} {ws fs : List Nat} (h : rJ T S b ws fs 0) (hn : ws.Nodup) (hl : fs.length = ws.length) : gA S 39 = asg (gA T 39) ws fs := by
  obtain ⟨h1, h2, h3, h4⟩ := h
  funext w
  by_cases e : w ∈ ws
  · obtain ⟨k, hk, rfl⟩ := mem_fnL e
    rw [h4 k (by omega) hk, asg_at hn (by omega) hk]
  · rw [h3 w e, asg_off e]
theorem rJ_up {T S : fS} {b : Nat} {ws fs fs2 : List Nat} {p : Nat} (h : rJ T S b ws fs p) : rJ T S b ws fs2 ws.length := ⟨h.1, h.2.1, h.2.2.1, fun j h1 h2 => absurd h1 (by omega)⟩
def iX8_bits_4_2 : List Instr := [.iload_n 2, .bipush 16]
theorem oX8_bits_4_2 : fOkB cX8_bits 4 iX8_bits_4_2 = true := by decide +kernel
theorem bX8_bits_7 : fBk cX8_bits 7 (.if_icmp .ge) 24 := ⟨17, by decide +kernel, by decide⟩
def iX8_bits_24_1 : List Instr := [.iload_n 1]
theorem oX8_bits_24_1 : fOkB cX8_bits 24 iX8_bits_24_1 = true := by decide +kernel
theorem dX8_bits_25 : decode cX8_bits 25 = .ok (.ireturn, 1) := by decide +kernel
def iX8_bits_10_10 : List Instr := [.iload_n 1, .iload_n 0, .iload_n 2, .ishr, .iconst 1, .iand, .iadd, .istore_n 1, .iinc 2 1, .goto (-17)]
theorem oX8_bits_10_10 : fOkB cX8_bits 10 iX8_bits_10_10 = true := by decide +kernel
set_option maxRecDepth 100000 in
theorem lpX8_bits {G : fG} {d : Nat} {S : fS} {m : Nat} (hm : m < 65536) : ∀ (u k : Nat), k + u = 16 → fV G mX8_bits (fZm G d (fun r S' => r = some (.int (nI (wsU m 16).length)) ∧ S' = S)) 4 [(0, .int (nI m)), (1, .int (nI (wsU m k).length)), (2, .int (nI k))] [] S := by
  intro u
  induction u with
  | zero =>
    intro k hu
    refine fV.run iX8_bits_4_2 oX8_bits_4_2 (pc' := 7) (L' := [(0, .int (nI m)), (1, .int (nI (wsU m k).length)), (2, .int (nI k))]) (st' := [.int 16, .int (nI k)]) (S' := S) rfl trivial ?_
    refine fV.icmp_ge bX8_bits_7 (fun c7 => ?_) (fun c7 => ?_)
    · refine fV.run iX8_bits_24_1 oX8_bits_24_1 (pc' := 25) (L' := [(0, .int (nI m)), (1, .int (nI (wsU m k).length)), (2, .int (nI k))]) (st' := [.int (nI (wsU m k).length)]) (S' := S) rfl trivial ?_
      exact fV.iret rfl dX8_bits_25 ⟨by rw [show k = 16 by omega], rfl⟩
    · exact absurd c7 (by rw [show (16 : Int32) = nI 16 from rfl, nI_leI (by omega) (by omega)]; omega)
  | succ u ih =>
    intro k hu
    refine fV.run iX8_bits_4_2 oX8_bits_4_2 (pc' := 7) (L' := [(0, .int (nI m)), (1, .int (nI (wsU m k).length)), (2, .int (nI k))]) (st' := [.int 16, .int (nI k)]) (S' := S) rfl trivial ?_
    refine fV.icmp_ge bX8_bits_7 (fun c7 => ?_) (fun c7 => ?_)
    · exact absurd c7 (by rw [show (16 : Int32) = nI 16 from rfl, nI_leI (by omega) (by omega)]; omega)
    · refine fV.run iX8_bits_10_10 oX8_bits_10_10 (pc' := 4) (L' := [(0, .int (nI m)), (1, .int ((nI (wsU m k).length) + (((nI m) >>> ((nI k) &&& 31)) &&& 1))), (2, .int ((nI k) + 1))]) (st' := []) (S' := S) rfl trivial ?_
      exact fV.to (L' := [(0, .int (nI m)), (1, .int (nI (wsU m (k + 1)).length)), (2, .int (nI (k + 1)))]) rfl (by rw [sh_bit hm (by omega), nI_add, nI_1, wsU_ls]) rfl rfl (ih (k + 1) (by omega))
def iX8_bits_0_4 : List Instr := [.iconst 0, .istore_n 1, .iconst 0, .istore_n 2]
theorem oX8_bits_0_4 : fOkB cX8_bits 0 iX8_bits_0_4 = true := by decide +kernel
set_option maxRecDepth 100000 in
theorem qX8_bits {G : fG} {d : Nat} {S : fS} {m : Nat} (hm : m < 65536)  : fCtr G (d) mX8_bits [.int (nI m)] S (fun r S' => r = some (.int (nI (wsU m 16).length)) ∧ S' = S) := by
  refine fCtr.of bXX8_bits (Nat.le_of_ble_eq_true rfl) rfl ?_
  refine fV.run iX8_bits_0_4 oX8_bits_0_4 (pc' := 4) (L' := [(0, .int (nI m)), (1, .int 0), (2, .int 0)]) (st' := []) (S' := S) rfl trivial ?_
  exact lpX8_bits hm 16 0 (by omega)

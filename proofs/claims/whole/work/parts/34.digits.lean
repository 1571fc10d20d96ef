/-! the reference: rows as codes -/
theorem nI_div {x y : Nat} (hx : x < 2 ^ 31) (hy : y < 2 ^ 31) (h0 : 0 < y) : nI x / nI y = nI (x / y) := by
  apply Int32.toInt_inj.mp
  rw [lg_idiv_nonneg (by rw [nI_toInt hx]; omega) (by rw [nI_toInt hy]; omega), nI_toInt hx, nI_toInt hy, nI_toInt (Nat.lt_of_le_of_lt (Nat.div_le_self _ _) hx)]
  omega
theorem nI_mul (x y : Nat) : nI x * nI y = nI (x * y) := by simp [nI, Int32.ofNat_mul]
theorem nI_sub {x y : Nat} (h : y ≤ x) : nI x - nI y = nI (x - y) := by
  obtain ⟨z, rfl⟩ : ∃ z, x = z + y := ⟨x - y, by omega⟩
  rw [Nat.add_sub_cancel, ← nI_add]
  grind
theorem nI_rem {x y : Nat} (hx : x < 2 ^ 31) (hy : y < 2 ^ 31) (h0 : 0 < y) : nI x - nI x / nI y * nI y = nI (x % y) := by
  have h1 : x / y * y ≤ x := Nat.div_mul_le_self x y
  rw [nI_div hx hy h0, nI_mul, nI_sub h1]
  congr 1
  have := Nat.div_add_mod x y
  rw [Nat.mul_comm] at this
  omega
/-- the k figures of a code, the first one the greatest -/
def dgs (b : Nat) : Nat → Nat → List Nat
  | 0, _ => []
  | k + 1, c => dgs b k (c / b) ++ [c % b]
theorem dgs_len (b : Nat) : ∀ (k c : Nat), (dgs b k c).length = k
  | 0, _ => rfl
  | k + 1, c => by simp [dgs, dgs_len b k]
theorem dgs_lt {b : Nat} (hb : 0 < b) : ∀ (k c : Nat), ∀ w ∈ dgs b k c, w < b
  | 0, _ => by simp [dgs]
  | k + 1, c => by
    intro w hw
    simp only [dgs, List.mem_append, List.mem_singleton] at hw
    rcases hw with h | rfl
    · exact dgs_lt hb k _ w h
    · exact Nat.mod_lt _ hb
theorem dgs_at (b : Nat) : ∀ (k c i : Nat), i < k → fnL (dgs b k c) i = c / b ^ (k - 1 - i) % b
  | 0, _, _, h => absurd h (by omega)
  | k + 1, c, i, h => by
    have hl : (dgs b k (c / b)).length = k := dgs_len b k _
    show fnL (dgs b k (c / b) ++ [c % b]) i = _
    by_cases e : i = k
    · subst e
      have := fnL_last (l := dgs b i (c / b)) (w := c % b)
      rw [hl] at this
      rw [this, show i + 1 - 1 - i = 0 by omega, Nat.pow_zero, Nat.div_one]
    · rw [fnL_app (by omega), dgs_at b k _ i (by omega), show k + 1 - 1 - i = (k - 1 - i) + 1 by omega, Nat.pow_succ, Nat.mul_comm, Nat.div_div_eq_div_mul]
theorem noAdj_app {l : List Nat} {w : Nat} : noAdj (fnL (l ++ [w])) (l.length + 1) ↔ noAdj (fnL l) l.length ∧ ¬ l.getLast? = some w := by
  unfold noAdj
  constructor
  · intro h
    refine ⟨fun m h1 h2 e => h (m + 1) (by omega) (by omega) ?_, fun e => ?_⟩
    · rw [show l.length + 1 - (m + 1) = l.length - m by omega, show l.length + 1 - 1 - (m + 1) = l.length - 1 - m by omega, fnL_app (by omega), fnL_app (by omega)]
      exact e
    · by_cases h0 : 0 < l.length
      · refine h 1 (by omega) (by omega) ?_
        rw [show l.length + 1 - 1 = l.length by omega, fnL_last, fnL_app (by omega)]
        exact ((pre_last h0).mp e).symm
      · obtain rfl : l = [] := List.eq_nil_of_length_eq_zero (by omega)
        simp at e
  · rintro ⟨h, h2⟩ m h1 h3 e
    by_cases hm : m = 1
    · subst hm
      rw [show l.length + 1 - 1 = l.length by omega, fnL_last, fnL_app (by omega)] at e
      exact h2 ((pre_last (by omega)).mpr e.symm)
    · refine h (m - 1) (by omega) (by omega) ?_
      rw [show l.length + 1 - m = l.length - (m - 1) by omega, show l.length + 1 - 1 - m = l.length - 1 - (m - 1) by omega, fnL_app (by omega), fnL_app (by omega)] at e
      exact e
theorem rowsX_s (b : Nat) : ∀ (n : Nat) (pre : List Nat), rowsX b (n + 1) pre = (rowsX b n pre).flatMap (rowsX b 1)
  | 0, pre => by show _ = [pre].flatMap _; simp
  | n + 1, pre => by
    show (List.range b).flatMap (fun w => if pre.getLast? = some w then [] else rowsX b (n + 1) (pre ++ [w])) = ((List.range b).flatMap (fun w => if pre.getLast? = some w then [] else rowsX b n (pre ++ [w]))).flatMap (rowsX b 1)
    rw [List.flatMap_assoc]
    congr 1
    funext w
    split
    · rfl
    · exact rowsX_s b n _
/-- a row that the reference takes -/
noncomputable def rowO (l : List Nat) : Option (List Nat) := @ite _ (noAdj (fnL l) l.length) (Classical.propDecidable _) (some l) none
theorem fm_flat {α β : Type} (f : α → Option β) : ∀ l : List α, l.filterMap f = l.flatMap (fun x => (f x).toList)
  | [] => rfl
  | x :: l => by
    rw [List.filterMap_cons, List.flatMap_cons, fm_flat f l]
    cases f x <;> rfl
theorem fm_congr {α β : Type} {f g : α → Option β} : ∀ {l : List α}, (∀ x ∈ l, f x = g x) → l.filterMap f = l.filterMap g
  | [], _ => rfl
  | x :: l, h => by
    rw [List.filterMap_cons, List.filterMap_cons, h x (by simp), fm_congr (l := l) (fun y hy => h y (by simp [hy]))]
theorem rng_mul (b : Nat) : ∀ m : Nat, List.range (m * b) = (List.range m).flatMap (fun c => (List.range b).map (fun w => c * b + w))
  | 0 => by simp
  | m + 1 => by
    rw [Nat.succ_mul, List.range_add, rng_mul b m, rng_s]
theorem rowO_app {b : Nat} {l : List Nat} : (List.range b).filterMap (fun w => rowO (l ++ [w])) = ((rowO l).toList).flatMap (rowsX b 1) := by
  unfold rowO
  by_cases h : noAdj (fnL l) l.length
  · rw [if_pos h]
    simp only [Option.toList, List.flatMap_cons, List.flatMap_nil, List.append_nil]
    show _ = (List.range b).flatMap (fun w => if l.getLast? = some w then [] else [l ++ [w]])
    rw [fm_flat]
    congr 1
    funext w
    rw [show (l ++ [w]).length = l.length + 1 by simp]
    by_cases h2 : l.getLast? = some w
    · rw [if_pos h2, if_neg (fun z => (noAdj_app.mp z).2 h2)]; rfl
    · rw [if_neg h2, if_pos (noAdj_app.mpr ⟨h, h2⟩)]; rfl
  · rw [if_neg h]
    simp only [Option.toList, List.flatMap_nil]
    rw [List.filterMap_eq_nil_iff]
    intro w _
    rw [show (l ++ [w]).length = l.length + 1 by simp, if_neg (fun z => h (noAdj_app.mp z).1)]
theorem rows_code {b : Nat} (hb : 0 < b) : ∀ k : Nat, (List.range (b ^ k)).filterMap (fun c => rowO (dgs b k c)) = rowsX b k []
  | 0 => by
    show [0].filterMap _ = [[]]
    have : rowO [] = some [] := by unfold rowO; exact if_pos (show noAdj (fnL []) 0 from fun m h1 h2 => absurd h2 (by omega))
    simp [dgs, this]
  | k + 1 => by
    rw [rowsX_s, ← rows_code hb k, Nat.pow_succ, rng_mul, List.filterMap_flatMap]
    rw [fm_flat _ (List.range (b ^ k)), List.flatMap_assoc]
    congr 1
    funext c
    rw [List.filterMap_map, ← rowO_app]
    refine fm_congr (fun w hw => ?_)
    have hw := List.mem_range.mp hw
    show rowO (dgs b k ((c * b + w) / b) ++ [(c * b + w) % b]) = _
    rw [Nat.mul_comm c b, Nat.mul_add_div hb, Nat.div_eq_of_lt hw, Nat.add_zero, Nat.mul_add_mod, Nat.mod_eq_of_lt hw]
theorem rows_codeA {b k : Nat} : (List.range (b ^ k)).filterMap (fun c => rowO (dgs b k c)) = rowsX b k [] := by
  by_cases hb : 0 < b
  · exact rows_code hb k
  · obtain rfl : b = 0 := by omega
    cases k with
    | zero =>
      show [0].filterMap _ = [[]]
      have : rowO [] = some [] := by unfold rowO; exact if_pos (show noAdj (fnL []) 0 from fun m h1 h2 => absurd h2 (by omega))
      simp [dgs, this]
    | succ k => simp [rowsX, Nat.pow_succ]
noncomputable def qOf (en : Nat → Int32) (b : Nat) (src seat : zP) (l : List Nat) : Option pTh := (rowO l).bind (pOf en b src seat)
theorem qOf_y {en : Nat → Int32} {b : Nat} {src seat : zP} {l : List Nat} (h : hasD en src seat (fnL l) l.length) (h1 : noAdj (fnL l) l.length) (h2 : seenD en b src seat (fnL l) l.length) : qOf en b src seat l = some (l, sqD en src seat l) := by
  unfold qOf rowO
  rw [if_pos h1]
  exact pOf_y h h2
theorem qOf_n1 {en : Nat → Int32} {b : Nat} {src seat : zP} {l : List Nat} (h : ¬ (hasD en src seat (fnL l) l.length ∧ noAdj (fnL l) l.length)) : qOf en b src seat l = none := by
  unfold qOf rowO
  by_cases h1 : noAdj (fnL l) l.length
  · rw [if_pos h1]
    exact pOf_n (fun z => h ⟨z.1, h1⟩)
  · rw [if_neg h1]; rfl
theorem qOf_n2 {en : Nat → Int32} {b : Nat} {src seat : zP} {l : List Nat} (h : ¬ seenD en b src seat (fnL l) l.length) : qOf en b src seat l = none := by
  unfold qOf rowO
  by_cases h1 : noAdj (fnL l) l.length
  · rw [if_pos h1]
    exact pOf_n (fun z => h z.2)
  · rw [if_neg h1]; rfl
theorem pth_code {en : Nat → Int32} {b k : Nat} {src seat : zP} : (List.range (b ^ k)).filterMap (fun c => qOf en b src seat (dgs b k c)) = pthX en b src seat k [] := by
  unfold pthX
  rw [← rows_codeA, List.filterMap_filterMap]
  rfl
noncomputable def qH (h : hH) (b si ei : Nat) (l : List Nat) : Option pTh := qOf h.2.1.2.1 b (hSrc h si) (hSeat h ei) l
noncomputable def qCd (h : hH) (b si ei k c : Nat) : List pTh := (List.range c).filterMap (fun c => qH h b si ei (dgs b k c))
theorem qCd_s (h : hH) (b si ei k c : Nat) : qCd h b si ei k (c + 1) = qCd h b si ei k c ++ (qH h b si ei (dgs b k c)).toList := by
  unfold qCd
  rw [List.range_succ, List.filterMap_append]
  rw [List.filterMap_cons, List.filterMap_nil]
  cases qH h b si ei (dgs b k c) <;> rfl
theorem qCd_le (h : hH) (b si ei k : Nat) {c n : Nat} (hc : c ≤ n) : (qCd h b si ei k c).length ≤ (qCd h b si ei k n).length := ((List.range_sublist.mpr hc).filterMap _).length_le
theorem qCd_all (h : hH) (b si ei k : Nat) : qCd h b si ei k (b ^ k) = pthX h.2.1.2.1 b (hSrc h si) (hSeat h ei) k [] := pth_code
/-- the reference's found paths -/
def fdR (S : fS) (b : Nat) (PL : List pTh) : Prop := gI S 35 25 = nI PL.length ∧ PL.length ≤ 3857 ∧ ∀ (i : Nat) (x : pTh), PL[i]? = some x → (∃ c, x.1 = dgs b x.1.length c ∧ c < b ^ x.1.length ∧ gA S 52 i = nI c) ∧ gA S 53 i = nI x.1.length ∧ gB S 54 i = x.2
theorem fdR.kd {S S' : fS} {b : Nat} {PL : List pTh} (F : fdR S b PL) (h1 : gI S' 35 25 = gI S 35 25) (h2 : gA S' 52 = gA S 52) (h3 : gA S' 53 = gA S 53) (h4 : gB S' 54 = gB S 54) : fdR S' b PL := by
  unfold fdR
  rw [h1, h2, h3, h4]
  exact F
theorem try_add {S S9 S2 : fS} {b c : Nat} {l : List Nat} {sq : Int64} {PL : List pTh} (F : fdR S b PL) (hk : kd S S9) (hl : l = dgs b l.length c) (hc : c < b ^ l.length) (ho : gI S 35 22 = nI l.length) {q : Option pTh} (hq : q = some (l, sq)) (hn : (PL ++ q.toList).length ≤ 3857) (h53 : gA S2 52 = upd (gA S9 52) (gI S9 35 25).toNatClampNeg (nI c)) (h54 : gA S2 53 = upd (gA S9 53) (gI S9 35 25).toNatClampNeg (gI S9 35 22)) (h55 : gB S2 54 = vp_updL (gB S9 54) (gI S9 35 25).toNatClampNeg sq) (h25 : gI S2 35 25 = gI S9 35 25 + 1) : fdR S2 b (PL ++ q.toList) := by
  obtain ⟨-, -, k22, k25, k52, k53, k54, k55⟩ := hk
  subst hq
  have hn2 : PL.length + 1 ≤ 3857 := by simpa using hn
  have e0 : (nI PL.length).toNatClampNeg = PL.length := nI_clamp (by omega)
  rw [k25, F.1, e0] at h53 h54 h55
  refine ⟨by rw [h25, k25, F.1, nI_1]; simp, hn, fun i x hx => ?_⟩
  show _ ∧ _ ∧ _
  rw [h53, h54, h55, k53, k54, k55, k22, ho]
  by_cases e : i = PL.length
  · subst e
    have : x = (l, sq) := by simpa using hx.symm
    subst this
    rw [pk_us, pk_us, pk_uLs]
    exact ⟨⟨c, hl, hc, rfl⟩, rfl, rfl⟩
  · have hi : i < PL.length := by
      have := (List.getElem?_eq_some_iff.mp hx).1
      simp at this
      omega
    rw [pk_un e, pk_un e, pk_uLn e]
    rw [List.getElem?_append_left hi] at hx
    exact F.2.2 i x hx
theorem sq_way {S : fS} {a b c e si ei : Nat} {l : List Nat} {u v : Int64} (H : hOk (hD S) a b c e) (hsi : si < c) (hei : ei < e) (hl : l.length ≤ 3) (hw : ∀ i, i < l.length → fnL l i < b)
    (h : u = (imgD (gA S 38) (gA S 40 si, gA S 41 si) (fnL l) l.length).1.toInt64 - (gA S 43 ei).toInt64 ∧ v = (imgD (gA S 38) (gA S 40 si, gA S 41 si) (fnL l) l.length).2.toInt64 - (gA S 44 ei).toInt64) : u * u + v * v = sqD (gA S 38) (gA S 40 si, gA S 41 si) (gA S 43 ei, gA S 44 ei) l := by
  obtain ⟨⟨i1, i2⟩, i3, i4⟩ := img_bd2 H (src_ok H hsi) (r := fnL l) l.length hl hw
  obtain ⟨⟨s1, s2⟩, s3, s4⟩ := seat_ok H hei
  have i1 : -(1000 * (l.length : Int)) ≤ (imgD (gA S 38) (gA S 40 si, gA S 41 si) (fnL l) l.length).1.toInt := i1
  have i2 : (imgD (gA S 38) (gA S 40 si, gA S 41 si) (fnL l) l.length).1.toInt ≤ 1000 * ((l.length : Int) + 1) := i2
  have i3 : -(1000 * (l.length : Int)) ≤ (imgD (gA S 38) (gA S 40 si, gA S 41 si) (fnL l) l.length).2.toInt := i3
  have i4 : (imgD (gA S 38) (gA S 40 si, gA S 41 si) (fnL l) l.length).2.toInt ≤ 1000 * ((l.length : Int) + 1) := i4
  have s1 : 0 ≤ (gA S 43 ei).toInt := s1
  have s2 : (gA S 43 ei).toInt ≤ 1000 := s2
  have s3 : 0 ≤ (gA S 44 ei).toInt := s3
  have s4 : (gA S 44 ei).toInt ≤ 1000 := s4
  unfold sqD
  rw [h.1, h.2, (w_sub (x := (imgD (gA S 38) (gA S 40 si, gA S 41 si) (fnL l) l.length).1) (y := gA S 43 ei) (by omega) (by omega) (by omega) (by omega)).1, (w_sub (x := (imgD (gA S 38) (gA S 40 si, gA S 41 si) (fnL l) l.length).2) (y := gA S 44 ei) (by omega) (by omega) (by omega) (by omega)).1]
theorem all_k {k b : Nat} {x : Int32} (hk : k ≤ 3) (hx : x = nI b) : (nI k = 0 → 1 = nI (b ^ k)) ∧ (nI k = 1 → x = nI (b ^ k)) ∧ (nI k = 2 → x * x = nI (b ^ k)) ∧ (¬ nI k = 0 → ¬ nI k = 1 → ¬ nI k = 2 → x * x * x = nI (b ^ k)) := by
  subst hx
  rcases (by omega : k = 0 ∨ k = 1 ∨ k = 2 ∨ k = 3) with rfl | rfl | rfl | rfl
  · exact ⟨fun _ => rfl, fun h => absurd h (by decide), fun h => absurd h (by decide), fun h => absurd rfl h⟩
  · exact ⟨fun h => absurd h (by decide), fun _ => by rw [Nat.pow_one], fun h => absurd h (by decide), fun _ h => absurd rfl h⟩
  · exact ⟨fun h => absurd h (by decide), fun h => absurd h (by decide), fun _ => by rw [nI_mul, Nat.pow_two], fun _ _ h => absurd rfl h⟩
  · exact ⟨fun h => absurd h (by decide), fun h => absurd h (by decide), fun h => absurd h (by decide), fun _ _ _ => by rw [nI_mul, nI_mul, show b ^ 3 = b * b * b by rw [Nat.pow_succ, Nat.pow_two]]⟩
def kO (S S1 : fS) (k : Nat) : Prop := hD S1 = hD S ∧ S1.1 = S.1 ∧ gI S1 35 22 = nI k
theorem pw_lt {b k : Nat} (hb : b ≤ 16) (hk : k ≤ 3) : b ^ k ≤ 4096 := Nat.le_trans (Nat.pow_le_pow_left hb k) (Nat.le_trans (Nat.pow_le_pow_right (by decide) hk) (by decide))

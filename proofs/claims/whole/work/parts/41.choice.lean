/-! walls chosen: the choice as told -/
abbrev sel : Type := Option (Int32 × Int32 × Int32)
def wgh (o : sel) (c k f : Int32) : sel := match o with
  | none => some (c, k, f)
  | some q => if c < q.1 ∨ (c = q.1 ∧ q.2.1 ≤ k) then some q else some (c, k, f)
def asg (sf : Nat → Int32) : List Nat → List Nat → Nat → Int32
  | w :: ws, f :: fs => asg (upd sf w (nI f)) ws fs
  | _, _ => sf
def kst (h : hH) (w f : Nat) : Int32 := h.1.2.2 f * hLen h.2.1.2.1 w / 100
def cst (h : hH) : List Nat → List Nat → Int32
  | w :: ws, f :: fs => kst h w f + cst h ws fs
  | _, _ => 0
def fgs (fs : List Nat) : Int32 := fs.foldl (fun a f => 8 * a + nI f) 0
/-- one choice weighed, if the money is enough -/
def bsp (cl : (Nat → Int32) → Int32) (h : hH) (ws : List Nat) (mo : Int32) (o : sel) (fs : List Nat) : sel := if cst h ws fs ≤ mo then wgh o (cl (asg h.2.1.2.2 ws fs)) (cst h ws fs) (fgs fs) else o
def chs (cl : (Nat → Int32) → Int32) (h : hH) (ws : List Nat) (mo : Int32) (a : Nat) : Nat → List Nat → sel → sel
  | 0, pre, o => bsp cl h ws mo o pre
  | r + 1, pre, o => (List.range a).foldl (fun o f => chs cl h ws mo a r (pre ++ [f]) o) o
theorem cst_app {h : hH} {f : Nat} : ∀ {ws pre : List Nat}, pre.length < ws.length → cst h ws (pre ++ [f]) = cst h ws pre + kst h (fnL ws pre.length) f
  | [], pre, hl => absurd hl (by simp)
  | w :: ws, [], _ => by
    show kst h w f + cst h ws [] = cst h (w :: ws) [] + kst h w f
    have : ∀ l : List Nat, cst h l [] = 0 := fun l => by cases l <;> rfl
    rw [this, this, Int32.add_comm]
  | w :: ws, p :: pre, hl => by
    show kst h w p + cst h ws (pre ++ [f]) = kst h w p + cst h ws pre + kst h (fnL ws pre.length) f
    rw [cst_app (ws := ws) (pre := pre) (by simpa using hl), Int32.add_assoc]
theorem asg_app {f : Nat} : ∀ {sf : Nat → Int32} {ws pre : List Nat}, pre.length < ws.length → asg sf ws (pre ++ [f]) = upd (asg sf ws pre) (fnL ws pre.length) (nI f)
  | _, [], pre, hl => absurd hl (by simp)
  | sf, w :: ws, [], _ => by
    have : ∀ (g : Nat → Int32) (l : List Nat), asg g l [] = g := fun g l => by cases l <;> rfl
    show asg (upd sf w (nI f)) ws [] = upd (asg sf (w :: ws) []) w (nI f)
    rw [this, this]
  | sf, w :: ws, p :: pre, hl => by
    show asg (upd sf w (nI p)) ws (pre ++ [f]) = _
    rw [asg_app (sf := upd sf w (nI p)) (ws := ws) (pre := pre) (by simpa using hl)]
    rfl
theorem asg_nil (sf : Nat → Int32) (ws : List Nat) : asg sf ws [] = sf := by cases ws <;> rfl
theorem asg_off {w : Nat} : ∀ {sf : Nat → Int32} {ws pre : List Nat}, w ∉ ws → asg sf ws pre w = sf w
  | _, [], pre, _ => by cases pre <;> rfl
  | _, _ :: _, [], _ => rfl
  | sf, v :: ws, p :: pre, h => by
    show asg (upd sf v (nI p)) ws pre w = sf w
    rw [asg_off (fun z => h (by simp [z]))]
    unfold upd
    exact if_neg (fun z => h (by simp [z]))
theorem asg_at : ∀ {sf : Nat → Int32} {ws pre : List Nat} {k : Nat}, ws.Nodup → k < pre.length → k < ws.length → asg sf ws pre (fnL ws k) = nI (fnL pre k)
  | _, [], _, _, _, _, h => absurd h (by simp)
  | _, _ :: _, [], _, _, h, _ => absurd h (by simp)
  | sf, w :: ws, p :: pre, 0, hn, _, _ => by
    show asg (upd sf w (nI p)) ws pre w = nI p
    rw [asg_off (List.nodup_cons.mp hn).1]
    unfold upd
    exact if_pos rfl
  | sf, w :: ws, p :: pre, k + 1, hn, h1, h2 => asg_at (sf := upd sf w (nI p)) (ws := ws) (pre := pre) (k := k) (List.nodup_cons.mp hn).2 (by simpa using h1) (by simpa using h2)
theorem asg_lt {b : Nat} : ∀ {sf : Nat → Int32} {ws pre : List Nat}, (∀ w, w < b → ∃ j, j < 8 ∧ sf w = nI j) → (∀ f ∈ pre, f < 8) → ∀ w, w < b → ∃ j, j < 8 ∧ asg sf ws pre w = nI j
  | _, [], pre, h, _ => by cases pre <;> exact h
  | _, _ :: _, [], h, _ => h
  | sf, v :: ws, p :: pre, h, hp => asg_lt (sf := upd sf v (nI p)) (ws := ws) (pre := pre) (fun w hw => by
      unfold upd
      split
      · exact ⟨p, hp p (by simp), rfl⟩
      · exact h w hw) (fun f hf => hp f (by simp [hf]))
theorem upd_lt {b : Nat} {sf : Nat → Int32} (h : ∀ w, w < b → ∃ j, j < 8 ∧ sf w = nI j) {v p : Nat} (hp : p < 8) : ∀ w, w < b → ∃ j, j < 8 ∧ upd sf v (nI p) w = nI j := fun w hw => by
  unfold upd
  split
  · exact ⟨p, hp, rfl⟩
  · exact h w hw
theorem fgs_app (pre : List Nat) (f : Nat) : fgs (pre ++ [f]) = 8 * fgs pre + nI f := by
  unfold fgs; rw [List.foldl_append]; rfl
theorem kst_b {h : hH} {a b c e : Nat} (H : hOk h a b c e) {w f : Nat} (hw : w < b) (hf : f < a) : 0 ≤ (kst h w f).toInt ∧ (kst h w f).toInt ≤ 10000 := by
  obtain ⟨-, f0, f1⟩ := H.1.2.2.2 f hf
  have t0 : (0 : Int32).toInt = 0 := by decide
  have t1 : (1000 : Int32).toInt = 1000 := by decide
  have t2 : (100 : Int32).toInt = 100 := by decide
  rw [Int32.le_iff_toInt_le, t0] at f0
  rw [Int32.le_iff_toInt_le, t1] at f1
  obtain ⟨l0, l1⟩ := H.len1 hw
  have m1 : (h.1.2.2 f).toInt * (hLen h.2.1.2.1 w).toInt ≤ 1000 * 1000 := Int.mul_le_mul f1 l1 (by omega) (by decide)
  have m0 : 0 ≤ (h.1.2.2 f).toInt * (hLen h.2.1.2.1 w).toInt := Int.mul_nonneg f0 (by omega)
  have e1 : (h.1.2.2 f * hLen h.2.1.2.1 w).toInt = (h.1.2.2 f).toInt * (hLen h.2.1.2.1 w).toInt := by
    rw [Int32.toInt_mul, Int.bmod_def]; omega
  unfold kst
  rw [lg_idiv_nonneg (by omega) (by rw [t2]; decide), e1, t2]
  omega
theorem cst_b {h : hH} {a b c e : Nat} (H : hOk h a b c e) : ∀ {ws pre : List Nat}, ws.length ≤ 4 → (∀ w ∈ ws, w < b) → (∀ f ∈ pre, f < a) → 0 ≤ (cst h ws pre).toInt ∧ (cst h ws pre).toInt ≤ 10000 * (ws.length : Int)
  | [], pre, _, _, _ => by cases pre <;> exact (show 0 ≤ (0 : Int32).toInt ∧ (0 : Int32).toInt ≤ 10000 * ((0 : Nat) : Int) by decide)
  | w :: ws, [], hl, _, _ => by
    show 0 ≤ (0 : Int32).toInt ∧ (0 : Int32).toInt ≤ _
    have t0 : (0 : Int32).toInt = 0 := by decide
    omega
  | w :: ws, p :: pre, hl, hw, hp => by
    simp only [List.length_cons] at hl
    obtain ⟨c0, c1⟩ := cst_b H (ws := ws) (pre := pre) (by omega) (fun x hx => hw x (by simp [hx])) (fun x hx => hp x (by simp [hx]))
    obtain ⟨k0, k1⟩ := kst_b H (hw w (by simp)) (hp p (by simp))
    show 0 ≤ (kst h w p + cst h ws pre).toInt ∧ (kst h w p + cst h ws pre).toInt ≤ _
    simp only [List.length_cons]
    rw [i_add (by omega) (by omega)]
    omega
theorem cst_up {h : hH} {a b c e : Nat} (H : hOk h a b c e) {ws pre : List Nat} {f : Nat} (hl : ws.length ≤ 4) (hw : ∀ w ∈ ws, w < b) (hp : ∀ x ∈ pre, x < a) (hf : f < a) (hlt : pre.length < ws.length) : cst h ws pre ≤ cst h ws (pre ++ [f]) := by
  obtain ⟨c0, c1⟩ := cst_b H (ws := ws) (pre := pre) hl hw hp
  obtain ⟨k0, k1⟩ := kst_b H (fnL_lt hw hlt) hf
  rw [Int32.le_iff_toInt_le, cst_app hlt, i_add (by omega) (by omega)]
  omega
theorem pre_app {a : Nat} {pre : List Nat} {f : Nat} (hp : ∀ x ∈ pre, x < a) (hf : f < a) : ∀ x ∈ pre ++ [f], x < a := by
  intro x hx
  rcases List.mem_append.mp hx with h | h
  · exact hp x h
  · rw [List.mem_singleton.mp h]; exact hf
theorem fold_id {α β : Type} {f : β → α → β} : ∀ {l : List α} {o : β}, (∀ x ∈ l, ∀ o, f o x = o) → l.foldl f o = o
  | [], _, _ => rfl
  | x :: l, o, h => by
    rw [List.foldl_cons, h x (by simp)]
    exact fold_id (fun y hy => h y (by simp [hy]))
theorem fold_congr {α β : Type} {f g : β → α → β} : ∀ {l : List α} {o : β}, (∀ x ∈ l, ∀ o, f o x = g o x) → l.foldl f o = l.foldl g o
  | [], _, _ => rfl
  | x :: l, o, h => by
    rw [List.foldl_cons, List.foldl_cons, h x (by simp)]
    exact fold_congr (fun y hy => h y (by simp [hy]))
theorem chs_big {h : hH} {a b c e : Nat} (H : hOk h a b c e) {cl : (Nat → Int32) → Int32} {ws : List Nat} {mo : Int32} (hl : ws.length ≤ 4) (hw : ∀ w ∈ ws, w < b) : ∀ (r : Nat) {pre : List Nat} {o : sel}, pre.length + r = ws.length → (∀ x ∈ pre, x < a) → mo < cst h ws pre → chs cl h ws mo a r pre o = o
  | 0, pre, o, _, _, hc => by
    show bsp cl h ws mo o pre = o
    unfold bsp
    exact if_neg (by grind)
  | r + 1, pre, o, hr, hp, hc => by
    show (List.range a).foldl (fun o f => chs cl h ws mo a r (pre ++ [f]) o) o = o
    refine fold_id (fun f hf o => ?_)
    have hf := List.mem_range.mp hf
    have := cst_up H hl hw hp hf (by omega)
    exact chs_big H hl hw r (by simp; omega) (pre_app hp hf) (by grind)
theorem dgs_front {a : Nat} : ∀ (r f k : Nat), f < a → k < a ^ r → dgs a (r + 1) (f * a ^ r + k) = f :: dgs a r k
  | 0, f, k, hf, hk => by
    have : k = 0 := by simpa using hk
    subst this
    show dgs a 0 _ ++ [(f * a ^ 0 + 0) % a] = [f]
    rw [Nat.pow_zero, Nat.mul_one, Nat.add_zero, Nat.mod_eq_of_lt hf]
    rfl
  | r + 1, f, k, hf, hk => by
    have ha : 0 < a := by omega
    have h1 : (f * a ^ (r + 1) + k) / a = f * a ^ r + k / a := by
      rw [Nat.pow_succ, ← Nat.mul_assoc, Nat.mul_comm _ a, Nat.mul_add_div ha]
    have h2 : (f * a ^ (r + 1) + k) % a = k % a := by
      rw [Nat.pow_succ, ← Nat.mul_assoc, Nat.mul_comm _ a, Nat.mul_add_mod]
    have h3 : k / a < a ^ r := by
      rw [Nat.div_lt_iff_lt_mul ha, ← Nat.pow_succ]; exact hk
    show dgs a (r + 1) ((f * a ^ (r + 1) + k) / a) ++ [(f * a ^ (r + 1) + k) % a] = f :: (dgs a r (k / a) ++ [k % a])
    rw [h1, h2, dgs_front r f (k / a) hf h3]
    rfl
theorem fold_flat {α β γ : Type} (g : β → γ → β) (F : α → List γ) : ∀ (l : List α) (o : β), (l.flatMap F).foldl g o = l.foldl (fun o x => (F x).foldl g o) o
  | [], _ => rfl
  | x :: l, o => by
    rw [List.flatMap_cons, List.foldl_append, List.foldl_cons, fold_flat g F l]
theorem chs_code (cl : (Nat → Int32) → Int32) (h : hH) (ws : List Nat) (mo : Int32) (a : Nat) : ∀ (r : Nat) (pre : List Nat) (o : sel), chs cl h ws mo a r pre o = (List.range (a ^ r)).foldl (fun o k => bsp cl h ws mo o (pre ++ dgs a r k)) o
  | 0, pre, o => by
    show bsp cl h ws mo o pre = [0].foldl _ o
    simp [dgs]
  | r + 1, pre, o => by
    show (List.range a).foldl (fun o f => chs cl h ws mo a r (pre ++ [f]) o) o = _
    rw [Nat.pow_succ, Nat.mul_comm, rng_mul, fold_flat]
    refine fold_congr (fun f hf o => ?_)
    have hf := List.mem_range.mp hf
    rw [chs_code cl h ws mo a r, List.foldl_map]
    refine fold_congr (fun k hk o => ?_)
    have hk := List.mem_range.mp hk
    rw [dgs_front r f k hf hk, List.append_assoc]
    rfl
/-! sums of parts of the paths -/
theorem j_ac (x y z : Int64) : x + y + z = x + z + y := by grind
theorem sm_from {f : pTh → Int64} {p : pTh → Bool} : ∀ (PL : List pTh) (z : Int64), PL.foldl (fun a x => bif p x then a + f x else a) z = z + PL.foldl (fun a x => bif p x then a + f x else a) 0
  | [], z => by simp
  | x :: PL, z => by
    rw [List.foldl_cons, List.foldl_cons, sm_from PL, sm_from PL (bif p x then 0 + f x else 0)]
    cases p x
    · simp
    · simp only [cond_true]; grind
theorem smE_cons {f : pTh → Int64} {p : pTh → Bool} (x : pTh) (PL : List pTh) : smE f p (x :: PL) = (bif p x then f x else 0) + smE f p PL := by
  unfold smE
  rw [List.foldl_cons, sm_from]
  cases p x <;> simp
theorem smE_congr {f g : pTh → Int64} {p q : pTh → Bool} : ∀ {PL : List pTh}, (∀ x ∈ PL, p x = q x) → (∀ x ∈ PL, p x = true → f x = g x) → smE f p PL = smE g q PL
  | [], _, _ => rfl
  | x :: PL, h1, h2 => by
    rw [smE_cons, smE_cons, smE_congr (PL := PL) (fun y hy => h1 y (by simp [hy])) (fun y hy => h2 y (by simp [hy])), ← h1 x (by simp)]
    cases hp : p x
    · rfl
    · rw [h2 x (by simp) hp]
theorem smE_add {f : pTh → Int64} {p q : pTh → Bool} : ∀ {PL : List pTh}, (∀ x ∈ PL, p x = true → q x = false) → smE f (fun x => p x || q x) PL = smE f p PL + smE f q PL
  | [], _ => rfl
  | x :: PL, h => by
    rw [smE_cons, smE_cons, smE_cons, smE_add (PL := PL) (fun y hy => h y (by simp [hy]))]
    have := h x (by simp)
    cases hp : p x
    · cases q x
      · simp
      · simp only [Bool.false_or, cond_true, cond_false]; grind
    · rw [this hp]
      simp only [Bool.true_or, cond_true, cond_false]; grind
theorem smE_filter {f : pTh → Int64} {p q : pTh → Bool} : ∀ {PL : List pTh}, smE f p (PL.filter q) = smE f (fun x => p x && q x) PL
  | [] => rfl
  | x :: PL => by
    rw [smE_cons, List.filter_cons, ← smE_filter (PL := PL)]
    cases hq : q x
    · simp
    · simp only [if_true, smE_cons, Bool.and_true]
theorem enI_congr {sh s1 s2 : Nat → Int32} {z : Int64} {l : List Nat} (h : ∀ w ∈ l, s1 w = s2 w) : ∀ t, t ≤ l.length → enI sh s1 z l t = enI sh s2 z l t
  | 0, _ => rfl
  | t + 1, ht => by
    show enI sh s1 z l t * (sh (s1 (fnL l t)).toNatClampNeg).toInt64 / 100 = enI sh s2 z l t * (sh (s2 (fnL l t)).toNatClampNeg).toInt64 / 100
    rw [enI_congr h t (by omega), h (fnL l t) (by unfold fnL; rw [List.getD_eq_getElem?_getD, List.getElem?_eq_getElem (by omega)]; exact List.getElem_mem _)]
theorem enF_congr {sh s1 s2 : Nat → Int32} {pw : Int32} {x : pTh} (h : ∀ w ∈ x.1, s1 w = s2 w) : enF sh s1 pw x = enF sh s2 pw x := by
  unfold enF; rw [enI_congr h _ (Nat.le_refl _)]
/-- the sum of the paths of the groups up to g -/
def upG (f : pTh → Int64) (p : pTh → Bool) (gr : pTh → Nat) (PL : List pTh) (g : Nat) : Int64 := smE f (fun x => p x && Nat.ble (gr x) g) PL
def atG (gr : pTh → Nat) (PL : List pTh) (g : Nat) : List pTh := PL.filter (fun x => Nat.beq (gr x) g)
theorem upG_0 (f : pTh → Int64) (p : pTh → Bool) (gr : pTh → Nat) (PL : List pTh) : upG f p gr PL 0 = 0 + smE f p (atG gr PL 0) := by
  unfold upG atG
  rw [smE_filter, Int64.zero_add]
  refine smE_congr (fun x _ => ?_) (fun x _ _ => rfl)
  congr 1
  cases gr x <;> rfl
theorem upG_s (f : pTh → Int64) (p : pTh → Bool) (gr : pTh → Nat) (PL : List pTh) (g : Nat) : upG f p gr PL (g + 1) = upG f p gr PL g + smE f p (atG gr PL (g + 1)) := by
  unfold upG atG
  rw [smE_filter, ← smE_add]
  · refine smE_congr (fun x _ => ?_) (fun x _ _ => rfl)
    cases p x
    · rfl
    · simp only [Bool.true_and]
      rw [Bool.eq_iff_iff, Bool.or_eq_true, Nat.ble_eq, Nat.ble_eq, Nat.beq_eq]
      omega
  · intro x _ h
    rw [Bool.and_eq_true, Nat.ble_eq] at h
    rw [Bool.and_eq_false_iff]
    right
    rw [← Bool.not_eq_true, Nat.beq_eq]
    omega
theorem upG_all {f : pTh → Int64} {p : pTh → Bool} {gr : pTh → Nat} {PL : List pTh} {g : Nat} (h : ∀ x ∈ PL, gr x ≤ g) : upG f p gr PL g = smE f p PL := by
  unfold upG
  refine smE_congr (fun x hx => ?_) (fun x _ _ => rfl)
  rw [Nat.ble_eq_true_of_le (h x hx), Bool.and_true]
theorem upG_congr {f f2 : pTh → Int64} {p : pTh → Bool} {gr : pTh → Nat} {PL : List pTh} {g : Nat} (h : ∀ x ∈ PL, gr x ≤ g → f x = f2 x) : upG f p gr PL g = upG f2 p gr PL g := by
  unfold upG
  refine smE_congr (fun x _ => rfl) (fun x hx hp => ?_)
  rw [Bool.and_eq_true, Nat.ble_eq] at hp
  exact h x hx hp.2
/-! groups of paths, by the last wall of the set -/
def gin (ws : List Nat) (v : Int32) : Nat → Nat → Nat → Nat
  | 0, _, la => la
  | u + 1, k, la => gin ws v u (k + 1) (if nI (fnL ws k) = v then k + 1 else la)
def gO (ws l : List Nat) : Nat → Nat
  | 0 => 0
  | t + 1 => gin ws (wOf l t) (ws.length - gO ws l t) (gO ws l t) (gO ws l t)
theorem gin_p {ws : List Nat} {v : Int32} : ∀ (u k la : Nat), k + u = ws.length → la ≤ k → (la ≤ gin ws v u k la ∧ gin ws v u k la ≤ ws.length) ∧ ∀ j, k ≤ j → gin ws v u k la ≤ j → j < ws.length → ¬ nI (fnL ws j) = v
  | 0, k, la, h, hl => ⟨⟨Nat.le_refl _, by show la ≤ _; omega⟩, fun j h1 _ h3 => absurd h3 (by omega)⟩
  | u + 1, k, la, h, hl => by
    show (la ≤ gin ws v u (k + 1) (if nI (fnL ws k) = v then k + 1 else la) ∧ _) ∧ _
    by_cases c : nI (fnL ws k) = v
    · obtain ⟨⟨a1, a2⟩, a3⟩ := gin_p (ws := ws) (v := v) u (k + 1) (k + 1) (by omega) (Nat.le_refl _)
      simp only [gin, c, if_true]
      refine ⟨⟨by omega, a2⟩, fun j h1 h2 h3 => a3 j (by omega) h2 h3⟩
    · obtain ⟨⟨a1, a2⟩, a3⟩ := gin_p (ws := ws) (v := v) u (k + 1) la (by omega) (by omega)
      simp only [gin, c, if_false]
      refine ⟨⟨a1, a2⟩, fun j h1 h2 h3 => ?_⟩
      by_cases e : j = k
      · subst e; exact c
      · exact a3 j (by omega) h2 h3
theorem gO_p {ws l : List Nat} : ∀ t, gO ws l t ≤ ws.length ∧ ∀ j i, i < t → gO ws l t ≤ j → j < ws.length → ¬ nI (fnL ws j) = wOf l i
  | 0 => ⟨Nat.zero_le _, fun j i h => absurd h (by omega)⟩
  | t + 1 => by
    obtain ⟨b1, b2⟩ := gO_p (ws := ws) (l := l) t
    obtain ⟨⟨a1, a2⟩, a3⟩ := gin_p (ws := ws) (v := wOf l t) (ws.length - gO ws l t) (gO ws l t) (gO ws l t) (by omega) (Nat.le_refl _)
    refine ⟨a2, fun j i hi h2 h3 => ?_⟩
    have h2 : gin ws (wOf l t) (ws.length - gO ws l t) (gO ws l t) (gO ws l t) ≤ j := h2
    by_cases e : i = t
    · subst e; exact a3 j (by omega) h2 h3
    · exact b2 j i (by omega) (by omega) h3
def gr3 (ws : List Nat) (x : pTh) : Nat := gO ws x.1 3
theorem gr3_le (ws : List Nat) (x : pTh) : gr3 ws x ≤ ws.length := (gO_p 3).1
theorem gr3_no {ws : List Nat} {x : pTh} (h3 : x.1.length ≤ 3) {k : Nat} (hg : gr3 ws x ≤ k) (hk : k < ws.length) : fnL ws k ∉ x.1 := by
  intro hm
  obtain ⟨i, hi, e⟩ := List.mem_iff_getElem.mp hm
  refine (gO_p (ws := ws) (l := x.1) 3).2 k i (by omega) hg hk ?_
  unfold wOf
  rw [if_pos hi]
  congr 1
  rw [← e]
  unfold fnL
  rw [List.getD_eq_getElem?_getD, List.getElem?_eq_getElem hi]
  rfl

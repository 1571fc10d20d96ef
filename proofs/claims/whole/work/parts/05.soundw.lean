/-! one step of the small machine is one step of the JVM -/
theorem fW_D {ad : Nat → Nat} (cI cJ : ClassId) {A : Nat → Prop} (hinj : ∀ a b, a < 56 → b < 56 → ad a = ad b → a = b) (hA : ∀ a, a < 56 → A (ad a)) (S : fS) : va_D A (fW ad cI cJ S) := by
  have key : ∀ (k : Nat) (q : Nat × va_E), (fW ad cI cJ S)[k]? = some q → k < 56 ∧ q.1 = ad k := by
    intro k q h
    have hk : k < (fW ad cI cJ S).length := (List.getElem?_eq_some_iff.mp h).1
    simp only [fW, List.length_mapIdx, fLay_len] at hk
    simp only [fW, List.getElem?_mapIdx] at h
    cases hd : fLay[k]? with
    | none => rw [hd] at h; cases h
    | some d => rw [hd] at h; cases h; exact ⟨hk, rfl⟩
  refine ⟨fun i j p q hi hj h => ?_, fun k q h => ?_⟩
  · obtain ⟨h1, e1⟩ := key i p hi
    obtain ⟨h2, e2⟩ := key j q hj
    exact hinj i j h1 h2 (by rw [← e1, ← e2, h])
  · obtain ⟨h1, e1⟩ := key k q h
    rw [e1]
    exact hA k h1
theorem fLay_lt {o : Nat} {e : Nat × List (Nat × Nat)} (h : fLay[o]? = some e) : o < 56 := by
  have := (List.getElem?_eq_some_iff.mp h).1
  rw [fLay_len] at this
  exact this
theorem fW_wI (ad : Nat → Nat) (cI cJ : ClassId) (S : fS) {o ci k : Nat} {fs : List (Nat × Nat)} {d : Nat × Nat} (x : Int32) (h : fLay[o]? = some (ci, fs)) (hci : ci < 20) (hd : fs[k]? = some d) (hk : d.1 = 1 ∨ d.1 = 3) : (fW ad cI cJ S).set o (ad o, .inr (ci, (fs.mapIdx fun k d => cv ad (fFld S o k d)).set k (.int x))) = fW ad cI cJ (wI S o k x) := by
  rw [← fW_set ad cI cJ S (wI S o k x) h (fun a d _ ha => fCell_eq ad cI cJ S _ a d (by funext b; rw [gI_wI, if_neg ha]) (by rw [gJ_wI]) (by rw [gA_wI]) (by rw [gB_wI])), fCell_obj _ _ _ _ _ _ _ hci]
  congr 4
  apply List.ext_getElem?
  intro j
  by_cases hj : j = k
  · subst hj
    have hl : j < fs.length := (List.getElem?_eq_some_iff.mp hd).1
    rw [List.getElem?_set_self (by simpa using hl), List.getElem?_mapIdx, hd]
    simp only [Option.map_some, fFld, gI_wI, if_true]
    rcases hk with e | e <;> rw [e] <;> rfl
  · rw [List.getElem?_set_ne (Ne.symm hj), List.getElem?_mapIdx, List.getElem?_mapIdx]
    cases hf : fs[j]? with
    | none => rfl
    | some d2 =>
      simp only [Option.map_some, fFld, gI_wI, if_true, if_neg hj, gJ_wI]
theorem fW_wJ (ad : Nat → Nat) (cI cJ : ClassId) (S : fS) {o ci k : Nat} {fs : List (Nat × Nat)} {d : Nat × Nat} (x : Int64) (h : fLay[o]? = some (ci, fs)) (hci : ci < 20) (hd : fs[k]? = some d) (hk : d.1 = 2) : (fW ad cI cJ S).set o (ad o, .inr (ci, (fs.mapIdx fun k d => cv ad (fFld S o k d)).set k (.long x))) = fW ad cI cJ (wJ S o k x) := by
  rw [← fW_set ad cI cJ S (wJ S o k x) h (fun a d _ ha => fCell_eq ad cI cJ S _ a d (by rw [gI_wJ]) (by funext b; rw [gJ_wJ, if_neg ha]) (by rw [gA_wJ]) (by rw [gB_wJ])), fCell_obj _ _ _ _ _ _ _ hci]
  congr 4
  apply List.ext_getElem?
  intro j
  by_cases hj : j = k
  · subst hj
    have hl : j < fs.length := (List.getElem?_eq_some_iff.mp hd).1
    rw [List.getElem?_set_self (by simpa using hl), List.getElem?_mapIdx, hd]
    simp only [Option.map_some, fFld, gJ_wJ, if_true]
    rw [hk]; rfl
  · rw [List.getElem?_set_ne (Ne.symm hj), List.getElem?_mapIdx, List.getElem?_mapIdx]
    cases hf : fs[j]? with
    | none => rfl
    | some d2 =>
      simp only [Option.map_some, fFld, gJ_wJ, if_true, if_neg hj, gI_wJ]
theorem fW_wA (ad : Nat → Nat) (cI cJ : ClassId) (S : fS) {o : Nat} {e : Nat × List (Nat × Nat)} (g : Nat → Int32) (h : fLay[o]? = some e) (hci : e.1 = 20) : (fW ad cI cJ S).set o (ad o, .inl (cI, fLen e, .inl g)) = fW ad cI cJ (wA S o g) := by
  obtain ⟨ci, fs⟩ := e
  simp only at hci
  subst hci
  rw [← fW_set ad cI cJ S (wA S o g) h (fun a d _ ha => fCell_eq ad cI cJ S _ a d (by rw [gI_wA]) (by rw [gJ_wA]) (by rw [gA_wA, if_neg ha]) (by rw [gB_wA])), fCell_int, gA_wA, if_pos rfl]
theorem fW_wB (ad : Nat → Nat) (cI cJ : ClassId) (S : fS) {o : Nat} {e : Nat × List (Nat × Nat)} (g : Nat → Int64) (h : fLay[o]? = some e) (hci : e.1 = 21) : (fW ad cI cJ S).set o (ad o, .inl (cJ, fLen e, .inr (.inl g))) = fW ad cI cJ (wB S o g) := by
  obtain ⟨ci, fs⟩ := e
  simp only at hci
  subst hci
  rw [← fW_set ad cI cJ S (wB S o g) h (fun a d _ ha => fCell_eq ad cI cJ S _ a d (by rw [gI_wB]) (by rw [gJ_wB]) (by rw [gA_wB]) (by rw [gB_wB, if_neg ha])), fCell_long, gB_wB, if_pos rfl]
abbrev fTy (cI cJ : ClassId) : List (ClassId × FieldType) := [(cI, .int), (cJ, .long)]
section SoundW
variable {p : Program} {l : Launch} {e : Env} {R : Room} {s : State} {m : MethodId} {args : Array Value} {below : List Frame} {meth : Method} {c : Code} {cells slots : Nat} {Q : State → Prop}
variable {D : va_G} {ad : Nat → Nat} {cI cJ : ClassId} {A : Nat → Prop} {own : String} {cc : ByteArray} {nl : Nat} {fl : Nat → Option (Nat × Nat)} {kc : Nat → Option Value} {sc : fSc}
variable {L L' : fL} {st st' : List Value} {S S' : fS} {H : Heap} {locs : List Loc} {ls : Array Slot} {pc : Nat} {P : Option Prop} {i : Instr}
/-- the context of a walk -/
def fCtx (p : Program) (s : State) (m : MethodId) (args : Array Value) (c : Code) (D : va_G) (ad : Nat → Nat) (cI cJ : ClassId) (A : Nat → Prop) (own : String) (cc : ByteArray) (fl : Nat → Option (Nat × Nat)) (kc : Nat → Option Value) (sc : fSc) : Prop :=
  p.tables.exec = Jvm.exec ∧ c.code = cc ∧ s.vm.findClass own = some m.cls ∧ (∀ w ∈ fTB, w.before args s = true) ∧ va_K D vwCl (fTy cI cJ) s ∧ (∀ a b, a < 56 → b < 56 → ad a = ad b → a = b) ∧ (∀ a, a < 56 → A (ad a)) ∧ fFlOk own fl ∧ fKcOk own kc ∧ fScOk sc ad A s
theorem fLs_get (hl : lv_has ls nl (fLs ad L)) {k : Nat} {v : Value} (h : fGet L k = some v) : ls[k]? = some (.val (cv ad v)) :=
  hl.2.2 (k, cv ad v) (List.mem_map.mpr ⟨(k, v), fGet_mem h, rfl⟩)
set_option maxHeartbeats 4000000 in
theorem fStpW (X : fCtx p s m args c D ad cI cJ A own cc fl kc sc) (h : fStp fl kc nl sc i L st S = some (P, L', st', S')) (hP : ∀ q, P = some q → q) (hd : decode cc pc = .ok (i, fIl i)) (hg : fGo i pc = true)
    (hPw : va_P D vwCl (fW ad cI cJ S) H) (hS : va_S A s.heap H locs) (hl : lv_has ls nl (fLs ad L))
    (k : ∀ (H' : Heap) (locs' : List Loc) (ls' : Array Slot), va_P D vwCl (fW ad cI cJ S') H' → va_S A s.heap H' locs' → lv_has ls' nl (fLs ad L') → W p l e R s m args below meth c H' locs' cells slots Q (F0 m (fNext i pc) ls' (st'.map (cv ad)))) :
    W p l e R s m args below meth c H locs cells slots Q (F0 m pc ls (st.map (cv ad))) := by
  obtain ⟨hx, hb, hown, hts, hK, hinj, hA, hfl, hkc, hsc⟩ := X
  have hD : va_D A (fW ad cI cJ S) := fW_D cI cJ hinj hA S
  cases i with
  | iload_n n => obtain ⟨x, h1, rfl, rfl, rfl⟩ := fLdI_inv h; exact lv_iload_n hx hb hd rfl (fLs_get hl h1) (k _ _ _ hPw hS hl)
  | iload n => obtain ⟨x, h1, rfl, rfl, rfl⟩ := fLdI_inv h; exact lv_iload hx hb hd (fLs_get hl h1) (k _ _ _ hPw hS hl)
  | lload_n n => obtain ⟨x, h1, rfl, rfl, rfl⟩ := fLdJ_inv h; exact lv_lload_n hx hb hd rfl (fLs_get hl h1) (k _ _ _ hPw hS hl)
  | lload n => obtain ⟨x, h1, rfl, rfl, rfl⟩ := fLdJ_inv h; exact lv_lload hx hb hd (fLs_get hl h1) (k _ _ _ hPw hS hl)
  | aload_n n => obtain ⟨x, h1, rfl, rfl, rfl⟩ := fLdA_inv h; exact lv_aload_n hx hb hd rfl (fLs_get hl h1) (k _ _ _ hPw hS hl)
  | aload n => obtain ⟨x, h1, rfl, rfl, rfl⟩ := fLdA_inv h; exact lv_aload hx hb hd (fLs_get hl h1) (k _ _ _ hPw hS hl)
  | istore_n n => obtain ⟨x, rfl, h1, rfl, rfl⟩ := fStI_inv h; exact lv_istore_n hx hb hd rfl hl h1 rfl (fun ls' hl' => k _ _ _ hPw hS (fls_less hl' (fSet1_less ad L _ _)))
  | istore n => obtain ⟨x, rfl, h1, rfl, rfl⟩ := fStI_inv h; exact lv_istore hx hb hd hl h1 rfl (fun ls' hl' => k _ _ _ hPw hS (fls_less hl' (fSet1_less ad L _ _)))
  | astore_n n => obtain ⟨x, rfl, h1, rfl, rfl⟩ := fStA_inv h; exact lv_astore_n hx hb hd rfl hl h1 rfl (fun ls' hl' => k _ _ _ hPw hS (fls_less hl' (fSet1_less ad L _ _)))
  | astore n => obtain ⟨x, rfl, h1, rfl, rfl⟩ := fStA_inv h; exact lv_astore hx hb hd hl h1 rfl (fun ls' hl' => k _ _ _ hPw hS (fls_less hl' (fSet1_less ad L _ _)))
  | lstore_n n => obtain ⟨x, rfl, h1, rfl, rfl⟩ := fStJ_inv h; exact lv_lstore_n hx hb hd rfl hl h1 rfl (fun ls' hl' => k _ _ _ hPw hS (fls_less hl' (fSet2_less ad L _ _)))
  | lstore n => obtain ⟨x, rfl, h1, rfl, rfl⟩ := fStJ_inv h; exact lv_lstore hx hb hd hl h1 rfl (fun ls' hl' => k _ _ _ hPw hS (fls_less hl' (fSet2_less ad L _ _)))
  | iconst n => cases h; exact lv_iconst hx hb hd (fLit_ofInt n).symm (k _ _ _ hPw hS hl)
  | bipush n =>
    unfold fStp at h
    by_cases hn : (-128 ≤ n ∧ n < 128)
    · simp only [hn, and_self, decide_true, cond_true, Option.some.injEq, Prod.mk.injEq] at h
      obtain ⟨-, rfl, rfl, rfl⟩ := h
      exact lv_bipush hx hb hd (fLit_8 hn.1 hn.2) (k _ _ _ hPw hS hl)
    · simp only [hn, decide_false, cond_false] at h
      cases h
  | sipush n =>
    unfold fStp at h
    by_cases hn : (-32768 ≤ n ∧ n < 32768)
    · simp only [hn, and_self, decide_true, cond_true, Option.some.injEq, Prod.mk.injEq] at h
      obtain ⟨-, rfl, rfl, rfl⟩ := h
      exact lv_sipush hx hb hd (fLit_16 hn.1 hn.2) (k _ _ _ hPw hS hl)
    · simp only [hn, decide_false, cond_false] at h
      cases h
  | lconst n => cases h; exact lv_lconst hx hb hd rfl (k _ _ _ hPw hS hl)
  | ldc n => obtain ⟨x, h1, rfl, rfl, rfl⟩ := fKcI_inv h; exact lv_ldc hx hb hown (hts _ ((hkc n).1 x h1)) hd (k _ _ _ hPw hS hl)
  | ldc_w n => obtain ⟨x, h1, rfl, rfl, rfl⟩ := fKcI_inv h; exact lv_ldcw hx hb hown (hts _ ((hkc n).1 x h1)) hd (k _ _ _ hPw hS hl)
  | ldc2_w n => obtain ⟨x, h1, rfl, rfl, rfl⟩ := fKcJ_inv h; exact lv_ldc2 hx hb hown (hts _ ((hkc n).2 x h1)) hd (k _ _ _ hPw hS hl)
  | iadd => obtain ⟨x, y, r, rfl, rfl, rfl, rfl⟩ := fII_inv h; exact lv_iadd hx hb hd (k _ _ _ hPw hS hl)
  | isub => obtain ⟨x, y, r, rfl, rfl, rfl, rfl⟩ := fII_inv h; exact lv_isub hx hb hd (k _ _ _ hPw hS hl)
  | imul => obtain ⟨x, y, r, rfl, rfl, rfl, rfl⟩ := fII_inv h; exact lv_imul hx hb hd (k _ _ _ hPw hS hl)
  | iand => obtain ⟨x, y, r, rfl, rfl, rfl, rfl⟩ := fII_inv h; exact lv_iand hx hb hd (k _ _ _ hPw hS hl)
  | ior => obtain ⟨x, y, r, rfl, rfl, rfl, rfl⟩ := fII_inv h; exact lv_ior hx hb hd (k _ _ _ hPw hS hl)
  | ishl => obtain ⟨x, y, r, rfl, rfl, rfl, rfl⟩ := fII_inv h; exact lv_ishl hx hb hd (k _ _ _ hPw hS hl)
  | ishr => obtain ⟨x, y, r, rfl, rfl, rfl, rfl⟩ := fII_inv h; exact lv_ishr hx hb hd (k _ _ _ hPw hS hl)
  | iushr => obtain ⟨x, y, r, rfl, rfl, rfl, rfl⟩ := fII_inv h; exact lv_iushr hx hb hd rfl (k _ _ _ hPw hS hl)
  | idiv => obtain ⟨x, y, r, rfl, rfl, rfl, rfl, rfl⟩ := fIIq_inv h; exact lv_idiv hx hb hd (hP _ rfl) (k _ _ _ hPw hS hl)
  | irem => obtain ⟨x, y, r, rfl, rfl, rfl, rfl, rfl⟩ := fIIq_inv h; exact lv_irem hx hb hd (hP _ rfl) (k _ _ _ hPw hS hl)
  | ladd => obtain ⟨x, y, r, rfl, rfl, rfl, rfl⟩ := fJJ_inv h; exact lv_ladd hx hb hd (k _ _ _ hPw hS hl)
  | lsub => obtain ⟨x, y, r, rfl, rfl, rfl, rfl⟩ := fJJ_inv h; exact lv_lsub hx hb hd (k _ _ _ hPw hS hl)
  | lmul => obtain ⟨x, y, r, rfl, rfl, rfl, rfl⟩ := fJJ_inv h; exact lv_lmul hx hb hd (k _ _ _ hPw hS hl)
  | land => obtain ⟨x, y, r, rfl, rfl, rfl, rfl⟩ := fJJ_inv h; exact lv_land hx hb hd (k _ _ _ hPw hS hl)
  | lor => obtain ⟨x, y, r, rfl, rfl, rfl, rfl⟩ := fJJ_inv h; exact lv_lor hx hb hd (k _ _ _ hPw hS hl)
  | ldiv => obtain ⟨x, y, r, rfl, rfl, rfl, rfl, rfl⟩ := fJJq_inv h; exact lv_ldiv hx hb hd (hP _ rfl) (k _ _ _ hPw hS hl)
  | lshl => obtain ⟨x, y, r, rfl, rfl, rfl, rfl⟩ := fJI_inv h; exact lv_lshl hx hb hd rfl (k _ _ _ hPw hS hl)
  | lshr => obtain ⟨x, y, r, rfl, rfl, rfl, rfl⟩ := fJI_inv h; exact lv_lshr hx hb hd rfl (k _ _ _ hPw hS hl)
  | lcmp => obtain ⟨x, y, r, rfl, rfl, rfl, rfl⟩ := fCmp_inv h; exact W.lcmp hx hb hd (k _ _ _ hPw hS hl)
  | i2l =>
    obtain ⟨v, w, r, rfl, h1, rfl, rfl, rfl⟩ := fUn_inv h
    cases v <;> cases h1
    exact lv_i2l hx hb hd rfl (k _ _ _ hPw hS hl)
  | l2i =>
    obtain ⟨v, w, r, rfl, h1, rfl, rfl, rfl⟩ := fUn_inv h
    cases v <;> cases h1
    exact lv_l2i hx hb hd rfl (k _ _ _ hPw hS hl)
  | ineg =>
    obtain ⟨v, w, r, rfl, h1, rfl, rfl, rfl⟩ := fUn_inv h
    cases v <;> cases h1
    exact lv_ineg hx hb hd (k _ _ _ hPw hS hl)
  | lneg =>
    obtain ⟨v, w, r, rfl, h1, rfl, rfl, rfl⟩ := fUn_inv h
    cases v <;> cases h1
    exact lv_lneg hx hb hd (k _ _ _ hPw hS hl)
  | dup => obtain ⟨v, r, rfl, h1, rfl, rfl, rfl⟩ := fDup_inv h; exact lv_dup hx hb hd (by rw [cv_cat]; exact h1) (k _ _ _ hPw hS hl)
  | iinc n q =>
    obtain ⟨x, h1, h2, rfl, rfl, rfl⟩ := fIinc_inv h
    obtain ⟨j, hj⟩ := List.getElem?_of_mem (List.mem_map.mpr ⟨(n, Value.int x), fGet_mem h1, rfl⟩ : (n, Value.int x) ∈ fLs ad L)
    exact lv_iinc hx hb hd hl hj (by rw [fLit_ofInt]) h2 rfl (fun ls' hl' => k _ _ _ hPw hS (fls_less hl' (fSet1_less ad L _ _)))
  | getfield n =>
    obtain ⟨ci, q, o, r, ee, dd, h1, rfl, he, rfl, hdd, rfl, rfl, rfl⟩ := fGetf_inv h
    obtain ⟨C, T, N, hc, hk, hw⟩ := hfl n _ _ h1
    obtain ⟨e1, e2, e3⟩ := fLay_obj he hc
    obtain ⟨ci, fs⟩ := ee
    have hat := fW_at ad cI cJ S' he
    rw [fCell_obj _ _ _ _ _ _ _ e2] at hat
    exact va_get hx hb hts (fin_ws hc).1 hown hK hPw o hat hc q hk (hts _ hw) (fun _ z => z) (by rw [List.getElem?_mapIdx, hdd]; rfl) hd (k _ _ _ hPw hS hl)
  | putfield n =>
    obtain ⟨ci, q, o, v, ee, dd, h1, rfl, he, rfl, hdd, rfl, hor⟩ := fPutf_inv h
    obtain ⟨C, T, N, hc, hk, hw⟩ := hfl n _ _ h1
    obtain ⟨e1, e2, e3⟩ := fLay_obj he hc
    obtain ⟨f1, ty0, f2, f3⟩ := fin_ws hc
    obtain ⟨ci, fs⟩ := ee
    have hat := fW_at ad cI cJ S he
    rw [fCell_obj _ _ _ _ _ _ _ e2] at hat
    have hlen : q < (fs.mapIdx fun k d => cv ad (fFld S o k d)).length := by simp only [List.length_mapIdx]; exact (List.getElem?_eq_some_iff.mp hdd).1
    rcases hor with ⟨x, t1, rfl, rfl⟩ | ⟨x, t1, rfl, rfl⟩ | ⟨x, t1, rfl, rfl, rfl⟩
    · have tt := (e3 q dd hdd).1 t1
      refine va_put hx hb hts f1 ty0 f2 f3 hown hK hPw hD hS o hat hc q hk (hts _ hw) (fun _ z => z) (by rw [tt]) (ty := .int) (v := .int x) (by rw [tt]; decide) rfl rfl hlen hd (fun H1 locs1 hP1 hD1 hS1 => k _ _ _ ?_ hS1 hl)
      rw [fW_wI ad cI cJ S x he e2 hdd (Or.inl t1)] at hP1
      exact hP1
    · have tt := (e3 q dd hdd).2.1 t1
      refine va_put hx hb hts f1 ty0 f2 f3 hown hK hPw hD hS o hat hc q hk (hts _ hw) (fun _ z => z) (by rw [tt]) (ty := .long) (v := .long x) (by rw [tt]; decide) rfl rfl hlen hd (fun H1 locs1 hP1 hD1 hS1 => k _ _ _ ?_ hS1 hl)
      rw [fW_wJ ad cI cJ S x he e2 hdd t1] at hP1
      exact hP1
    · have tt := (e3 q dd hdd).2.2 t1
      have hz := hP _ rfl
      refine va_put hx hb hts f1 ty0 f2 f3 hown hK hPw hD hS o hat hc q hk (hts _ hw) (fun _ z => z) (by rw [tt]) (ty := .boolean) (v := .int x) (by rw [tt]; decide) (by rcases hz with rfl | rfl <;> rfl) (by rcases hz with rfl | rfl <;> rfl) hlen hd (fun H1 locs1 hP1 hD1 hS1 => k _ _ _ ?_ hS1 hl)
      rw [fW_wI ad cI cJ S x he e2 hdd (Or.inr t1)] at hP1
      exact hP1
  | iaload =>
    obtain ⟨x, o, r, rfl, rfl, rfl, h1⟩ := fIald_inv h
    rcases h1 with ⟨rfl, q, rfl, rfl, rfl⟩ | ⟨ee, he, h20, rfl, rfl⟩
    · obtain ⟨g1, g2, g3⟩ := hsc
      exact va_sld hx hb g1 g2 g3 hS (hP _ rfl) hd (k _ _ _ hPw hS hl)
    · obtain ⟨ci, fs⟩ := ee
      simp only at h20
      subst h20
      exact va_iald hx hb hK hPw o 0 (fW_at ad cI cJ S' he) rfl (hP _ rfl) hd (k _ _ _ hPw hS hl)
  | laload =>
    obtain ⟨x, o, r, ee, rfl, rfl, rfl, he, h20, rfl, rfl⟩ := fLald_inv h
    obtain ⟨ci, fs⟩ := ee
    simp only at h20
    subst h20
    exact va_lald hx hb hK hPw o 1 (fW_at ad cI cJ S' he) rfl (hP _ rfl) hd (k _ _ _ hPw hS hl)
  | iastore =>
    obtain ⟨x, j, o, ee, rfl, rfl, he, h20, rfl, rfl⟩ := fIast_inv h
    obtain ⟨ci, fs⟩ := ee
    simp only at h20
    subst h20
    refine va_iast hx hb hK hPw hD hS o 0 (fW_at ad cI cJ S he) rfl (hP _ rfl) hd (fun H1 locs1 hP1 hD1 hS1 => k _ _ _ ?_ hS1 hl)
    rw [fW_wA ad cI cJ S _ he rfl] at hP1
    exact hP1
  | lastore =>
    obtain ⟨x, j, o, ee, rfl, rfl, he, h20, rfl, rfl⟩ := fLast_inv h
    obtain ⟨ci, fs⟩ := ee
    simp only at h20
    subst h20
    refine va_last hx hb hK hPw hD hS o 1 (fW_at ad cI cJ S he) rfl (hP _ rfl) hd (fun H1 locs1 hP1 hD1 hS1 => k _ _ _ ?_ hS1 hl)
    rw [fW_wB ad cI cJ S _ he rfl] at hP1
    exact hP1
  | arraylength =>
    obtain ⟨o, r, rfl, rfl, rfl, h1⟩ := fAlen_inv h
    rcases h1 with ⟨rfl, q, rfl, rfl⟩ | ⟨ee, he, h20, rfl⟩
    · obtain ⟨g1, g2, g3⟩ := hsc
      exact va_slen hx hb g1 g2 g3 hS hd (k _ _ _ hPw hS hl)
    · obtain ⟨ci, fs⟩ := ee
      simp only at h20
      subst h20
      exact va_alen hx hb hK hPw o 0 (fW_at ad cI cJ S' he) rfl rfl hd (k _ _ _ hPw hS hl)
  | goto off =>
    cases h
    have h0 : (0 : Int) ≤ (pc : Int) + off := of_decide_eq_true hg
    exact lv_goto hx hb hd (by show (pc : Int) + off = (((pc : Int) + off).toNat : Int); rw [Int.toNat_of_nonneg h0]) (k _ _ _ hPw hS hl)
  | _ => cases h
/-- a stretch of the small machine -/
theorem fRunW (X : fCtx p s m args c D ad cI cJ A own cc fl kc sc) : ∀ (is : List Instr) (P : Prop) (pc pc' : Nat) (L L' : fL) (st st' : List Value) (S S' : fS) (H : Heap) (locs : List Loc) (ls : Array Slot), fRun fl kc nl sc is pc L st S = some (P, pc', L', st', S') → P → fOkB cc pc is = true →
    va_P D vwCl (fW ad cI cJ S) H → va_S A s.heap H locs → lv_has ls nl (fLs ad L) →
    (∀ (H' : Heap) (locs' : List Loc) (ls' : Array Slot), va_P D vwCl (fW ad cI cJ S') H' → va_S A s.heap H' locs' → lv_has ls' nl (fLs ad L') → W p l e R s m args below meth c H' locs' cells slots Q (F0 m pc' ls' (st'.map (cv ad)))) →
    W p l e R s m args below meth c H locs cells slots Q (F0 m pc ls (st.map (cv ad))) := by
  intro is
  induction is with
  | nil =>
    intro P pc pc' L L' st st' S S' H locs ls h hP hok h1 h2 h3 k
    simp only [fRun, Option.some.injEq, Prod.mk.injEq] at h
    obtain ⟨-, rfl, rfl, rfl, rfl⟩ := h
    exact k _ _ _ h1 h2 h3
  | cons i t ih =>
    intro P pc pc' L L' st st' S S' H locs ls h hP hok h1 h2 h3 k
    simp only [fOkB, Bool.and_eq_true, decide_eq_true_eq] at hok
    unfold fRun at h
    split at h
    · cases h
    · rename_i L1 st1 S1 hs
      exact fStpW X hs (fun q hq => by cases hq) hok.1 hok.2.1 h1 h2 h3 (fun H' locs' ls' g1 g2 g3 => ih P _ _ _ _ _ _ _ _ _ _ _ h hP hok.2.2 g1 g2 g3 k)
    · rename_i P1 L1 st1 S1 hs
      split at h
      · cases h
      · rename_i P2 z hz
        simp only [Option.some.injEq, Prod.mk.injEq] at h
        obtain ⟨rfl, rfl⟩ := h
        exact fStpW X hs (fun q hq => by cases hq; exact hP.1) hok.1 hok.2.1 h1 h2 h3 (fun H' locs' ls' g1 g2 g3 => ih P2 _ _ _ _ _ _ _ _ _ _ _ hz hP.2 hok.2.2 g1 g2 g3 k)
end SoundW

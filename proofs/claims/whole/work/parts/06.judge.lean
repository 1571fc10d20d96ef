/-! THE JUDGEMENT: a method's code, from a place on, over the small machine's state -/
abbrev fG : Type := Launch × va_G × (Nat → Nat) × ClassId × ClassId
/-- a method: name, code, how many locals, what it returns, its class's field numbers and constants -/
abbrev fM : Type := MethodName × ByteArray × Nat × Option FieldType × (Nat → Option (Nat × Nat)) × (Nat → Option Value)
abbrev fZ : Type := fSc × Room × (State → Nat → Prop) × (Nat × Nat) × (List Frame → Array Value → State → State → Prop) × (Array Value → Prop)
def fV (G : fG) (M : fM) (Z : fZ) (pc : Nat) (L : fL) (st : List Value) (S : fS) : Prop :=
  ∀ (p : Program) (e : Env) (s : State) (m : MethodId) (args : Array Value) (below : List Frame) (meth : Method) (c : Code),
    fCtx p s m args c G.2.1 G.2.2.1 G.2.2.2.1 G.2.2.2.2 (Z.2.2.1 s) M.1.cls M.2.1 M.2.2.2.2.1 M.2.2.2.2.2 Z.1 → c.maxLocals = M.2.2.1 → meth.sig.returnType = M.2.2.2.1 → meth.locks = false → Z.2.2.2.2.2 args →
    ∀ (H : Heap) (locs : List Loc) (ls : Array Slot), va_P G.2.1 vwCl (fW G.2.2.1 G.2.2.2.1 G.2.2.2.2 S) H → va_S (Z.2.2.1 s) s.heap H locs → lv_has ls M.2.2.1 (fLs G.2.2.1 L) →
      W p G.1 e Z.2.1 s m args below meth c H locs Z.2.2.2.1.1 Z.2.2.2.1.2 (Z.2.2.2.2.1 below args s) (F0 m pc ls (st.map (cv G.2.2.1)))
section Rules
variable {G : fG} {M M2 : fM} {Z : fZ} {pc pc' : Nat} {L L' : fL} {st st' : List Value} {S S' : fS} {P : Prop}
theorem fV.run (is : List Instr) (hok : fOkB M.2.1 pc is = true) (h : fRun M.2.2.2.2.1 M.2.2.2.2.2 M.2.2.1 Z.1 is pc L st S = some (P, pc', L', st', S')) (hP : P) (k : fV G M Z pc' L' st' S') : fV G M Z pc L st S :=
  fun p e s m args below meth c X h1 h2 h3 h4 H locs ls g1 g2 g3 => fRunW X is P pc pc' L L' st st' S S' H locs ls h hP hok g1 g2 g3 (fun H' locs' ls' k1 k2 k3 => k p e s m args below meth c X h1 h2 h3 h4 H' locs' ls' k1 k2 k3)
theorem fV.less (hm : ∀ q ∈ L', q ∈ L) (k : fV G M Z pc L' st S) : fV G M Z pc L st S :=
  fun p e s m args below meth c X h1 h2 h3 h4 H locs ls g1 g2 g3 => k p e s m args below meth c X h1 h2 h3 h4 H locs ls g1 g2 (fls_less g3 (fun q hq => by
    obtain ⟨r, hr, rfl⟩ := List.mem_map.mp hq
    exact List.mem_map.mpr ⟨r, hm r hr, rfl⟩))
theorem fV.pick (ks : List Nat) (hm : lv_pick L ks = L') (k : fV G M Z pc L' st S) : fV G M Z pc L st S :=
  fV.less (fun q hq => by
    rw [← hm] at hq
    obtain ⟨k, -, hk⟩ := List.mem_filterMap.mp hq
    exact List.mem_of_getElem? hk) k
theorem fV.to (hp : pc = pc') (hL : L = L') (hs : st = st') (hS : S = S') (k : fV G M Z pc' L' st' S') : fV G M Z pc L st S := by
  subst hp; subst hL; subst hs; subst hS; exact k
/-- a branch stands there -/
def fBk (cc : ByteArray) (pc : Nat) (mk : Int → Instr) (tgt : Nat) : Prop := ∃ off : Int, decode cc pc = .ok (mk off, 3) ∧ (pc : Int) + off = (tgt : Int)
variable {tgt : Nat} {x y : Int32} {r : List Value}
theorem fV.icmp_eq (hd : fBk M.2.1 pc (.if_icmp .eq) tgt) (kt : x = y → fV G M Z tgt L r S) (kf : ¬ x = y → fV G M Z (pc + 3) L r S) : fV G M Z pc L (.int y :: .int x :: r) S := by
  obtain ⟨off, hd, ht⟩ := hd
  exact fun p e s m args below meth c X h1 h2 h3 h4 H locs ls g1 g2 g3 => lv_icmp_eq X.1 X.2.1 hd ht (fun q => kt q p e s m args below meth c X h1 h2 h3 h4 H locs ls g1 g2 g3) (fun q => kf q p e s m args below meth c X h1 h2 h3 h4 H locs ls g1 g2 g3)
theorem fV.icmp_ne (hd : fBk M.2.1 pc (.if_icmp .ne) tgt) (kt : ¬ x = y → fV G M Z tgt L r S) (kf : x = y → fV G M Z (pc + 3) L r S) : fV G M Z pc L (.int y :: .int x :: r) S := by
  obtain ⟨off, hd, ht⟩ := hd
  exact fun p e s m args below meth c X h1 h2 h3 h4 H locs ls g1 g2 g3 => lv_icmp_ne X.1 X.2.1 hd ht (fun q => kt q p e s m args below meth c X h1 h2 h3 h4 H locs ls g1 g2 g3) (fun q => kf q p e s m args below meth c X h1 h2 h3 h4 H locs ls g1 g2 g3)
theorem fV.icmp_lt (hd : fBk M.2.1 pc (.if_icmp .lt) tgt) (kt : x < y → fV G M Z tgt L r S) (kf : ¬ x < y → fV G M Z (pc + 3) L r S) : fV G M Z pc L (.int y :: .int x :: r) S := by
  obtain ⟨off, hd, ht⟩ := hd
  exact fun p e s m args below meth c X h1 h2 h3 h4 H locs ls g1 g2 g3 => lv_icmp_lt X.1 X.2.1 hd ht (fun q => kt q p e s m args below meth c X h1 h2 h3 h4 H locs ls g1 g2 g3) (fun q => kf q p e s m args below meth c X h1 h2 h3 h4 H locs ls g1 g2 g3)
theorem fV.icmp_ge (hd : fBk M.2.1 pc (.if_icmp .ge) tgt) (kt : y ≤ x → fV G M Z tgt L r S) (kf : ¬ y ≤ x → fV G M Z (pc + 3) L r S) : fV G M Z pc L (.int y :: .int x :: r) S := by
  obtain ⟨off, hd, ht⟩ := hd
  exact fun p e s m args below meth c X h1 h2 h3 h4 H locs ls g1 g2 g3 => lv_icmp_ge X.1 X.2.1 hd ht (fun q => kt q p e s m args below meth c X h1 h2 h3 h4 H locs ls g1 g2 g3) (fun q => kf q p e s m args below meth c X h1 h2 h3 h4 H locs ls g1 g2 g3)
theorem fV.icmp_gt (hd : fBk M.2.1 pc (.if_icmp .gt) tgt) (kt : y < x → fV G M Z tgt L r S) (kf : ¬ y < x → fV G M Z (pc + 3) L r S) : fV G M Z pc L (.int y :: .int x :: r) S := by
  obtain ⟨off, hd, ht⟩ := hd
  exact fun p e s m args below meth c X h1 h2 h3 h4 H locs ls g1 g2 g3 => lv_icmp_gt X.1 X.2.1 hd ht (fun q => kt q p e s m args below meth c X h1 h2 h3 h4 H locs ls g1 g2 g3) (fun q => kf q p e s m args below meth c X h1 h2 h3 h4 H locs ls g1 g2 g3)
theorem fV.icmp_le (hd : fBk M.2.1 pc (.if_icmp .le) tgt) (kt : x ≤ y → fV G M Z tgt L r S) (kf : ¬ x ≤ y → fV G M Z (pc + 3) L r S) : fV G M Z pc L (.int y :: .int x :: r) S := by
  obtain ⟨off, hd, ht⟩ := hd
  exact fun p e s m args below meth c X h1 h2 h3 h4 H locs ls g1 g2 g3 => lv_icmp_le X.1 X.2.1 hd ht (fun q => kt q p e s m args below meth c X h1 h2 h3 h4 H locs ls g1 g2 g3) (fun q => kf q p e s m args below meth c X h1 h2 h3 h4 H locs ls g1 g2 g3)
theorem fV.if_eq (hd : fBk M.2.1 pc (.ifCond .eq) tgt) (kt : x = 0 → fV G M Z tgt L r S) (kf : ¬ x = 0 → fV G M Z (pc + 3) L r S) : fV G M Z pc L (.int x :: r) S := by
  obtain ⟨off, hd, ht⟩ := hd
  exact fun p e s m args below meth c X h1 h2 h3 h4 H locs ls g1 g2 g3 => lv_if_eq X.1 X.2.1 hd ht (fun q => kt q p e s m args below meth c X h1 h2 h3 h4 H locs ls g1 g2 g3) (fun q => kf q p e s m args below meth c X h1 h2 h3 h4 H locs ls g1 g2 g3)
theorem fV.if_ne (hd : fBk M.2.1 pc (.ifCond .ne) tgt) (kt : ¬ x = 0 → fV G M Z tgt L r S) (kf : x = 0 → fV G M Z (pc + 3) L r S) : fV G M Z pc L (.int x :: r) S := by
  obtain ⟨off, hd, ht⟩ := hd
  exact fun p e s m args below meth c X h1 h2 h3 h4 H locs ls g1 g2 g3 => lv_if_ne X.1 X.2.1 hd ht (fun q => kt q p e s m args below meth c X h1 h2 h3 h4 H locs ls g1 g2 g3) (fun q => kf q p e s m args below meth c X h1 h2 h3 h4 H locs ls g1 g2 g3)
theorem fV.if_lt (hd : fBk M.2.1 pc (.ifCond .lt) tgt) (kt : x < 0 → fV G M Z tgt L r S) (kf : ¬ x < 0 → fV G M Z (pc + 3) L r S) : fV G M Z pc L (.int x :: r) S := by
  obtain ⟨off, hd, ht⟩ := hd
  exact fun p e s m args below meth c X h1 h2 h3 h4 H locs ls g1 g2 g3 => lv_if_lt X.1 X.2.1 hd ht (fun q => kt q p e s m args below meth c X h1 h2 h3 h4 H locs ls g1 g2 g3) (fun q => kf q p e s m args below meth c X h1 h2 h3 h4 H locs ls g1 g2 g3)
theorem fV.if_ge (hd : fBk M.2.1 pc (.ifCond .ge) tgt) (kt : 0 ≤ x → fV G M Z tgt L r S) (kf : ¬ 0 ≤ x → fV G M Z (pc + 3) L r S) : fV G M Z pc L (.int x :: r) S := by
  obtain ⟨off, hd, ht⟩ := hd
  exact fun p e s m args below meth c X h1 h2 h3 h4 H locs ls g1 g2 g3 => lv_if_ge X.1 X.2.1 hd ht (fun q => kt q p e s m args below meth c X h1 h2 h3 h4 H locs ls g1 g2 g3) (fun q => kf q p e s m args below meth c X h1 h2 h3 h4 H locs ls g1 g2 g3)
theorem fV.if_gt (hd : fBk M.2.1 pc (.ifCond .gt) tgt) (kt : 0 < x → fV G M Z tgt L r S) (kf : ¬ 0 < x → fV G M Z (pc + 3) L r S) : fV G M Z pc L (.int x :: r) S := by
  obtain ⟨off, hd, ht⟩ := hd
  exact fun p e s m args below meth c X h1 h2 h3 h4 H locs ls g1 g2 g3 => lv_if_gt X.1 X.2.1 hd ht (fun q => kt q p e s m args below meth c X h1 h2 h3 h4 H locs ls g1 g2 g3) (fun q => kf q p e s m args below meth c X h1 h2 h3 h4 H locs ls g1 g2 g3)
theorem fV.if_le (hd : fBk M.2.1 pc (.ifCond .le) tgt) (kt : x ≤ 0 → fV G M Z tgt L r S) (kf : ¬ x ≤ 0 → fV G M Z (pc + 3) L r S) : fV G M Z pc L (.int x :: r) S := by
  obtain ⟨off, hd, ht⟩ := hd
  exact fun p e s m args below meth c X h1 h2 h3 h4 H locs ls g1 g2 g3 => lv_if_le X.1 X.2.1 hd ht (fun q => kt q p e s m args below meth c X h1 h2 h3 h4 H locs ls g1 g2 g3) (fun q => kf q p e s m args below meth c X h1 h2 h3 h4 H locs ls g1 g2 g3)
variable {u v : Int64}
theorem fV.lif_eq (hd : fBk M.2.1 pc (.ifCond .eq) tgt) (kt : u = v → fV G M Z tgt L r S) (kf : ¬ u = v → fV G M Z (pc + 3) L r S) : fV G M Z pc L (.int (lg_cmp u v) :: r) S :=
  fV.if_eq hd (fun q => kt ((lg_cmp_eq u v).mp q)) (fun q => kf (fun z => q ((lg_cmp_eq u v).mpr z)))
theorem fV.lif_ne (hd : fBk M.2.1 pc (.ifCond .ne) tgt) (kt : ¬ u = v → fV G M Z tgt L r S) (kf : u = v → fV G M Z (pc + 3) L r S) : fV G M Z pc L (.int (lg_cmp u v) :: r) S :=
  fV.if_ne hd (fun q => kt (fun z => q ((lg_cmp_eq u v).mpr z))) (fun q => kf ((lg_cmp_eq u v).mp q))
theorem fV.lif_lt (hd : fBk M.2.1 pc (.ifCond .lt) tgt) (kt : u < v → fV G M Z tgt L r S) (kf : ¬ u < v → fV G M Z (pc + 3) L r S) : fV G M Z pc L (.int (lg_cmp u v) :: r) S :=
  fV.if_lt hd (fun q => kt ((lg_cmp_lt u v).mp q)) (fun q => kf (fun z => q ((lg_cmp_lt u v).mpr z)))
theorem fV.lif_ge (hd : fBk M.2.1 pc (.ifCond .ge) tgt) (kt : v ≤ u → fV G M Z tgt L r S) (kf : ¬ v ≤ u → fV G M Z (pc + 3) L r S) : fV G M Z pc L (.int (lg_cmp u v) :: r) S :=
  fV.if_ge hd (fun q => kt ((lg_cmp_ge u v).mp q)) (fun q => kf (fun z => q ((lg_cmp_ge u v).mpr z)))
theorem fV.lif_gt (hd : fBk M.2.1 pc (.ifCond .gt) tgt) (kt : v < u → fV G M Z tgt L r S) (kf : ¬ v < u → fV G M Z (pc + 3) L r S) : fV G M Z pc L (.int (lg_cmp u v) :: r) S :=
  fV.if_gt hd (fun q => kt ((lg_cmp_gt u v).mp q)) (fun q => kf (fun z => q ((lg_cmp_gt u v).mpr z)))
theorem fV.lif_le (hd : fBk M.2.1 pc (.ifCond .le) tgt) (kt : u ≤ v → fV G M Z tgt L r S) (kf : ¬ u ≤ v → fV G M Z (pc + 3) L r S) : fV G M Z pc L (.int (lg_cmp u v) :: r) S :=
  fV.if_le hd (fun q => kt ((lg_cmp_le u v).mp q)) (fun q => kf (fun z => q ((lg_cmp_le u v).mpr z)))
/-- tableswitch: from its row, a target for each number, and one for all others -/
theorem fV.tsw {dflt lo hi : Int} {offs : Array Int} {len : Nat} (hd : decode M.2.1 pc = .ok (.tableswitch dflt lo hi offs, len)) (ho : (pc : Int) + dflt = (tgt : Int))
    (kin : lo ≤ x.toInt → x.toInt ≤ hi → ∃ (off : Int) (t : Nat), offs[(x.toInt - lo).toNat]? = some off ∧ (pc : Int) + off = (t : Int) ∧ fV G M Z t L r S) (kout : (x.toInt < lo ∨ hi < x.toInt) → fV G M Z tgt L r S) : fV G M Z pc L (.int x :: r) S := by
  intro p e s m args below meth c X h1 h2 h3 h4 H locs ls g1 g2 g3
  by_cases c1 : x.toInt < lo
  · exact lv_tableOut X.1 X.2.1 hd (Or.inl c1) ho (kout (Or.inl c1) p e s m args below meth c X h1 h2 h3 h4 H locs ls g1 g2 g3)
  · by_cases c2 : hi < x.toInt
    · exact lv_tableOut X.1 X.2.1 hd (Or.inr c2) ho (kout (Or.inr c2) p e s m args below meth c X h1 h2 h3 h4 H locs ls g1 g2 g3)
    · obtain ⟨off, t, a1, a2, a3⟩ := kin (by omega) (by omega)
      exact lv_tableIn X.1 X.2.1 hd c1 c2 a1 a2 (a3 p e s m args below meth c X h1 h2 h3 h4 H locs ls g1 g2 g3)
/-! calls -/
def fA (ad : Nat → Nat) : Nat → Prop := fun q => ∃ o, o < 56 ∧ q = ad o
def fRm (d : Nat) : Room := { frames := d, cells := 0, slots := 0, locals := 64 * d }
def fWs (M : fM) : List Cond := Cond.code M.1 M.2.1 M.2.2.1 M.2.2.2.1 :: fTB
def fPc (G : fG) (av : List Value) (S : fS) : Array Value → State → Prop := va_Pc (av.map (cv G.2.2.1)) (fun U => va_P G.2.1 vwCl (fW G.2.2.1 G.2.2.2.1 G.2.2.2.2 S) U.heap ∧ va_K G.2.1 vwCl (fTy G.2.2.2.1 G.2.2.2.2) U)
def fQc (G : fG) (Q : Option Value → fS → Prop) : Array Value → State → Outcome → State → Prop := fun _ st oc t =>
  (∃ (r : Option Value) (S' : fS), oc = .returned (r.map (cv G.2.2.1)) ∧ Q r S' ∧ va_P G.2.1 vwCl (fW G.2.2.1 G.2.2.2.1 G.2.2.2.2 S') t.heap) ∧ va_F (fA G.2.2.1) st t
/-- a contract: from the state S with these arguments the method returns, and Q holds of the answer and of the state behind it -/
def fCtr (G : fG) (d : Nat) (M : fM) (av : List Value) (S : fS) (Q : Option Value → fS → Prop) : Prop :=
  (∀ a b, a < 56 → b < 56 → G.2.2.1 a = G.2.2.1 b → a = b) → Met G.1 M.1 (fWs M) (fRm d) (fPc G av S) (fQc G Q) 0 0 (fA G.2.2.1)
def fMok (M : fM) (n : Nat) : Prop := Cond.code M.1 M.2.1 M.2.2.1 M.2.2.2.1 ∈ fTB ∧ Cond.initialized M.1.cls ∈ fTB ∧ (M.1.cls ≠ "java/lang/invoke/MethodHandle" ∧ M.1.cls ≠ "java/lang/invoke/VarHandle" ∧ (parseMethodDescriptor M.1.desc).map (fun d => d.parameters.length) = some n)
def fMokV (M : fM) (n : Nat) : Prop := fMok M n ∧ Cond.instanceMethod M.1 ∈ fTB ∧ Cond.selects M.1.cls M.1 M.1 ∈ fTB
def fMokS (M : fM) (n : Nat) : Prop := fMok M n ∧ Cond.static M.1 ∈ fTB
def fKnd (o : Nat) : Option String := match fLay[o]? with
  | some e => (vwCl[e.1]?).map (fun q => q.1)
  | none => none
theorem fGoodW {w : Cond} (h : w ∈ fTB) : w ∈ fTB ∧ ((w.onTables && w.keeps) = true ∨ ∃ ty, w = .arrayClass ty) := ⟨h, good_of_word (fTB_good w h)⟩
theorem fGoodWs {n : Nat} (h : fMok M n) : GoodIn fTB (fWs M) := by
  intro w hw
  rcases List.mem_cons.mp hw with rfl | hw
  · exact fGoodW h.1
  · exact fGoodW hw
theorem fPc_blind (G : fG) (av : List Value) (S : fS) : FrameBlind (fPc G av S) := by
  intro a U g mk q
  obtain ⟨q0, q1, q2⟩ := q
  exact ⟨q0, q1, va_K.moved (u := U) (U := U.calling g mk a) (Vm.Alike.refl U.vm) q2⟩
theorem fBehind {p : Program} {e : Env} {s : State} {m : MethodId} {args a : Array Value} {below : List Frame} {meth : Method} {c : Code} {H : Heap} {locs : List Loc} {ls : Array Slot} {st0 : List Value} {rest : List Value} {Q : Option Value → fS → Prop}
    (X : fCtx p s m args c G.2.1 G.2.2.1 G.2.2.2.1 G.2.2.2.2 (Z.2.2.1 s) M.1.cls M.2.1 M.2.2.2.2.1 M.2.2.2.2.2 Z.1) (h1 : c.maxLocals = M.2.2.1) (h2 : meth.sig.returnType = M.2.2.2.1) (h3 : meth.locks = false) (h4 : Z.2.2.2.2.2 args)
    (hr : va_Run p G.1 e Z.2.1 s m args below meth c H locs Z.2.2.2.1.1 Z.2.2.2.1.2 0 0 (F0 m pc ls st0) (rest.map (cv G.2.2.1)) (fQc G Q a) (fA G.2.2.1)) (g2 : va_S (Z.2.2.1 s) s.heap H locs) (g3 : lv_has ls M.2.2.1 (fLs G.2.2.1 L))
    (k : ∀ r S', Q r S' → fV G M Z (pc + 3) L (r.toList ++ rest) S') : W p G.1 e Z.2.1 s m args below meth c H locs Z.2.2.2.1.1 Z.2.2.2.1.2 (Z.2.2.2.2.1 below args s) (F0 m pc ls st0) := by
  have hsub : ∀ q, fA G.2.2.1 q → Z.2.2.1 s q := fun q ⟨o, ho, e⟩ => by rw [e]; exact X.2.2.2.2.2.2.1 o ho
  intro T hT Y
  obtain ⟨v, st₀, t, T', Lx, h0, X', hL, e1, e2, ⟨⟨r, S', hv, hq, hp⟩, hz, hk⟩, stp⟩ := hr T hT Y
  cases hv
  rw [h0] at hz hk
  obtain ⟨t2, a1, b1⟩ := k r S' hq p e s m args below meth c X h1 h2 h3 h4 T'.heap (locs ++ Lx) ls (by rw [e1]; exact hp)
    ⟨Nat.le_trans g2.1 (by rw [e1]; exact hz), fun q q1 q2 => by rw [e1, hk q (Nat.lt_of_lt_of_le q1 g2.1) (fun z => q2 (hsub q z))]; exact g2.2.1 q q1 q2, fun q hq => by
      rcases List.mem_append.mp hq with h | h
      · exact g2.2.2 q h
      · exact hsub _ (hL q h)⟩ g3 T' rfl X'
  refine ⟨t2, stp t2 ?_, b1⟩
  have : ((r.map (cv G.2.2.1)).toList ++ rest.map (cv G.2.2.1)) = (r.toList ++ rest).map (cv G.2.2.1) := by cases r <;> simp
  show Steps p.tables e below (T'.setTop (F0 m (pc + 3) ls ((r.map (cv G.2.2.1)).toList ++ rest.map (cv G.2.2.1)))) t2
  rw [this]
  exact a1
theorem fCat (ad : Nat → Nat) (l : List Value) : ((l.map (cv ad)).map fun v => v.category).sum = (l.map fun v => v.category).sum := by
  rw [List.map_map]
  congr 1
  exact List.map_congr_left (fun v _ => cv_cat ad v)
theorem fV.callV {n d idx o : Nat} {av rest : List Value} {Q : Option Value → fS → Prop} (hm : fMokV M2 n) (hd : decode M.2.1 pc = .ok (.invokevirtual idx, 3)) (hlink : Cond.methodLink M.1.cls idx M2.1 ∈ fTB) (hrec : fKnd o = some M2.1.cls) (hst : st = av.reverse ++ .ref o :: rest) (hn : av.length = n) (hw : (rest.map fun v => v.category).sum ≤ 8)
    (hroom : d + 1 ≤ Z.2.1.frames ∧ 8 + (M2.2.2.1 + 11) + 64 * d ≤ Z.2.1.locals) (hfit : Z.2.2.2.1.1 + 0 ≤ Z.2.1.cells ∧ Z.2.2.2.1.2 + 0 ≤ Z.2.1.slots) (hc : fCtr G d M2 (.ref o :: av) S Q) (k : ∀ r S', Q r S' → fV G M Z (pc + 3) L (r.toList ++ rest) S') : fV G M Z pc L st S := by
  intro p e s m args below meth c X h1 h2 h3 h4 H locs ls g1 g2 g3
  obtain ⟨hx, hb, hown, hts, hK, hinj, hA, hfl, hkc, hsc⟩ := id X
  have hrc : ∃ cell : Cell, H[G.2.2.1 o]? = some cell ∧ cell.vm.isStatics = false ∧ s.vm.findClass M2.1.cls = some cell.cls := by
    unfold fKnd at hrec
    split at hrec
    · rename_i e he
      cases hq : vwCl[e.1]? with
      | none => rw [hq] at hrec; cases hrec
      | some q =>
        rw [hq] at hrec
        simp only [Option.map_some, Option.some.injEq] at hrec
        obtain ⟨C, T, N⟩ := q
        simp only at hrec
        subst hrec
        obtain ⟨e1, e2, e3⟩ := fLay_obj he hq
        have hat := fW_at G.2.2.1 G.2.2.2.1 G.2.2.2.2 S he
        obtain ⟨ci, fs⟩ := e
        rw [fCell_obj _ _ _ _ _ _ _ e2] at hat
        exact va_recv hK g1 hq hat
    · cases hrec
  have hwV : GoodIn fTB (wsV M.1.cls idx M2.1.cls M2.1 (fWs M2)) := by
    intro w hw
    rcases List.mem_append.mp hw with h | h
    · simp only [List.mem_cons, List.not_mem_nil, or_false] at h
      rcases h with rfl | rfl | rfl | rfl
      · exact fGoodW hlink
      · exact fGoodW hm.2.1
      · exact fGoodW hm.2.2
      · exact fGoodW hm.1.2.1
    · exact fGoodWs hm.1 w h
  subst hst
  have hst2 : (av.reverse ++ .ref o :: rest).map (cv G.2.2.1) = (av.map (cv G.2.2.1)).reverse ++ .ref (G.2.2.1 o) :: rest.map (cv G.2.2.1) := by simp [cv]
  exact fBehind X h1 h2 h3 h4 (va_runV (As := av.map (cv G.2.2.1)) (rest := rest.map (cv G.2.2.1)) ⟨hx, hb, h1, hown, hts⟩ (hc hinj)
    (cwV n hts hwV rfl rfl rfl ⟨rfl, hm.1.2.2⟩ hroom) ⟨fPc_blind G _ S, hrc, fun U hU hW => ⟨rfl, by rw [hU]; exact g1, va_K.moved hW.alike hK⟩⟩ rfl (by simpa using hn) g3.1 hst2 (lv_room (by rw [fCat]; exact hw)) hd hfit) g2 g3 k
theorem fV.callS {n d idx : Nat} {av rest : List Value} {Q : Option Value → fS → Prop} (hm : fMokS M2 n) (hd : decode M.2.1 pc = .ok (.invokestatic idx, 3)) (hlink : Cond.methodLink M.1.cls idx M2.1 ∈ fTB) (hst : st = av.reverse ++ rest) (hn : av.length = n) (hw : (rest.map fun v => v.category).sum ≤ 8)
    (hroom : d + 1 ≤ Z.2.1.frames ∧ 8 + (M2.2.2.1 + 11) + 64 * d ≤ Z.2.1.locals) (hfit : Z.2.2.2.1.1 + 0 ≤ Z.2.1.cells ∧ Z.2.2.2.1.2 + 0 ≤ Z.2.1.slots) (hc : fCtr G d M2 av S Q) (k : ∀ r S', Q r S' → fV G M Z (pc + 3) L (r.toList ++ rest) S') : fV G M Z pc L st S := by
  intro p e s m args below meth c X h1 h2 h3 h4 H locs ls g1 g2 g3
  obtain ⟨hx, hb, hown, hts, hK, hinj, hA, hfl, hkc, hsc⟩ := id X
  subst hst
  have hst2 : (av.reverse ++ rest).map (cv G.2.2.1) = (av.map (cv G.2.2.1)).reverse ++ rest.map (cv G.2.2.1) := by simp
  exact fBehind X h1 h2 h3 h4 (va_runS (As := av.map (cv G.2.2.1)) (rest := rest.map (cv G.2.2.1)) ⟨hx, hb, h1, hown, hts⟩ (hc hinj)
    ⟨callB_of n hts (fGoodWs hm.1) rfl rfl rfl (hts _ hm.1.2.1) (hts _ hlink) hm.1.2.2 hroom, hts _ hm.2⟩ ⟨fPc_blind G _ S, fun U hU hW => ⟨rfl, by rw [hU]; exact g1, va_K.moved hW.alike hK⟩⟩ rfl (by simpa using hn) g3.1 hst2 (lv_room (by rw [fCat]; exact hw)) hd hfit) g2 g3 k
/-! ends, and a contract out of a walk -/
def fZm (G : fG) (d : Nat) (Q : Option Value → fS → Prop) : fZ := (none, fRm d, (fun _ => fA G.2.2.1), (0, 0), (fun below args s => MQ below (fQc G Q) args s 0 0 (fA G.2.2.1)), fun _ => True)
variable {d : Nat} {Q : Option Value → fS → Prop}
theorem fV.iret (hr : M.2.2.2.1 = some .int) (hd : decode M.2.1 pc = .ok (.ireturn, 1)) (hq : Q (some (.int x)) S) : fV G M (fZm G d Q) pc L [.int x] S :=
  fun p e s m args below meth c X h1 h2 h3 h4 H locs ls g1 g2 g3 => W.iret X.1 X.2.1 (h2.trans hr) (fun t ht hW => ⟨⟨some (.int x), S, rfl, hq, by rw [ht]; exact g1⟩, va_S.F g2 ht⟩) g2.2.2 hd h3
theorem fV.zret (hr : M.2.2.2.1 = some .boolean) (hd : decode M.2.1 pc = .ok (.ireturn, 1)) (hx : x = 0 ∨ x = 1) (hq : Q (some (.int x)) S) : fV G M (fZm G d Q) pc L [.int x] S :=
  fun p e s m args below meth c X h1 h2 h3 h4 H locs ls g1 g2 g3 => W.zret X.1 X.2.1 (h2.trans hr) (by rcases hx with rfl | rfl <;> rfl) (fun t ht hW => ⟨⟨some (.int x), S, rfl, hq, by rw [ht]; exact g1⟩, va_S.F g2 ht⟩) g2.2.2 hd h3
theorem fV.lret (hr : M.2.2.2.1 = some .long) (hd : decode M.2.1 pc = .ok (.lreturn, 1)) (hq : Q (some (.long u)) S) : fV G M (fZm G d Q) pc L [.long u] S :=
  fun p e s m args below meth c X h1 h2 h3 h4 H locs ls g1 g2 g3 => W.lret X.1 X.2.1 (h2.trans hr) (fun t ht hW => ⟨⟨some (.long u), S, rfl, hq, by rw [ht]; exact g1⟩, va_S.F g2 ht⟩) g2.2.2 hd h3
theorem fV.vret (hr : M.2.2.2.1 = none) (hd : decode M.2.1 pc = .ok (.return_, 1)) (hq : Q none S) : fV G M (fZm G d Q) pc L [] S :=
  fun p e s m args below meth c X h1 h2 h3 h4 H locs ls g1 g2 g3 => W.vret X.1 X.2.1 (h2.trans hr) (fun t ht hW => ⟨⟨none, S, rfl, hq, by rw [ht]; exact g1⟩, va_S.F g2 ht⟩) g2.2.2 hd h3
theorem fLs_args (ad : Nat → Nat) : ∀ (av : List Value) (i : Nat), fLs ad (lv_args i av) = lv_args i (av.map (cv ad))
  | [], _ => rfl
  | v :: vs, i => by
    show (i, cv ad v) :: fLs ad (lv_args _ vs) = (i, cv ad v) :: lv_args _ (vs.map (cv ad))
    rw [fLs_args ad vs, cv_cat]
theorem fSl_len (ad : Nat → Nat) (av : List Value) : (lg_sl (av.map (cv ad))).length = (lg_sl av).length := by
  induction av with
  | nil => rfl
  | cons v vs ih =>
    simp only [lg_sl, List.map_cons, List.flatMap_cons, List.length_append, cv_cat] at ih ⊢
    rw [ih]
    congr 1
    split <;> rfl
def fMb (M : fM) : Prop := fFlOk M.1.cls M.2.2.2.2.1 ∧ fKcOk M.1.cls M.2.2.2.2.2 ∧ plainName M.1.cls = true
theorem fCtr.of {av : List Value} (hb : fMb M) (hlen : (lg_sl av).length ≤ M.2.2.1) (hL : lv_args 0 av = L) (h : fV G M (fZm G d Q) 0 L [] S) : fCtr G d M av S Q := by
  intro hinj
  subst hL
  refine Met.ofW (cc := M.2.1) (maxL := M.2.2.1) (ret := M.2.2.2.1) hb.2.2 rfl ?_
  intro p e s m args below meth c s₁ B hml hv
  obtain ⟨rfl, hP, hK⟩ := hv
  have hts := atoms_spec (ws := fWs M) B.pre
  have hown : s.vm.findClass M.1.cls = some m.cls := findClass_of_methodNamed B.named
  have hl := lv_entry (av.map (cv G.2.2.1)) (n := M.2.2.1) (by rw [fSl_len]; exact hlen)
  rw [lg_entry_eq]
  generalize (lg_sl (av.map (cv G.2.2.1)) ++ List.replicate (M.2.2.1 - (lg_sl (av.map (cv G.2.2.1))).length) Slot.unset).toArray = ls at hl ⊢
  exact h p e s m _ below meth c ⟨B.exec, B.bytes, hown, fun w hw => hts w (List.mem_cons_of_mem _ hw), hK, hinj, fun a ha => ⟨a, ha, rfl⟩, hb.1, hb.2.1, trivial⟩ hml B.returns B.notSynchronized trivial s.heap [] ls hP va_S.rf (by rw [fLs_args]; exact hl)
end Rules

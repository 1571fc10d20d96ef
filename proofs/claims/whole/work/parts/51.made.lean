/-! objects made: a walk over a world that grows -/
abbrev nG : Type := Launch × va_G × ClassId × ClassId
abbrev nZ : Type := Room × (State → Nat → Prop) × (List Frame → Array Value → State → State → Prop) × (State → Prop) × (Array Value → Method → Prop)
def nV (G : nG) (M : fM) (Z : nZ) (cells slots pc : Nat) (L : List (Nat × Value)) (st : List Value) (ws : va_W) : Prop :=
  ∀ (p : Program) (e : Env) (s : State) (m : MethodId) (args : Array Value) (below : List Frame) (meth : Method) (c : Code),
    (p.tables.exec = Jvm.exec ∧ c.code = M.2.1 ∧ s.vm.findClass M.1.cls = some m.cls ∧ (∀ w ∈ fTB, w.before args s = true) ∧ va_K G.2.1 vwCl (fTy G.2.2.1 G.2.2.2) s ∧ ∀ q, s.heap.size ≤ q → Z.2.1 s q) →
    (c.maxLocals = M.2.2.1 ∧ meth.sig.returnType = M.2.2.2.1 ∧ meth.locks = false) → Z.2.2.2.1 s → Z.2.2.2.2 args meth →
    ∀ (H : Heap) (locs : List Loc) (ls : Array Slot), va_P G.2.1 vwCl ws H → va_D (Z.2.1 s) ws → va_S (Z.2.1 s) s.heap H locs → lv_has ls M.2.2.1 L →
      W p G.1 e Z.1 s m args below meth c H locs cells slots (Z.2.2.1 below args s) (F0 m pc ls st)
section NRules
variable {G : nG} {M M2 : fM} {Z : nZ} {cells slots pc idx a q k : Nat} {n : Fin 4} {L L' : List (Nat × Value)} {st rest : List Value} {ws ws' wr : va_W} {x y : Int32}
theorem nV.aload (hd : decode M.2.1 pc = .ok (.aload_n n, 1)) (hm : ((n : Nat), Value.ref a) ∈ L) (kk : nV G M Z cells slots (pc + 1) L (.ref a :: st) ws) : nV G M Z cells slots pc L st ws :=
  fun p e s m args below meth c X Y h5 h6 H locs ls g1 g2 g3 g4 => lv_aload_n X.1 X.2.1 hd rfl (g4.2.2 _ hm) (kk p e s m args below meth c X Y h5 h6 H locs ls g1 g2 g3 g4)
theorem nV.iload (hd : decode M.2.1 pc = .ok (.iload_n n, 1)) (hm : ((n : Nat), Value.int x) ∈ L) (kk : nV G M Z cells slots (pc + 1) L (.int x :: st) ws) : nV G M Z cells slots pc L st ws :=
  fun p e s m args below meth c X Y h5 h6 H locs ls g1 g2 g3 g4 => lv_iload_n X.1 X.2.1 hd rfl (g4.2.2 _ hm) (kk p e s m args below meth c X Y h5 h6 H locs ls g1 g2 g3 g4)
theorem nV.iconst {j : Int} (hd : decode M.2.1 pc = .ok (.iconst j, 1)) (hv : fLit j = x) (kk : nV G M Z cells slots (pc + 1) L (.int x :: st) ws) : nV G M Z cells slots pc L st ws := by
  subst hv
  exact fun p e s m args below meth c X Y h5 h6 H locs ls g1 g2 g3 g4 => lv_iconst X.1 X.2.1 hd (fLit_ofInt j).symm (kk p e s m args below meth c X Y h5 h6 H locs ls g1 g2 g3 g4)
theorem nV.bipush {j : Int} (hd : decode M.2.1 pc = .ok (.bipush j, 2)) (h0 : -128 ≤ j) (h1 : j < 128) (hv : fLit j = x) (kk : nV G M Z cells slots (pc + 2) L (.int x :: st) ws) : nV G M Z cells slots pc L st ws := by
  subst hv
  exact fun p e s m args below meth c X Y h5 h6 H locs ls g1 g2 g3 g4 => lv_bipush X.1 X.2.1 hd (fLit_8 h0 h1) (kk p e s m args below meth c X Y h5 h6 H locs ls g1 g2 g3 g4)
theorem nV.sipush {j : Int} (hd : decode M.2.1 pc = .ok (.sipush j, 3)) (h0 : -32768 ≤ j) (h1 : j < 32768) (hv : fLit j = x) (kk : nV G M Z cells slots (pc + 3) L (.int x :: st) ws) : nV G M Z cells slots pc L st ws := by
  subst hv
  exact fun p e s m args below meth c X Y h5 h6 H locs ls g1 g2 g3 g4 => lv_sipush X.1 X.2.1 hd (fLit_16 h0 h1) (kk p e s m args below meth c X Y h5 h6 H locs ls g1 g2 g3 g4)
theorem nV.lconst0 (hd : decode M.2.1 pc = .ok (.lconst 0, 1)) (kk : nV G M Z cells slots (pc + 1) L (.long 0 :: st) ws) : nV G M Z cells slots pc L st ws :=
  fun p e s m args below meth c X Y h5 h6 H locs ls g1 g2 g3 g4 => lv_lconst X.1 X.2.1 hd rfl (kk p e s m args below meth c X Y h5 h6 H locs ls g1 g2 g3 g4)
theorem nV.dup (hd : decode M.2.1 pc = .ok (.dup, 1)) (kk : nV G M Z cells slots (pc + 1) L (.ref a :: .ref a :: st) ws) : nV G M Z cells slots pc L (.ref a :: st) ws :=
  fun p e s m args below meth c X Y h5 h6 H locs ls g1 g2 g3 g4 => lv_dup X.1 X.2.1 hd rfl (kk p e s m args below meth c X Y h5 h6 H locs ls g1 g2 g3 g4)
theorem nV.istore (hd : decode M.2.1 pc = .ok (.istore_n n, 1)) (hn : (n : Nat) < M.2.2.1) (hL : ((n : Nat), Value.int x) :: L.filter (fun q => !(q.1 == (n : Nat)) && !(q.1 + 1 == (n : Nat) && q.2.category == 2)) = L') (kk : nV G M Z cells slots (pc + 1) L' st ws) : nV G M Z cells slots pc L (.int x :: st) ws :=
  fun p e s m args below meth c X Y h5 h6 H locs ls g1 g2 g3 g4 => lv_istore_n X.1 X.2.1 hd rfl g4 hn hL (fun ls' hl' => kk p e s m args below meth c X Y h5 h6 H locs ls' g1 g2 g3 hl')
theorem nV.astore (hd : decode M.2.1 pc = .ok (.astore_n n, 1)) (hn : (n : Nat) < M.2.2.1) (hL : ((n : Nat), Value.ref a) :: L.filter (fun q => !(q.1 == (n : Nat)) && !(q.1 + 1 == (n : Nat) && q.2.category == 2)) = L') (kk : nV G M Z cells slots (pc + 1) L' st ws) : nV G M Z cells slots pc L (.ref a :: st) ws :=
  fun p e s m args below meth c X Y h5 h6 H locs ls g1 g2 g3 g4 => lv_astore_n X.1 X.2.1 hd rfl g4 hn hL (fun ls' hl' => kk p e s m args below meth c X Y h5 h6 H locs ls' g1 g2 g3 hl')
theorem nV.mmax (hd : decode M.2.1 pc = .ok (.invokestatic idx, 3)) (hlink : Cond.methodLink M.1.cls idx yJ9_max_7cf53 ∈ fTB) (hf : 1 ≤ Z.1.frames ∧ (st.map fun v => v.category).sum + 13 ≤ Z.1.locals ∧ cells ≤ Z.1.cells ∧ slots ≤ Z.1.slots) {z : Int32} (hz : (if x < y then y else x) = z) (kk : nV G M Z cells slots (pc + 3) L (.int z :: st) ws) : nV G M Z cells slots pc L (.int y :: .int x :: st) ws := by
  subst hz
  exact fun p e s m args below meth c X Y h5 h6 H locs ls g1 g2 g3 g4 => va_mmax X.1 X.2.1 (Y.1.trans g4.1.symm) X.2.2.1 (X.2.2.2.1 _ hlink) (X.2.2.2.1 _ kJ9_max_7cf53.2) (X.2.2.2.1 _ kJ9_max_7cf53.1.2.1) (X.2.2.2.1 _ kJ9_max_7cf53.1.1) hf.1 hf.2.1 hf.2.2.1 hf.2.2.2 hd (kk p e s m args below meth c X Y h5 h6 H locs ls g1 g2 g3 g4)
theorem nV.objInit (hd : decode M.2.1 pc = .ok (.invokespecial idx, 3)) (hlink : Cond.methodLink M.1.cls idx objectInit ∈ fTB) (hins : Cond.instanceMethod objectInit ∈ fTB) (hcode : Cond.code objectInit ⟨#[0xb1]⟩ 1 none ∈ fTB) (hf : 1 ≤ Z.1.frames) (hl : 12 ≤ Z.1.locals) (kk : nV G M Z cells slots (pc + 3) L [] ws) : nV G M Z cells slots pc L [.ref a] ws :=
  fun p e s m args below meth c X Y h5 h6 H locs ls g1 g2 g3 g4 => W.objInit X.1 X.2.1 X.2.2.1 (X.2.2.2.1 _ hlink) (X.2.2.2.1 _ hins) (X.2.2.2.1 _ hcode) rfl (g4.1.trans Y.1.symm) rfl hd hf (by show 0 + 0 + 12 ≤ _; omega) (W.eq (g2 := F0 m (pc + 3) ls []) rfl (kk p e s m args below meth c X Y h5 h6 H locs ls g1 g2 g3 g4))
theorem nV.new {C : String} {T : u_T} {N ci : Nat} {fs : List Value} (hd : decode M.2.1 pc = .ok (.new idx, 3)) (hin : ∀ w ∈ u_ws C T N, w ∈ fTB) (ty : Nat → FieldType) (hty : ∀ k, k < N → parseFieldDescriptor (T k).2.2.1 = some (ty k)) (hcl : Cond.classLink M.1.cls idx C ∈ fTB) (hinst : Cond.instantiable C N ∈ fTB) (hini : Cond.initialized C ∈ fTB) (hc : vwCl[ci]? = some (C, T, N)) (hfs : ∀ j, j < N → defaultValue (ty j) = vp_V fs j) (h1 : cells + 1 ≤ Z.1.cells) (h2 : slots + N ≤ Z.1.slots)
    (kk : ∀ q : Nat, nV G M Z (cells + 1) (slots + N) (pc + 3) L (.ref q :: st) (ws ++ [(q, .inr (ci, fs))])) : nV G M Z cells slots pc L st ws :=
  fun p e s m args below meth c X Y h5 h6 H locs ls g1 g2 g3 g4 => va_new X.1 X.2.1 X.2.2.2.1 hin ty hty X.2.2.1 (X.2.2.2.1 _ hcl) (X.2.2.2.1 _ hinst) (X.2.2.2.1 _ hini) X.2.2.2.2.1 g1 g2 g3 X.2.2.2.2.2 hc hfs h1 h2 hd (fun q H1 k1 k2 k3 => kk q p e s m args below meth c X Y h5 h6 H1 locs ls k1 k2 k3 g4)
theorem nArr {D : va_G} {cI cJ cA : ClassId} {s : State} {ty : FieldType} (h0 : va_K D vwCl (fTy cI cJ) s) (h : va_K D vwCl (fTy cI cJ ++ [(cA, ty)]) s) : (ty = .int → cA = cI) ∧ (ty = .long → cA = cJ) := by
  have h2 := (h.2 2 (cA, ty) rfl).2
  refine ⟨fun e => ?_, fun e => ?_⟩
  · subst e
    have h1 := (h0.2 0 (cI, .int) rfl).2
    exact Option.some.inj (h2.symm.trans h1)
  · subst e
    have h1 := (h0.2 1 (cJ, .long) rfl).2
    exact Option.some.inj (h2.symm.trans h1)
theorem nV.newI {N : Nat} (hd : decode M.2.1 pc = .ok (.newarray .int, 2)) (harr : Cond.arrayClass .int ∈ fTB) (hn : ¬ x < 0) (hN : x.toNatClampNeg = N) (hb : N * componentBytes .int ≤ 536870912) (h1 : cells + 1 ≤ Z.1.cells) (h2 : slots + N ≤ Z.1.slots)
    (kk : ∀ q : Nat, nV G M Z (cells + 1) (slots + N) (pc + 2) L (.ref q :: st) (ws ++ [(q, .inl (G.2.2.1, N, .inl (fun _ => 0)))])) : nV G M Z cells slots pc L (.int x :: st) ws :=
  fun p e s m args below meth c X Y h5 h6 H locs ls g1 g2 g3 g4 => va_newa (atype := .int) (a0 := (N, .inl (fun _ => 0))) X.1 X.2.1 (X.2.2.2.1 _ harr) rfl X.2.2.2.2.1 g1 g2 g3 X.2.2.2.2.2 (fun _ => rfl) hn hN hb h1 h2 hd (fun q cA H1 k0 k1 k2 k3 => by
    obtain rfl := (nArr X.2.2.2.2.1 k0).1 rfl
    exact kk q p e s m args below meth c X Y h5 h6 H1 locs ls k1 k2 k3 g4)
theorem nV.newJ {N : Nat} (hd : decode M.2.1 pc = .ok (.newarray .long, 2)) (harr : Cond.arrayClass .long ∈ fTB) (hn : ¬ x < 0) (hN : x.toNatClampNeg = N) (hb : N * componentBytes .long ≤ 536870912) (h1 : cells + 1 ≤ Z.1.cells) (h2 : slots + N ≤ Z.1.slots)
    (kk : ∀ q : Nat, nV G M Z (cells + 1) (slots + N) (pc + 2) L (.ref q :: st) (ws ++ [(q, .inl (G.2.2.2, N, .inr (.inl (fun _ => 0))))])) : nV G M Z cells slots pc L (.int x :: st) ws :=
  fun p e s m args below meth c X Y h5 h6 H locs ls g1 g2 g3 g4 => va_newa (atype := .long) (a0 := (N, .inr (.inl (fun _ => 0)))) X.1 X.2.1 (X.2.2.2.1 _ harr) rfl X.2.2.2.2.1 g1 g2 g3 X.2.2.2.2.2 (fun _ => rfl) hn hN hb h1 h2 hd (fun q cA H1 k0 k1 k2 k3 => by
    obtain rfl := (nArr X.2.2.2.2.1 k0).2 rfl
    exact kk q p e s m args below meth c X Y h5 h6 H1 locs ls k1 k2 k3 g4)
theorem nV.putF {C : String} {T : u_T} {N ci q0 : Nat} {fs : List Value} {ty : FieldType} {v : Value} (hd : decode M.2.1 pc = .ok (.putfield idx, 3)) (hin : ∀ w ∈ u_ws C T N, w ∈ fTB) (ty0 : Nat → FieldType) (hty : ∀ k, k < N → parseFieldDescriptor (T k).2.2.1 = some (ty0 k)) (hnm : ∀ a, a < N → ∀ b, b < N → a ≠ b → (T a).2.1 ≠ (T b).2.1) (he : ws[q0]? = some (a, .inr (ci, fs))) (hc : vwCl[ci]? = some (C, T, N)) (hk : k < N) (hlink : Cond.fieldLink M.1.cls idx (T k).1 (T k).2.1 (T k).2.2.1 ∈ fTB) (hfin : (T k).2.2.2 = true) (hin2 : ∀ (aa : Array Value) (mm : Method), Z.2.2.2.2 aa mm → mm.name = "<init>") (hdecl : (T k).1 = M.1.cls) (hp : parseFieldDescriptor (T k).2.2.1 = some ty) (hn : narrow ty v = v) (hfit : fits ty v = true) (hl : k < fs.length) (hw : ws.set q0 (a, .inr (ci, fs.set k v)) = ws')
    (kk : nV G M Z cells slots (pc + 3) L st ws') : nV G M Z cells slots pc L (v :: .ref a :: st) ws := by
  subst hw
  exact fun p e s m args below meth c X Y h5 h6 H locs ls g1 g2 g3 g4 => va_putF X.1 X.2.1 X.2.2.2.1 hin ty0 hty hnm X.2.2.1 X.2.2.2.2.1 g1 g2 g3 q0 he hc k hk (X.2.2.2.1 _ hlink) (fun _ h9 => h9) hfin (hin2 args meth h6) hdecl hp hn hfit hl hd (fun H1 locs1 k1 k2 k3 => kk p e s m args below meth c X Y h5 h6 H1 locs1 ls k1 k2 k3 g4)
theorem nV.put {C : String} {T : u_T} {N ci q0 : Nat} {fs : List Value} {ty : FieldType} {v : Value} (hd : decode M.2.1 pc = .ok (.putfield idx, 3)) (hin : ∀ w ∈ u_ws C T N, w ∈ fTB) (ty0 : Nat → FieldType) (hty : ∀ k, k < N → parseFieldDescriptor (T k).2.2.1 = some (ty0 k)) (hnm : ∀ a, a < N → ∀ b, b < N → a ≠ b → (T a).2.1 ≠ (T b).2.1) (he : ws[q0]? = some (a, .inr (ci, fs))) (hc : vwCl[ci]? = some (C, T, N)) (hk : k < N) (hlink : Cond.fieldLink M.1.cls idx (T k).1 (T k).2.1 (T k).2.2.1 ∈ fTB) (hfin : (T k).2.2.2 = false) (hp : parseFieldDescriptor (T k).2.2.1 = some ty) (hn : narrow ty v = v) (hfit : fits ty v = true) (hl : k < fs.length) (hw : ws.set q0 (a, .inr (ci, fs.set k v)) = ws')
    (kk : nV G M Z cells slots (pc + 3) L st ws') : nV G M Z cells slots pc L (v :: .ref a :: st) ws := by
  subst hw
  exact fun p e s m args below meth c X Y h5 h6 H locs ls g1 g2 g3 g4 => va_put X.1 X.2.1 X.2.2.2.1 hin ty0 hty hnm X.2.2.1 X.2.2.2.2.1 g1 g2 g3 q0 he hc k hk (X.2.2.2.1 _ hlink) (fun _ h9 => h9) hfin hp hn hfit hl hd (fun H1 locs1 k1 k2 k3 => kk p e s m args below meth c X Y h5 h6 H1 locs1 ls k1 k2 k3 g4)
theorem nV.get {C : String} {T : u_T} {N ci q0 : Nat} {fs : List Value} {v : Value} (hd : decode M.2.1 pc = .ok (.getfield idx, 3)) (hin : ∀ w ∈ u_ws C T N, w ∈ fTB) (he : ws[q0]? = some (a, .inr (ci, fs))) (hc : vwCl[ci]? = some (C, T, N)) (hk : k < N) (hlink : Cond.fieldLink M.1.cls idx (T k).1 (T k).2.1 (T k).2.2.1 ∈ fTB) (hv : fs[k]? = some v)
    (kk : nV G M Z cells slots (pc + 3) L (v :: st) ws) : nV G M Z cells slots pc L (.ref a :: st) ws :=
  fun p e s m args below meth c X Y h5 h6 H locs ls g1 g2 g3 g4 => va_get X.1 X.2.1 X.2.2.2.1 hin X.2.2.1 X.2.2.2.2.1 g1 q0 he hc k hk (X.2.2.2.1 _ hlink) (fun _ h9 => h9) hv hd (kk p e s m args below meth c X Y h5 h6 H locs ls g1 g2 g3 g4)
theorem nV.iast {q0 N : Nat} {f : Nat → Int32} (hd : decode M.2.1 pc = .ok (.iastore, 1)) (ha : ws[q0]? = some (a, .inl (G.2.2.1, N, .inl f))) (hi : vp_in y N) (hw : ws.set q0 (a, .inl (G.2.2.1, N, .inl (upd f y.toNatClampNeg x))) = ws') (kk : nV G M Z cells slots (pc + 1) L st ws') : nV G M Z cells slots pc L (.int x :: .int y :: .ref a :: st) ws := by
  subst hw
  exact fun p e s m args below meth c X Y h5 h6 H locs ls g1 g2 g3 g4 => va_iast X.1 X.2.1 X.2.2.2.2.1 g1 g2 g3 q0 0 ha rfl hi hd (fun H1 locs1 k1 k2 k3 => kk p e s m args below meth c X Y h5 h6 H1 locs1 ls k1 k2 k3 g4)
/-- a constructor's contract: its object comes with its default fields, goes with all that it made; u: where the new cells lie -/
def nCtr (G : nG) (M : fM) (rm : Room) (Cx : State → Prop) (ci : Nat) (df av : List Value) (cf : Nat → (Nat → Nat) → va_W) : Prop :=
  ∀ h0 sz : Nat, Met G.1 M.1 (fWs M) rm (va_Pc (.ref h0 :: av) (fun U => U.heap.size = sz ∧ va_P G.2.1 vwCl [(h0, .inr (ci, df))] U.heap ∧ va_K G.2.1 vwCl (fTy G.2.2.1 G.2.2.2) U ∧ va_D (fun _ => True) [(h0, .inr (ci, df))] ∧ Cx U))
    (va_Qv (fun _ : Nat → Nat => True) (fun u t => va_P G.2.1 vwCl (cf h0 u) t.heap ∧ va_D (va_A [(h0, .inr (ci, df))] sz) (cf h0 u)) (va_A [(h0, .inr (ci, df))] sz)) rm.cells rm.slots (va_A [(h0, .inr (ci, df))] sz)
def nZm (G : nG) (rm : Room) (Cx : State → Prop) (ci : Nat) (df : List Value) (cf : Nat → (Nat → Nat) → va_W) (h0 : Nat) : nZ :=
  (rm, (fun s => va_A [(h0, .inr (ci, df))] s.heap.size), (fun below args s => MQ below (va_Qv (fun _ : Nat → Nat => True) (fun u t => va_P G.2.1 vwCl (cf h0 u) t.heap ∧ va_D (va_A [(h0, .inr (ci, df))] s.heap.size) (cf h0 u)) (va_A [(h0, .inr (ci, df))] s.heap.size)) args s rm.cells rm.slots (va_A [(h0, .inr (ci, df))] s.heap.size)), Cx, fun _ mm => mm.name = "<init>")
theorem nCtr.of {rm : Room} {Cx : State → Prop} {ci : Nat} {df av : List Value} {cf : Nat → (Nat → Nat) → va_W} (hb : plainName M.1.cls = true) (hnm : M.1.name = "<init>") (hlen : ∀ h0 : Nat, (lg_sl (.ref h0 :: av)).length ≤ M.2.2.1) (h : ∀ h0 : Nat, nV G M (nZm G rm Cx ci df cf h0) 0 0 0 (lv_args 0 (.ref h0 :: av)) [] [(h0, .inr (ci, df))]) : nCtr G M rm Cx ci df av cf := by
  intro h0 sz
  refine Met.ofW (cc := M.2.1) (maxL := M.2.2.1) (ret := M.2.2.2.1) hb rfl ?_
  intro p e s m args below meth c s₁ B hml hv
  obtain ⟨rfl, hsz, hP, hK, hD0, hcx⟩ := hv
  have hts := atoms_spec (ws := fWs M) B.pre
  have hown : s.vm.findClass M.1.cls = some m.cls := findClass_of_methodNamed B.named
  have hin : meth.name = M.1.name := (name_of_methodNamed B.named B.method).1
  subst hsz
  have hD := hD0.self (sz := s.heap.size)
  have hl := lv_entry (.ref h0 :: av) (n := M.2.2.1) (hlen h0)
  rw [lg_entry_eq]
  generalize (lg_sl (.ref h0 :: av) ++ List.replicate (M.2.2.1 - (lg_sl (.ref h0 :: av)).length) Slot.unset).toArray = ls at hl ⊢
  exact h h0 p e s m _ below meth c ⟨B.exec, B.bytes, hown, fun w hw => hts w (List.mem_cons_of_mem _ hw), hK, fun q hq => Or.inr hq⟩ ⟨hml, B.returns, B.notSynchronized⟩ hcx (hin.trans hnm) s.heap [] ls hP hD va_S.rf hl
theorem nV.ret {rm : Room} {Cx : State → Prop} {ci h0 : Nat} {df : List Value} {cf : Nat → (Nat → Nat) → va_W} (hret : M.2.2.2.1 = none) (hd : decode M.2.1 pc = .ok (.return_, 1)) (h1 : cells = rm.cells) (h2 : slots = rm.slots) (u : Nat → Nat) (hw : ws = cf h0 u) : nV G M (nZm G rm Cx ci df cf h0) cells slots pc L [] ws := by
  subst hw
  subst h1
  subst h2
  exact fun p e s m args below meth c X Y h5 h6 H locs ls g1 g2 g3 g4 => W.vret X.1 X.2.1 (Y.2.1.trans hret) (fun t ht hW => ⟨⟨u, rfl, trivial, by rw [ht]; exact g1, g2⟩, va_S.F g3 ht⟩) g3.2.2 hd Y.2.2
theorem nV.call {rm : Room} {Cx2 : State → Prop} {ci np i : Nat} {df av : List Value} {cf : Nat → (Nat → Nat) → va_W} (isR : List Nat) (hm : fMok M2 np) (hins : Cond.instanceMethod M2.1 ∈ fTB) (hret : M2.2.2.2.1 = none) (hnm : M2.1.name = "<init>") (hd : decode M.2.1 pc = .ok (.invokespecial idx, 3)) (hlink : Cond.methodLink M.1.cls idx M2.1 ∈ fTB) (hst : st = av.reverse ++ .ref q :: rest) (hn : av.length = np) (hw : (rest.map fun v => v.category).sum ≤ 8) (hroom : rm.frames + 1 ≤ Z.1.frames ∧ 8 + (M2.2.2.1 + 11) + rm.locals ≤ Z.1.locals) (hfit : cells + rm.cells ≤ Z.1.cells ∧ slots + rm.slots ≤ Z.1.slots)
    (hctr : nCtr G M2 rm Cx2 ci df av cf) (hbl : ∀ (U : State) (g : JFrame) (mk : MethodId) (aa : Array Value), Cx2 U → Cx2 (U.calling g mk aa)) (hcx : ∀ s U : State, s.WarmedH U.vm → Z.2.2.2.1 s → Cx2 U) (hC : ws[i]? = some (q, .inr (ci, df))) (hR : isR.map (fun i => ws[i]?) = wr.map some) (hnd : va_nd isR = true) (hdis : ∀ j ∈ isR, j ∉ [i])
    (kk : ∀ u : Nat → Nat, nV G M Z (cells + rm.cells) (slots + rm.slots) (pc + 3) L rest (wr ++ cf q u)) : nV G M Z cells slots pc L st ws := by
  intro p e s m args below meth c X Y h5 h6 H locs ls g1 g2 g3 g4
  obtain ⟨hx, hb, hown, hts, hK, hA⟩ := id X
  have hC1 : [i].map (fun i => ws[i]?) = [(q, Sum.inr (ci, df))].map some := by simp [hC]
  have hC2 : [i].filterMap (fun i => ws[i]?) = [(q, Sum.inr (ci, df))] := by simp [hC]
  have hPc := g1.sub (ws' := [(q, .inr (ci, df))]) [i] hC2
  have hDc := g2.sub (ws' := [(q, .inr (ci, df))]) [i] (by rfl) hC1
  have hFc := va_free (wc := [(q, .inr (ci, df))]) g2 g3 hA [i] hC1
  refine va_callv (va_runI (As := av) (rest := rest) ⟨hx, hb, Y.1, hown, hts⟩ (hctr q H.size) (cwI np hts (fGoodWs hm) (by rw [← hret]; rfl) rfl rfl (hts _ hm.2.1) (hts _ hlink) (hts _ hins) hnm ⟨hm.2.2.1, hm.2.2.2⟩ hroom) ⟨fun aa U g mk z => by obtain ⟨q0, q1, qP, qK, qD, qC⟩ := z; exact ⟨q0, q1, qP, va_K.moved (u := U) (U := U.calling g mk aa) (Vm.Alike.refl U.vm) qK, qD, hbl U g mk aa qC⟩, fun U hU hW => ⟨rfl, by rw [hU], by rw [hU]; exact hPc, va_K.moved hW.alike hK, hDc.weaken (fun _ _ _ _ => trivial), hcx s U hW h5⟩⟩ rfl hn g4.1 hst (lv_room hw) hd hfit) g3 (fun z _ h => hFc z h) hFc (fun u t H1 locs1 ht hvm hw2 hB hz1 hk1 hS1 => ?_)
  obtain ⟨hP1, hD1⟩ := hB
  rw [ht] at hP1
  obtain ⟨hP, hD⟩ := va_join (wr := wr) (w1 := cf q u) g1 g2 [i] isR hC1 hR hnd hdis hk1 hFc hP1 hD1
  exact kk u p e s m args below meth c X Y h5 h6 H1 locs1 ls hP hD hS1 g4
theorem nV.callN {rm : Room} {Cx2 : State → Prop} {ci np i : Nat} {df av : List Value} {cf : Nat → (Nat → Nat) → va_W} {host : String} (isR : List Nat) (hm : fMok M2 np) (hins : Cond.instanceMethod M2.1 ∈ fTB) (hret : M2.2.2.2.1 = none) (hnm : M2.1.name = "<init>") (hd : decode M.2.1 pc = .ok (.invokespecial idx, 3)) (hlink : ∀ s, Z.2.2.2.1 s → va_Nw (.methodLinkNest M.1.cls idx M2.1 host) s) (hst : st = av.reverse ++ .ref q :: rest) (hn : av.length = np) (hw : (rest.map fun v => v.category).sum ≤ 8) (hroom : rm.frames + 1 ≤ Z.1.frames ∧ 8 + (M2.2.2.1 + 11) + rm.locals ≤ Z.1.locals) (hfit : cells + rm.cells ≤ Z.1.cells ∧ slots + rm.slots ≤ Z.1.slots)
    (hctr : nCtr G M2 rm Cx2 ci df av cf) (hbl : ∀ (U : State) (g : JFrame) (mk : MethodId) (aa : Array Value), Cx2 U → Cx2 (U.calling g mk aa)) (hcx : ∀ s U : State, s.WarmedH U.vm → Z.2.2.2.1 s → Cx2 U) (hC : ws[i]? = some (q, .inr (ci, df))) (hR : isR.map (fun i => ws[i]?) = wr.map some) (hnd : va_nd isR = true) (hdis : ∀ j ∈ isR, j ∉ [i])
    (kk : ∀ u : Nat → Nat, nV G M Z (cells + rm.cells) (slots + rm.slots) (pc + 3) L rest (wr ++ cf q u)) : nV G M Z cells slots pc L st ws := by
  intro p e s m args below meth c X Y h5 h6 H locs ls g1 g2 g3 g4
  obtain ⟨hx, hb, hown, hts, hK, hA⟩ := id X
  have hC1 : [i].map (fun i => ws[i]?) = [(q, Sum.inr (ci, df))].map some := by simp [hC]
  have hC2 : [i].filterMap (fun i => ws[i]?) = [(q, Sum.inr (ci, df))] := by simp [hC]
  have hPc := g1.sub (ws' := [(q, .inr (ci, df))]) [i] hC2
  have hDc := g2.sub (ws' := [(q, .inr (ci, df))]) [i] (by rfl) hC1
  have hFc := va_free (wc := [(q, .inr (ci, df))]) g2 g3 hA [i] hC1
  refine va_callv (va_runIN (As := av) (rest := rest) ⟨hx, hb, Y.1, hown, hts⟩ (hctr q H.size) ⟨va_cnB np hts (fGoodWs hm) (by rw [← hret]; rfl) rfl rfl (hlink s h5) (hts _ hm.2.1) ⟨hm.2.2.1, hm.2.2.2⟩ hroom, hnm, hts _ hins⟩ ⟨fun aa U g mk z => by obtain ⟨q0, q1, qP, qK, qD, qC⟩ := z; exact ⟨q0, q1, qP, va_K.moved (u := U) (U := U.calling g mk aa) (Vm.Alike.refl U.vm) qK, qD, hbl U g mk aa qC⟩, fun U hU hW => ⟨rfl, by rw [hU], by rw [hU]; exact hPc, va_K.moved hW.alike hK, hDc.weaken (fun _ _ _ _ => trivial), hcx s U hW h5⟩⟩ rfl hn g4.1 hst (lv_room hw) hd hfit) g3 (fun z _ h => hFc z h) hFc (fun u t H1 locs1 ht hvm hw2 hB hz1 hk1 hS1 => ?_)
  obtain ⟨hP1, hD1⟩ := hB
  rw [ht] at hP1
  obtain ⟨hP, hD⟩ := va_join (wr := wr) (w1 := cf q u) g1 g2 [i] isR hC1 hR hnd hdis hk1 hFc hP1 hD1
  exact kk u p e s m args below meth c X Y h5 h6 H1 locs1 ls hP hD hS1 g4
theorem nV.to {cells' slots' : Nat} (h1 : cells = cells') (h2 : slots = slots') (h3 : ws = ws') (kk : nV G M Z cells' slots' pc L st ws') : nV G M Z cells slots pc L st ws := by
  subst h1; subst h2; subst h3; exact kk
end NRules

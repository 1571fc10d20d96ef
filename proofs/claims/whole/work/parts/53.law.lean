/-! THE CLAIM OUT OF ONE WALK OF THE LAW'S BODY. Your part is whole_start (and what it stands on); all else here is the same for every law, but numbers. -/
def R_law : String := "HallHeardLaw"
def lw_P (b : Addr) (xs : List Int32) (args : Array Value) (s : State) : Prop := args = #[.ref b] ∧ s.IntsAt b xs ∧ xs.length ≤ 3072 ∧ (Jvm.Cond.and given_1 narrow_1).before args s = true
def lw_Q (_ : Array Value) (s : State) (o : Outcome) (t : State) : Prop := o = .returned (some (.int 1)) ∧ Framed s o t [] 600000 7302250
def lw_Z (below : List Frame) (a : Array Value) (s : State) : State → Prop := fun t => ∃ o, t.status = .running ∧ Ended t below o ∧ lw_Q a s o t
/-- the law's own end, with 1 on the stack, nothing written that was there before, its room as the claim has it -/
theorem lw_ret {p : Program} {l : Launch} {e : Env} {s : State} {m : MethodId} {below : List Frame} {meth : Method} {c : Code} {b : Nat} (hx : p.tables.exec = Jvm.exec) (hb : c.code = code) (hr : meth.sig.returnType = ret) (hlocks : meth.locks = false) {pc : Nat} {H : Heap} {ls : Array Slot} (hdg : decode code pc = .ok (.ireturn, 1)) : W p l e room_1 s m #[Value.ref b] below meth c H [] 600000 7302250 (lw_Z below #[Value.ref b] s) (F0 m pc ls [.int 1]) := by
  intro T hT X
  obtain ⟨fs, hret, hrun, hended, hW, hframe⟩ := X.leave (v := some (.int 1)) (hlocks := hlocks) (fun h => by rw [hr] at h; cases h)
  have hmeth' : T.vm.method? m = some meth := X.method'
  refine ⟨T.setFrames fs, ?_, .returned (some (.int 1)), hrun, hended, rfl, ⟨_, rfl⟩, hW, hframe⟩
  jvm_step X.here [X.here.top, hx, hb, hdg, hmeth', hr, ret, narrow_b1]
  (try refine ⟨rfl, ?_⟩); (try refine ⟨rfl, ?_⟩)
  first | (intro acts; rw [hret _ acts rfl rfl rfl]) | rw [hret _ _ rfl rfl rfl]
  exact Steps.refl _
/-- what holds at the law's entry: the machine, the code, the tables' words (any of lw_tbl by 'hts w (by decide +kernel)'), the script of L ints xs at the cell b, what the Statement gives of the start (any of its parts by flat_of_before) -/
def lw_At (p : Program) (s : State) (m : MethodId) (meth : Method) (c : Code) (b L : Nat) (xs : Nat → Int32) : Prop :=
  p.tables.exec = Jvm.exec ∧ c.code = code ∧ meth.sig.returnType = ret ∧ c.maxLocals = 4 ∧ s.vm.findClass R_law = some m.cls ∧ (∀ w ∈ lw_tbl, w.before #[Value.ref b] s = true) ∧ va_X b L xs s s.heap ∧ b < s.heap.size ∧ meth.locks = false ∧ (Jvm.Cond.and given_1 narrow_1).before #[Value.ref b] s = true
/-! the law's loop, over the small machine -/
def fZl (b xl : Nat) (xs : Nat → Int32) : fZ := (some (xl, xs), room_1, (fun s q => s.heap.size ≤ q), (600000, 7302250), (fun below _ s => lw_Z below #[Value.ref b] s), fun args => args = #[Value.ref b])
theorem fV.lend {G : fG} {b xl pc : Nat} {xs : Nat → Int32} {L : fL} {S : fS} (hd : decode cL_law pc = .ok (.ireturn, 1)) : fV G mL_law (fZl b xl xs) pc L [.int 1] S := by
  intro p e s m args below meth c X h1 h2 h3 h4 H locs ls g1 g2 g3
  have h4 : args = #[Value.ref b] := h4
  subst h4
  exact va_forget (fun q hq => g2.2.2 q hq) (lw_ret X.1 X.2.1 h2 h3 hd)
theorem hD_of {S S1 : fS} (h : S1.2 = S.2) : hD S1 = hD S := congrArg (fun z : fH => hD (S.1, z)) h
theorem hC_of {S S1 : fS} (h : S1.1 = S.1) : hC S1 = hC S := congrArg (fun z : fH => hC (z, S.2)) h
theorem hGeo_of {S S1 : fS} (h : S1.1 = S.1) {b : Nat} (g : hGeo S b) : hGeo S1 b := by
  have e : hGeo (S1.1, S.2) b = hGeo (S.1, S.2) b := by rw [h]
  have g : hGeo (S.1, S.2) b := g
  rw [← e] at g
  exact g
theorem hGeo_dn {S : fS} {b b' : Nat} (h : b' ≤ b) (g : hGeo S b) : hGeo S b' := fun w hw => g w (by omega)
/-- what holds between two calls: both halves have the same hall, within its bounds, the landed walls' lines kept -/
def lI (S : fS) : Prop := hC S = hD S ∧ hEx (hC S) ∧ ∀ b, gI S 4 6 = nI b → b ≤ 16 → hGeo S b
theorem lI_step {S1 S2 : fS} {p : Int32 × hH} (hp : hEx p.2) (h1 : hC S1 = p.2) (h2 : hD S2 = p.2) (z2 : S2.1 = S1.1) (hg : ∀ b, gI S1 4 6 = nI b → b ≤ 16 → hGeo S1 b) : lI S2 := by
  have e := hC_of z2
  refine ⟨by rw [e, h1, h2], by rw [e, h1]; exact hp, fun b hb h16 => hGeo_of z2 (hg b ?_ h16)⟩
  rw [← hb]
  exact (congrArg (fun q => q.2.1.1) e).symm
theorem lI_ask {S S1 S2 : fS} (I : lI S) (k1 : kp S S1) (k2 : ke S1 S2) : lI S2 := by
  have e : hC S2 = hC S := (hC_of k2.2).trans k1.1
  have e2 : hD S2 = hD S := k2.1.trans (hD_of k1.2.1)
  refine ⟨by rw [e, e2]; exact I.1, by rw [e]; exact I.2.1, fun b hb h16 => hGeo_of k2.2 (k1.geo (I.2.2 b ?_ h16))⟩
  rw [← hb]
  exact (congrArg (fun q => q.2.1.1) e).symm
theorem geo_same {S S1 : fS} {p : Int32 × hH} (I : lI S) (h1 : hC S1 = p.2) (hw : p.2.2.1.1 = (hC S).2.1.1) (hg : ∀ b, hGeo S b → hGeo S1 b) : ∀ b, gI S1 4 6 = nI b → b ≤ 16 → hGeo S1 b := fun b hb h16 => hg b (I.2.2 b (by
  rw [← hb]
  exact ((congrArg (fun q => q.2.1.1) h1).trans hw).symm) h16)
theorem lI_b {S : fS} {a b c e : Nat} (I : lI S) (H : hOk (hC S) a b c e) : hGeo S b := I.2.2 b H.2.1.1 H.2.1.2.1
theorem ow_stuff (h : hH) (s c : Int32) : (oStuff h s c).2.2.1.1 = h.2.1.1 := by unfold oStuff; repeat' split <;> try rfl
theorem ow_cover (h : hH) (w m : Int32) : (oCover h w m).2.2.1.1 = h.2.1.1 := by unfold oCover; repeat' split <;> try rfl
theorem ow_source (h : hH) (x y p : Int32) : (oSource h x y p).2.2.1.1 = h.2.1.1 := by unfold oSource; repeat' split <;> try rfl
theorem ow_seat (h : hH) (x y : Int32) : (oSeat h x y).2.2.1.1 = h.2.1.1 := by unfold oSeat; repeat' split <;> try rfl
theorem ow_move (h : hH) (k t x y : Int32) : (oMove h k t x y).2.2.1.1 = h.2.1.1 := by unfold oMove; repeat' split <;> try rfl
theorem ow_rule (h : hH) (t v : Int32) : (oRule h t v).2.2.1.1 = h.2.1.1 := by unfold oRule; repeat' split <;> try rfl
theorem geo_back {S S1 : fS} (I : lI S) (h1 : hC S1 = (oBack (hC S)).2) (hg : ∀ b, hGeo S b → hGeo S1 b) : ∀ b, gI S1 4 6 = nI b → b ≤ 16 → hGeo S1 b := by
  intro b hb h16
  obtain ⟨a, k, c, e, H⟩ := I.2.1
  have hk := H.2.1.2.1
  have w1 : (hC S).2.1.1 = nI k := H.2.1.1
  have h2 : nI b = (oBack (hC S)).2.2.1.1 := by rw [← hb]; exact congrArg (fun q => q.2.1.1) h1
  refine hGeo_dn ?_ (hg k (lI_b I H))
  unfold oBack at h2
  split at h2
  · rw [w1] at h2
    have := (nI_eqI (by omega) (by omega)).mp h2
    omega
  · rename_i h0
    have h2 : nI b = (hC S).2.1.1 - 1 := h2
    obtain ⟨j, rfl⟩ : ∃ j, k = j + 1 := ⟨k - 1, by have : ¬ k = 0 := fun z => h0 (by rw [w1, z]; rfl); omega⟩
    rw [w1, nI_pred] at h2
    have := (nI_eqI (by omega) (by omega)).mp h2
    omega
theorem geo_wall {S S1 : fS} (I : lI S) (hg : ∀ b, gI S 4 6 = nI b → b < 1000 → hGeo S b → (S1 = S ∨ (gI S1 4 6 = nI (b + 1) ∧ hGeo S1 (b + 1)))) : ∀ b, gI S1 4 6 = nI b → b ≤ 16 → hGeo S1 b := by
  intro b hb h16
  obtain ⟨a, k, c, e, H⟩ := I.2.1
  have hk := H.2.1.2.1
  rcases hg k H.2.1.1 (by omega) (lI_b I H) with z | ⟨z1, z2⟩
  · subst z; exact I.2.2 b hb h16
  · have := (nI_eqI (by omega) (by omega)).mp (hb.symm.trans z1)
    rw [this]; exact z2
/-- the counts of a hall within its bounds -/
theorem cnt {S : fS} {a b c e : Nat} (H : hOk (hC S) a b c e) : (0 ≤ gI S 1 2 ∧ gI S 1 2 ≤ 8) ∧ (0 ≤ gI S 4 6 ∧ gI S 4 6 ≤ 16) ∧ (0 ≤ gI S 11 2 ∧ gI S 11 2 ≤ 4) ∧ (0 ≤ gI S 14 2 ∧ gI S 14 2 ≤ 8) := by
  have h1 : gI S 1 2 = nI a := H.1.1
  have h2 : gI S 4 6 = nI b := H.2.1.1
  have h3 : gI S 11 2 = nI c := H.2.2.1.1
  have h4 : gI S 14 2 = nI e := H.2.2.2.1.1
  have k1 := H.1.2.2.1
  have k2 := H.2.1.2.1
  have k3 := H.2.2.1.2.1
  have k4 := H.2.2.2.1.2.1
  rw [h1, h2, h3, h4]
  exact ⟨⟨nI_pos' (by omega), (nI_leI (b := 8) (by omega) (by decide)).mpr k1⟩, ⟨nI_pos' (by omega), (nI_leI (b := 16) (by omega) (by decide)).mpr k2⟩, ⟨nI_pos' (by omega), (nI_leI (b := 4) (by omega) (by decide)).mpr k3⟩, ⟨nI_pos' (by omega), (nI_leI (b := 8) (by omega) (by decide)).mpr k4⟩⟩
theorem cntD {S : fS} {a b c e : Nat} (H : hOk (hD S) a b c e) : (0 ≤ gI S 35 0 ∧ gI S 35 0 ≤ 8) ∧ (0 ≤ gI S 35 3 ∧ gI S 35 3 ≤ 16) ∧ (0 ≤ gI S 35 6 ∧ gI S 35 6 ≤ 4) ∧ (0 ≤ gI S 35 10 ∧ gI S 35 10 ≤ 8) := by
  have h1 : gI S 35 0 = nI a := H.1.1
  have h2 : gI S 35 3 = nI b := H.2.1.1
  have h3 : gI S 35 6 = nI c := H.2.2.1.1
  have h4 : gI S 35 10 = nI e := H.2.2.2.1.1
  have k1 := H.1.2.2.1
  have k2 := H.2.1.2.1
  have k3 := H.2.2.1.2.1
  have k4 := H.2.2.2.1.2.1
  rw [h1, h2, h3, h4]
  exact ⟨⟨nI_pos' (by omega), (nI_leI (b := 8) (by omega) (by decide)).mpr k1⟩, ⟨nI_pos' (by omega), (nI_leI (b := 16) (by omega) (by decide)).mpr k2⟩, ⟨nI_pos' (by omega), (nI_leI (b := 4) (by omega) (by decide)).mpr k3⟩, ⟨nI_pos' (by omega), (nI_leI (b := 8) (by omega) (by decide)).mpr k4⟩⟩
def iL_law_120_11 : List Instr := [.aload_n 1, .aload_n 0, .iload_n 3, .iconst 1, .iadd, .iaload, .aload_n 0, .iload_n 3, .iconst 2, .iadd, .iaload]
theorem oL_law_120_11 : fOkB cL_law 120 iL_law_120_11 = true := by decide +kernel
set_option maxRecDepth 100000 in
theorem lL_13 : Cond.methodLink RL 13 yX7_stuff ∈ fTB := fTB_at 319 rfl rfl
theorem dL_law_131 : decode cL_law 131 = .ok (.invokevirtual 13, 3) := by decide +kernel
def iL_law_134_11 : List Instr := [.aload_n 2, .aload_n 0, .iload_n 3, .iconst 1, .iadd, .iaload, .aload_n 0, .iload_n 3, .iconst 2, .iadd, .iaload]
theorem oL_law_134_11 : fOkB cL_law 134 iL_law_134_11 = true := by decide +kernel
set_option maxRecDepth 100000 in
theorem lL_17 : Cond.methodLink RL 17 yX8_stuff ∈ fTB := fTB_at 707 rfl rfl
theorem dL_law_145 : decode cL_law 145 = .ok (.invokevirtual 17, 3) := by decide +kernel
theorem bL_law_148 : fBk cL_law 148 (.if_icmp .eq) 878 := ⟨730, by decide +kernel, by decide⟩
set_option maxRecDepth 100000 in
theorem lw_stuff {G : fG} {b0 xl i : Nat} {xs : Nat → Int32} {S : fS} (I : lI S) (hi : i + 6 ≤ xl) (hxl : xl ≤ 3072) (kk : ∀ S2, lI S2 → fV G mL_law (fZl b0 xl xs) 878 [(0, .ref 99), (1, .ref 0), (2, .ref 35), (3, .int (nI i))] [] S2) : fV G mL_law (fZl b0 xl xs) 120 [(0, .ref 99), (1, .ref 0), (2, .ref 35), (3, .int (nI i))] [] S := by
  obtain ⟨a, b, c, e, H⟩ := I.2.1
  have HG := lI_b I H
  have k7 := cnt H
  refine fV.run iL_law_120_11 oL_law_120_11 (pc' := 131) (L' := [(0, .ref 99), (1, .ref 0), (2, .ref 35), (3, .int (nI i))]) (st' := [.int (xs ((nI i) + 2).toNatClampNeg), .int (xs ((nI i) + 1).toNatClampNeg), .ref 0]) (S' := S) (P := vp_in ((nI i) + 1) xl ∧ vp_in ((nI i) + 2) xl ∧ True) rfl ⟨(by rw [show (nI i + 1 : Int32) = nI (i + 1) from nI_add i 1]; exact vp_in_nI (by omega) (by omega)), (by rw [show (nI i + 2 : Int32) = nI (i + 2) from nI_add i 2]; exact vp_in_nI (by omega) (by omega)), trivial⟩ ?_
  refine fV.callV (M2 := mX7_stuff) (d := 20) (o := 0) (av := [.int (xs ((nI i) + 1).toNatClampNeg), .int (xs ((nI i) + 2).toNatClampNeg)]) (rest := []) kX7_stuff dL_law_131 lL_13 rfl rfl rfl (Nat.le_of_ble_eq_true rfl) ⟨Nat.le_of_ble_eq_true rfl, Nat.le_of_ble_eq_true rfl⟩ ⟨Nat.le_refl _, Nat.le_refl _⟩ (qX7_stuff _ _ k7.1.1 k7.1.2) ?_
  rintro _ S1 ⟨rfl, h1, z1, g1⟩
  have hDS : hD S1 = hC S := (hD_of z1).trans I.1.symm
  have H8 : hOk (hD S1) a b c e := by rw [hDS]; exact H
  have k8 := cntD H8
  refine fV.to (pc' := 134) (L' := [(0, .ref 99), (1, .ref 0), (2, .ref 35), (3, .int (nI i))]) (st' := [.int ((oStuff (hC S) (xs ((nI i) + 1).toNatClampNeg) (xs ((nI i) + 2).toNatClampNeg)).1)]) (S' := S1) rfl rfl rfl rfl ?_
  refine fV.run iL_law_134_11 oL_law_134_11 (pc' := 145) (L' := [(0, .ref 99), (1, .ref 0), (2, .ref 35), (3, .int (nI i))]) (st' := [.int (xs ((nI i) + 2).toNatClampNeg), .int (xs ((nI i) + 1).toNatClampNeg), .ref 35, .int ((oStuff (hC S) (xs ((nI i) + 1).toNatClampNeg) (xs ((nI i) + 2).toNatClampNeg)).1)]) (S' := S1) (P := vp_in ((nI i) + 1) xl ∧ vp_in ((nI i) + 2) xl ∧ True) rfl ⟨(by rw [show (nI i + 1 : Int32) = nI (i + 1) from nI_add i 1]; exact vp_in_nI (by omega) (by omega)), (by rw [show (nI i + 2 : Int32) = nI (i + 2) from nI_add i 2]; exact vp_in_nI (by omega) (by omega)), trivial⟩ ?_
  refine fV.callV (M2 := mX8_stuff) (d := 20) (o := 35) (av := [.int (xs ((nI i) + 1).toNatClampNeg), .int (xs ((nI i) + 2).toNatClampNeg)]) (rest := [.int ((oStuff (hC S) (xs ((nI i) + 1).toNatClampNeg) (xs ((nI i) + 2).toNatClampNeg)).1)]) kX8_stuff dL_law_145 lL_17 rfl rfl rfl (Nat.le_of_ble_eq_true rfl) ⟨Nat.le_of_ble_eq_true rfl, Nat.le_of_ble_eq_true rfl⟩ ⟨Nat.le_refl _, Nat.le_refl _⟩ (qX8_stuff (S := S1) _ _ k8.1.1 k8.1.2 k8.2.1.1 k8.2.1.2 k8.2.2.1.1 k8.2.2.1.2 k8.2.2.2.1 k8.2.2.2.2) ?_
  rintro _ S2 ⟨rfl, h2, z2⟩
  rw [hDS] at h2
  refine fV.to (pc' := 148) (L' := [(0, .ref 99), (1, .ref 0), (2, .ref 35), (3, .int (nI i))]) (st' := [.int ((oStuff (hD S1) (xs ((nI i) + 1).toNatClampNeg) (xs ((nI i) + 2).toNatClampNeg)).1), .int ((oStuff (hC S) (xs ((nI i) + 1).toNatClampNeg) (xs ((nI i) + 2).toNatClampNeg)).1)]) (S' := S2) rfl rfl rfl rfl ?_
  refine fV.icmp_eq bL_law_148 (fun c148 => ?_) (fun c148 => ?_)
  · exact kk S2 (lI_step (hk_stuff I.2.1 _ _) h1 h2 z2 (geo_same I h1 (ow_stuff _ _ _) g1))
  · exact absurd c148 (fun z => z (by rw [hDS]))
def iL_law_153_26 : List Instr := [.aload_n 1, .aload_n 0, .iload_n 3, .iconst 1, .iadd, .iaload, .aload_n 0, .iload_n 3, .iconst 2, .iadd, .iaload, .aload_n 0, .iload_n 3, .iconst 3, .iadd, .iaload, .aload_n 0, .iload_n 3, .iconst 4, .iadd, .iaload, .aload_n 0, .iload_n 3, .iconst 5, .iadd, .iaload]
theorem oL_law_153_26 : fOkB cL_law 153 iL_law_153_26 = true := by decide +kernel
set_option maxRecDepth 100000 in
theorem lL_18 : Cond.methodLink RL 18 yX7_wall ∈ fTB := fTB_at 330 rfl rfl
theorem dL_law_179 : decode cL_law 179 = .ok (.invokevirtual 18, 3) := by decide +kernel
def iL_law_182_26 : List Instr := [.aload_n 2, .aload_n 0, .iload_n 3, .iconst 1, .iadd, .iaload, .aload_n 0, .iload_n 3, .iconst 2, .iadd, .iaload, .aload_n 0, .iload_n 3, .iconst 3, .iadd, .iaload, .aload_n 0, .iload_n 3, .iconst 4, .iadd, .iaload, .aload_n 0, .iload_n 3, .iconst 5, .iadd, .iaload]
theorem oL_law_182_26 : fOkB cL_law 182 iL_law_182_26 = true := by decide +kernel
set_option maxRecDepth 100000 in
theorem lL_22 : Cond.methodLink RL 22 yX8_wall ∈ fTB := fTB_at 716 rfl rfl
theorem dL_law_208 : decode cL_law 208 = .ok (.invokevirtual 22, 3) := by decide +kernel
theorem bL_law_211 : fBk cL_law 211 (.if_icmp .eq) 878 := ⟨667, by decide +kernel, by decide⟩
set_option maxRecDepth 100000 in
theorem lw_wall {G : fG} {b0 xl i : Nat} {xs : Nat → Int32} {S : fS} (I : lI S) (hi : i + 6 ≤ xl) (hxl : xl ≤ 3072) (kk : ∀ S2, lI S2 → fV G mL_law (fZl b0 xl xs) 878 [(0, .ref 99), (1, .ref 0), (2, .ref 35), (3, .int (nI i))] [] S2) : fV G mL_law (fZl b0 xl xs) 153 [(0, .ref 99), (1, .ref 0), (2, .ref 35), (3, .int (nI i))] [] S := by
  obtain ⟨a, b, c, e, H⟩ := I.2.1
  have HG := lI_b I H
  have k7 := cnt H
  refine fV.run iL_law_153_26 oL_law_153_26 (pc' := 179) (L' := [(0, .ref 99), (1, .ref 0), (2, .ref 35), (3, .int (nI i))]) (st' := [.int (xs ((nI i) + 5).toNatClampNeg), .int (xs ((nI i) + 4).toNatClampNeg), .int (xs ((nI i) + 3).toNatClampNeg), .int (xs ((nI i) + 2).toNatClampNeg), .int (xs ((nI i) + 1).toNatClampNeg), .ref 0]) (S' := S) (P := vp_in ((nI i) + 1) xl ∧ vp_in ((nI i) + 2) xl ∧ vp_in ((nI i) + 3) xl ∧ vp_in ((nI i) + 4) xl ∧ vp_in ((nI i) + 5) xl ∧ True) rfl ⟨(by rw [show (nI i + 1 : Int32) = nI (i + 1) from nI_add i 1]; exact vp_in_nI (by omega) (by omega)), (by rw [show (nI i + 2 : Int32) = nI (i + 2) from nI_add i 2]; exact vp_in_nI (by omega) (by omega)), (by rw [show (nI i + 3 : Int32) = nI (i + 3) from nI_add i 3]; exact vp_in_nI (by omega) (by omega)), (by rw [show (nI i + 4 : Int32) = nI (i + 4) from nI_add i 4]; exact vp_in_nI (by omega) (by omega)), (by rw [show (nI i + 5 : Int32) = nI (i + 5) from nI_add i 5]; exact vp_in_nI (by omega) (by omega)), trivial⟩ ?_
  refine fV.callV (M2 := mX7_wall) (d := 20) (o := 0) (av := [.int (xs ((nI i) + 1).toNatClampNeg), .int (xs ((nI i) + 2).toNatClampNeg), .int (xs ((nI i) + 3).toNatClampNeg), .int (xs ((nI i) + 4).toNatClampNeg), .int (xs ((nI i) + 5).toNatClampNeg)]) (rest := []) kX7_wall dL_law_179 lL_18 rfl rfl rfl (Nat.le_of_ble_eq_true rfl) ⟨Nat.le_of_ble_eq_true rfl, Nat.le_of_ble_eq_true rfl⟩ ⟨Nat.le_refl _, Nat.le_refl _⟩ (qX7_wall _ _ _ _ _ k7.2.1.1 k7.2.1.2) ?_
  rintro _ S1 ⟨rfl, h1, z1, g1⟩
  have hDS : hD S1 = hC S := (hD_of z1).trans I.1.symm
  have H8 : hOk (hD S1) a b c e := by rw [hDS]; exact H
  have k8 := cntD H8
  refine fV.to (pc' := 182) (L' := [(0, .ref 99), (1, .ref 0), (2, .ref 35), (3, .int (nI i))]) (st' := [.int ((oWall (hC S) (xs ((nI i) + 1).toNatClampNeg) (xs ((nI i) + 2).toNatClampNeg) (xs ((nI i) + 3).toNatClampNeg) (xs ((nI i) + 4).toNatClampNeg) (xs ((nI i) + 5).toNatClampNeg)).1)]) (S' := S1) rfl rfl rfl rfl ?_
  refine fV.run iL_law_182_26 oL_law_182_26 (pc' := 208) (L' := [(0, .ref 99), (1, .ref 0), (2, .ref 35), (3, .int (nI i))]) (st' := [.int (xs ((nI i) + 5).toNatClampNeg), .int (xs ((nI i) + 4).toNatClampNeg), .int (xs ((nI i) + 3).toNatClampNeg), .int (xs ((nI i) + 2).toNatClampNeg), .int (xs ((nI i) + 1).toNatClampNeg), .ref 35, .int ((oWall (hC S) (xs ((nI i) + 1).toNatClampNeg) (xs ((nI i) + 2).toNatClampNeg) (xs ((nI i) + 3).toNatClampNeg) (xs ((nI i) + 4).toNatClampNeg) (xs ((nI i) + 5).toNatClampNeg)).1)]) (S' := S1) (P := vp_in ((nI i) + 1) xl ∧ vp_in ((nI i) + 2) xl ∧ vp_in ((nI i) + 3) xl ∧ vp_in ((nI i) + 4) xl ∧ vp_in ((nI i) + 5) xl ∧ True) rfl ⟨(by rw [show (nI i + 1 : Int32) = nI (i + 1) from nI_add i 1]; exact vp_in_nI (by omega) (by omega)), (by rw [show (nI i + 2 : Int32) = nI (i + 2) from nI_add i 2]; exact vp_in_nI (by omega) (by omega)), (by rw [show (nI i + 3 : Int32) = nI (i + 3) from nI_add i 3]; exact vp_in_nI (by omega) (by omega)), (by rw [show (nI i + 4 : Int32) = nI (i + 4) from nI_add i 4]; exact vp_in_nI (by omega) (by omega)), (by rw [show (nI i + 5 : Int32) = nI (i + 5) from nI_add i 5]; exact vp_in_nI (by omega) (by omega)), trivial⟩ ?_
  refine fV.callV (M2 := mX8_wall) (d := 20) (o := 35) (av := [.int (xs ((nI i) + 1).toNatClampNeg), .int (xs ((nI i) + 2).toNatClampNeg), .int (xs ((nI i) + 3).toNatClampNeg), .int (xs ((nI i) + 4).toNatClampNeg), .int (xs ((nI i) + 5).toNatClampNeg)]) (rest := [.int ((oWall (hC S) (xs ((nI i) + 1).toNatClampNeg) (xs ((nI i) + 2).toNatClampNeg) (xs ((nI i) + 3).toNatClampNeg) (xs ((nI i) + 4).toNatClampNeg) (xs ((nI i) + 5).toNatClampNeg)).1)]) kX8_wall dL_law_208 lL_22 rfl rfl rfl (Nat.le_of_ble_eq_true rfl) ⟨Nat.le_of_ble_eq_true rfl, Nat.le_of_ble_eq_true rfl⟩ ⟨Nat.le_refl _, Nat.le_refl _⟩ (qX8_wall (S := S1) _ _ _ _ _ k8.1.1 k8.1.2 k8.2.1.1 k8.2.1.2 k8.2.2.1.1 k8.2.2.1.2 k8.2.2.2.1 k8.2.2.2.2) ?_
  rintro _ S2 ⟨rfl, h2, z2⟩
  rw [hDS] at h2
  refine fV.to (pc' := 211) (L' := [(0, .ref 99), (1, .ref 0), (2, .ref 35), (3, .int (nI i))]) (st' := [.int ((oWall (hD S1) (xs ((nI i) + 1).toNatClampNeg) (xs ((nI i) + 2).toNatClampNeg) (xs ((nI i) + 3).toNatClampNeg) (xs ((nI i) + 4).toNatClampNeg) (xs ((nI i) + 5).toNatClampNeg)).1), .int ((oWall (hC S) (xs ((nI i) + 1).toNatClampNeg) (xs ((nI i) + 2).toNatClampNeg) (xs ((nI i) + 3).toNatClampNeg) (xs ((nI i) + 4).toNatClampNeg) (xs ((nI i) + 5).toNatClampNeg)).1)]) (S' := S2) rfl rfl rfl rfl ?_
  refine fV.icmp_eq bL_law_211 (fun c211 => ?_) (fun c211 => ?_)
  · exact kk S2 (lI_step (hk_wall I.2.1 _ _ _ _ _) h1 h2 z2 (geo_wall I g1))
  · exact absurd c211 (fun z => z (by rw [hDS]))
def iL_law_216_11 : List Instr := [.aload_n 1, .aload_n 0, .iload_n 3, .iconst 1, .iadd, .iaload, .aload_n 0, .iload_n 3, .iconst 2, .iadd, .iaload]
theorem oL_law_216_11 : fOkB cL_law 216 iL_law_216_11 = true := by decide +kernel
set_option maxRecDepth 100000 in
theorem lL_23 : Cond.methodLink RL 23 yX7_cover ∈ fTB := fTB_at 349 rfl rfl
theorem dL_law_227 : decode cL_law 227 = .ok (.invokevirtual 23, 3) := by decide +kernel
def iL_law_230_11 : List Instr := [.aload_n 2, .aload_n 0, .iload_n 3, .iconst 1, .iadd, .iaload, .aload_n 0, .iload_n 3, .iconst 2, .iadd, .iaload]
theorem oL_law_230_11 : fOkB cL_law 230 iL_law_230_11 = true := by decide +kernel
set_option maxRecDepth 100000 in
theorem lL_26 : Cond.methodLink RL 26 yX8_cover ∈ fTB := fTB_at 727 rfl rfl
theorem dL_law_241 : decode cL_law 241 = .ok (.invokevirtual 26, 3) := by decide +kernel
theorem bL_law_244 : fBk cL_law 244 (.if_icmp .eq) 878 := ⟨634, by decide +kernel, by decide⟩
set_option maxRecDepth 100000 in
theorem lw_cover {G : fG} {b0 xl i : Nat} {xs : Nat → Int32} {S : fS} (I : lI S) (hi : i + 6 ≤ xl) (hxl : xl ≤ 3072) (kk : ∀ S2, lI S2 → fV G mL_law (fZl b0 xl xs) 878 [(0, .ref 99), (1, .ref 0), (2, .ref 35), (3, .int (nI i))] [] S2) : fV G mL_law (fZl b0 xl xs) 216 [(0, .ref 99), (1, .ref 0), (2, .ref 35), (3, .int (nI i))] [] S := by
  obtain ⟨a, b, c, e, H⟩ := I.2.1
  have HG := lI_b I H
  have k7 := cnt H
  refine fV.run iL_law_216_11 oL_law_216_11 (pc' := 227) (L' := [(0, .ref 99), (1, .ref 0), (2, .ref 35), (3, .int (nI i))]) (st' := [.int (xs ((nI i) + 2).toNatClampNeg), .int (xs ((nI i) + 1).toNatClampNeg), .ref 0]) (S' := S) (P := vp_in ((nI i) + 1) xl ∧ vp_in ((nI i) + 2) xl ∧ True) rfl ⟨(by rw [show (nI i + 1 : Int32) = nI (i + 1) from nI_add i 1]; exact vp_in_nI (by omega) (by omega)), (by rw [show (nI i + 2 : Int32) = nI (i + 2) from nI_add i 2]; exact vp_in_nI (by omega) (by omega)), trivial⟩ ?_
  refine fV.callV (M2 := mX7_cover) (d := 20) (o := 0) (av := [.int (xs ((nI i) + 1).toNatClampNeg), .int (xs ((nI i) + 2).toNatClampNeg)]) (rest := []) kX7_cover dL_law_227 lL_23 rfl rfl rfl (Nat.le_of_ble_eq_true rfl) ⟨Nat.le_of_ble_eq_true rfl, Nat.le_of_ble_eq_true rfl⟩ ⟨Nat.le_refl _, Nat.le_refl _⟩ (qX7_cover _ _ k7.2.1.1 k7.2.1.2) ?_
  rintro _ S1 ⟨rfl, h1, z1, g1⟩
  have hDS : hD S1 = hC S := (hD_of z1).trans I.1.symm
  have H8 : hOk (hD S1) a b c e := by rw [hDS]; exact H
  have k8 := cntD H8
  refine fV.to (pc' := 230) (L' := [(0, .ref 99), (1, .ref 0), (2, .ref 35), (3, .int (nI i))]) (st' := [.int ((oCover (hC S) (xs ((nI i) + 1).toNatClampNeg) (xs ((nI i) + 2).toNatClampNeg)).1)]) (S' := S1) rfl rfl rfl rfl ?_
  refine fV.run iL_law_230_11 oL_law_230_11 (pc' := 241) (L' := [(0, .ref 99), (1, .ref 0), (2, .ref 35), (3, .int (nI i))]) (st' := [.int (xs ((nI i) + 2).toNatClampNeg), .int (xs ((nI i) + 1).toNatClampNeg), .ref 35, .int ((oCover (hC S) (xs ((nI i) + 1).toNatClampNeg) (xs ((nI i) + 2).toNatClampNeg)).1)]) (S' := S1) (P := vp_in ((nI i) + 1) xl ∧ vp_in ((nI i) + 2) xl ∧ True) rfl ⟨(by rw [show (nI i + 1 : Int32) = nI (i + 1) from nI_add i 1]; exact vp_in_nI (by omega) (by omega)), (by rw [show (nI i + 2 : Int32) = nI (i + 2) from nI_add i 2]; exact vp_in_nI (by omega) (by omega)), trivial⟩ ?_
  refine fV.callV (M2 := mX8_cover) (d := 20) (o := 35) (av := [.int (xs ((nI i) + 1).toNatClampNeg), .int (xs ((nI i) + 2).toNatClampNeg)]) (rest := [.int ((oCover (hC S) (xs ((nI i) + 1).toNatClampNeg) (xs ((nI i) + 2).toNatClampNeg)).1)]) kX8_cover dL_law_241 lL_26 rfl rfl rfl (Nat.le_of_ble_eq_true rfl) ⟨Nat.le_of_ble_eq_true rfl, Nat.le_of_ble_eq_true rfl⟩ ⟨Nat.le_refl _, Nat.le_refl _⟩ (qX8_cover (S := S1) _ _ k8.1.1 k8.1.2 k8.2.1.1 k8.2.1.2 k8.2.2.1.1 k8.2.2.1.2 k8.2.2.2.1 k8.2.2.2.2) ?_
  rintro _ S2 ⟨rfl, h2, z2⟩
  rw [hDS] at h2
  refine fV.to (pc' := 244) (L' := [(0, .ref 99), (1, .ref 0), (2, .ref 35), (3, .int (nI i))]) (st' := [.int ((oCover (hD S1) (xs ((nI i) + 1).toNatClampNeg) (xs ((nI i) + 2).toNatClampNeg)).1), .int ((oCover (hC S) (xs ((nI i) + 1).toNatClampNeg) (xs ((nI i) + 2).toNatClampNeg)).1)]) (S' := S2) rfl rfl rfl rfl ?_
  refine fV.icmp_eq bL_law_244 (fun c244 => ?_) (fun c244 => ?_)
  · exact kk S2 (lI_step (hk_cover I.2.1 _ _) h1 h2 z2 (geo_same I h1 (ow_cover _ _ _) g1))
  · exact absurd c244 (fun z => z (by rw [hDS]))
def iL_law_249_1 : List Instr := [.aload_n 1]
theorem oL_law_249_1 : fOkB cL_law 249 iL_law_249_1 = true := by decide +kernel
set_option maxRecDepth 100000 in
theorem lL_27 : Cond.methodLink RL 27 yX7_back ∈ fTB := fTB_at 357 rfl rfl
theorem dL_law_250 : decode cL_law 250 = .ok (.invokevirtual 27, 3) := by decide +kernel
def iL_law_253_1 : List Instr := [.aload_n 2]
theorem oL_law_253_1 : fOkB cL_law 253 iL_law_253_1 = true := by decide +kernel
set_option maxRecDepth 100000 in
theorem lL_31 : Cond.methodLink RL 31 yX8_back ∈ fTB := fTB_at 735 rfl rfl
theorem dL_law_254 : decode cL_law 254 = .ok (.invokevirtual 31, 3) := by decide +kernel
theorem bL_law_257 : fBk cL_law 257 (.if_icmp .eq) 878 := ⟨621, by decide +kernel, by decide⟩
set_option maxRecDepth 100000 in
theorem lw_back {G : fG} {b0 xl i : Nat} {xs : Nat → Int32} {S : fS} (I : lI S) (hi : i + 6 ≤ xl) (hxl : xl ≤ 3072) (kk : ∀ S2, lI S2 → fV G mL_law (fZl b0 xl xs) 878 [(0, .ref 99), (1, .ref 0), (2, .ref 35), (3, .int (nI i))] [] S2) : fV G mL_law (fZl b0 xl xs) 249 [(0, .ref 99), (1, .ref 0), (2, .ref 35), (3, .int (nI i))] [] S := by
  obtain ⟨a, b, c, e, H⟩ := I.2.1
  have HG := lI_b I H
  have k7 := cnt H
  refine fV.run iL_law_249_1 oL_law_249_1 (pc' := 250) (L' := [(0, .ref 99), (1, .ref 0), (2, .ref 35), (3, .int (nI i))]) (st' := [.ref 0]) (S' := S) rfl trivial ?_
  refine fV.callV (M2 := mX7_back) (d := 20) (o := 0) (av := []) (rest := []) kX7_back dL_law_250 lL_27 rfl rfl rfl (Nat.le_of_ble_eq_true rfl) ⟨Nat.le_of_ble_eq_true rfl, Nat.le_of_ble_eq_true rfl⟩ ⟨Nat.le_refl _, Nat.le_refl _⟩ (qX7_back) ?_
  rintro _ S1 ⟨rfl, h1, z1, g1⟩
  have hDS : hD S1 = hC S := (hD_of z1).trans I.1.symm
  have H8 : hOk (hD S1) a b c e := by rw [hDS]; exact H
  have k8 := cntD H8
  refine fV.to (pc' := 253) (L' := [(0, .ref 99), (1, .ref 0), (2, .ref 35), (3, .int (nI i))]) (st' := [.int ((oBack (hC S) ).1)]) (S' := S1) rfl rfl rfl rfl ?_
  refine fV.run iL_law_253_1 oL_law_253_1 (pc' := 254) (L' := [(0, .ref 99), (1, .ref 0), (2, .ref 35), (3, .int (nI i))]) (st' := [.ref 35, .int ((oBack (hC S) ).1)]) (S' := S1) rfl trivial ?_
  refine fV.callV (M2 := mX8_back) (d := 20) (o := 35) (av := []) (rest := [.int ((oBack (hC S) ).1)]) kX8_back dL_law_254 lL_31 rfl rfl rfl (Nat.le_of_ble_eq_true rfl) ⟨Nat.le_of_ble_eq_true rfl, Nat.le_of_ble_eq_true rfl⟩ ⟨Nat.le_refl _, Nat.le_refl _⟩ (qX8_back (S := S1)) ?_
  rintro _ S2 ⟨rfl, h2, z2⟩
  rw [hDS] at h2
  refine fV.to (pc' := 257) (L' := [(0, .ref 99), (1, .ref 0), (2, .ref 35), (3, .int (nI i))]) (st' := [.int ((oBack (hD S1) ).1), .int ((oBack (hC S) ).1)]) (S' := S2) rfl rfl rfl rfl ?_
  refine fV.icmp_eq bL_law_257 (fun c257 => ?_) (fun c257 => ?_)
  · exact kk S2 (lI_step (hk_back I.2.1) h1 h2 z2 (geo_back I h1 g1))
  · exact absurd c257 (fun z => z (by rw [hDS]))
def iL_law_262_16 : List Instr := [.aload_n 1, .aload_n 0, .iload_n 3, .iconst 1, .iadd, .iaload, .aload_n 0, .iload_n 3, .iconst 2, .iadd, .iaload, .aload_n 0, .iload_n 3, .iconst 3, .iadd, .iaload]
theorem oL_law_262_16 : fOkB cL_law 262 iL_law_262_16 = true := by decide +kernel
set_option maxRecDepth 100000 in
theorem lL_32 : Cond.methodLink RL 32 yX7_source ∈ fTB := fTB_at 361 rfl rfl
theorem dL_law_278 : decode cL_law 278 = .ok (.invokevirtual 32, 3) := by decide +kernel
def iL_law_281_16 : List Instr := [.aload_n 2, .aload_n 0, .iload_n 3, .iconst 1, .iadd, .iaload, .aload_n 0, .iload_n 3, .iconst 2, .iadd, .iaload, .aload_n 0, .iload_n 3, .iconst 3, .iadd, .iaload]
theorem oL_law_281_16 : fOkB cL_law 281 iL_law_281_16 = true := by decide +kernel
set_option maxRecDepth 100000 in
theorem lL_36 : Cond.methodLink RL 36 yX8_source ∈ fTB := fTB_at 739 rfl rfl
theorem dL_law_297 : decode cL_law 297 = .ok (.invokevirtual 36, 3) := by decide +kernel
theorem bL_law_300 : fBk cL_law 300 (.if_icmp .eq) 878 := ⟨578, by decide +kernel, by decide⟩
set_option maxRecDepth 100000 in
theorem lw_source {G : fG} {b0 xl i : Nat} {xs : Nat → Int32} {S : fS} (I : lI S) (hi : i + 6 ≤ xl) (hxl : xl ≤ 3072) (kk : ∀ S2, lI S2 → fV G mL_law (fZl b0 xl xs) 878 [(0, .ref 99), (1, .ref 0), (2, .ref 35), (3, .int (nI i))] [] S2) : fV G mL_law (fZl b0 xl xs) 262 [(0, .ref 99), (1, .ref 0), (2, .ref 35), (3, .int (nI i))] [] S := by
  obtain ⟨a, b, c, e, H⟩ := I.2.1
  have HG := lI_b I H
  have k7 := cnt H
  refine fV.run iL_law_262_16 oL_law_262_16 (pc' := 278) (L' := [(0, .ref 99), (1, .ref 0), (2, .ref 35), (3, .int (nI i))]) (st' := [.int (xs ((nI i) + 3).toNatClampNeg), .int (xs ((nI i) + 2).toNatClampNeg), .int (xs ((nI i) + 1).toNatClampNeg), .ref 0]) (S' := S) (P := vp_in ((nI i) + 1) xl ∧ vp_in ((nI i) + 2) xl ∧ vp_in ((nI i) + 3) xl ∧ True) rfl ⟨(by rw [show (nI i + 1 : Int32) = nI (i + 1) from nI_add i 1]; exact vp_in_nI (by omega) (by omega)), (by rw [show (nI i + 2 : Int32) = nI (i + 2) from nI_add i 2]; exact vp_in_nI (by omega) (by omega)), (by rw [show (nI i + 3 : Int32) = nI (i + 3) from nI_add i 3]; exact vp_in_nI (by omega) (by omega)), trivial⟩ ?_
  refine fV.callV (M2 := mX7_source) (d := 20) (o := 0) (av := [.int (xs ((nI i) + 1).toNatClampNeg), .int (xs ((nI i) + 2).toNatClampNeg), .int (xs ((nI i) + 3).toNatClampNeg)]) (rest := []) kX7_source dL_law_278 lL_32 rfl rfl rfl (Nat.le_of_ble_eq_true rfl) ⟨Nat.le_of_ble_eq_true rfl, Nat.le_of_ble_eq_true rfl⟩ ⟨Nat.le_refl _, Nat.le_refl _⟩ (qX7_source _ _ _ k7.2.2.1.1 k7.2.2.1.2) ?_
  rintro _ S1 ⟨rfl, h1, z1, g1⟩
  have hDS : hD S1 = hC S := (hD_of z1).trans I.1.symm
  have H8 : hOk (hD S1) a b c e := by rw [hDS]; exact H
  have k8 := cntD H8
  refine fV.to (pc' := 281) (L' := [(0, .ref 99), (1, .ref 0), (2, .ref 35), (3, .int (nI i))]) (st' := [.int ((oSource (hC S) (xs ((nI i) + 1).toNatClampNeg) (xs ((nI i) + 2).toNatClampNeg) (xs ((nI i) + 3).toNatClampNeg)).1)]) (S' := S1) rfl rfl rfl rfl ?_
  refine fV.run iL_law_281_16 oL_law_281_16 (pc' := 297) (L' := [(0, .ref 99), (1, .ref 0), (2, .ref 35), (3, .int (nI i))]) (st' := [.int (xs ((nI i) + 3).toNatClampNeg), .int (xs ((nI i) + 2).toNatClampNeg), .int (xs ((nI i) + 1).toNatClampNeg), .ref 35, .int ((oSource (hC S) (xs ((nI i) + 1).toNatClampNeg) (xs ((nI i) + 2).toNatClampNeg) (xs ((nI i) + 3).toNatClampNeg)).1)]) (S' := S1) (P := vp_in ((nI i) + 1) xl ∧ vp_in ((nI i) + 2) xl ∧ vp_in ((nI i) + 3) xl ∧ True) rfl ⟨(by rw [show (nI i + 1 : Int32) = nI (i + 1) from nI_add i 1]; exact vp_in_nI (by omega) (by omega)), (by rw [show (nI i + 2 : Int32) = nI (i + 2) from nI_add i 2]; exact vp_in_nI (by omega) (by omega)), (by rw [show (nI i + 3 : Int32) = nI (i + 3) from nI_add i 3]; exact vp_in_nI (by omega) (by omega)), trivial⟩ ?_
  refine fV.callV (M2 := mX8_source) (d := 20) (o := 35) (av := [.int (xs ((nI i) + 1).toNatClampNeg), .int (xs ((nI i) + 2).toNatClampNeg), .int (xs ((nI i) + 3).toNatClampNeg)]) (rest := [.int ((oSource (hC S) (xs ((nI i) + 1).toNatClampNeg) (xs ((nI i) + 2).toNatClampNeg) (xs ((nI i) + 3).toNatClampNeg)).1)]) kX8_source dL_law_297 lL_36 rfl rfl rfl (Nat.le_of_ble_eq_true rfl) ⟨Nat.le_of_ble_eq_true rfl, Nat.le_of_ble_eq_true rfl⟩ ⟨Nat.le_refl _, Nat.le_refl _⟩ (qX8_source (S := S1) _ _ _ k8.1.1 k8.1.2 k8.2.1.1 k8.2.1.2 k8.2.2.1.1 k8.2.2.1.2 k8.2.2.2.1 k8.2.2.2.2) ?_
  rintro _ S2 ⟨rfl, h2, z2⟩
  rw [hDS] at h2
  refine fV.to (pc' := 300) (L' := [(0, .ref 99), (1, .ref 0), (2, .ref 35), (3, .int (nI i))]) (st' := [.int ((oSource (hD S1) (xs ((nI i) + 1).toNatClampNeg) (xs ((nI i) + 2).toNatClampNeg) (xs ((nI i) + 3).toNatClampNeg)).1), .int ((oSource (hC S) (xs ((nI i) + 1).toNatClampNeg) (xs ((nI i) + 2).toNatClampNeg) (xs ((nI i) + 3).toNatClampNeg)).1)]) (S' := S2) rfl rfl rfl rfl ?_
  refine fV.icmp_eq bL_law_300 (fun c300 => ?_) (fun c300 => ?_)
  · exact kk S2 (lI_step (hk_source I.2.1 _ _ _) h1 h2 z2 (geo_same I h1 (ow_source _ _ _ _) g1))
  · exact absurd c300 (fun z => z (by rw [hDS]))
def iL_law_305_11 : List Instr := [.aload_n 1, .aload_n 0, .iload_n 3, .iconst 1, .iadd, .iaload, .aload_n 0, .iload_n 3, .iconst 2, .iadd, .iaload]
theorem oL_law_305_11 : fOkB cL_law 305 iL_law_305_11 = true := by decide +kernel
set_option maxRecDepth 100000 in
theorem lL_37 : Cond.methodLink RL 37 yX7_seat ∈ fTB := fTB_at 377 rfl rfl
theorem dL_law_316 : decode cL_law 316 = .ok (.invokevirtual 37, 3) := by decide +kernel
def iL_law_319_11 : List Instr := [.aload_n 2, .aload_n 0, .iload_n 3, .iconst 1, .iadd, .iaload, .aload_n 0, .iload_n 3, .iconst 2, .iadd, .iaload]
theorem oL_law_319_11 : fOkB cL_law 319 iL_law_319_11 = true := by decide +kernel
set_option maxRecDepth 100000 in
theorem lL_40 : Cond.methodLink RL 40 yX8_seat ∈ fTB := fTB_at 743 rfl rfl
theorem dL_law_330 : decode cL_law 330 = .ok (.invokevirtual 40, 3) := by decide +kernel
theorem bL_law_333 : fBk cL_law 333 (.if_icmp .eq) 878 := ⟨545, by decide +kernel, by decide⟩
set_option maxRecDepth 100000 in
theorem lw_seat {G : fG} {b0 xl i : Nat} {xs : Nat → Int32} {S : fS} (I : lI S) (hi : i + 6 ≤ xl) (hxl : xl ≤ 3072) (kk : ∀ S2, lI S2 → fV G mL_law (fZl b0 xl xs) 878 [(0, .ref 99), (1, .ref 0), (2, .ref 35), (3, .int (nI i))] [] S2) : fV G mL_law (fZl b0 xl xs) 305 [(0, .ref 99), (1, .ref 0), (2, .ref 35), (3, .int (nI i))] [] S := by
  obtain ⟨a, b, c, e, H⟩ := I.2.1
  have HG := lI_b I H
  have k7 := cnt H
  refine fV.run iL_law_305_11 oL_law_305_11 (pc' := 316) (L' := [(0, .ref 99), (1, .ref 0), (2, .ref 35), (3, .int (nI i))]) (st' := [.int (xs ((nI i) + 2).toNatClampNeg), .int (xs ((nI i) + 1).toNatClampNeg), .ref 0]) (S' := S) (P := vp_in ((nI i) + 1) xl ∧ vp_in ((nI i) + 2) xl ∧ True) rfl ⟨(by rw [show (nI i + 1 : Int32) = nI (i + 1) from nI_add i 1]; exact vp_in_nI (by omega) (by omega)), (by rw [show (nI i + 2 : Int32) = nI (i + 2) from nI_add i 2]; exact vp_in_nI (by omega) (by omega)), trivial⟩ ?_
  refine fV.callV (M2 := mX7_seat) (d := 20) (o := 0) (av := [.int (xs ((nI i) + 1).toNatClampNeg), .int (xs ((nI i) + 2).toNatClampNeg)]) (rest := []) kX7_seat dL_law_316 lL_37 rfl rfl rfl (Nat.le_of_ble_eq_true rfl) ⟨Nat.le_of_ble_eq_true rfl, Nat.le_of_ble_eq_true rfl⟩ ⟨Nat.le_refl _, Nat.le_refl _⟩ (qX7_seat _ _ k7.2.2.2.1 k7.2.2.2.2) ?_
  rintro _ S1 ⟨rfl, h1, z1, g1⟩
  have hDS : hD S1 = hC S := (hD_of z1).trans I.1.symm
  have H8 : hOk (hD S1) a b c e := by rw [hDS]; exact H
  have k8 := cntD H8
  refine fV.to (pc' := 319) (L' := [(0, .ref 99), (1, .ref 0), (2, .ref 35), (3, .int (nI i))]) (st' := [.int ((oSeat (hC S) (xs ((nI i) + 1).toNatClampNeg) (xs ((nI i) + 2).toNatClampNeg)).1)]) (S' := S1) rfl rfl rfl rfl ?_
  refine fV.run iL_law_319_11 oL_law_319_11 (pc' := 330) (L' := [(0, .ref 99), (1, .ref 0), (2, .ref 35), (3, .int (nI i))]) (st' := [.int (xs ((nI i) + 2).toNatClampNeg), .int (xs ((nI i) + 1).toNatClampNeg), .ref 35, .int ((oSeat (hC S) (xs ((nI i) + 1).toNatClampNeg) (xs ((nI i) + 2).toNatClampNeg)).1)]) (S' := S1) (P := vp_in ((nI i) + 1) xl ∧ vp_in ((nI i) + 2) xl ∧ True) rfl ⟨(by rw [show (nI i + 1 : Int32) = nI (i + 1) from nI_add i 1]; exact vp_in_nI (by omega) (by omega)), (by rw [show (nI i + 2 : Int32) = nI (i + 2) from nI_add i 2]; exact vp_in_nI (by omega) (by omega)), trivial⟩ ?_
  refine fV.callV (M2 := mX8_seat) (d := 20) (o := 35) (av := [.int (xs ((nI i) + 1).toNatClampNeg), .int (xs ((nI i) + 2).toNatClampNeg)]) (rest := [.int ((oSeat (hC S) (xs ((nI i) + 1).toNatClampNeg) (xs ((nI i) + 2).toNatClampNeg)).1)]) kX8_seat dL_law_330 lL_40 rfl rfl rfl (Nat.le_of_ble_eq_true rfl) ⟨Nat.le_of_ble_eq_true rfl, Nat.le_of_ble_eq_true rfl⟩ ⟨Nat.le_refl _, Nat.le_refl _⟩ (qX8_seat (S := S1) _ _ k8.1.1 k8.1.2 k8.2.1.1 k8.2.1.2 k8.2.2.1.1 k8.2.2.1.2 k8.2.2.2.1 k8.2.2.2.2) ?_
  rintro _ S2 ⟨rfl, h2, z2⟩
  rw [hDS] at h2
  refine fV.to (pc' := 333) (L' := [(0, .ref 99), (1, .ref 0), (2, .ref 35), (3, .int (nI i))]) (st' := [.int ((oSeat (hD S1) (xs ((nI i) + 1).toNatClampNeg) (xs ((nI i) + 2).toNatClampNeg)).1), .int ((oSeat (hC S) (xs ((nI i) + 1).toNatClampNeg) (xs ((nI i) + 2).toNatClampNeg)).1)]) (S' := S2) rfl rfl rfl rfl ?_
  refine fV.icmp_eq bL_law_333 (fun c333 => ?_) (fun c333 => ?_)
  · exact kk S2 (lI_step (hk_seat I.2.1 _ _) h1 h2 z2 (geo_same I h1 (ow_seat _ _ _) g1))
  · exact absurd c333 (fun z => z (by rw [hDS]))
def iL_law_338_21 : List Instr := [.aload_n 1, .aload_n 0, .iload_n 3, .iconst 1, .iadd, .iaload, .aload_n 0, .iload_n 3, .iconst 2, .iadd, .iaload, .aload_n 0, .iload_n 3, .iconst 3, .iadd, .iaload, .aload_n 0, .iload_n 3, .iconst 4, .iadd, .iaload]
theorem oL_law_338_21 : fOkB cL_law 338 iL_law_338_21 = true := by decide +kernel
set_option maxRecDepth 100000 in
theorem lL_41 : Cond.methodLink RL 41 yX7_move ∈ fTB := fTB_at 381 rfl rfl
theorem dL_law_359 : decode cL_law 359 = .ok (.invokevirtual 41, 3) := by decide +kernel
def iL_law_362_21 : List Instr := [.aload_n 2, .aload_n 0, .iload_n 3, .iconst 1, .iadd, .iaload, .aload_n 0, .iload_n 3, .iconst 2, .iadd, .iaload, .aload_n 0, .iload_n 3, .iconst 3, .iadd, .iaload, .aload_n 0, .iload_n 3, .iconst 4, .iadd, .iaload]
theorem oL_law_362_21 : fOkB cL_law 362 iL_law_362_21 = true := by decide +kernel
set_option maxRecDepth 100000 in
theorem lL_45 : Cond.methodLink RL 45 yX8_move ∈ fTB := fTB_at 747 rfl rfl
theorem dL_law_383 : decode cL_law 383 = .ok (.invokevirtual 45, 3) := by decide +kernel
theorem bL_law_386 : fBk cL_law 386 (.if_icmp .eq) 878 := ⟨492, by decide +kernel, by decide⟩
set_option maxRecDepth 100000 in
theorem lw_move {G : fG} {b0 xl i : Nat} {xs : Nat → Int32} {S : fS} (I : lI S) (hi : i + 6 ≤ xl) (hxl : xl ≤ 3072) (kk : ∀ S2, lI S2 → fV G mL_law (fZl b0 xl xs) 878 [(0, .ref 99), (1, .ref 0), (2, .ref 35), (3, .int (nI i))] [] S2) : fV G mL_law (fZl b0 xl xs) 338 [(0, .ref 99), (1, .ref 0), (2, .ref 35), (3, .int (nI i))] [] S := by
  obtain ⟨a, b, c, e, H⟩ := I.2.1
  have HG := lI_b I H
  have k7 := cnt H
  refine fV.run iL_law_338_21 oL_law_338_21 (pc' := 359) (L' := [(0, .ref 99), (1, .ref 0), (2, .ref 35), (3, .int (nI i))]) (st' := [.int (xs ((nI i) + 4).toNatClampNeg), .int (xs ((nI i) + 3).toNatClampNeg), .int (xs ((nI i) + 2).toNatClampNeg), .int (xs ((nI i) + 1).toNatClampNeg), .ref 0]) (S' := S) (P := vp_in ((nI i) + 1) xl ∧ vp_in ((nI i) + 2) xl ∧ vp_in ((nI i) + 3) xl ∧ vp_in ((nI i) + 4) xl ∧ True) rfl ⟨(by rw [show (nI i + 1 : Int32) = nI (i + 1) from nI_add i 1]; exact vp_in_nI (by omega) (by omega)), (by rw [show (nI i + 2 : Int32) = nI (i + 2) from nI_add i 2]; exact vp_in_nI (by omega) (by omega)), (by rw [show (nI i + 3 : Int32) = nI (i + 3) from nI_add i 3]; exact vp_in_nI (by omega) (by omega)), (by rw [show (nI i + 4 : Int32) = nI (i + 4) from nI_add i 4]; exact vp_in_nI (by omega) (by omega)), trivial⟩ ?_
  refine fV.callV (M2 := mX7_move) (d := 20) (o := 0) (av := [.int (xs ((nI i) + 1).toNatClampNeg), .int (xs ((nI i) + 2).toNatClampNeg), .int (xs ((nI i) + 3).toNatClampNeg), .int (xs ((nI i) + 4).toNatClampNeg)]) (rest := []) kX7_move dL_law_359 lL_41 rfl rfl rfl (Nat.le_of_ble_eq_true rfl) ⟨Nat.le_of_ble_eq_true rfl, Nat.le_of_ble_eq_true rfl⟩ ⟨Nat.le_refl _, Nat.le_refl _⟩ (qX7_move _ _ _ _ k7.2.2.1.2 k7.2.2.2.2) ?_
  rintro _ S1 ⟨rfl, h1, z1, g1⟩
  have hDS : hD S1 = hC S := (hD_of z1).trans I.1.symm
  have H8 : hOk (hD S1) a b c e := by rw [hDS]; exact H
  have k8 := cntD H8
  refine fV.to (pc' := 362) (L' := [(0, .ref 99), (1, .ref 0), (2, .ref 35), (3, .int (nI i))]) (st' := [.int ((oMove (hC S) (xs ((nI i) + 1).toNatClampNeg) (xs ((nI i) + 2).toNatClampNeg) (xs ((nI i) + 3).toNatClampNeg) (xs ((nI i) + 4).toNatClampNeg)).1)]) (S' := S1) rfl rfl rfl rfl ?_
  refine fV.run iL_law_362_21 oL_law_362_21 (pc' := 383) (L' := [(0, .ref 99), (1, .ref 0), (2, .ref 35), (3, .int (nI i))]) (st' := [.int (xs ((nI i) + 4).toNatClampNeg), .int (xs ((nI i) + 3).toNatClampNeg), .int (xs ((nI i) + 2).toNatClampNeg), .int (xs ((nI i) + 1).toNatClampNeg), .ref 35, .int ((oMove (hC S) (xs ((nI i) + 1).toNatClampNeg) (xs ((nI i) + 2).toNatClampNeg) (xs ((nI i) + 3).toNatClampNeg) (xs ((nI i) + 4).toNatClampNeg)).1)]) (S' := S1) (P := vp_in ((nI i) + 1) xl ∧ vp_in ((nI i) + 2) xl ∧ vp_in ((nI i) + 3) xl ∧ vp_in ((nI i) + 4) xl ∧ True) rfl ⟨(by rw [show (nI i + 1 : Int32) = nI (i + 1) from nI_add i 1]; exact vp_in_nI (by omega) (by omega)), (by rw [show (nI i + 2 : Int32) = nI (i + 2) from nI_add i 2]; exact vp_in_nI (by omega) (by omega)), (by rw [show (nI i + 3 : Int32) = nI (i + 3) from nI_add i 3]; exact vp_in_nI (by omega) (by omega)), (by rw [show (nI i + 4 : Int32) = nI (i + 4) from nI_add i 4]; exact vp_in_nI (by omega) (by omega)), trivial⟩ ?_
  refine fV.callV (M2 := mX8_move) (d := 20) (o := 35) (av := [.int (xs ((nI i) + 1).toNatClampNeg), .int (xs ((nI i) + 2).toNatClampNeg), .int (xs ((nI i) + 3).toNatClampNeg), .int (xs ((nI i) + 4).toNatClampNeg)]) (rest := [.int ((oMove (hC S) (xs ((nI i) + 1).toNatClampNeg) (xs ((nI i) + 2).toNatClampNeg) (xs ((nI i) + 3).toNatClampNeg) (xs ((nI i) + 4).toNatClampNeg)).1)]) kX8_move dL_law_383 lL_45 rfl rfl rfl (Nat.le_of_ble_eq_true rfl) ⟨Nat.le_of_ble_eq_true rfl, Nat.le_of_ble_eq_true rfl⟩ ⟨Nat.le_refl _, Nat.le_refl _⟩ (qX8_move (S := S1) _ _ _ _ k8.1.1 k8.1.2 k8.2.1.1 k8.2.1.2 k8.2.2.1.1 k8.2.2.1.2 k8.2.2.2.1 k8.2.2.2.2) ?_
  rintro _ S2 ⟨rfl, h2, z2⟩
  rw [hDS] at h2
  refine fV.to (pc' := 386) (L' := [(0, .ref 99), (1, .ref 0), (2, .ref 35), (3, .int (nI i))]) (st' := [.int ((oMove (hD S1) (xs ((nI i) + 1).toNatClampNeg) (xs ((nI i) + 2).toNatClampNeg) (xs ((nI i) + 3).toNatClampNeg) (xs ((nI i) + 4).toNatClampNeg)).1), .int ((oMove (hC S) (xs ((nI i) + 1).toNatClampNeg) (xs ((nI i) + 2).toNatClampNeg) (xs ((nI i) + 3).toNatClampNeg) (xs ((nI i) + 4).toNatClampNeg)).1)]) (S' := S2) rfl rfl rfl rfl ?_
  refine fV.icmp_eq bL_law_386 (fun c386 => ?_) (fun c386 => ?_)
  · exact kk S2 (lI_step (hk_move I.2.1 _ _ _ _) h1 h2 z2 (geo_same I h1 (ow_move _ _ _ _ _) g1))
  · exact absurd c386 (fun z => z (by rw [hDS]))
def iL_law_391_11 : List Instr := [.aload_n 1, .aload_n 0, .iload_n 3, .iconst 1, .iadd, .iaload, .aload_n 0, .iload_n 3, .iconst 2, .iadd, .iaload]
theorem oL_law_391_11 : fOkB cL_law 391 iL_law_391_11 = true := by decide +kernel
set_option maxRecDepth 100000 in
theorem lL_46 : Cond.methodLink RL 46 yX7_rule ∈ fTB := fTB_at 386 rfl rfl
theorem dL_law_402 : decode cL_law 402 = .ok (.invokevirtual 46, 3) := by decide +kernel
def iL_law_405_11 : List Instr := [.aload_n 2, .aload_n 0, .iload_n 3, .iconst 1, .iadd, .iaload, .aload_n 0, .iload_n 3, .iconst 2, .iadd, .iaload]
theorem oL_law_405_11 : fOkB cL_law 405 iL_law_405_11 = true := by decide +kernel
set_option maxRecDepth 100000 in
theorem lL_49 : Cond.methodLink RL 49 yX8_rule ∈ fTB := fTB_at 759 rfl rfl
theorem dL_law_416 : decode cL_law 416 = .ok (.invokevirtual 49, 3) := by decide +kernel
theorem bL_law_419 : fBk cL_law 419 (.if_icmp .eq) 878 := ⟨459, by decide +kernel, by decide⟩
set_option maxRecDepth 100000 in
theorem lw_rule {G : fG} {b0 xl i : Nat} {xs : Nat → Int32} {S : fS} (I : lI S) (hi : i + 6 ≤ xl) (hxl : xl ≤ 3072) (kk : ∀ S2, lI S2 → fV G mL_law (fZl b0 xl xs) 878 [(0, .ref 99), (1, .ref 0), (2, .ref 35), (3, .int (nI i))] [] S2) : fV G mL_law (fZl b0 xl xs) 391 [(0, .ref 99), (1, .ref 0), (2, .ref 35), (3, .int (nI i))] [] S := by
  obtain ⟨a, b, c, e, H⟩ := I.2.1
  have HG := lI_b I H
  have k7 := cnt H
  refine fV.run iL_law_391_11 oL_law_391_11 (pc' := 402) (L' := [(0, .ref 99), (1, .ref 0), (2, .ref 35), (3, .int (nI i))]) (st' := [.int (xs ((nI i) + 2).toNatClampNeg), .int (xs ((nI i) + 1).toNatClampNeg), .ref 0]) (S' := S) (P := vp_in ((nI i) + 1) xl ∧ vp_in ((nI i) + 2) xl ∧ True) rfl ⟨(by rw [show (nI i + 1 : Int32) = nI (i + 1) from nI_add i 1]; exact vp_in_nI (by omega) (by omega)), (by rw [show (nI i + 2 : Int32) = nI (i + 2) from nI_add i 2]; exact vp_in_nI (by omega) (by omega)), trivial⟩ ?_
  refine fV.callV (M2 := mX7_rule) (d := 20) (o := 0) (av := [.int (xs ((nI i) + 1).toNatClampNeg), .int (xs ((nI i) + 2).toNatClampNeg)]) (rest := []) kX7_rule dL_law_402 lL_46 rfl rfl rfl (Nat.le_of_ble_eq_true rfl) ⟨Nat.le_of_ble_eq_true rfl, Nat.le_of_ble_eq_true rfl⟩ ⟨Nat.le_refl _, Nat.le_refl _⟩ (qX7_rule _ _) ?_
  rintro _ S1 ⟨rfl, h1, z1, g1⟩
  have hDS : hD S1 = hC S := (hD_of z1).trans I.1.symm
  have H8 : hOk (hD S1) a b c e := by rw [hDS]; exact H
  have k8 := cntD H8
  refine fV.to (pc' := 405) (L' := [(0, .ref 99), (1, .ref 0), (2, .ref 35), (3, .int (nI i))]) (st' := [.int ((oRule (hC S) (xs ((nI i) + 1).toNatClampNeg) (xs ((nI i) + 2).toNatClampNeg)).1)]) (S' := S1) rfl rfl rfl rfl ?_
  refine fV.run iL_law_405_11 oL_law_405_11 (pc' := 416) (L' := [(0, .ref 99), (1, .ref 0), (2, .ref 35), (3, .int (nI i))]) (st' := [.int (xs ((nI i) + 2).toNatClampNeg), .int (xs ((nI i) + 1).toNatClampNeg), .ref 35, .int ((oRule (hC S) (xs ((nI i) + 1).toNatClampNeg) (xs ((nI i) + 2).toNatClampNeg)).1)]) (S' := S1) (P := vp_in ((nI i) + 1) xl ∧ vp_in ((nI i) + 2) xl ∧ True) rfl ⟨(by rw [show (nI i + 1 : Int32) = nI (i + 1) from nI_add i 1]; exact vp_in_nI (by omega) (by omega)), (by rw [show (nI i + 2 : Int32) = nI (i + 2) from nI_add i 2]; exact vp_in_nI (by omega) (by omega)), trivial⟩ ?_
  refine fV.callV (M2 := mX8_rule) (d := 20) (o := 35) (av := [.int (xs ((nI i) + 1).toNatClampNeg), .int (xs ((nI i) + 2).toNatClampNeg)]) (rest := [.int ((oRule (hC S) (xs ((nI i) + 1).toNatClampNeg) (xs ((nI i) + 2).toNatClampNeg)).1)]) kX8_rule dL_law_416 lL_49 rfl rfl rfl (Nat.le_of_ble_eq_true rfl) ⟨Nat.le_of_ble_eq_true rfl, Nat.le_of_ble_eq_true rfl⟩ ⟨Nat.le_refl _, Nat.le_refl _⟩ (qX8_rule (S := S1) _ _ k8.1.1 k8.1.2 k8.2.1.1 k8.2.1.2 k8.2.2.1.1 k8.2.2.1.2 k8.2.2.2.1 k8.2.2.2.2) ?_
  rintro _ S2 ⟨rfl, h2, z2⟩
  rw [hDS] at h2
  refine fV.to (pc' := 419) (L' := [(0, .ref 99), (1, .ref 0), (2, .ref 35), (3, .int (nI i))]) (st' := [.int ((oRule (hD S1) (xs ((nI i) + 1).toNatClampNeg) (xs ((nI i) + 2).toNatClampNeg)).1), .int ((oRule (hC S) (xs ((nI i) + 1).toNatClampNeg) (xs ((nI i) + 2).toNatClampNeg)).1)]) (S' := S2) rfl rfl rfl rfl ?_
  refine fV.icmp_eq bL_law_419 (fun c419 => ?_) (fun c419 => ?_)
  · exact kk S2 (lI_step (hk_rule I.2.1 _ _) h1 h2 z2 (geo_same I h1 (ow_rule _ _ _) g1))
  · exact absurd c419 (fun z => z (by rw [hDS]))
def iL_law_424_11 : List Instr := [.aload_n 1, .aload_n 0, .iload_n 3, .iconst 1, .iadd, .iaload, .aload_n 0, .iload_n 3, .iconst 2, .iadd, .iaload]
theorem oL_law_424_11 : fOkB cL_law 424 iL_law_424_11 = true := by decide +kernel
set_option maxRecDepth 100000 in
theorem lL_50 : Cond.methodLink RL 50 yX7_told ∈ fTB := fTB_at 390 rfl rfl
theorem dL_law_435 : decode cL_law 435 = .ok (.invokevirtual 50, 3) := by decide +kernel
def iL_law_438_11 : List Instr := [.aload_n 2, .aload_n 0, .iload_n 3, .iconst 1, .iadd, .iaload, .aload_n 0, .iload_n 3, .iconst 2, .iadd, .iaload]
theorem oL_law_438_11 : fOkB cL_law 438 iL_law_438_11 = true := by decide +kernel
set_option maxRecDepth 100000 in
theorem lL_53 : Cond.methodLink RL 53 yX8_told ∈ fTB := fTB_at 764 rfl rfl
theorem dL_law_449 : decode cL_law 449 = .ok (.invokevirtual 53, 3) := by decide +kernel
theorem bL_law_452 : fBk cL_law 452 (.if_icmp .eq) 878 := ⟨426, by decide +kernel, by decide⟩
set_option maxRecDepth 100000 in
theorem lw_told {G : fG} {b0 xl i : Nat} {xs : Nat → Int32} {S : fS} (I : lI S) (hi : i + 6 ≤ xl) (hxl : xl ≤ 3072) (kk : ∀ S2, lI S2 → fV G mL_law (fZl b0 xl xs) 878 [(0, .ref 99), (1, .ref 0), (2, .ref 35), (3, .int (nI i))] [] S2) : fV G mL_law (fZl b0 xl xs) 424 [(0, .ref 99), (1, .ref 0), (2, .ref 35), (3, .int (nI i))] [] S := by
  obtain ⟨a, b, c, e, H⟩ := I.2.1
  have HG := lI_b I H
  have k7 := cnt H
  refine fV.run iL_law_424_11 oL_law_424_11 (pc' := 435) (L' := [(0, .ref 99), (1, .ref 0), (2, .ref 35), (3, .int (nI i))]) (st' := [.int (xs ((nI i) + 2).toNatClampNeg), .int (xs ((nI i) + 1).toNatClampNeg), .ref 0]) (S' := S) (P := vp_in ((nI i) + 1) xl ∧ vp_in ((nI i) + 2) xl ∧ True) rfl ⟨(by rw [show (nI i + 1 : Int32) = nI (i + 1) from nI_add i 1]; exact vp_in_nI (by omega) (by omega)), (by rw [show (nI i + 2 : Int32) = nI (i + 2) from nI_add i 2]; exact vp_in_nI (by omega) (by omega)), trivial⟩ ?_
  refine fV.callV (M2 := mX7_told) (d := 20) (o := 0) (av := [.int (xs ((nI i) + 1).toNatClampNeg), .int (xs ((nI i) + 2).toNatClampNeg)]) (rest := []) kX7_told dL_law_435 lL_50 rfl rfl rfl (Nat.le_of_ble_eq_true rfl) ⟨Nat.le_of_ble_eq_true rfl, Nat.le_of_ble_eq_true rfl⟩ ⟨Nat.le_refl _, Nat.le_refl _⟩ (qX7_told _ _ H HG) ?_
  rintro _ S1 ⟨rfl, h1⟩
  have k1 : kp S S1 := by rw [h1]; exact kp.rf
  have hDS : hD S1 = hC S := (hD_of k1.2.1).trans I.1.symm
  have H8 : hOk (hD S1) a b c e := by rw [hDS]; exact H
  have k8 := cntD H8
  refine fV.to (pc' := 438) (L' := [(0, .ref 99), (1, .ref 0), (2, .ref 35), (3, .int (nI i))]) (st' := [.int (oTold (hC S) (xs ((nI i) + 1).toNatClampNeg) (xs ((nI i) + 2).toNatClampNeg))]) (S' := S1) rfl rfl rfl rfl ?_
  refine fV.run iL_law_438_11 oL_law_438_11 (pc' := 449) (L' := [(0, .ref 99), (1, .ref 0), (2, .ref 35), (3, .int (nI i))]) (st' := [.int (xs ((nI i) + 2).toNatClampNeg), .int (xs ((nI i) + 1).toNatClampNeg), .ref 35, .int (oTold (hC S) (xs ((nI i) + 1).toNatClampNeg) (xs ((nI i) + 2).toNatClampNeg))]) (S' := S1) (P := vp_in ((nI i) + 1) xl ∧ vp_in ((nI i) + 2) xl ∧ True) rfl ⟨(by rw [show (nI i + 1 : Int32) = nI (i + 1) from nI_add i 1]; exact vp_in_nI (by omega) (by omega)), (by rw [show (nI i + 2 : Int32) = nI (i + 2) from nI_add i 2]; exact vp_in_nI (by omega) (by omega)), trivial⟩ ?_
  refine fV.callV (M2 := mX8_told) (d := 20) (o := 35) (av := [.int (xs ((nI i) + 1).toNatClampNeg), .int (xs ((nI i) + 2).toNatClampNeg)]) (rest := [.int (oTold (hC S) (xs ((nI i) + 1).toNatClampNeg) (xs ((nI i) + 2).toNatClampNeg))]) kX8_told dL_law_449 lL_53 rfl rfl rfl (Nat.le_of_ble_eq_true rfl) ⟨Nat.le_of_ble_eq_true rfl, Nat.le_of_ble_eq_true rfl⟩ ⟨Nat.le_refl _, Nat.le_refl _⟩ (qX8_told (S := S1) _ _ H8) ?_
  rintro _ S2 ⟨rfl, h2⟩
  have k2 : ke S1 S2 := by rw [h2]; exact ke.rf
  refine fV.to (pc' := 452) (L' := [(0, .ref 99), (1, .ref 0), (2, .ref 35), (3, .int (nI i))]) (st' := [.int (oTold (hD S1) (xs ((nI i) + 1).toNatClampNeg) (xs ((nI i) + 2).toNatClampNeg)), .int (oTold (hC S) (xs ((nI i) + 1).toNatClampNeg) (xs ((nI i) + 2).toNatClampNeg))]) (S' := S2) rfl rfl rfl rfl ?_
  refine fV.icmp_eq bL_law_452 (fun c452 => ?_) (fun c452 => ?_)
  · exact kk S2 (lI_ask I k1 k2)
  · exact absurd c452 (fun z => z (by rw [hDS]))
def iL_law_457_6 : List Instr := [.aload_n 1, .aload_n 0, .iload_n 3, .iconst 1, .iadd, .iaload]
theorem oL_law_457_6 : fOkB cL_law 457 iL_law_457_6 = true := by decide +kernel
set_option maxRecDepth 100000 in
theorem lL_54 : Cond.methodLink RL 54 yX7_count ∈ fTB := fTB_at 398 rfl rfl
theorem dL_law_463 : decode cL_law 463 = .ok (.invokevirtual 54, 3) := by decide +kernel
def iL_law_466_6 : List Instr := [.aload_n 2, .aload_n 0, .iload_n 3, .iconst 1, .iadd, .iaload]
theorem oL_law_466_6 : fOkB cL_law 466 iL_law_466_6 = true := by decide +kernel
set_option maxRecDepth 100000 in
theorem lL_58 : Cond.methodLink RL 58 yX8_count ∈ fTB := fTB_at 776 rfl rfl
theorem dL_law_472 : decode cL_law 472 = .ok (.invokevirtual 58, 3) := by decide +kernel
theorem bL_law_475 : fBk cL_law 475 (.if_icmp .eq) 878 := ⟨403, by decide +kernel, by decide⟩
set_option maxRecDepth 100000 in
theorem lw_count {G : fG} {b0 xl i : Nat} {xs : Nat → Int32} {S : fS} (I : lI S) (hi : i + 6 ≤ xl) (hxl : xl ≤ 3072) (kk : ∀ S2, lI S2 → fV G mL_law (fZl b0 xl xs) 878 [(0, .ref 99), (1, .ref 0), (2, .ref 35), (3, .int (nI i))] [] S2) : fV G mL_law (fZl b0 xl xs) 457 [(0, .ref 99), (1, .ref 0), (2, .ref 35), (3, .int (nI i))] [] S := by
  obtain ⟨a, b, c, e, H⟩ := I.2.1
  have HG := lI_b I H
  have k7 := cnt H
  refine fV.run iL_law_457_6 oL_law_457_6 (pc' := 463) (L' := [(0, .ref 99), (1, .ref 0), (2, .ref 35), (3, .int (nI i))]) (st' := [.int (xs ((nI i) + 1).toNatClampNeg), .ref 0]) (S' := S) (P := vp_in ((nI i) + 1) xl ∧ True) rfl ⟨(by rw [show (nI i + 1 : Int32) = nI (i + 1) from nI_add i 1]; exact vp_in_nI (by omega) (by omega)), trivial⟩ ?_
  refine fV.callV (M2 := mX7_count) (d := 20) (o := 0) (av := [.int (xs ((nI i) + 1).toNatClampNeg)]) (rest := []) kX7_count dL_law_463 lL_54 rfl rfl rfl (Nat.le_of_ble_eq_true rfl) ⟨Nat.le_of_ble_eq_true rfl, Nat.le_of_ble_eq_true rfl⟩ ⟨Nat.le_refl _, Nat.le_refl _⟩ (qX7_count _ H HG) ?_
  rintro _ S1 ⟨rfl, h1⟩
  have k1 : kp S S1 := by rw [h1]; exact kp.rf
  have hDS : hD S1 = hC S := (hD_of k1.2.1).trans I.1.symm
  have H8 : hOk (hD S1) a b c e := by rw [hDS]; exact H
  have k8 := cntD H8
  refine fV.to (pc' := 466) (L' := [(0, .ref 99), (1, .ref 0), (2, .ref 35), (3, .int (nI i))]) (st' := [.int (oCount (hC S) b (xs ((nI i) + 1).toNatClampNeg))]) (S' := S1) rfl rfl rfl rfl ?_
  refine fV.run iL_law_466_6 oL_law_466_6 (pc' := 472) (L' := [(0, .ref 99), (1, .ref 0), (2, .ref 35), (3, .int (nI i))]) (st' := [.int (xs ((nI i) + 1).toNatClampNeg), .ref 35, .int (oCount (hC S) b (xs ((nI i) + 1).toNatClampNeg))]) (S' := S1) (P := vp_in ((nI i) + 1) xl ∧ True) rfl ⟨(by rw [show (nI i + 1 : Int32) = nI (i + 1) from nI_add i 1]; exact vp_in_nI (by omega) (by omega)), trivial⟩ ?_
  refine fV.callV (M2 := mX8_count) (d := 20) (o := 35) (av := [.int (xs ((nI i) + 1).toNatClampNeg)]) (rest := [.int (oCount (hC S) b (xs ((nI i) + 1).toNatClampNeg))]) kX8_count dL_law_472 lL_58 rfl rfl rfl (Nat.le_of_ble_eq_true rfl) ⟨Nat.le_of_ble_eq_true rfl, Nat.le_of_ble_eq_true rfl⟩ ⟨Nat.le_refl _, Nat.le_refl _⟩ (qX8_count (S := S1) _ H8) ?_
  rintro _ S2 ⟨rfl, h2⟩
  have k2 : ke S1 S2 := by rw [h2]; exact ke.rf
  refine fV.to (pc' := 475) (L' := [(0, .ref 99), (1, .ref 0), (2, .ref 35), (3, .int (nI i))]) (st' := [.int (oCount (hD S1) b (xs ((nI i) + 1).toNatClampNeg)), .int (oCount (hC S) b (xs ((nI i) + 1).toNatClampNeg))]) (S' := S2) rfl rfl rfl rfl ?_
  refine fV.icmp_eq bL_law_475 (fun c475 => ?_) (fun c475 => ?_)
  · exact kk S2 (lI_ask I k1 k2)
  · exact absurd c475 (fun z => z (by rw [hDS]))
def iL_law_480_16 : List Instr := [.aload_n 1, .aload_n 0, .iload_n 3, .iconst 1, .iadd, .iaload, .aload_n 0, .iload_n 3, .iconst 2, .iadd, .iaload, .aload_n 0, .iload_n 3, .iconst 3, .iadd, .iaload]
theorem oL_law_480_16 : fOkB cL_law 480 iL_law_480_16 = true := by decide +kernel
set_option maxRecDepth 100000 in
theorem lL_59 : Cond.methodLink RL 59 yX7_paths ∈ fTB := fTB_at 414 rfl rfl
theorem dL_law_496 : decode cL_law 496 = .ok (.invokevirtual 59, 3) := by decide +kernel
def iL_law_499_16 : List Instr := [.aload_n 2, .aload_n 0, .iload_n 3, .iconst 1, .iadd, .iaload, .aload_n 0, .iload_n 3, .iconst 2, .iadd, .iaload, .aload_n 0, .iload_n 3, .iconst 3, .iadd, .iaload]
theorem oL_law_499_16 : fOkB cL_law 499 iL_law_499_16 = true := by decide +kernel
set_option maxRecDepth 100000 in
theorem lL_62 : Cond.methodLink RL 62 yX8_paths ∈ fTB := fTB_at 792 rfl rfl
theorem dL_law_515 : decode cL_law 515 = .ok (.invokevirtual 62, 3) := by decide +kernel
theorem bL_law_518 : fBk cL_law 518 (.if_icmp .eq) 878 := ⟨360, by decide +kernel, by decide⟩
set_option maxRecDepth 100000 in
theorem lw_paths {G : fG} {b0 xl i : Nat} {xs : Nat → Int32} {S : fS} (I : lI S) (hi : i + 6 ≤ xl) (hxl : xl ≤ 3072) (kk : ∀ S2, lI S2 → fV G mL_law (fZl b0 xl xs) 878 [(0, .ref 99), (1, .ref 0), (2, .ref 35), (3, .int (nI i))] [] S2) : fV G mL_law (fZl b0 xl xs) 480 [(0, .ref 99), (1, .ref 0), (2, .ref 35), (3, .int (nI i))] [] S := by
  obtain ⟨a, b, c, e, H⟩ := I.2.1
  have HG := lI_b I H
  have k7 := cnt H
  refine fV.run iL_law_480_16 oL_law_480_16 (pc' := 496) (L' := [(0, .ref 99), (1, .ref 0), (2, .ref 35), (3, .int (nI i))]) (st' := [.int (xs ((nI i) + 3).toNatClampNeg), .int (xs ((nI i) + 2).toNatClampNeg), .int (xs ((nI i) + 1).toNatClampNeg), .ref 0]) (S' := S) (P := vp_in ((nI i) + 1) xl ∧ vp_in ((nI i) + 2) xl ∧ vp_in ((nI i) + 3) xl ∧ True) rfl ⟨(by rw [show (nI i + 1 : Int32) = nI (i + 1) from nI_add i 1]; exact vp_in_nI (by omega) (by omega)), (by rw [show (nI i + 2 : Int32) = nI (i + 2) from nI_add i 2]; exact vp_in_nI (by omega) (by omega)), (by rw [show (nI i + 3 : Int32) = nI (i + 3) from nI_add i 3]; exact vp_in_nI (by omega) (by omega)), trivial⟩ ?_
  refine fV.callV (M2 := mX7_paths) (d := 20) (o := 0) (av := [.int (xs ((nI i) + 1).toNatClampNeg), .int (xs ((nI i) + 2).toNatClampNeg), .int (xs ((nI i) + 3).toNatClampNeg)]) (rest := []) kX7_paths dL_law_496 lL_59 rfl rfl rfl (Nat.le_of_ble_eq_true rfl) ⟨Nat.le_of_ble_eq_true rfl, Nat.le_of_ble_eq_true rfl⟩ ⟨Nat.le_refl _, Nat.le_refl _⟩ (qX7_paths _ _ _ H HG) ?_
  rintro _ S1 ⟨rfl, k1⟩
  have hDS : hD S1 = hC S := (hD_of k1.2.1).trans I.1.symm
  have H8 : hOk (hD S1) a b c e := by rw [hDS]; exact H
  have k8 := cntD H8
  refine fV.to (pc' := 499) (L' := [(0, .ref 99), (1, .ref 0), (2, .ref 35), (3, .int (nI i))]) (st' := [.int (oPaths (hC S) b (xs ((nI i) + 1).toNatClampNeg) (xs ((nI i) + 2).toNatClampNeg) (xs ((nI i) + 3).toNatClampNeg))]) (S' := S1) rfl rfl rfl rfl ?_
  refine fV.run iL_law_499_16 oL_law_499_16 (pc' := 515) (L' := [(0, .ref 99), (1, .ref 0), (2, .ref 35), (3, .int (nI i))]) (st' := [.int (xs ((nI i) + 3).toNatClampNeg), .int (xs ((nI i) + 2).toNatClampNeg), .int (xs ((nI i) + 1).toNatClampNeg), .ref 35, .int (oPaths (hC S) b (xs ((nI i) + 1).toNatClampNeg) (xs ((nI i) + 2).toNatClampNeg) (xs ((nI i) + 3).toNatClampNeg))]) (S' := S1) (P := vp_in ((nI i) + 1) xl ∧ vp_in ((nI i) + 2) xl ∧ vp_in ((nI i) + 3) xl ∧ True) rfl ⟨(by rw [show (nI i + 1 : Int32) = nI (i + 1) from nI_add i 1]; exact vp_in_nI (by omega) (by omega)), (by rw [show (nI i + 2 : Int32) = nI (i + 2) from nI_add i 2]; exact vp_in_nI (by omega) (by omega)), (by rw [show (nI i + 3 : Int32) = nI (i + 3) from nI_add i 3]; exact vp_in_nI (by omega) (by omega)), trivial⟩ ?_
  refine fV.callV (M2 := mX8_paths) (d := 20) (o := 35) (av := [.int (xs ((nI i) + 1).toNatClampNeg), .int (xs ((nI i) + 2).toNatClampNeg), .int (xs ((nI i) + 3).toNatClampNeg)]) (rest := [.int (oPaths (hC S) b (xs ((nI i) + 1).toNatClampNeg) (xs ((nI i) + 2).toNatClampNeg) (xs ((nI i) + 3).toNatClampNeg))]) kX8_paths dL_law_515 lL_62 rfl rfl rfl (Nat.le_of_ble_eq_true rfl) ⟨Nat.le_of_ble_eq_true rfl, Nat.le_of_ble_eq_true rfl⟩ ⟨Nat.le_refl _, Nat.le_refl _⟩ (qX8_paths (S := S1) _ _ _ H8) ?_
  rintro _ S2 ⟨rfl, k2⟩
  refine fV.to (pc' := 518) (L' := [(0, .ref 99), (1, .ref 0), (2, .ref 35), (3, .int (nI i))]) (st' := [.int (oPaths (hD S1) b (xs ((nI i) + 1).toNatClampNeg) (xs ((nI i) + 2).toNatClampNeg) (xs ((nI i) + 3).toNatClampNeg)), .int (oPaths (hC S) b (xs ((nI i) + 1).toNatClampNeg) (xs ((nI i) + 2).toNatClampNeg) (xs ((nI i) + 3).toNatClampNeg))]) (S' := S2) rfl rfl rfl rfl ?_
  refine fV.icmp_eq bL_law_518 (fun c518 => ?_) (fun c518 => ?_)
  · exact kk S2 (lI_ask I k1 k2)
  · exact absurd c518 (fun z => z (by rw [hDS]))
def iL_law_523_21 : List Instr := [.aload_n 1, .aload_n 0, .iload_n 3, .iconst 1, .iadd, .iaload, .aload_n 0, .iload_n 3, .iconst 2, .iadd, .iaload, .aload_n 0, .iload_n 3, .iconst 3, .iadd, .iaload, .aload_n 0, .iload_n 3, .iconst 4, .iadd, .iaload]
theorem oL_law_523_21 : fOkB cL_law 523 iL_law_523_21 = true := by decide +kernel
set_option maxRecDepth 100000 in
theorem lL_63 : Cond.methodLink RL 63 yX7_path ∈ fTB := fTB_at 496 rfl rfl
theorem dL_law_544 : decode cL_law 544 = .ok (.invokevirtual 63, 3) := by decide +kernel
def iL_law_547_21 : List Instr := [.aload_n 2, .aload_n 0, .iload_n 3, .iconst 1, .iadd, .iaload, .aload_n 0, .iload_n 3, .iconst 2, .iadd, .iaload, .aload_n 0, .iload_n 3, .iconst 3, .iadd, .iaload, .aload_n 0, .iload_n 3, .iconst 4, .iadd, .iaload]
theorem oL_law_547_21 : fOkB cL_law 547 iL_law_547_21 = true := by decide +kernel
set_option maxRecDepth 100000 in
theorem lL_67 : Cond.methodLink RL 67 yX8_path ∈ fTB := fTB_at 854 rfl rfl
theorem dL_law_568 : decode cL_law 568 = .ok (.invokevirtual 67, 3) := by decide +kernel
def iL_law_571_1 : List Instr := [.lcmp]
theorem oL_law_571_1 : fOkB cL_law 571 iL_law_571_1 = true := by decide +kernel
theorem bL_law_572 : fBk cL_law 572 (.ifCond .eq) 878 := ⟨306, by decide +kernel, by decide⟩
set_option maxRecDepth 100000 in
theorem lw_path {G : fG} {b0 xl i : Nat} {xs : Nat → Int32} {S : fS} (I : lI S) (hi : i + 6 ≤ xl) (hxl : xl ≤ 3072) (kk : ∀ S2, lI S2 → fV G mL_law (fZl b0 xl xs) 878 [(0, .ref 99), (1, .ref 0), (2, .ref 35), (3, .int (nI i))] [] S2) : fV G mL_law (fZl b0 xl xs) 523 [(0, .ref 99), (1, .ref 0), (2, .ref 35), (3, .int (nI i))] [] S := by
  obtain ⟨a, b, c, e, H⟩ := I.2.1
  have HG := lI_b I H
  have k7 := cnt H
  refine fV.run iL_law_523_21 oL_law_523_21 (pc' := 544) (L' := [(0, .ref 99), (1, .ref 0), (2, .ref 35), (3, .int (nI i))]) (st' := [.int (xs ((nI i) + 4).toNatClampNeg), .int (xs ((nI i) + 3).toNatClampNeg), .int (xs ((nI i) + 2).toNatClampNeg), .int (xs ((nI i) + 1).toNatClampNeg), .ref 0]) (S' := S) (P := vp_in ((nI i) + 1) xl ∧ vp_in ((nI i) + 2) xl ∧ vp_in ((nI i) + 3) xl ∧ vp_in ((nI i) + 4) xl ∧ True) rfl ⟨(by rw [show (nI i + 1 : Int32) = nI (i + 1) from nI_add i 1]; exact vp_in_nI (by omega) (by omega)), (by rw [show (nI i + 2 : Int32) = nI (i + 2) from nI_add i 2]; exact vp_in_nI (by omega) (by omega)), (by rw [show (nI i + 3 : Int32) = nI (i + 3) from nI_add i 3]; exact vp_in_nI (by omega) (by omega)), (by rw [show (nI i + 4 : Int32) = nI (i + 4) from nI_add i 4]; exact vp_in_nI (by omega) (by omega)), trivial⟩ ?_
  refine fV.callV (M2 := mX7_path) (d := 20) (o := 0) (av := [.int (xs ((nI i) + 1).toNatClampNeg), .int (xs ((nI i) + 2).toNatClampNeg), .int (xs ((nI i) + 3).toNatClampNeg), .int (xs ((nI i) + 4).toNatClampNeg)]) (rest := []) kX7_path dL_law_544 lL_63 rfl rfl rfl (Nat.le_of_ble_eq_true rfl) ⟨Nat.le_of_ble_eq_true rfl, Nat.le_of_ble_eq_true rfl⟩ ⟨Nat.le_refl _, Nat.le_refl _⟩ (qX7_path _ _ _ _ H HG) ?_
  rintro _ S1 ⟨rfl, k1⟩
  have hDS : hD S1 = hC S := (hD_of k1.2.1).trans I.1.symm
  have H8 : hOk (hD S1) a b c e := by rw [hDS]; exact H
  have k8 := cntD H8
  refine fV.to (pc' := 547) (L' := [(0, .ref 99), (1, .ref 0), (2, .ref 35), (3, .int (nI i))]) (st' := [.long (oPath (hC S) b (xs ((nI i) + 1).toNatClampNeg) (xs ((nI i) + 2).toNatClampNeg) (xs ((nI i) + 3).toNatClampNeg) (xs ((nI i) + 4).toNatClampNeg))]) (S' := S1) rfl rfl rfl rfl ?_
  refine fV.run iL_law_547_21 oL_law_547_21 (pc' := 568) (L' := [(0, .ref 99), (1, .ref 0), (2, .ref 35), (3, .int (nI i))]) (st' := [.int (xs ((nI i) + 4).toNatClampNeg), .int (xs ((nI i) + 3).toNatClampNeg), .int (xs ((nI i) + 2).toNatClampNeg), .int (xs ((nI i) + 1).toNatClampNeg), .ref 35, .long (oPath (hC S) b (xs ((nI i) + 1).toNatClampNeg) (xs ((nI i) + 2).toNatClampNeg) (xs ((nI i) + 3).toNatClampNeg) (xs ((nI i) + 4).toNatClampNeg))]) (S' := S1) (P := vp_in ((nI i) + 1) xl ∧ vp_in ((nI i) + 2) xl ∧ vp_in ((nI i) + 3) xl ∧ vp_in ((nI i) + 4) xl ∧ True) rfl ⟨(by rw [show (nI i + 1 : Int32) = nI (i + 1) from nI_add i 1]; exact vp_in_nI (by omega) (by omega)), (by rw [show (nI i + 2 : Int32) = nI (i + 2) from nI_add i 2]; exact vp_in_nI (by omega) (by omega)), (by rw [show (nI i + 3 : Int32) = nI (i + 3) from nI_add i 3]; exact vp_in_nI (by omega) (by omega)), (by rw [show (nI i + 4 : Int32) = nI (i + 4) from nI_add i 4]; exact vp_in_nI (by omega) (by omega)), trivial⟩ ?_
  refine fV.callV (M2 := mX8_path) (d := 20) (o := 35) (av := [.int (xs ((nI i) + 1).toNatClampNeg), .int (xs ((nI i) + 2).toNatClampNeg), .int (xs ((nI i) + 3).toNatClampNeg), .int (xs ((nI i) + 4).toNatClampNeg)]) (rest := [.long (oPath (hC S) b (xs ((nI i) + 1).toNatClampNeg) (xs ((nI i) + 2).toNatClampNeg) (xs ((nI i) + 3).toNatClampNeg) (xs ((nI i) + 4).toNatClampNeg))]) kX8_path dL_law_568 lL_67 rfl rfl rfl (Nat.le_of_ble_eq_true rfl) ⟨Nat.le_of_ble_eq_true rfl, Nat.le_of_ble_eq_true rfl⟩ ⟨Nat.le_refl _, Nat.le_refl _⟩ (qX8_path (S := S1) _ _ _ _ H8) ?_
  rintro _ S2 ⟨rfl, k2⟩
  refine fV.to (pc' := 571) (L' := [(0, .ref 99), (1, .ref 0), (2, .ref 35), (3, .int (nI i))]) (st' := [.long (oPath (hD S1) b (xs ((nI i) + 1).toNatClampNeg) (xs ((nI i) + 2).toNatClampNeg) (xs ((nI i) + 3).toNatClampNeg) (xs ((nI i) + 4).toNatClampNeg)), .long (oPath (hC S) b (xs ((nI i) + 1).toNatClampNeg) (xs ((nI i) + 2).toNatClampNeg) (xs ((nI i) + 3).toNatClampNeg) (xs ((nI i) + 4).toNatClampNeg))]) (S' := S2) rfl rfl rfl rfl ?_
  refine fV.run iL_law_571_1 oL_law_571_1 (pc' := 572) (L' := [(0, .ref 99), (1, .ref 0), (2, .ref 35), (3, .int (nI i))]) (st' := [.int (lg_cmp (oPath (hC S) b (xs ((nI i) + 1).toNatClampNeg) (xs ((nI i) + 2).toNatClampNeg) (xs ((nI i) + 3).toNatClampNeg) (xs ((nI i) + 4).toNatClampNeg)) (oPath (hD S1) b (xs ((nI i) + 1).toNatClampNeg) (xs ((nI i) + 2).toNatClampNeg) (xs ((nI i) + 3).toNatClampNeg) (xs ((nI i) + 4).toNatClampNeg)))]) (S' := S2) rfl trivial ?_
  refine fV.lif_eq bL_law_572 (fun c572 => ?_) (fun c572 => ?_)
  · exact kk S2 (lI_ask I k1 k2)
  · exact absurd c572 (fun z => z (by rw [hDS]))
def iL_law_577_26 : List Instr := [.aload_n 1, .aload_n 0, .iload_n 3, .iconst 1, .iadd, .iaload, .aload_n 0, .iload_n 3, .iconst 2, .iadd, .iaload, .aload_n 0, .iload_n 3, .iconst 3, .iadd, .iaload, .aload_n 0, .iload_n 3, .iconst 4, .iadd, .iaload, .aload_n 0, .iload_n 3, .iconst 5, .iadd, .iaload]
theorem oL_law_577_26 : fOkB cL_law 577 iL_law_577_26 = true := by decide +kernel
set_option maxRecDepth 100000 in
theorem lL_68 : Cond.methodLink RL 68 yX7_sees ∈ fTB := fTB_at 522 rfl rfl
theorem dL_law_603 : decode cL_law 603 = .ok (.invokevirtual 68, 3) := by decide +kernel
def iL_law_606_26 : List Instr := [.aload_n 2, .aload_n 0, .iload_n 3, .iconst 1, .iadd, .iaload, .aload_n 0, .iload_n 3, .iconst 2, .iadd, .iaload, .aload_n 0, .iload_n 3, .iconst 3, .iadd, .iaload, .aload_n 0, .iload_n 3, .iconst 4, .iadd, .iaload, .aload_n 0, .iload_n 3, .iconst 5, .iadd, .iaload]
theorem oL_law_606_26 : fOkB cL_law 606 iL_law_606_26 = true := by decide +kernel
set_option maxRecDepth 100000 in
theorem lL_71 : Cond.methodLink RL 71 yX8_sees ∈ fTB := fTB_at 876 rfl rfl
theorem dL_law_632 : decode cL_law 632 = .ok (.invokevirtual 71, 3) := by decide +kernel
theorem bL_law_635 : fBk cL_law 635 (.if_icmp .eq) 878 := ⟨243, by decide +kernel, by decide⟩
set_option maxRecDepth 100000 in
theorem lw_sees {G : fG} {b0 xl i : Nat} {xs : Nat → Int32} {S : fS} (I : lI S) (hi : i + 6 ≤ xl) (hxl : xl ≤ 3072) (kk : ∀ S2, lI S2 → fV G mL_law (fZl b0 xl xs) 878 [(0, .ref 99), (1, .ref 0), (2, .ref 35), (3, .int (nI i))] [] S2) : fV G mL_law (fZl b0 xl xs) 577 [(0, .ref 99), (1, .ref 0), (2, .ref 35), (3, .int (nI i))] [] S := by
  obtain ⟨a, b, c, e, H⟩ := I.2.1
  have HG := lI_b I H
  have k7 := cnt H
  refine fV.run iL_law_577_26 oL_law_577_26 (pc' := 603) (L' := [(0, .ref 99), (1, .ref 0), (2, .ref 35), (3, .int (nI i))]) (st' := [.int (xs ((nI i) + 5).toNatClampNeg), .int (xs ((nI i) + 4).toNatClampNeg), .int (xs ((nI i) + 3).toNatClampNeg), .int (xs ((nI i) + 2).toNatClampNeg), .int (xs ((nI i) + 1).toNatClampNeg), .ref 0]) (S' := S) (P := vp_in ((nI i) + 1) xl ∧ vp_in ((nI i) + 2) xl ∧ vp_in ((nI i) + 3) xl ∧ vp_in ((nI i) + 4) xl ∧ vp_in ((nI i) + 5) xl ∧ True) rfl ⟨(by rw [show (nI i + 1 : Int32) = nI (i + 1) from nI_add i 1]; exact vp_in_nI (by omega) (by omega)), (by rw [show (nI i + 2 : Int32) = nI (i + 2) from nI_add i 2]; exact vp_in_nI (by omega) (by omega)), (by rw [show (nI i + 3 : Int32) = nI (i + 3) from nI_add i 3]; exact vp_in_nI (by omega) (by omega)), (by rw [show (nI i + 4 : Int32) = nI (i + 4) from nI_add i 4]; exact vp_in_nI (by omega) (by omega)), (by rw [show (nI i + 5 : Int32) = nI (i + 5) from nI_add i 5]; exact vp_in_nI (by omega) (by omega)), trivial⟩ ?_
  refine fV.callV (M2 := mX7_sees) (d := 20) (o := 0) (av := [.int (xs ((nI i) + 1).toNatClampNeg), .int (xs ((nI i) + 2).toNatClampNeg), .int (xs ((nI i) + 3).toNatClampNeg), .int (xs ((nI i) + 4).toNatClampNeg), .int (xs ((nI i) + 5).toNatClampNeg)]) (rest := []) kX7_sees dL_law_603 lL_68 rfl rfl rfl (Nat.le_of_ble_eq_true rfl) ⟨Nat.le_of_ble_eq_true rfl, Nat.le_of_ble_eq_true rfl⟩ ⟨Nat.le_refl _, Nat.le_refl _⟩ (qX7_sees _ _ _ _ _ H HG) ?_
  rintro _ S1 ⟨rfl, k1⟩
  have hDS : hD S1 = hC S := (hD_of k1.2.1).trans I.1.symm
  have H8 : hOk (hD S1) a b c e := by rw [hDS]; exact H
  have k8 := cntD H8
  refine fV.to (pc' := 606) (L' := [(0, .ref 99), (1, .ref 0), (2, .ref 35), (3, .int (nI i))]) (st' := [.int (oSees (hC S) b (xs ((nI i) + 1).toNatClampNeg) (xs ((nI i) + 2).toNatClampNeg) (xs ((nI i) + 3).toNatClampNeg) (xs ((nI i) + 4).toNatClampNeg) (xs ((nI i) + 5).toNatClampNeg))]) (S' := S1) rfl rfl rfl rfl ?_
  refine fV.run iL_law_606_26 oL_law_606_26 (pc' := 632) (L' := [(0, .ref 99), (1, .ref 0), (2, .ref 35), (3, .int (nI i))]) (st' := [.int (xs ((nI i) + 5).toNatClampNeg), .int (xs ((nI i) + 4).toNatClampNeg), .int (xs ((nI i) + 3).toNatClampNeg), .int (xs ((nI i) + 2).toNatClampNeg), .int (xs ((nI i) + 1).toNatClampNeg), .ref 35, .int (oSees (hC S) b (xs ((nI i) + 1).toNatClampNeg) (xs ((nI i) + 2).toNatClampNeg) (xs ((nI i) + 3).toNatClampNeg) (xs ((nI i) + 4).toNatClampNeg) (xs ((nI i) + 5).toNatClampNeg))]) (S' := S1) (P := vp_in ((nI i) + 1) xl ∧ vp_in ((nI i) + 2) xl ∧ vp_in ((nI i) + 3) xl ∧ vp_in ((nI i) + 4) xl ∧ vp_in ((nI i) + 5) xl ∧ True) rfl ⟨(by rw [show (nI i + 1 : Int32) = nI (i + 1) from nI_add i 1]; exact vp_in_nI (by omega) (by omega)), (by rw [show (nI i + 2 : Int32) = nI (i + 2) from nI_add i 2]; exact vp_in_nI (by omega) (by omega)), (by rw [show (nI i + 3 : Int32) = nI (i + 3) from nI_add i 3]; exact vp_in_nI (by omega) (by omega)), (by rw [show (nI i + 4 : Int32) = nI (i + 4) from nI_add i 4]; exact vp_in_nI (by omega) (by omega)), (by rw [show (nI i + 5 : Int32) = nI (i + 5) from nI_add i 5]; exact vp_in_nI (by omega) (by omega)), trivial⟩ ?_
  refine fV.callV (M2 := mX8_sees) (d := 20) (o := 35) (av := [.int (xs ((nI i) + 1).toNatClampNeg), .int (xs ((nI i) + 2).toNatClampNeg), .int (xs ((nI i) + 3).toNatClampNeg), .int (xs ((nI i) + 4).toNatClampNeg), .int (xs ((nI i) + 5).toNatClampNeg)]) (rest := [.int (oSees (hC S) b (xs ((nI i) + 1).toNatClampNeg) (xs ((nI i) + 2).toNatClampNeg) (xs ((nI i) + 3).toNatClampNeg) (xs ((nI i) + 4).toNatClampNeg) (xs ((nI i) + 5).toNatClampNeg))]) kX8_sees dL_law_632 lL_71 rfl rfl rfl (Nat.le_of_ble_eq_true rfl) ⟨Nat.le_of_ble_eq_true rfl, Nat.le_of_ble_eq_true rfl⟩ ⟨Nat.le_refl _, Nat.le_refl _⟩ (qX8_sees (S := S1) _ _ _ _ _ H8) ?_
  rintro _ S2 ⟨rfl, k2⟩
  refine fV.to (pc' := 635) (L' := [(0, .ref 99), (1, .ref 0), (2, .ref 35), (3, .int (nI i))]) (st' := [.int (oSees (hD S1) b (xs ((nI i) + 1).toNatClampNeg) (xs ((nI i) + 2).toNatClampNeg) (xs ((nI i) + 3).toNatClampNeg) (xs ((nI i) + 4).toNatClampNeg) (xs ((nI i) + 5).toNatClampNeg)), .int (oSees (hC S) b (xs ((nI i) + 1).toNatClampNeg) (xs ((nI i) + 2).toNatClampNeg) (xs ((nI i) + 3).toNatClampNeg) (xs ((nI i) + 4).toNatClampNeg) (xs ((nI i) + 5).toNatClampNeg))]) (S' := S2) rfl rfl rfl rfl ?_
  refine fV.icmp_eq bL_law_635 (fun c635 => ?_) (fun c635 => ?_)
  · exact kk S2 (lI_ask I k1 k2)
  · exact absurd c635 (fun z => z (by rw [hDS]))
def iL_law_640_16 : List Instr := [.aload_n 1, .aload_n 0, .iload_n 3, .iconst 1, .iadd, .iaload, .aload_n 0, .iload_n 3, .iconst 2, .iadd, .iaload, .aload_n 0, .iload_n 3, .iconst 3, .iadd, .iaload]
theorem oL_law_640_16 : fOkB cL_law 640 iL_law_640_16 = true := by decide +kernel
set_option maxRecDepth 100000 in
theorem lL_72 : Cond.methodLink RL 72 yX7_heard ∈ fTB := fTB_at 534 rfl rfl
theorem dL_law_656 : decode cL_law 656 = .ok (.invokevirtual 72, 3) := by decide +kernel
def iL_law_659_16 : List Instr := [.aload_n 2, .aload_n 0, .iload_n 3, .iconst 1, .iadd, .iaload, .aload_n 0, .iload_n 3, .iconst 2, .iadd, .iaload, .aload_n 0, .iload_n 3, .iconst 3, .iadd, .iaload]
theorem oL_law_659_16 : fOkB cL_law 659 iL_law_659_16 = true := by decide +kernel
set_option maxRecDepth 100000 in
theorem lL_76 : Cond.methodLink RL 76 yX8_heard ∈ fTB := fTB_at 880 rfl rfl
theorem dL_law_675 : decode cL_law 675 = .ok (.invokevirtual 76, 3) := by decide +kernel
def iL_law_678_1 : List Instr := [.lcmp]
theorem oL_law_678_1 : fOkB cL_law 678 iL_law_678_1 = true := by decide +kernel
theorem bL_law_679 : fBk cL_law 679 (.ifCond .eq) 878 := ⟨199, by decide +kernel, by decide⟩
set_option maxRecDepth 100000 in
theorem lw_heard {G : fG} {b0 xl i : Nat} {xs : Nat → Int32} {S : fS} (I : lI S) (hi : i + 6 ≤ xl) (hxl : xl ≤ 3072) (kk : ∀ S2, lI S2 → fV G mL_law (fZl b0 xl xs) 878 [(0, .ref 99), (1, .ref 0), (2, .ref 35), (3, .int (nI i))] [] S2) : fV G mL_law (fZl b0 xl xs) 640 [(0, .ref 99), (1, .ref 0), (2, .ref 35), (3, .int (nI i))] [] S := by
  obtain ⟨a, b, c, e, H⟩ := I.2.1
  have HG := lI_b I H
  have k7 := cnt H
  refine fV.run iL_law_640_16 oL_law_640_16 (pc' := 656) (L' := [(0, .ref 99), (1, .ref 0), (2, .ref 35), (3, .int (nI i))]) (st' := [.int (xs ((nI i) + 3).toNatClampNeg), .int (xs ((nI i) + 2).toNatClampNeg), .int (xs ((nI i) + 1).toNatClampNeg), .ref 0]) (S' := S) (P := vp_in ((nI i) + 1) xl ∧ vp_in ((nI i) + 2) xl ∧ vp_in ((nI i) + 3) xl ∧ True) rfl ⟨(by rw [show (nI i + 1 : Int32) = nI (i + 1) from nI_add i 1]; exact vp_in_nI (by omega) (by omega)), (by rw [show (nI i + 2 : Int32) = nI (i + 2) from nI_add i 2]; exact vp_in_nI (by omega) (by omega)), (by rw [show (nI i + 3 : Int32) = nI (i + 3) from nI_add i 3]; exact vp_in_nI (by omega) (by omega)), trivial⟩ ?_
  refine fV.callV (M2 := mX7_heard) (d := 20) (o := 0) (av := [.int (xs ((nI i) + 1).toNatClampNeg), .int (xs ((nI i) + 2).toNatClampNeg), .int (xs ((nI i) + 3).toNatClampNeg)]) (rest := []) kX7_heard dL_law_656 lL_72 rfl rfl rfl (Nat.le_of_ble_eq_true rfl) ⟨Nat.le_of_ble_eq_true rfl, Nat.le_of_ble_eq_true rfl⟩ ⟨Nat.le_refl _, Nat.le_refl _⟩ (qX7_heard _ _ _ H HG) ?_
  rintro _ S1 ⟨rfl, k1⟩
  have hDS : hD S1 = hC S := (hD_of k1.2.1).trans I.1.symm
  have H8 : hOk (hD S1) a b c e := by rw [hDS]; exact H
  have k8 := cntD H8
  refine fV.to (pc' := 659) (L' := [(0, .ref 99), (1, .ref 0), (2, .ref 35), (3, .int (nI i))]) (st' := [.long (oHeard (hC S) b (xs ((nI i) + 1).toNatClampNeg) (xs ((nI i) + 2).toNatClampNeg) (xs ((nI i) + 3).toNatClampNeg))]) (S' := S1) rfl rfl rfl rfl ?_
  refine fV.run iL_law_659_16 oL_law_659_16 (pc' := 675) (L' := [(0, .ref 99), (1, .ref 0), (2, .ref 35), (3, .int (nI i))]) (st' := [.int (xs ((nI i) + 3).toNatClampNeg), .int (xs ((nI i) + 2).toNatClampNeg), .int (xs ((nI i) + 1).toNatClampNeg), .ref 35, .long (oHeard (hC S) b (xs ((nI i) + 1).toNatClampNeg) (xs ((nI i) + 2).toNatClampNeg) (xs ((nI i) + 3).toNatClampNeg))]) (S' := S1) (P := vp_in ((nI i) + 1) xl ∧ vp_in ((nI i) + 2) xl ∧ vp_in ((nI i) + 3) xl ∧ True) rfl ⟨(by rw [show (nI i + 1 : Int32) = nI (i + 1) from nI_add i 1]; exact vp_in_nI (by omega) (by omega)), (by rw [show (nI i + 2 : Int32) = nI (i + 2) from nI_add i 2]; exact vp_in_nI (by omega) (by omega)), (by rw [show (nI i + 3 : Int32) = nI (i + 3) from nI_add i 3]; exact vp_in_nI (by omega) (by omega)), trivial⟩ ?_
  refine fV.callV (M2 := mX8_heard) (d := 20) (o := 35) (av := [.int (xs ((nI i) + 1).toNatClampNeg), .int (xs ((nI i) + 2).toNatClampNeg), .int (xs ((nI i) + 3).toNatClampNeg)]) (rest := [.long (oHeard (hC S) b (xs ((nI i) + 1).toNatClampNeg) (xs ((nI i) + 2).toNatClampNeg) (xs ((nI i) + 3).toNatClampNeg))]) kX8_heard dL_law_675 lL_76 rfl rfl rfl (Nat.le_of_ble_eq_true rfl) ⟨Nat.le_of_ble_eq_true rfl, Nat.le_of_ble_eq_true rfl⟩ ⟨Nat.le_refl _, Nat.le_refl _⟩ (qX8_heard (S := S1) _ _ _ H8) ?_
  rintro _ S2 ⟨rfl, k2⟩
  refine fV.to (pc' := 678) (L' := [(0, .ref 99), (1, .ref 0), (2, .ref 35), (3, .int (nI i))]) (st' := [.long (oHeard (hD S1) b (xs ((nI i) + 1).toNatClampNeg) (xs ((nI i) + 2).toNatClampNeg) (xs ((nI i) + 3).toNatClampNeg)), .long (oHeard (hC S) b (xs ((nI i) + 1).toNatClampNeg) (xs ((nI i) + 2).toNatClampNeg) (xs ((nI i) + 3).toNatClampNeg))]) (S' := S2) rfl rfl rfl rfl ?_
  refine fV.run iL_law_678_1 oL_law_678_1 (pc' := 679) (L' := [(0, .ref 99), (1, .ref 0), (2, .ref 35), (3, .int (nI i))]) (st' := [.int (lg_cmp (oHeard (hC S) b (xs ((nI i) + 1).toNatClampNeg) (xs ((nI i) + 2).toNatClampNeg) (xs ((nI i) + 3).toNatClampNeg)) (oHeard (hD S1) b (xs ((nI i) + 1).toNatClampNeg) (xs ((nI i) + 2).toNatClampNeg) (xs ((nI i) + 3).toNatClampNeg)))]) (S' := S2) rfl trivial ?_
  refine fV.lif_eq bL_law_679 (fun c679 => ?_) (fun c679 => ?_)
  · exact kk S2 (lI_ask I k1 k2)
  · exact absurd c679 (fun z => z (by rw [hDS]))
def iL_law_684_16 : List Instr := [.aload_n 1, .aload_n 0, .iload_n 3, .iconst 1, .iadd, .iaload, .aload_n 0, .iload_n 3, .iconst 2, .iadd, .iaload, .aload_n 0, .iload_n 3, .iconst 3, .iadd, .iaload]
theorem oL_law_684_16 : fOkB cL_law 684 iL_law_684_16 = true := by decide +kernel
set_option maxRecDepth 100000 in
theorem lL_77 : Cond.methodLink RL 77 yX7_at ∈ fTB := fTB_at 557 rfl rfl
theorem dL_law_700 : decode cL_law 700 = .ok (.invokevirtual 77, 3) := by decide +kernel
def iL_law_703_16 : List Instr := [.aload_n 2, .aload_n 0, .iload_n 3, .iconst 1, .iadd, .iaload, .aload_n 0, .iload_n 3, .iconst 2, .iadd, .iaload, .aload_n 0, .iload_n 3, .iconst 3, .iadd, .iaload]
theorem oL_law_703_16 : fOkB cL_law 703 iL_law_703_16 = true := by decide +kernel
set_option maxRecDepth 100000 in
theorem lL_80 : Cond.methodLink RL 80 yX8_at ∈ fTB := fTB_at 893 rfl rfl
theorem dL_law_719 : decode cL_law 719 = .ok (.invokevirtual 80, 3) := by decide +kernel
def iL_law_722_1 : List Instr := [.lcmp]
theorem oL_law_722_1 : fOkB cL_law 722 iL_law_722_1 = true := by decide +kernel
theorem bL_law_723 : fBk cL_law 723 (.ifCond .eq) 878 := ⟨155, by decide +kernel, by decide⟩
set_option maxRecDepth 100000 in
theorem lw_at {G : fG} {b0 xl i : Nat} {xs : Nat → Int32} {S : fS} (I : lI S) (hi : i + 6 ≤ xl) (hxl : xl ≤ 3072) (kk : ∀ S2, lI S2 → fV G mL_law (fZl b0 xl xs) 878 [(0, .ref 99), (1, .ref 0), (2, .ref 35), (3, .int (nI i))] [] S2) : fV G mL_law (fZl b0 xl xs) 684 [(0, .ref 99), (1, .ref 0), (2, .ref 35), (3, .int (nI i))] [] S := by
  obtain ⟨a, b, c, e, H⟩ := I.2.1
  have HG := lI_b I H
  have k7 := cnt H
  refine fV.run iL_law_684_16 oL_law_684_16 (pc' := 700) (L' := [(0, .ref 99), (1, .ref 0), (2, .ref 35), (3, .int (nI i))]) (st' := [.int (xs ((nI i) + 3).toNatClampNeg), .int (xs ((nI i) + 2).toNatClampNeg), .int (xs ((nI i) + 1).toNatClampNeg), .ref 0]) (S' := S) (P := vp_in ((nI i) + 1) xl ∧ vp_in ((nI i) + 2) xl ∧ vp_in ((nI i) + 3) xl ∧ True) rfl ⟨(by rw [show (nI i + 1 : Int32) = nI (i + 1) from nI_add i 1]; exact vp_in_nI (by omega) (by omega)), (by rw [show (nI i + 2 : Int32) = nI (i + 2) from nI_add i 2]; exact vp_in_nI (by omega) (by omega)), (by rw [show (nI i + 3 : Int32) = nI (i + 3) from nI_add i 3]; exact vp_in_nI (by omega) (by omega)), trivial⟩ ?_
  refine fV.callV (M2 := mX7_at) (d := 20) (o := 0) (av := [.int (xs ((nI i) + 1).toNatClampNeg), .int (xs ((nI i) + 2).toNatClampNeg), .int (xs ((nI i) + 3).toNatClampNeg)]) (rest := []) kX7_at dL_law_700 lL_77 rfl rfl rfl (Nat.le_of_ble_eq_true rfl) ⟨Nat.le_of_ble_eq_true rfl, Nat.le_of_ble_eq_true rfl⟩ ⟨Nat.le_refl _, Nat.le_refl _⟩ (qX7_at _ _ _ H HG) ?_
  rintro _ S1 ⟨rfl, k1⟩
  have hDS : hD S1 = hC S := (hD_of k1.2.1).trans I.1.symm
  have H8 : hOk (hD S1) a b c e := by rw [hDS]; exact H
  have k8 := cntD H8
  refine fV.to (pc' := 703) (L' := [(0, .ref 99), (1, .ref 0), (2, .ref 35), (3, .int (nI i))]) (st' := [.long (oAt (hC S) b (xs ((nI i) + 1).toNatClampNeg) (xs ((nI i) + 2).toNatClampNeg) (xs ((nI i) + 3).toNatClampNeg))]) (S' := S1) rfl rfl rfl rfl ?_
  refine fV.run iL_law_703_16 oL_law_703_16 (pc' := 719) (L' := [(0, .ref 99), (1, .ref 0), (2, .ref 35), (3, .int (nI i))]) (st' := [.int (xs ((nI i) + 3).toNatClampNeg), .int (xs ((nI i) + 2).toNatClampNeg), .int (xs ((nI i) + 1).toNatClampNeg), .ref 35, .long (oAt (hC S) b (xs ((nI i) + 1).toNatClampNeg) (xs ((nI i) + 2).toNatClampNeg) (xs ((nI i) + 3).toNatClampNeg))]) (S' := S1) (P := vp_in ((nI i) + 1) xl ∧ vp_in ((nI i) + 2) xl ∧ vp_in ((nI i) + 3) xl ∧ True) rfl ⟨(by rw [show (nI i + 1 : Int32) = nI (i + 1) from nI_add i 1]; exact vp_in_nI (by omega) (by omega)), (by rw [show (nI i + 2 : Int32) = nI (i + 2) from nI_add i 2]; exact vp_in_nI (by omega) (by omega)), (by rw [show (nI i + 3 : Int32) = nI (i + 3) from nI_add i 3]; exact vp_in_nI (by omega) (by omega)), trivial⟩ ?_
  refine fV.callV (M2 := mX8_at) (d := 20) (o := 35) (av := [.int (xs ((nI i) + 1).toNatClampNeg), .int (xs ((nI i) + 2).toNatClampNeg), .int (xs ((nI i) + 3).toNatClampNeg)]) (rest := [.long (oAt (hC S) b (xs ((nI i) + 1).toNatClampNeg) (xs ((nI i) + 2).toNatClampNeg) (xs ((nI i) + 3).toNatClampNeg))]) kX8_at dL_law_719 lL_80 rfl rfl rfl (Nat.le_of_ble_eq_true rfl) ⟨Nat.le_of_ble_eq_true rfl, Nat.le_of_ble_eq_true rfl⟩ ⟨Nat.le_refl _, Nat.le_refl _⟩ (qX8_at (S := S1) _ _ _ H8) ?_
  rintro _ S2 ⟨rfl, k2⟩
  refine fV.to (pc' := 722) (L' := [(0, .ref 99), (1, .ref 0), (2, .ref 35), (3, .int (nI i))]) (st' := [.long (oAt (hD S1) b (xs ((nI i) + 1).toNatClampNeg) (xs ((nI i) + 2).toNatClampNeg) (xs ((nI i) + 3).toNatClampNeg)), .long (oAt (hC S) b (xs ((nI i) + 1).toNatClampNeg) (xs ((nI i) + 2).toNatClampNeg) (xs ((nI i) + 3).toNatClampNeg))]) (S' := S2) rfl rfl rfl rfl ?_
  refine fV.run iL_law_722_1 oL_law_722_1 (pc' := 723) (L' := [(0, .ref 99), (1, .ref 0), (2, .ref 35), (3, .int (nI i))]) (st' := [.int (lg_cmp (oAt (hC S) b (xs ((nI i) + 1).toNatClampNeg) (xs ((nI i) + 2).toNatClampNeg) (xs ((nI i) + 3).toNatClampNeg)) (oAt (hD S1) b (xs ((nI i) + 1).toNatClampNeg) (xs ((nI i) + 2).toNatClampNeg) (xs ((nI i) + 3).toNatClampNeg)))]) (S' := S2) rfl trivial ?_
  refine fV.lif_eq bL_law_723 (fun c723 => ?_) (fun c723 => ?_)
  · exact kk S2 (lI_ask I k1 k2)
  · exact absurd c723 (fun z => z (by rw [hDS]))
def iL_law_728_23 : List Instr := [.aload_n 1, .aload_n 0, .iload_n 3, .iconst 1, .iadd, .iaload, .i2l, .bipush 32, .lshl, .aload_n 0, .iload_n 3, .iconst 2, .iadd, .iaload, .i2l, .ldc2_w 81, .land, .lor, .aload_n 0, .iload_n 3, .iconst 3, .iadd, .iaload]
theorem oL_law_728_23 : fOkB cL_law 728 iL_law_728_23 = true := by decide +kernel
set_option maxRecDepth 100000 in
theorem lL_83 : Cond.methodLink RL 83 yX7_left ∈ fTB := fTB_at 561 rfl rfl
theorem dL_law_754 : decode cL_law 754 = .ok (.invokevirtual 83, 3) := by decide +kernel
def iL_law_757_23 : List Instr := [.aload_n 2, .aload_n 0, .iload_n 3, .iconst 1, .iadd, .iaload, .i2l, .bipush 32, .lshl, .aload_n 0, .iload_n 3, .iconst 2, .iadd, .iaload, .i2l, .ldc2_w 81, .land, .lor, .aload_n 0, .iload_n 3, .iconst 3, .iadd, .iaload]
theorem oL_law_757_23 : fOkB cL_law 757 iL_law_757_23 = true := by decide +kernel
set_option maxRecDepth 100000 in
theorem lL_87 : Cond.methodLink RL 87 yX8_left ∈ fTB := fTB_at 898 rfl rfl
theorem dL_law_783 : decode cL_law 783 = .ok (.invokevirtual 87, 3) := by decide +kernel
def iL_law_786_1 : List Instr := [.lcmp]
theorem oL_law_786_1 : fOkB cL_law 786 iL_law_786_1 = true := by decide +kernel
theorem bL_law_787 : fBk cL_law 787 (.ifCond .eq) 878 := ⟨91, by decide +kernel, by decide⟩
set_option maxRecDepth 100000 in
theorem lw_left {G : fG} {b0 xl i : Nat} {xs : Nat → Int32} {S : fS} (I : lI S) (hi : i + 6 ≤ xl) (hxl : xl ≤ 3072) (kk : ∀ S2, lI S2 → fV G mL_law (fZl b0 xl xs) 878 [(0, .ref 99), (1, .ref 0), (2, .ref 35), (3, .int (nI i))] [] S2) : fV G mL_law (fZl b0 xl xs) 728 [(0, .ref 99), (1, .ref 0), (2, .ref 35), (3, .int (nI i))] [] S := by
  obtain ⟨a, b, c, e, H⟩ := I.2.1
  have HG := lI_b I H
  have k7 := cnt H
  refine fV.run iL_law_728_23 oL_law_728_23 (pc' := 754) (L' := [(0, .ref 99), (1, .ref 0), (2, .ref 35), (3, .int (nI i))]) (st' := [.int (xs ((nI i) + 3).toNatClampNeg), .long (((Int32.toInt64 (xs ((nI i) + 1).toNatClampNeg)) <<< (Int32.toInt64 32 &&& 63)) ||| ((Int32.toInt64 (xs ((nI i) + 2).toNatClampNeg)) &&& 4294967295)), .ref 0]) (S' := S) (P := vp_in ((nI i) + 1) xl ∧ vp_in ((nI i) + 2) xl ∧ vp_in ((nI i) + 3) xl ∧ True) rfl ⟨(by rw [show (nI i + 1 : Int32) = nI (i + 1) from nI_add i 1]; exact vp_in_nI (by omega) (by omega)), (by rw [show (nI i + 2 : Int32) = nI (i + 2) from nI_add i 2]; exact vp_in_nI (by omega) (by omega)), (by rw [show (nI i + 3 : Int32) = nI (i + 3) from nI_add i 3]; exact vp_in_nI (by omega) (by omega)), trivial⟩ ?_
  refine fV.callV (M2 := mX7_left) (d := 20) (o := 0) (av := [.long (((Int32.toInt64 (xs ((nI i) + 1).toNatClampNeg)) <<< (Int32.toInt64 32 &&& 63)) ||| ((Int32.toInt64 (xs ((nI i) + 2).toNatClampNeg)) &&& 4294967295)), .int (xs ((nI i) + 3).toNatClampNeg)]) (rest := []) kX7_left dL_law_754 lL_83 rfl rfl rfl (Nat.le_of_ble_eq_true rfl) ⟨Nat.le_of_ble_eq_true rfl, Nat.le_of_ble_eq_true rfl⟩ ⟨Nat.le_refl _, Nat.le_refl _⟩ (qX7_left _ _ H HG) ?_
  rintro _ S1 ⟨rfl, h1⟩
  have k1 : kp S S1 := by rw [h1]; exact kp.rf
  have hDS : hD S1 = hC S := (hD_of k1.2.1).trans I.1.symm
  have H8 : hOk (hD S1) a b c e := by rw [hDS]; exact H
  have k8 := cntD H8
  refine fV.to (pc' := 757) (L' := [(0, .ref 99), (1, .ref 0), (2, .ref 35), (3, .int (nI i))]) (st' := [.long (oLeft (hC S) b (((Int32.toInt64 (xs ((nI i) + 1).toNatClampNeg)) <<< (Int32.toInt64 32 &&& 63)) ||| ((Int32.toInt64 (xs ((nI i) + 2).toNatClampNeg)) &&& 4294967295)) (xs ((nI i) + 3).toNatClampNeg))]) (S' := S1) rfl rfl rfl rfl ?_
  refine fV.run iL_law_757_23 oL_law_757_23 (pc' := 783) (L' := [(0, .ref 99), (1, .ref 0), (2, .ref 35), (3, .int (nI i))]) (st' := [.int (xs ((nI i) + 3).toNatClampNeg), .long (((Int32.toInt64 (xs ((nI i) + 1).toNatClampNeg)) <<< (Int32.toInt64 32 &&& 63)) ||| ((Int32.toInt64 (xs ((nI i) + 2).toNatClampNeg)) &&& 4294967295)), .ref 35, .long (oLeft (hC S) b (((Int32.toInt64 (xs ((nI i) + 1).toNatClampNeg)) <<< (Int32.toInt64 32 &&& 63)) ||| ((Int32.toInt64 (xs ((nI i) + 2).toNatClampNeg)) &&& 4294967295)) (xs ((nI i) + 3).toNatClampNeg))]) (S' := S1) (P := vp_in ((nI i) + 1) xl ∧ vp_in ((nI i) + 2) xl ∧ vp_in ((nI i) + 3) xl ∧ True) rfl ⟨(by rw [show (nI i + 1 : Int32) = nI (i + 1) from nI_add i 1]; exact vp_in_nI (by omega) (by omega)), (by rw [show (nI i + 2 : Int32) = nI (i + 2) from nI_add i 2]; exact vp_in_nI (by omega) (by omega)), (by rw [show (nI i + 3 : Int32) = nI (i + 3) from nI_add i 3]; exact vp_in_nI (by omega) (by omega)), trivial⟩ ?_
  refine fV.callV (M2 := mX8_left) (d := 20) (o := 35) (av := [.long (((Int32.toInt64 (xs ((nI i) + 1).toNatClampNeg)) <<< (Int32.toInt64 32 &&& 63)) ||| ((Int32.toInt64 (xs ((nI i) + 2).toNatClampNeg)) &&& 4294967295)), .int (xs ((nI i) + 3).toNatClampNeg)]) (rest := [.long (oLeft (hC S) b (((Int32.toInt64 (xs ((nI i) + 1).toNatClampNeg)) <<< (Int32.toInt64 32 &&& 63)) ||| ((Int32.toInt64 (xs ((nI i) + 2).toNatClampNeg)) &&& 4294967295)) (xs ((nI i) + 3).toNatClampNeg))]) kX8_left dL_law_783 lL_87 rfl rfl rfl (Nat.le_of_ble_eq_true rfl) ⟨Nat.le_of_ble_eq_true rfl, Nat.le_of_ble_eq_true rfl⟩ ⟨Nat.le_refl _, Nat.le_refl _⟩ (qX8_left (S := S1) _ _ H8) ?_
  rintro _ S2 ⟨rfl, h2⟩
  have k2 : ke S1 S2 := by rw [h2]; exact ke.rf
  refine fV.to (pc' := 786) (L' := [(0, .ref 99), (1, .ref 0), (2, .ref 35), (3, .int (nI i))]) (st' := [.long (oLeft (hD S1) b (((Int32.toInt64 (xs ((nI i) + 1).toNatClampNeg)) <<< (Int32.toInt64 32 &&& 63)) ||| ((Int32.toInt64 (xs ((nI i) + 2).toNatClampNeg)) &&& 4294967295)) (xs ((nI i) + 3).toNatClampNeg)), .long (oLeft (hC S) b (((Int32.toInt64 (xs ((nI i) + 1).toNatClampNeg)) <<< (Int32.toInt64 32 &&& 63)) ||| ((Int32.toInt64 (xs ((nI i) + 2).toNatClampNeg)) &&& 4294967295)) (xs ((nI i) + 3).toNatClampNeg))]) (S' := S2) rfl rfl rfl rfl ?_
  refine fV.run iL_law_786_1 oL_law_786_1 (pc' := 787) (L' := [(0, .ref 99), (1, .ref 0), (2, .ref 35), (3, .int (nI i))]) (st' := [.int (lg_cmp (oLeft (hC S) b (((Int32.toInt64 (xs ((nI i) + 1).toNatClampNeg)) <<< (Int32.toInt64 32 &&& 63)) ||| ((Int32.toInt64 (xs ((nI i) + 2).toNatClampNeg)) &&& 4294967295)) (xs ((nI i) + 3).toNatClampNeg)) (oLeft (hD S1) b (((Int32.toInt64 (xs ((nI i) + 1).toNatClampNeg)) <<< (Int32.toInt64 32 &&& 63)) ||| ((Int32.toInt64 (xs ((nI i) + 2).toNatClampNeg)) &&& 4294967295)) (xs ((nI i) + 3).toNatClampNeg)))]) (S' := S2) rfl trivial ?_
  refine fV.lif_eq bL_law_787 (fun c787 => ?_) (fun c787 => ?_)
  · exact kk S2 (lI_ask I k1 k2)
  · exact absurd c787 (fun z => z (by rw [hDS]))
def iL_law_792_6 : List Instr := [.aload_n 1, .aload_n 0, .iload_n 3, .iconst 1, .iadd, .iaload]
theorem oL_law_792_6 : fOkB cL_law 792 iL_law_792_6 = true := by decide +kernel
set_option maxRecDepth 100000 in
theorem lL_88 : Cond.methodLink RL 88 yX7_worst ∈ fTB := fTB_at 566 rfl rfl
theorem dL_law_798 : decode cL_law 798 = .ok (.invokevirtual 88, 3) := by decide +kernel
def iL_law_801_6 : List Instr := [.aload_n 2, .aload_n 0, .iload_n 3, .iconst 1, .iadd, .iaload]
theorem oL_law_801_6 : fOkB cL_law 801 iL_law_801_6 = true := by decide +kernel
set_option maxRecDepth 100000 in
theorem lL_91 : Cond.methodLink RL 91 yX8_worst ∈ fTB := fTB_at 903 rfl rfl
theorem dL_law_807 : decode cL_law 807 = .ok (.invokevirtual 91, 3) := by decide +kernel
theorem bL_law_810 : fBk cL_law 810 (.if_icmp .eq) 878 := ⟨68, by decide +kernel, by decide⟩
set_option maxRecDepth 100000 in
theorem lw_worst {G : fG} {b0 xl i : Nat} {xs : Nat → Int32} {S : fS} (I : lI S) (hi : i + 6 ≤ xl) (hxl : xl ≤ 3072) (kk : ∀ S2, lI S2 → fV G mL_law (fZl b0 xl xs) 878 [(0, .ref 99), (1, .ref 0), (2, .ref 35), (3, .int (nI i))] [] S2) : fV G mL_law (fZl b0 xl xs) 792 [(0, .ref 99), (1, .ref 0), (2, .ref 35), (3, .int (nI i))] [] S := by
  obtain ⟨a, b, c, e, H⟩ := I.2.1
  have HG := lI_b I H
  have k7 := cnt H
  refine fV.run iL_law_792_6 oL_law_792_6 (pc' := 798) (L' := [(0, .ref 99), (1, .ref 0), (2, .ref 35), (3, .int (nI i))]) (st' := [.int (xs ((nI i) + 1).toNatClampNeg), .ref 0]) (S' := S) (P := vp_in ((nI i) + 1) xl ∧ True) rfl ⟨(by rw [show (nI i + 1 : Int32) = nI (i + 1) from nI_add i 1]; exact vp_in_nI (by omega) (by omega)), trivial⟩ ?_
  refine fV.callV (M2 := mX7_worst) (d := 20) (o := 0) (av := [.int (xs ((nI i) + 1).toNatClampNeg)]) (rest := []) kX7_worst dL_law_798 lL_88 rfl rfl rfl (Nat.le_of_ble_eq_true rfl) ⟨Nat.le_of_ble_eq_true rfl, Nat.le_of_ble_eq_true rfl⟩ ⟨Nat.le_refl _, Nat.le_refl _⟩ (qX7_worst _ H HG) ?_
  rintro _ S1 ⟨rfl, k1⟩
  have hDS : hD S1 = hC S := (hD_of k1.2.1).trans I.1.symm
  have H8 : hOk (hD S1) a b c e := by rw [hDS]; exact H
  have k8 := cntD H8
  refine fV.to (pc' := 801) (L' := [(0, .ref 99), (1, .ref 0), (2, .ref 35), (3, .int (nI i))]) (st' := [.int (oWorst (hC S) b e (xs ((nI i) + 1).toNatClampNeg))]) (S' := S1) rfl rfl rfl rfl ?_
  refine fV.run iL_law_801_6 oL_law_801_6 (pc' := 807) (L' := [(0, .ref 99), (1, .ref 0), (2, .ref 35), (3, .int (nI i))]) (st' := [.int (xs ((nI i) + 1).toNatClampNeg), .ref 35, .int (oWorst (hC S) b e (xs ((nI i) + 1).toNatClampNeg))]) (S' := S1) (P := vp_in ((nI i) + 1) xl ∧ True) rfl ⟨(by rw [show (nI i + 1 : Int32) = nI (i + 1) from nI_add i 1]; exact vp_in_nI (by omega) (by omega)), trivial⟩ ?_
  refine fV.callV (M2 := mX8_worst) (d := 20) (o := 35) (av := [.int (xs ((nI i) + 1).toNatClampNeg)]) (rest := [.int (oWorst (hC S) b e (xs ((nI i) + 1).toNatClampNeg))]) kX8_worst dL_law_807 lL_91 rfl rfl rfl (Nat.le_of_ble_eq_true rfl) ⟨Nat.le_of_ble_eq_true rfl, Nat.le_of_ble_eq_true rfl⟩ ⟨Nat.le_refl _, Nat.le_refl _⟩ (qX8_worst (S := S1) _ H8) ?_
  rintro _ S2 ⟨rfl, k2⟩
  refine fV.to (pc' := 810) (L' := [(0, .ref 99), (1, .ref 0), (2, .ref 35), (3, .int (nI i))]) (st' := [.int (oWorst (hD S1) b e (xs ((nI i) + 1).toNatClampNeg)), .int (oWorst (hC S) b e (xs ((nI i) + 1).toNatClampNeg))]) (S' := S2) rfl rfl rfl rfl ?_
  refine fV.icmp_eq bL_law_810 (fun c810 => ?_) (fun c810 => ?_)
  · exact kk S2 (lI_ask I k1 k2)
  · exact absurd c810 (fun z => z (by rw [hDS]))
def iL_law_815_26 : List Instr := [.aload_n 1, .aload_n 0, .iload_n 3, .iconst 1, .iadd, .iaload, .aload_n 0, .iload_n 3, .iconst 2, .iadd, .iaload, .aload_n 0, .iload_n 3, .iconst 3, .iadd, .iaload, .aload_n 0, .iload_n 3, .iconst 4, .iadd, .iaload, .aload_n 0, .iload_n 3, .iconst 5, .iadd, .iaload]
theorem oL_law_815_26 : fOkB cL_law 815 iL_law_815_26 = true := by decide +kernel
set_option maxRecDepth 100000 in
theorem lL_92 : Cond.methodLink RL 92 yX7_best ∈ fTB := fTB_at 570 rfl rfl
theorem dL_law_841 : decode cL_law 841 = .ok (.invokevirtual 92, 3) := by decide +kernel
def iL_law_844_26 : List Instr := [.aload_n 2, .aload_n 0, .iload_n 3, .iconst 1, .iadd, .iaload, .aload_n 0, .iload_n 3, .iconst 2, .iadd, .iaload, .aload_n 0, .iload_n 3, .iconst 3, .iadd, .iaload, .aload_n 0, .iload_n 3, .iconst 4, .iadd, .iaload, .aload_n 0, .iload_n 3, .iconst 5, .iadd, .iaload]
theorem oL_law_844_26 : fOkB cL_law 844 iL_law_844_26 = true := by decide +kernel
set_option maxRecDepth 100000 in
theorem lL_95 : Cond.methodLink RL 95 yX8_best ∈ fTB := fTB_at 907 rfl rfl
theorem dL_law_870 : decode cL_law 870 = .ok (.invokevirtual 95, 3) := by decide +kernel
theorem bL_law_873 : fBk cL_law 873 (.if_icmp .eq) 878 := ⟨5, by decide +kernel, by decide⟩
set_option maxRecDepth 100000 in
theorem lw_best {G : fG} {b0 xl i : Nat} {xs : Nat → Int32} {S : fS} (I : lI S) (hi : i + 6 ≤ xl) (hxl : xl ≤ 3072) (kk : ∀ S2, lI S2 → fV G mL_law (fZl b0 xl xs) 878 [(0, .ref 99), (1, .ref 0), (2, .ref 35), (3, .int (nI i))] [] S2) : fV G mL_law (fZl b0 xl xs) 815 [(0, .ref 99), (1, .ref 0), (2, .ref 35), (3, .int (nI i))] [] S := by
  obtain ⟨a, b, c, e, H⟩ := I.2.1
  have HG := lI_b I H
  have k7 := cnt H
  refine fV.run iL_law_815_26 oL_law_815_26 (pc' := 841) (L' := [(0, .ref 99), (1, .ref 0), (2, .ref 35), (3, .int (nI i))]) (st' := [.int (xs ((nI i) + 5).toNatClampNeg), .int (xs ((nI i) + 4).toNatClampNeg), .int (xs ((nI i) + 3).toNatClampNeg), .int (xs ((nI i) + 2).toNatClampNeg), .int (xs ((nI i) + 1).toNatClampNeg), .ref 0]) (S' := S) (P := vp_in ((nI i) + 1) xl ∧ vp_in ((nI i) + 2) xl ∧ vp_in ((nI i) + 3) xl ∧ vp_in ((nI i) + 4) xl ∧ vp_in ((nI i) + 5) xl ∧ True) rfl ⟨(by rw [show (nI i + 1 : Int32) = nI (i + 1) from nI_add i 1]; exact vp_in_nI (by omega) (by omega)), (by rw [show (nI i + 2 : Int32) = nI (i + 2) from nI_add i 2]; exact vp_in_nI (by omega) (by omega)), (by rw [show (nI i + 3 : Int32) = nI (i + 3) from nI_add i 3]; exact vp_in_nI (by omega) (by omega)), (by rw [show (nI i + 4 : Int32) = nI (i + 4) from nI_add i 4]; exact vp_in_nI (by omega) (by omega)), (by rw [show (nI i + 5 : Int32) = nI (i + 5) from nI_add i 5]; exact vp_in_nI (by omega) (by omega)), trivial⟩ ?_
  refine fV.callV (M2 := mX7_best) (d := 20) (o := 0) (av := [.int (xs ((nI i) + 1).toNatClampNeg), .int (xs ((nI i) + 2).toNatClampNeg), .int (xs ((nI i) + 3).toNatClampNeg), .int (xs ((nI i) + 4).toNatClampNeg), .int (xs ((nI i) + 5).toNatClampNeg)]) (rest := []) kX7_best dL_law_841 lL_92 rfl rfl rfl (Nat.le_of_ble_eq_true rfl) ⟨Nat.le_of_ble_eq_true rfl, Nat.le_of_ble_eq_true rfl⟩ ⟨Nat.le_refl _, Nat.le_refl _⟩ (qX7_best _ _ _ _ _ H HG) ?_
  rintro _ S1 ⟨rfl, k1⟩
  have hDS : hD S1 = hC S := (hD_of k1.2.1).trans I.1.symm
  have H8 : hOk (hD S1) a b c e := by rw [hDS]; exact H
  have k8 := cntD H8
  refine fV.to (pc' := 844) (L' := [(0, .ref 99), (1, .ref 0), (2, .ref 35), (3, .int (nI i))]) (st' := [.int (oBest (hC S) a b (xs ((nI i) + 1).toNatClampNeg) (xs ((nI i) + 2).toNatClampNeg) (xs ((nI i) + 3).toNatClampNeg) (xs ((nI i) + 4).toNatClampNeg) (xs ((nI i) + 5).toNatClampNeg))]) (S' := S1) rfl rfl rfl rfl ?_
  refine fV.run iL_law_844_26 oL_law_844_26 (pc' := 870) (L' := [(0, .ref 99), (1, .ref 0), (2, .ref 35), (3, .int (nI i))]) (st' := [.int (xs ((nI i) + 5).toNatClampNeg), .int (xs ((nI i) + 4).toNatClampNeg), .int (xs ((nI i) + 3).toNatClampNeg), .int (xs ((nI i) + 2).toNatClampNeg), .int (xs ((nI i) + 1).toNatClampNeg), .ref 35, .int (oBest (hC S) a b (xs ((nI i) + 1).toNatClampNeg) (xs ((nI i) + 2).toNatClampNeg) (xs ((nI i) + 3).toNatClampNeg) (xs ((nI i) + 4).toNatClampNeg) (xs ((nI i) + 5).toNatClampNeg))]) (S' := S1) (P := vp_in ((nI i) + 1) xl ∧ vp_in ((nI i) + 2) xl ∧ vp_in ((nI i) + 3) xl ∧ vp_in ((nI i) + 4) xl ∧ vp_in ((nI i) + 5) xl ∧ True) rfl ⟨(by rw [show (nI i + 1 : Int32) = nI (i + 1) from nI_add i 1]; exact vp_in_nI (by omega) (by omega)), (by rw [show (nI i + 2 : Int32) = nI (i + 2) from nI_add i 2]; exact vp_in_nI (by omega) (by omega)), (by rw [show (nI i + 3 : Int32) = nI (i + 3) from nI_add i 3]; exact vp_in_nI (by omega) (by omega)), (by rw [show (nI i + 4 : Int32) = nI (i + 4) from nI_add i 4]; exact vp_in_nI (by omega) (by omega)), (by rw [show (nI i + 5 : Int32) = nI (i + 5) from nI_add i 5]; exact vp_in_nI (by omega) (by omega)), trivial⟩ ?_
  refine fV.callV (M2 := mX8_best) (d := 20) (o := 35) (av := [.int (xs ((nI i) + 1).toNatClampNeg), .int (xs ((nI i) + 2).toNatClampNeg), .int (xs ((nI i) + 3).toNatClampNeg), .int (xs ((nI i) + 4).toNatClampNeg), .int (xs ((nI i) + 5).toNatClampNeg)]) (rest := [.int (oBest (hC S) a b (xs ((nI i) + 1).toNatClampNeg) (xs ((nI i) + 2).toNatClampNeg) (xs ((nI i) + 3).toNatClampNeg) (xs ((nI i) + 4).toNatClampNeg) (xs ((nI i) + 5).toNatClampNeg))]) kX8_best dL_law_870 lL_95 rfl rfl rfl (Nat.le_of_ble_eq_true rfl) ⟨Nat.le_of_ble_eq_true rfl, Nat.le_of_ble_eq_true rfl⟩ ⟨Nat.le_refl _, Nat.le_refl _⟩ (qX8_best (S := S1) _ _ _ _ _ H8) ?_
  rintro _ S2 ⟨rfl, k2⟩
  refine fV.to (pc' := 873) (L' := [(0, .ref 99), (1, .ref 0), (2, .ref 35), (3, .int (nI i))]) (st' := [.int (oBest (hD S1) a b (xs ((nI i) + 1).toNatClampNeg) (xs ((nI i) + 2).toNatClampNeg) (xs ((nI i) + 3).toNatClampNeg) (xs ((nI i) + 4).toNatClampNeg) (xs ((nI i) + 5).toNatClampNeg)), .int (oBest (hC S) a b (xs ((nI i) + 1).toNatClampNeg) (xs ((nI i) + 2).toNatClampNeg) (xs ((nI i) + 3).toNatClampNeg) (xs ((nI i) + 4).toNatClampNeg) (xs ((nI i) + 5).toNatClampNeg))]) (S' := S2) rfl rfl rfl rfl ?_
  refine fV.icmp_eq bL_law_873 (fun c873 => ?_) (fun c873 => ?_)
  · exact kk S2 (lI_ask I k1 k2)
  · exact absurd c873 (fun z => z (by rw [hDS]))
theorem dL_law_885 : decode cL_law 885 = .ok (.ireturn, 1) := by decide +kernel
def iL_law_18_5 : List Instr := [.iload_n 3, .aload_n 0, .arraylength, .bipush 6, .isub]
theorem oL_law_18_5 : fOkB cL_law 18 iL_law_18_5 = true := by decide +kernel
theorem bL_law_24 : fBk cL_law 24 (.if_icmp .gt) 884 := ⟨860, by decide +kernel, by decide⟩
def iL_law_884_1 : List Instr := [.iconst 1]
theorem oL_law_884_1 : fOkB cL_law 884 iL_law_884_1 = true := by decide +kernel
def iL_law_27_5 : List Instr := [.aload_n 0, .iload_n 3, .iaload, .bipush 31, .iand]
theorem oL_law_27_5 : fOkB cL_law 27 iL_law_27_5 = true := by decide +kernel
theorem dL_law_33 : decode cL_law 33 = .ok (.tableswitch 845 0 17 #[87, 120, 183, 216, 229, 272, 305, 358, 391, 424, 447, 490, 544, 607, 651, 695, 759, 782], 87) := by decide +kernel
def iL_law_878_2 : List Instr := [.iinc 3 6, .goto (-863)]
theorem oL_law_878_2 : fOkB cL_law 878 iL_law_878_2 = true := by decide +kernel
theorem law_c {i xl : Nat} (hi : i ≤ 4000) (hx : xl ≤ 3072) : (Int32.ofNat xl - 6 < nI i) ↔ ¬ i + 6 ≤ xl := by
  have e : (Int32.ofNat xl).toInt = (xl : Int) := nI_toInt (n := xl) (by omega)
  have e6 : (6 : Int32).toInt = 6 := by decide
  have es : (Int32.ofNat xl - 6).toInt = (xl : Int) - 6 := by
    rw [Int32.toInt_sub, e, e6, Int.bmod_def]; omega
  rw [Int32.lt_iff_toInt_lt, es, nI_toInt (by omega)]
  omega
set_option maxRecDepth 100000 in
theorem law_loop {G : fG} {b0 xl : Nat} {xs : Nat → Int32} (hxl : xl ≤ 3072) : ∀ (u i : Nat) (S : fS), xl + 1 ≤ i + u → i ≤ 4000 → lI S → fV G mL_law (fZl b0 xl xs) 18 [(0, .ref 99), (1, .ref 0), (2, .ref 35), (3, .int (nI i))] [] S := by
  intro u
  induction u with
  | zero =>
    intro i S hu h4 I
    refine fV.run iL_law_18_5 oL_law_18_5 (pc' := 24) (L' := [(0, .ref 99), (1, .ref 0), (2, .ref 35), (3, .int (nI i))]) (st' := [.int ((Int32.ofNat xl) - 6), .int (nI i)]) (S' := S) rfl trivial ?_
    refine fV.icmp_gt bL_law_24 (fun c24 => ?_) (fun c24 => ?_)
    · refine fV.run iL_law_884_1 oL_law_884_1 (pc' := 885) (L' := [(0, .ref 99), (1, .ref 0), (2, .ref 35), (3, .int (nI i))]) (st' := [.int 1]) (S' := S) rfl trivial ?_
      exact fV.lend dL_law_885
    · exact absurd c24 (fun z => z ((law_c (by omega) hxl).mpr (by omega)))
  | succ u ih =>
    intro i S hu h4 I
    by_cases hi : i + 6 ≤ xl
    · have kk : ∀ S2, lI S2 → fV G mL_law (fZl b0 xl xs) 878 [(0, .ref 99), (1, .ref 0), (2, .ref 35), (3, .int (nI i))] [] S2 := by
        intro S2 I2
        refine fV.run iL_law_878_2 oL_law_878_2 (pc' := 18) (L' := [(0, .ref 99), (1, .ref 0), (2, .ref 35), (3, .int ((nI i) + 6))]) (st' := []) (S' := S2) rfl trivial ?_
        exact fV.to (L' := [(0, .ref 99), (1, .ref 0), (2, .ref 35), (3, .int (nI (i + 6)))]) rfl (by rw [show nI i + 6 = nI (i + 6) from nI_add i 6]) rfl rfl (ih (i + 6) S2 (by omega) (by omega) I2)
      refine fV.run iL_law_18_5 oL_law_18_5 (pc' := 24) (L' := [(0, .ref 99), (1, .ref 0), (2, .ref 35), (3, .int (nI i))]) (st' := [.int ((Int32.ofNat xl) - 6), .int (nI i)]) (S' := S) rfl trivial ?_
      refine fV.icmp_gt bL_law_24 (fun c24 => ?_) (fun c24 => ?_)
      · refine fV.run iL_law_884_1 oL_law_884_1 (pc' := 885) (L' := [(0, .ref 99), (1, .ref 0), (2, .ref 35), (3, .int (nI i))]) (st' := [.int 1]) (S' := S) rfl trivial ?_
        exact fV.lend dL_law_885
      · refine fV.run iL_law_27_5 oL_law_27_5 (pc' := 33) (L' := [(0, .ref 99), (1, .ref 0), (2, .ref 35), (3, .int (nI i))]) (st' := [.int ((xs (nI i).toNatClampNeg) &&& 31)]) (S' := S) (P := vp_in (nI i) xl ∧ True) rfl ⟨(vp_in_nI (by omega) (by omega)), trivial⟩ ?_
        refine fV.tsw (tgt := 878) dL_law_33 (by decide) (fun h1 h2 => ?_) (fun hx => ?_)
        · rcases (show Int32.toInt ((xs (nI i).toNatClampNeg) &&& 31) = 0 ∨ Int32.toInt ((xs (nI i).toNatClampNeg) &&& 31) = 1 ∨ Int32.toInt ((xs (nI i).toNatClampNeg) &&& 31) = 2 ∨ Int32.toInt ((xs (nI i).toNatClampNeg) &&& 31) = 3 ∨ Int32.toInt ((xs (nI i).toNatClampNeg) &&& 31) = 4 ∨ Int32.toInt ((xs (nI i).toNatClampNeg) &&& 31) = 5 ∨ Int32.toInt ((xs (nI i).toNatClampNeg) &&& 31) = 6 ∨ Int32.toInt ((xs (nI i).toNatClampNeg) &&& 31) = 7 ∨ Int32.toInt ((xs (nI i).toNatClampNeg) &&& 31) = 8 ∨ Int32.toInt ((xs (nI i).toNatClampNeg) &&& 31) = 9 ∨ Int32.toInt ((xs (nI i).toNatClampNeg) &&& 31) = 10 ∨ Int32.toInt ((xs (nI i).toNatClampNeg) &&& 31) = 11 ∨ Int32.toInt ((xs (nI i).toNatClampNeg) &&& 31) = 12 ∨ Int32.toInt ((xs (nI i).toNatClampNeg) &&& 31) = 13 ∨ Int32.toInt ((xs (nI i).toNatClampNeg) &&& 31) = 14 ∨ Int32.toInt ((xs (nI i).toNatClampNeg) &&& 31) = 15 ∨ Int32.toInt ((xs (nI i).toNatClampNeg) &&& 31) = 16 ∨ Int32.toInt ((xs (nI i).toNatClampNeg) &&& 31) = 17 by omega) with hx | hx | hx | hx | hx | hx | hx | hx | hx | hx | hx | hx | hx | hx | hx | hx | hx | hx
          · refine ⟨87, 120, by rw [hx]; rfl, by decide, ?_⟩
            exact lw_stuff I hi hxl kk
          · refine ⟨120, 153, by rw [hx]; rfl, by decide, ?_⟩
            exact lw_wall I hi hxl kk
          · refine ⟨183, 216, by rw [hx]; rfl, by decide, ?_⟩
            exact lw_cover I hi hxl kk
          · refine ⟨216, 249, by rw [hx]; rfl, by decide, ?_⟩
            exact lw_back I hi hxl kk
          · refine ⟨229, 262, by rw [hx]; rfl, by decide, ?_⟩
            exact lw_source I hi hxl kk
          · refine ⟨272, 305, by rw [hx]; rfl, by decide, ?_⟩
            exact lw_seat I hi hxl kk
          · refine ⟨305, 338, by rw [hx]; rfl, by decide, ?_⟩
            exact lw_move I hi hxl kk
          · refine ⟨358, 391, by rw [hx]; rfl, by decide, ?_⟩
            exact lw_rule I hi hxl kk
          · refine ⟨391, 424, by rw [hx]; rfl, by decide, ?_⟩
            exact lw_told I hi hxl kk
          · refine ⟨424, 457, by rw [hx]; rfl, by decide, ?_⟩
            exact lw_count I hi hxl kk
          · refine ⟨447, 480, by rw [hx]; rfl, by decide, ?_⟩
            exact lw_paths I hi hxl kk
          · refine ⟨490, 523, by rw [hx]; rfl, by decide, ?_⟩
            exact lw_path I hi hxl kk
          · refine ⟨544, 577, by rw [hx]; rfl, by decide, ?_⟩
            exact lw_sees I hi hxl kk
          · refine ⟨607, 640, by rw [hx]; rfl, by decide, ?_⟩
            exact lw_heard I hi hxl kk
          · refine ⟨651, 684, by rw [hx]; rfl, by decide, ?_⟩
            exact lw_at I hi hxl kk
          · refine ⟨695, 728, by rw [hx]; rfl, by decide, ?_⟩
            exact lw_left I hi hxl kk
          · refine ⟨759, 792, by rw [hx]; rfl, by decide, ?_⟩
            exact lw_worst I hi hxl kk
          · refine ⟨782, 815, by rw [hx]; rfl, by decide, ?_⟩
            exact lw_best I hi hxl kk
        · exact kk S I
    · refine fV.run iL_law_18_5 oL_law_18_5 (pc' := 24) (L' := [(0, .ref 99), (1, .ref 0), (2, .ref 35), (3, .int (nI i))]) (st' := [.int ((Int32.ofNat xl) - 6), .int (nI i)]) (S' := S) rfl trivial ?_
      refine fV.icmp_gt bL_law_24 (fun c24 => ?_) (fun c24 => ?_)
      · refine fV.run iL_law_884_1 oL_law_884_1 (pc' := 885) (L' := [(0, .ref 99), (1, .ref 0), (2, .ref 35), (3, .int (nI i))]) (st' := [.int 1]) (S' := S) rfl trivial ?_
        exact fV.lend dL_law_885
      · exact absurd c24 (fun z => z ((law_c (by omega) hxl).mpr (by omega)))

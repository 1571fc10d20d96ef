/-! the law from its entry: the two objects made, then its loop -/
def iniH : fH := ((fun _ _ => 0), (fun _ _ => 0), (fun _ _ => 0), fun _ _ => 0)
def iniS : fS := wA (wA (wI (wI (wI (wA (wI (wI (wI (wI (wI (iniH, iniH) 1 2 1) 24 3 (-1)) 28 10 (-1)) 0 9 2) 0 10 4) 2 (upd (fun _ => 0) (0 : Int32).toNatClampNeg 80)) 35 0 1) 35 13 2) 35 14 4) 36 (upd (fun _ => 0) (0 : Int32).toNatClampNeg 80)) 37 (upd (fun _ => 0) (0 : Int32).toNatClampNeg 0)
theorem iniS_ok : lI iniS := by
  have e : (upd (fun _ => 0) (0 : Int32).toNatClampNeg 0) = (fun _ => (0 : Int32)) := by
    funext j
    unfold upd
    split <;> rfl
  refine ⟨?_, ⟨1, 0, 0, 0, ⟨rfl, by decide, by decide, fun i hi => ?_⟩, ⟨rfl, by decide, fun w hw => absurd hw (by omega)⟩, ⟨rfl, by decide, fun w hw => absurd hw (by omega)⟩, ⟨rfl, by decide, fun w hw => absurd hw (by omega)⟩, by decide, by decide⟩, fun b hb h16 => ?_⟩
  · show (((1 : Int32), upd (fun _ => 0) (0 : Int32).toNatClampNeg 80, (fun _ => (0 : Int32))), ((0 : Int32), (fun _ => (0 : Int32)), (fun _ => (0 : Int32))), ((0 : Int32), (fun _ => (0 : Int32)), (fun _ => (0 : Int32)), (fun _ => (0 : Int32))), ((0 : Int32), (fun _ => (0 : Int32)), (fun _ => (0 : Int32))), ((2 : Int32), (4 : Int32))) = (((1 : Int32), upd (fun _ => 0) (0 : Int32).toNatClampNeg 80, upd (fun _ => 0) (0 : Int32).toNatClampNeg 0), ((0 : Int32), (fun _ => (0 : Int32)), (fun _ => (0 : Int32))), ((0 : Int32), (fun _ => (0 : Int32)), (fun _ => (0 : Int32)), (fun _ => (0 : Int32))), ((0 : Int32), (fun _ => (0 : Int32)), (fun _ => (0 : Int32))), ((2 : Int32), (4 : Int32)))
    rw [e]
  · obtain rfl : i = 0 := by omega
    exact (show ((0 : Int32) ≤ 80 ∧ (80 : Int32) ≤ 100) ∧ ((0 : Int32) ≤ 0 ∧ (0 : Int32) ≤ 1000) by decide)
  · have h0 : (0 : Int32) = nI b := hb
    have : 0 = b := (nI_eqI (a := 0) (by decide) (by omega)).mp h0
    subst this
    exact fun w hw => absurd hw (by omega)
theorem nest7_c (U : State) (g : JFrame) (mk : MethodId) (aa : Array Value) (h : nest7 U) : nest7 (U.calling g mk aa) := ⟨va_Nw.same rfl rfl h.1, va_Nw.same rfl rfl h.2.1, va_Nw.same rfl rfl h.2.2.1, va_Nw.same rfl rfl h.2.2.2.1, va_Nw.same rfl rfl h.2.2.2.2⟩
theorem nest7_w {s U : State} (hW : s.WarmedH U.vm) (h : nest7 s) : nest7 U := ⟨va_Nw.warmM hW h.1, va_Nw.warmM hW h.2.1, va_Nw.warmM hW h.2.2.1, va_Nw.warmM hW h.2.2.2.1, va_Nw.warmM hW h.2.2.2.2⟩
def nZl (b0 xl : Nat) (xs : Nat → Int32) : nZ := (room_1, (fun s q => s.heap.size ≤ q), (fun below _ s => lw_Z below #[Value.ref b0] s), (fun s => nest7 s ∧ va_X b0 xl xs s s.heap ∧ b0 < s.heap.size), fun args _ => args = #[Value.ref b0])
theorem nV.pick {G : nG} {M : fM} {Z : nZ} {cells slots pc : Nat} {L L' : List (Nat × Value)} {st : List Value} {ws : va_W} (ks : List Nat) (h : lv_pick L ks = L') (kk : nV G M Z cells slots pc L' st ws) : nV G M Z cells slots pc L st ws :=
  fun p e s m args below meth c X Y h5 h6 H locs ls g1 g2 g3 g4 => kk p e s m args below meth c X Y h5 h6 H locs ls g1 g2 g3 (fls_less g4 (fun q hq => by
    rw [← h] at hq
    obtain ⟨k, -, hk⟩ := List.mem_filterMap.mp hq
    exact List.mem_of_getElem? hk))
def fCell2 (ad : Nat → Nat) (cI cJ : ClassId) (S : fS) (o : Nat) (e : Nat × List (Nat × Nat)) : va_E := match e.1 with
  | 20 => .inl (cI, fLen e, .inl (gA S o))
  | 21 => .inl (cJ, fLen e, .inr (.inl (gB S o)))
  | ci => .inr (ci, e.2.zipIdx.map fun p => cv ad (fFld S o p.2 p.1))
theorem fCell2_eq (ad : Nat → Nat) (cI cJ : ClassId) (S : fS) (o : Nat) (e : Nat × List (Nat × Nat)) : fCell ad cI cJ S o e = fCell2 ad cI cJ S o e := by
  unfold fCell fCell2
  rw [List.mapIdx_eq_zipIdx_map]
  rfl
def fW2 (ad : Nat → Nat) (cI cJ : ClassId) (S : fS) : va_W := fLay.zipIdx.map fun p => (ad p.2, fCell2 ad cI cJ S p.2 p.1)
theorem fW2_eq (ad : Nat → Nat) (cI cJ : ClassId) (S : fS) : fW ad cI cJ S = fW2 ad cI cJ S := by
  unfold fW fW2
  rw [List.mapIdx_eq_zipIdx_map]
  refine List.map_congr_left (fun p _ => ?_)
  show (ad p.2, fCell ad cI cJ S p.2 p.1) = _
  rw [fCell2_eq]
theorem law_enter {G : nG} {ad : Nat → Nat} {S : fS} {b0 xl cells slots pc : Nat} {xs : Nat → Int32} {L : List (Nat × Value)} {Lf : fL} {ws : va_W} (h : fV (G.1, G.2.1, ad, G.2.2.1, G.2.2.2) mL_law (fZl b0 xl xs) pc Lf [] S) (hb : ad 99 = b0) (hws : ws = fW2 ad G.2.2.1 G.2.2.2 S) (hL : L = fLs ad Lf) (hc : cells ≤ 600000) (hs : slots ≤ 7302250) : nV G mL_law (nZl b0 xl xs) cells slots pc L [] ws := by
  intro p e s m args below meth c X Y h5 h6 H locs ls g1 g2 g3 g4
  rw [hws, ← fW2_eq] at g1 g2
  rw [hL] at g4
  have h5 : nest7 s ∧ va_X b0 xl xs s s.heap ∧ b0 < s.heap.size := h5
  rw [← hb] at h5
  have hat : ∀ a, a < 56 → ∃ x, (fW ad G.2.2.1 G.2.2.2 S)[a]? = some (ad a, x) := fun a ha => by
    obtain ⟨d, hd⟩ : ∃ d, fLay[a]? = some d := ⟨_, List.getElem?_eq_getElem (by rw [fLay_len]; exact ha)⟩
    exact ⟨_, fW_at ad G.2.2.1 G.2.2.2 S hd⟩
  have hsc : fScOk (some (xl, xs)) ad (fun q => s.heap.size ≤ q) s := ⟨h5.2.1, h5.2.2, Nat.not_le.mpr h5.2.2⟩
  have hinj : ∀ a b, a < 56 → b < 56 → ad a = ad b → a = b := fun a b ha hb e2 => by
    obtain ⟨x, hx⟩ := hat a ha
    obtain ⟨y, hy⟩ := hat b hb
    exact g2.1 a b _ _ hx hy e2
  have hA : ∀ a, a < 56 → s.heap.size ≤ ad a := fun a ha => by
    obtain ⟨x, hx⟩ := hat a ha
    exact g2.2 a _ hx
  have hcx : fCtx p s m args c G.2.1 ad G.2.2.1 G.2.2.2 (fun q => s.heap.size ≤ q) mL_law.1.cls mL_law.2.1 mL_law.2.2.2.2.1 mL_law.2.2.2.2.2 (some (xl, xs)) := ⟨X.1, X.2.1, X.2.2.1, X.2.2.2.1, X.2.2.2.2.1, hinj, hA, bXL_law.1, bXL_law.2.1, hsc⟩
  have hv := h p e s m args below meth c hcx Y.1 Y.2.1 Y.2.2 h6 H locs ls g1 g3 g4
  exact W.widen (k := 600000) (n := 7302250) hc hs hv
set_option maxRecDepth 100000 in
theorem wClL_7 : Cond.classLink RL 7 RX7 ∈ fTB := fTB_at 61 rfl rfl
theorem dNL_law_0 : decode cL_law 0 = .ok (.new 7, 3) := by decide +kernel
theorem dNL_law_3 : decode cL_law 3 = .ok (.dup, 1) := by decide +kernel
set_option maxRecDepth 100000 in
theorem wLL_9 : Cond.methodLink RL 9 yX7_init ∈ fTB := fTB_at 63 rfl rfl
theorem dNL_law_4 : decode cL_law 4 = .ok (.invokespecial 9, 3) := by decide +kernel
theorem dNL_law_7 : decode cL_law 7 = .ok (.astore_n 1, 1) := by decide +kernel
set_option maxRecDepth 100000 in
theorem wClL_10 : Cond.classLink RL 10 RX8 ∈ fTB := fTB_at 610 rfl rfl
theorem dNL_law_8 : decode cL_law 8 = .ok (.new 10, 3) := by decide +kernel
theorem dNL_law_11 : decode cL_law 11 = .ok (.dup, 1) := by decide +kernel
set_option maxRecDepth 100000 in
theorem wLL_12 : Cond.methodLink RL 12 yX8_init ∈ fTB := fTB_at 612 rfl rfl
theorem dNL_law_12 : decode cL_law 12 = .ok (.invokespecial 12, 3) := by decide +kernel
theorem dNL_law_15 : decode cL_law 15 = .ok (.astore_n 2, 1) := by decide +kernel
theorem dNL_law_16 : decode cL_law 16 = .ok (.iconst 0, 1) := by decide +kernel
theorem dNL_law_17 : decode cL_law 17 = .ok (.istore_n 3, 1) := by decide +kernel
set_option maxRecDepth 100000 in
theorem law_start {G : nG} {b0 xl : Nat} {xs : Nat → Int32} (hxl : xl ≤ 3072) : nV G mL_law (nZl b0 xl xs) 0 0 0 [(0, .ref b0)] [] [] := by
  refine nV.new (C := RX7) (T := TX7) (N := 11) (ci := 7) (fs := [.null, .null, .null, .null, .null, .null, .null, .null, .null, .int 0, .int 0]) dNL_law_0 inT7 tyX7 tyX7_ok wClL_7 wIs7 wIn7 rfl (fun j hj => by rcases (show j = 0 ∨ j = 1 ∨ j = 2 ∨ j = 3 ∨ j = 4 ∨ j = 5 ∨ j = 6 ∨ j = 7 ∨ j = 8 ∨ j = 9 ∨ j = 10 by omega) with rfl | rfl | rfl | rfl | rfl | rfl | rfl | rfl | rfl | rfl | rfl <;> rfl) (Nat.le_of_ble_eq_true rfl) (Nat.le_of_ble_eq_true rfl) (fun q0 => ?_)
  refine nV.to (cells' := 1) (slots' := 11) (ws' := [(q0, .inr (7, [.null, .null, .null, .null, .null, .null, .null, .null, .null, .int 0, .int 0]))]) rfl rfl rfl ?_
  refine nV.dup dNL_law_3 ?_
  refine nV.call (M2 := mX7_init) (rm := { frames := 8, cells := 34, slots := 11868, locals := 600 }) (wr := []) (i := 0) (av := []) (rest := [.ref q0]) [] kX7_init jX7_init rfl rfl dNL_law_4 wLL_9 rfl rfl (Nat.le_of_ble_eq_true rfl) ⟨(Nat.le_of_ble_eq_true rfl), (Nat.le_of_ble_eq_true rfl)⟩ ⟨(Nat.le_of_ble_eq_true rfl), (Nat.le_of_ble_eq_true rfl)⟩ crX7_init nest7_c (fun s U h z => nest7_w h z.1) rfl rfl rfl (by decide) (fun u4 => ?_)
  refine nV.to (cells' := 35) (slots' := 11879) (ws' := [(q0, .inr (7, [.ref (u4 0), .ref (u4 3), .ref (u4 10), .ref (u4 13), .ref (u4 16), .ref (u4 17), .ref (u4 23), .ref (u4 26), .ref (u4 27), .int 2, .int 4])), ((u4 0), .inr (4, [.ref (u4 1), .ref (u4 2), .int 1])), ((u4 1), .inl (G.2.2.1, 8, .inl (upd (fun _ => 0) (0 : Int32).toNatClampNeg 80))), ((u4 2), .inl (G.2.2.1, 8, .inl (fun _ => 0))), ((u4 3), .inr (6, [.ref (u4 4), .ref (u4 5), .ref (u4 6), .ref (u4 7), .ref (u4 8), .ref (u4 9), .int 0])), ((u4 4), .inl (G.2.2.1, 64, .inl (fun _ => 0))), ((u4 5), .inl (G.2.2.1, 16, .inl (fun _ => 0))), ((u4 6), .inl (G.2.2.1, 16, .inl (fun _ => 0))), ((u4 7), .inl (G.2.2.1, 16, .inl (fun _ => 0))), ((u4 8), .inl (G.2.2.1, 16, .inl (fun _ => 0))), ((u4 9), .inl (G.2.2.1, 16, .inl (fun _ => 0))), ((u4 10), .inr (2, [.ref (u4 11), .ref (u4 12), .int 0])), ((u4 11), .inl (G.2.2.1, 4, .inl (fun _ => 0))), ((u4 12), .inl (G.2.2.1, 4, .inl (fun _ => 0))), ((u4 13), .inr (2, [.ref (u4 14), .ref (u4 15), .int 0])), ((u4 14), .inl (G.2.2.1, 8, .inl (fun _ => 0))), ((u4 15), .inl (G.2.2.1, 8, .inl (fun _ => 0))), ((u4 16), .inl (G.2.2.1, 4, .inl (fun _ => 0))), ((u4 17), .inr (3, [.ref (u4 18), .ref (u4 19), .ref (u4 20), .ref (u4 21), .ref (u4 22), .int 0, .int 0, .int 0])), ((u4 18), .inl (G.2.2.1, 3, .inl (fun _ => 0))), ((u4 19), .inl (G.2.2.1, 8, .inl (fun _ => 0))), ((u4 20), .inl (G.2.2.1, 8, .inl (fun _ => 0))), ((u4 21), .inl (G.2.2.2, 5, .inr (.inl (fun _ => 0)))), ((u4 22), .inl (G.2.2.2, 5, .inr (.inl (fun _ => 0)))), ((u4 23), .inr (1, [.ref (u4 24), .ref (u4 25), .int 0, .int (-1)])), ((u4 24), .inl (G.2.2.1, 3857, .inl (fun _ => 0))), ((u4 25), .inl (G.2.2.2, 3857, .inr (.inl (fun _ => 0)))), ((u4 26), .inr (5, [.long 0, .long 0, .long 0])), ((u4 27), .inr (0, [.ref (u4 28), .ref (u4 29), .ref (u4 30), .ref (u4 31), .ref (u4 32), .ref (u4 33), .int 0, .int 0, .int 0, .int 0, .int (-1), .int 0, .int 0])), ((u4 28), .inl (G.2.2.1, 4, .inl (fun _ => 0))), ((u4 29), .inl (G.2.2.1, 16, .inl (fun _ => 0))), ((u4 30), .inl (G.2.2.1, 3857, .inl (fun _ => 0))), ((u4 31), .inl (G.2.2.1, 6, .inl (fun _ => 0))), ((u4 32), .inl (G.2.2.2, 5, .inr (.inl (fun _ => 0)))), ((u4 33), .inl (G.2.2.2, 5, .inr (.inl (fun _ => 0))))]) rfl rfl rfl ?_
  refine nV.astore (L' := [(1, .ref q0), (0, .ref b0)]) dNL_law_7 (by decide) rfl ?_
  refine nV.new (C := RX8) (T := TX8) (N := 30) (ci := 8) (fs := [.int 0, .null, .null, .int 0, .null, .null, .int 0, .null, .null, .null, .int 0, .null, .null, .int 0, .int 0, .null, .null, .null, .null, .null, .null, .null, .int 0, .long 0, .long 0, .int 0, .null, .null, .null, .null]) dNL_law_8 inT8 tyX8 tyX8_ok wClL_10 wIs8 wIn8 rfl (fun j hj => by rcases (show j = 0 ∨ j = 1 ∨ j = 2 ∨ j = 3 ∨ j = 4 ∨ j = 5 ∨ j = 6 ∨ j = 7 ∨ j = 8 ∨ j = 9 ∨ j = 10 ∨ j = 11 ∨ j = 12 ∨ j = 13 ∨ j = 14 ∨ j = 15 ∨ j = 16 ∨ j = 17 ∨ j = 18 ∨ j = 19 ∨ j = 20 ∨ j = 21 ∨ j = 22 ∨ j = 23 ∨ j = 24 ∨ j = 25 ∨ j = 26 ∨ j = 27 ∨ j = 28 ∨ j = 29 by omega) with rfl | rfl | rfl | rfl | rfl | rfl | rfl | rfl | rfl | rfl | rfl | rfl | rfl | rfl | rfl | rfl | rfl | rfl | rfl | rfl | rfl | rfl | rfl | rfl | rfl | rfl | rfl | rfl | rfl | rfl <;> rfl) (Nat.le_of_ble_eq_true rfl) (Nat.le_of_ble_eq_true rfl) (fun q8 => ?_)
  refine nV.to (cells' := 36) (slots' := 11909) (ws' := [(q0, .inr (7, [.ref (u4 0), .ref (u4 3), .ref (u4 10), .ref (u4 13), .ref (u4 16), .ref (u4 17), .ref (u4 23), .ref (u4 26), .ref (u4 27), .int 2, .int 4])), ((u4 0), .inr (4, [.ref (u4 1), .ref (u4 2), .int 1])), ((u4 1), .inl (G.2.2.1, 8, .inl (upd (fun _ => 0) (0 : Int32).toNatClampNeg 80))), ((u4 2), .inl (G.2.2.1, 8, .inl (fun _ => 0))), ((u4 3), .inr (6, [.ref (u4 4), .ref (u4 5), .ref (u4 6), .ref (u4 7), .ref (u4 8), .ref (u4 9), .int 0])), ((u4 4), .inl (G.2.2.1, 64, .inl (fun _ => 0))), ((u4 5), .inl (G.2.2.1, 16, .inl (fun _ => 0))), ((u4 6), .inl (G.2.2.1, 16, .inl (fun _ => 0))), ((u4 7), .inl (G.2.2.1, 16, .inl (fun _ => 0))), ((u4 8), .inl (G.2.2.1, 16, .inl (fun _ => 0))), ((u4 9), .inl (G.2.2.1, 16, .inl (fun _ => 0))), ((u4 10), .inr (2, [.ref (u4 11), .ref (u4 12), .int 0])), ((u4 11), .inl (G.2.2.1, 4, .inl (fun _ => 0))), ((u4 12), .inl (G.2.2.1, 4, .inl (fun _ => 0))), ((u4 13), .inr (2, [.ref (u4 14), .ref (u4 15), .int 0])), ((u4 14), .inl (G.2.2.1, 8, .inl (fun _ => 0))), ((u4 15), .inl (G.2.2.1, 8, .inl (fun _ => 0))), ((u4 16), .inl (G.2.2.1, 4, .inl (fun _ => 0))), ((u4 17), .inr (3, [.ref (u4 18), .ref (u4 19), .ref (u4 20), .ref (u4 21), .ref (u4 22), .int 0, .int 0, .int 0])), ((u4 18), .inl (G.2.2.1, 3, .inl (fun _ => 0))), ((u4 19), .inl (G.2.2.1, 8, .inl (fun _ => 0))), ((u4 20), .inl (G.2.2.1, 8, .inl (fun _ => 0))), ((u4 21), .inl (G.2.2.2, 5, .inr (.inl (fun _ => 0)))), ((u4 22), .inl (G.2.2.2, 5, .inr (.inl (fun _ => 0)))), ((u4 23), .inr (1, [.ref (u4 24), .ref (u4 25), .int 0, .int (-1)])), ((u4 24), .inl (G.2.2.1, 3857, .inl (fun _ => 0))), ((u4 25), .inl (G.2.2.2, 3857, .inr (.inl (fun _ => 0)))), ((u4 26), .inr (5, [.long 0, .long 0, .long 0])), ((u4 27), .inr (0, [.ref (u4 28), .ref (u4 29), .ref (u4 30), .ref (u4 31), .ref (u4 32), .ref (u4 33), .int 0, .int 0, .int 0, .int 0, .int (-1), .int 0, .int 0])), ((u4 28), .inl (G.2.2.1, 4, .inl (fun _ => 0))), ((u4 29), .inl (G.2.2.1, 16, .inl (fun _ => 0))), ((u4 30), .inl (G.2.2.1, 3857, .inl (fun _ => 0))), ((u4 31), .inl (G.2.2.1, 6, .inl (fun _ => 0))), ((u4 32), .inl (G.2.2.2, 5, .inr (.inl (fun _ => 0)))), ((u4 33), .inl (G.2.2.2, 5, .inr (.inl (fun _ => 0)))), (q8, .inr (8, [.int 0, .null, .null, .int 0, .null, .null, .int 0, .null, .null, .null, .int 0, .null, .null, .int 0, .int 0, .null, .null, .null, .null, .null, .null, .null, .int 0, .long 0, .long 0, .int 0, .null, .null, .null, .null]))]) rfl rfl rfl ?_
  refine nV.dup dNL_law_11 ?_
  refine nV.call (M2 := mX8_init) (rm := { frames := 4, cells := 20, slots := 12173, locals := 200 }) (wr := [(q0, .inr (7, [.ref (u4 0), .ref (u4 3), .ref (u4 10), .ref (u4 13), .ref (u4 16), .ref (u4 17), .ref (u4 23), .ref (u4 26), .ref (u4 27), .int 2, .int 4])), ((u4 0), .inr (4, [.ref (u4 1), .ref (u4 2), .int 1])), ((u4 1), .inl (G.2.2.1, 8, .inl (upd (fun _ => 0) (0 : Int32).toNatClampNeg 80))), ((u4 2), .inl (G.2.2.1, 8, .inl (fun _ => 0))), ((u4 3), .inr (6, [.ref (u4 4), .ref (u4 5), .ref (u4 6), .ref (u4 7), .ref (u4 8), .ref (u4 9), .int 0])), ((u4 4), .inl (G.2.2.1, 64, .inl (fun _ => 0))), ((u4 5), .inl (G.2.2.1, 16, .inl (fun _ => 0))), ((u4 6), .inl (G.2.2.1, 16, .inl (fun _ => 0))), ((u4 7), .inl (G.2.2.1, 16, .inl (fun _ => 0))), ((u4 8), .inl (G.2.2.1, 16, .inl (fun _ => 0))), ((u4 9), .inl (G.2.2.1, 16, .inl (fun _ => 0))), ((u4 10), .inr (2, [.ref (u4 11), .ref (u4 12), .int 0])), ((u4 11), .inl (G.2.2.1, 4, .inl (fun _ => 0))), ((u4 12), .inl (G.2.2.1, 4, .inl (fun _ => 0))), ((u4 13), .inr (2, [.ref (u4 14), .ref (u4 15), .int 0])), ((u4 14), .inl (G.2.2.1, 8, .inl (fun _ => 0))), ((u4 15), .inl (G.2.2.1, 8, .inl (fun _ => 0))), ((u4 16), .inl (G.2.2.1, 4, .inl (fun _ => 0))), ((u4 17), .inr (3, [.ref (u4 18), .ref (u4 19), .ref (u4 20), .ref (u4 21), .ref (u4 22), .int 0, .int 0, .int 0])), ((u4 18), .inl (G.2.2.1, 3, .inl (fun _ => 0))), ((u4 19), .inl (G.2.2.1, 8, .inl (fun _ => 0))), ((u4 20), .inl (G.2.2.1, 8, .inl (fun _ => 0))), ((u4 21), .inl (G.2.2.2, 5, .inr (.inl (fun _ => 0)))), ((u4 22), .inl (G.2.2.2, 5, .inr (.inl (fun _ => 0)))), ((u4 23), .inr (1, [.ref (u4 24), .ref (u4 25), .int 0, .int (-1)])), ((u4 24), .inl (G.2.2.1, 3857, .inl (fun _ => 0))), ((u4 25), .inl (G.2.2.2, 3857, .inr (.inl (fun _ => 0)))), ((u4 26), .inr (5, [.long 0, .long 0, .long 0])), ((u4 27), .inr (0, [.ref (u4 28), .ref (u4 29), .ref (u4 30), .ref (u4 31), .ref (u4 32), .ref (u4 33), .int 0, .int 0, .int 0, .int 0, .int (-1), .int 0, .int 0])), ((u4 28), .inl (G.2.2.1, 4, .inl (fun _ => 0))), ((u4 29), .inl (G.2.2.1, 16, .inl (fun _ => 0))), ((u4 30), .inl (G.2.2.1, 3857, .inl (fun _ => 0))), ((u4 31), .inl (G.2.2.1, 6, .inl (fun _ => 0))), ((u4 32), .inl (G.2.2.2, 5, .inr (.inl (fun _ => 0)))), ((u4 33), .inl (G.2.2.2, 5, .inr (.inl (fun _ => 0))))]) (i := 35) (av := []) (rest := [.ref q8]) [0, 1, 2, 3, 4, 5, 6, 7, 8, 9, 10, 11, 12, 13, 14, 15, 16, 17, 18, 19, 20, 21, 22, 23, 24, 25, 26, 27, 28, 29, 30, 31, 32, 33, 34] kX8_init jX8_init rfl rfl dNL_law_12 wLL_12 rfl rfl (Nat.le_of_ble_eq_true rfl) ⟨(Nat.le_of_ble_eq_true rfl), (Nat.le_of_ble_eq_true rfl)⟩ ⟨(Nat.le_of_ble_eq_true rfl), (Nat.le_of_ble_eq_true rfl)⟩ crX8_init (fun _ _ _ _ h => h) (fun _ _ _ _ => trivial) rfl rfl rfl (by decide) (fun u12 => ?_)
  refine nV.to (cells' := 56) (slots' := 24082) (ws' := [(q0, .inr (7, [.ref (u4 0), .ref (u4 3), .ref (u4 10), .ref (u4 13), .ref (u4 16), .ref (u4 17), .ref (u4 23), .ref (u4 26), .ref (u4 27), .int 2, .int 4])), ((u4 0), .inr (4, [.ref (u4 1), .ref (u4 2), .int 1])), ((u4 1), .inl (G.2.2.1, 8, .inl (upd (fun _ => 0) (0 : Int32).toNatClampNeg 80))), ((u4 2), .inl (G.2.2.1, 8, .inl (fun _ => 0))), ((u4 3), .inr (6, [.ref (u4 4), .ref (u4 5), .ref (u4 6), .ref (u4 7), .ref (u4 8), .ref (u4 9), .int 0])), ((u4 4), .inl (G.2.2.1, 64, .inl (fun _ => 0))), ((u4 5), .inl (G.2.2.1, 16, .inl (fun _ => 0))), ((u4 6), .inl (G.2.2.1, 16, .inl (fun _ => 0))), ((u4 7), .inl (G.2.2.1, 16, .inl (fun _ => 0))), ((u4 8), .inl (G.2.2.1, 16, .inl (fun _ => 0))), ((u4 9), .inl (G.2.2.1, 16, .inl (fun _ => 0))), ((u4 10), .inr (2, [.ref (u4 11), .ref (u4 12), .int 0])), ((u4 11), .inl (G.2.2.1, 4, .inl (fun _ => 0))), ((u4 12), .inl (G.2.2.1, 4, .inl (fun _ => 0))), ((u4 13), .inr (2, [.ref (u4 14), .ref (u4 15), .int 0])), ((u4 14), .inl (G.2.2.1, 8, .inl (fun _ => 0))), ((u4 15), .inl (G.2.2.1, 8, .inl (fun _ => 0))), ((u4 16), .inl (G.2.2.1, 4, .inl (fun _ => 0))), ((u4 17), .inr (3, [.ref (u4 18), .ref (u4 19), .ref (u4 20), .ref (u4 21), .ref (u4 22), .int 0, .int 0, .int 0])), ((u4 18), .inl (G.2.2.1, 3, .inl (fun _ => 0))), ((u4 19), .inl (G.2.2.1, 8, .inl (fun _ => 0))), ((u4 20), .inl (G.2.2.1, 8, .inl (fun _ => 0))), ((u4 21), .inl (G.2.2.2, 5, .inr (.inl (fun _ => 0)))), ((u4 22), .inl (G.2.2.2, 5, .inr (.inl (fun _ => 0)))), ((u4 23), .inr (1, [.ref (u4 24), .ref (u4 25), .int 0, .int (-1)])), ((u4 24), .inl (G.2.2.1, 3857, .inl (fun _ => 0))), ((u4 25), .inl (G.2.2.2, 3857, .inr (.inl (fun _ => 0)))), ((u4 26), .inr (5, [.long 0, .long 0, .long 0])), ((u4 27), .inr (0, [.ref (u4 28), .ref (u4 29), .ref (u4 30), .ref (u4 31), .ref (u4 32), .ref (u4 33), .int 0, .int 0, .int 0, .int 0, .int (-1), .int 0, .int 0])), ((u4 28), .inl (G.2.2.1, 4, .inl (fun _ => 0))), ((u4 29), .inl (G.2.2.1, 16, .inl (fun _ => 0))), ((u4 30), .inl (G.2.2.1, 3857, .inl (fun _ => 0))), ((u4 31), .inl (G.2.2.1, 6, .inl (fun _ => 0))), ((u4 32), .inl (G.2.2.2, 5, .inr (.inl (fun _ => 0)))), ((u4 33), .inl (G.2.2.2, 5, .inr (.inl (fun _ => 0)))), (q8, .inr (8, [.int 1, .ref (u12 0), .ref (u12 1), .int 0, .ref (u12 2), .ref (u12 3), .int 0, .ref (u12 4), .ref (u12 5), .ref (u12 6), .int 0, .ref (u12 7), .ref (u12 8), .int 2, .int 4, .ref (u12 9), .ref (u12 10), .ref (u12 11), .ref (u12 12), .ref (u12 13), .ref (u12 14), .ref (u12 15), .int 0, .long 0, .long 0, .int 0, .ref (u12 16), .ref (u12 17), .ref (u12 18), .ref (u12 19)])), ((u12 0), .inl (G.2.2.1, 8, .inl (upd (fun _ => 0) (0 : Int32).toNatClampNeg 80))), ((u12 1), .inl (G.2.2.1, 8, .inl (upd (fun _ => 0) (0 : Int32).toNatClampNeg 0))), ((u12 2), .inl (G.2.2.1, 64, .inl (fun _ => 0))), ((u12 3), .inl (G.2.2.1, 16, .inl (fun _ => 0))), ((u12 4), .inl (G.2.2.1, 4, .inl (fun _ => 0))), ((u12 5), .inl (G.2.2.1, 4, .inl (fun _ => 0))), ((u12 6), .inl (G.2.2.1, 4, .inl (fun _ => 0))), ((u12 7), .inl (G.2.2.1, 8, .inl (fun _ => 0))), ((u12 8), .inl (G.2.2.1, 8, .inl (fun _ => 0))), ((u12 9), .inl (G.2.2.2, 2, .inr (.inl (fun _ => 0)))), ((u12 10), .inl (G.2.2.2, 2, .inr (.inl (fun _ => 0)))), ((u12 11), .inl (G.2.2.2, 8, .inr (.inl (fun _ => 0)))), ((u12 12), .inl (G.2.2.2, 8, .inr (.inl (fun _ => 0)))), ((u12 13), .inl (G.2.2.2, 5, .inr (.inl (fun _ => 0)))), ((u12 14), .inl (G.2.2.2, 5, .inr (.inl (fun _ => 0)))), ((u12 15), .inl (G.2.2.1, 3, .inl (fun _ => 0))), ((u12 16), .inl (G.2.2.1, 4000, .inl (fun _ => 0))), ((u12 17), .inl (G.2.2.1, 4000, .inl (fun _ => 0))), ((u12 18), .inl (G.2.2.2, 4000, .inr (.inl (fun _ => 0)))), ((u12 19), .inl (G.2.2.1, 16, .inl (fun _ => 0)))]) rfl rfl rfl ?_
  refine nV.astore (L' := [(2, .ref q8), (1, .ref q0), (0, .ref b0)]) dNL_law_15 (by decide) rfl ?_
  refine nV.iconst (x := 0) dNL_law_16 rfl ?_
  refine nV.istore (L' := [(3, .int 0), (2, .ref q8), (1, .ref q0), (0, .ref b0)]) dNL_law_17 (by decide) rfl ?_
  refine nV.pick (L' := [(0, .ref b0), (1, .ref q0), (2, .ref q8), (3, .int 0)]) [3, 2, 1, 0] rfl ?_
  exact law_enter (ad := (fun o => if o = 99 then b0 else [q0, (u4 0), (u4 1), (u4 2), (u4 3), (u4 4), (u4 5), (u4 6), (u4 7), (u4 8), (u4 9), (u4 10), (u4 11), (u4 12), (u4 13), (u4 14), (u4 15), (u4 16), (u4 17), (u4 18), (u4 19), (u4 20), (u4 21), (u4 22), (u4 23), (u4 24), (u4 25), (u4 26), (u4 27), (u4 28), (u4 29), (u4 30), (u4 31), (u4 32), (u4 33), q8, (u12 0), (u12 1), (u12 2), (u12 3), (u12 4), (u12 5), (u12 6), (u12 7), (u12 8), (u12 9), (u12 10), (u12 11), (u12 12), (u12 13), (u12 14), (u12 15), (u12 16), (u12 17), (u12 18), (u12 19)].getD o 0)) (S := iniS) (Lf := [(0, .ref 99), (1, .ref 0), (2, .ref 35), (3, .int (nI 0))]) (law_loop hxl (xl + 1) 0 iniS (by omega) (by omega) iniS_ok) rfl rfl rfl (Nat.le_of_ble_eq_true rfl) (Nat.le_of_ble_eq_true rfl)
set_option maxRecDepth 100000 in
/-- THE LAW, from its entry -/
theorem whole_start {p : Program} {e : Env} {s : State} {m : MethodId} {below : List Frame} {meth : Method} {c : Code} (l : Launch) {b L : Nat} {xs : Nat → Int32} (hL : L ≤ 3072) (C0 : lw_At p s m meth c b L xs) : W p l e room_1 s m #[Value.ref b] below meth c s.heap [] 0 0 (lw_Z below #[Value.ref b] s) (entryFrame m ([Value.ref b] : List Value).toArray 4) := by
  obtain ⟨hx, hb, hr, hml, hown, hts, hX, hbl, hlocks, hgv⟩ := id C0
  obtain ⟨c0, iS0, hKn0⟩ := u_known (C := RX0) (T := TX0) (N := 13) (n := 13) hts inX0 (hts _ (fTB_in _ wIs0))
  obtain ⟨c1, iS1, hKn1⟩ := u_known (C := RX1) (T := TX1) (N := 4) (n := 4) hts inX1 (hts _ (fTB_in _ wIs1))
  obtain ⟨c2, iS2, hKn2⟩ := u_known (C := RX2) (T := TX2) (N := 3) (n := 3) hts inX2 (hts _ (fTB_in _ wIs2))
  obtain ⟨c3, iS3, hKn3⟩ := u_known (C := RX3) (T := TX3) (N := 8) (n := 8) hts inX3 (hts _ (fTB_in _ wIs3))
  obtain ⟨c4, iS4, hKn4⟩ := u_known (C := RX4) (T := TX4) (N := 3) (n := 3) hts inX4 (hts _ (fTB_in _ wIs4))
  obtain ⟨c5, iS5, hKn5⟩ := u_known (C := RX5) (T := TX5) (N := 3) (n := 3) hts inX5 (hts _ (fTB_in _ wIs5))
  obtain ⟨c6, iS6, hKn6⟩ := u_known (C := RX6) (T := TX6) (N := 7) (n := 7) hts inX6 (hts _ (fTB_in _ wIs6))
  obtain ⟨c7, iS7, hKn7⟩ := u_known (C := RX7) (T := TX7) (N := 11) (n := 11) hts inX7 (hts _ (fTB_in _ wIs7))
  obtain ⟨c8, iS8, hKn8⟩ := u_known (C := RX8) (T := TX8) (N := 30) (n := 30) hts inX8 (hts _ (fTB_in _ wIs8))
  obtain ⟨dC, dI, hKc⟩ : ∃ (dC : Nat → ClassId) (dI : Nat → Nat → Nat), ∀ (k : Nat) (q : vw_C), vwCl[k]? = some q → u_Kn s q.1 q.2.1 q.2.2 (dC k) (dI k) := by
    refine ⟨fun k => if k = 0 then c0 else if k = 1 then c1 else if k = 2 then c2 else if k = 3 then c3 else if k = 4 then c4 else if k = 5 then c5 else if k = 6 then c6 else if k = 7 then c7 else c8, fun k => if k = 0 then iS0 else if k = 1 then iS1 else if k = 2 then iS2 else if k = 3 then iS3 else if k = 4 then iS4 else if k = 5 then iS5 else if k = 6 then iS6 else if k = 7 then iS7 else iS8, ?_⟩
    intro k q hq
    match k, hq with
    | 0, hq => cases hq; exact hKn0
    | 1, hq => cases hq; exact hKn1
    | 2, hq => cases hq; exact hKn2
    | 3, hq => cases hq; exact hKn3
    | 4, hq => cases hq; exact hKn4
    | 5, hq => cases hq; exact hKn5
    | 6, hq => cases hq; exact hKn6
    | 7, hq => cases hq; exact hKn7
    | 8, hq => cases hq; exact hKn8
    | k + 9, hq => simp [vwCl] at hq
  obtain ⟨cI, kI, compI, f1, f2, f3⟩ := Cond.arrayClass_spec (hts _ (fTB_in _ wAI))
  obtain ⟨cJ, kJ, compJ, g1, g2, g3⟩ := Cond.arrayClass_spec (hts _ (fTB_in _ wAJ))
  have hK : va_K (dC, dI) vwCl (fTy cI cJ) s := ⟨hKc, fun k q h => by
    match k, h with
    | 0, h => cases h; exact ⟨fun n z => ⟨fun k h => (by cases h), kI, f2, compI, f3⟩, f1⟩
    | 1, h => cases h; exact ⟨fun n z => ⟨fun k h => (by cases h), kJ, g2, compJ, g3⟩, g1⟩
    | k + 2, h => simp at h⟩
  have hP : va_P (dC, dI) vwCl [] s.heap := fun k q h => by simp at h
  have hD : va_D (fun q : Nat => s.heap.size ≤ q) [] := ⟨fun i j p q h => by simp at h, fun k q h => by simp at h⟩
  have hl := lv_entry ([.ref b]) (n := 4) (Nat.le_of_ble_eq_true rfl)
  rw [lg_entry_eq]
  generalize (lg_sl ([.ref b]) ++ List.replicate (4 - (lg_sl ([.ref b])).length) Slot.unset).toArray = ls at hl ⊢
  have hl : lv_has ls 4 [(0, .ref b)] := hl
  exact law_start (G := (l, (dC, dI), cI, cJ)) (b0 := b) (xl := L) (xs := xs) hL p e s m #[Value.ref b] below meth c ⟨hx, hb, hown, fun w hw => hts w (fTB_in w hw), hK, fun q h => h⟩ ⟨hml, hr, hlocks⟩ ⟨⟨va_Nw.of rfl (hts _ (List.mem_of_getElem? (i := 91) rfl)), va_Nw.of rfl (hts _ (List.mem_of_getElem? (i := 150) rfl)), va_Nw.of rfl (hts _ (List.mem_of_getElem? (i := 186) rfl)), va_Nw.of rfl (hts _ (List.mem_of_getElem? (i := 209) rfl)), va_Nw.of rfl (hts _ (List.mem_of_getElem? (i := 228) rfl))⟩, hX, hbl⟩ rfl s.heap [] ls hP hD va_S.rf hl

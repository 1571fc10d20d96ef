/-! the constructors -/
set_option maxRecDepth 100000 in
theorem wOi : Cond.instanceMethod objectInit ∈ fTB := fTB_at 67 rfl rfl
set_option maxRecDepth 100000 in
theorem wOc : Cond.code objectInit ⟨#[0xb1]⟩ 1 none ∈ fTB := fTB_at 68 rfl rfl
set_option maxRecDepth 100000 in
theorem wAI : Cond.arrayClass .int ∈ fTB := fTB_at 88 rfl rfl
set_option maxRecDepth 100000 in
theorem wAJ : Cond.arrayClass .long ∈ fTB := fTB_at 183 rfl rfl
set_option maxRecDepth 100000 in
theorem wIn0 : Cond.initialized RX0 ∈ fTB := fTB_at 58 rfl rfl
set_option maxRecDepth 100000 in
theorem wIs0 : Cond.instantiable RX0 13 ∈ fTB := fTB_at 227 rfl rfl
set_option maxRecDepth 100000 in
theorem wIn1 : Cond.initialized RX1 ∈ fTB := fTB_at 56 rfl rfl
set_option maxRecDepth 100000 in
theorem wIs1 : Cond.instantiable RX1 4 ∈ fTB := fTB_at 185 rfl rfl
set_option maxRecDepth 100000 in
theorem wIn2 : Cond.initialized RX2 ∈ fTB := fTB_at 53 rfl rfl
set_option maxRecDepth 100000 in
theorem wIs2 : Cond.instantiable RX2 3 ∈ fTB := fTB_at 127 rfl rfl
set_option maxRecDepth 100000 in
theorem wIn3 : Cond.initialized RX3 ∈ fTB := fTB_at 55 rfl rfl
set_option maxRecDepth 100000 in
theorem wIs3 : Cond.instantiable RX3 8 ∈ fTB := fTB_at 149 rfl rfl
set_option maxRecDepth 100000 in
theorem wIn4 : Cond.initialized RX4 ∈ fTB := fTB_at 51 rfl rfl
set_option maxRecDepth 100000 in
theorem wIs4 : Cond.instantiable RX4 3 ∈ fTB := fTB_at 70 rfl rfl
set_option maxRecDepth 100000 in
theorem wIn5 : Cond.initialized RX5 ∈ fTB := fTB_at 57 rfl rfl
set_option maxRecDepth 100000 in
theorem wIs5 : Cond.instantiable RX5 3 ∈ fTB := fTB_at 208 rfl rfl
set_option maxRecDepth 100000 in
theorem wIn6 : Cond.initialized RX6 ∈ fTB := fTB_at 52 rfl rfl
set_option maxRecDepth 100000 in
theorem wIs6 : Cond.instantiable RX6 7 ∈ fTB := fTB_at 90 rfl rfl
set_option maxRecDepth 100000 in
theorem wIn7 : Cond.initialized RX7 ∈ fTB := fTB_at 50 rfl rfl
set_option maxRecDepth 100000 in
theorem wIs7 : Cond.instantiable RX7 11 ∈ fTB := fTB_at 62 rfl rfl
set_option maxRecDepth 100000 in
theorem wIn8 : Cond.initialized RX8 ∈ fTB := fTB_at 59 rfl rfl
set_option maxRecDepth 100000 in
theorem wIs8 : Cond.instantiable RX8 30 ∈ fTB := fTB_at 611 rfl rfl
def nest7 (s : State) : Prop := va_Nw (.methodLinkNest RX7 18 yX6_init "HallHeard") s ∧ va_Nw (.methodLinkNest RX7 41 yX3_init "HallHeard") s ∧ va_Nw (.methodLinkNest RX7 48 yX1_init "HallHeard") s ∧ va_Nw (.methodLinkNest RX7 55 yX5_init "HallHeard") s ∧ va_Nw (.methodLinkNest RX7 62 yX0_init "HallHeard") s
def mX4_init : fM := (yX4_init, cX4_init, 1, none, (fun _ => none), fun _ => none)
set_option maxRecDepth 100000 in
theorem kX4_init : fMok mX4_init 0 := ⟨fTB_at 73 rfl rfl, fTB_at 51 rfl rfl, by decide +kernel, by decide +kernel, by decide +kernel⟩
set_option maxRecDepth 100000 in
theorem jX4_init : Cond.instanceMethod yX4_init ∈ fTB := fTB_at 72 rfl rfl
theorem dX4_init_0 : decode cX4_init 0 = .ok (.aload_n 0, 1) := by decide +kernel
set_option maxRecDepth 100000 in
theorem wO4 : Cond.methodLink RX4 3 objectInit ∈ fTB := fTB_at 74 rfl rfl
theorem dX4_init_1 : decode cX4_init 1 = .ok (.invokespecial 3, 3) := by decide +kernel
theorem dX4_init_4 : decode cX4_init 4 = .ok (.aload_n 0, 1) := by decide +kernel
theorem dX4_init_5 : decode cX4_init 5 = .ok (.bipush 8, 2) := by decide +kernel
theorem dX4_init_7 : decode cX4_init 7 = .ok (.newarray .int, 2) := by decide +kernel
set_option maxRecDepth 100000 in
theorem wF4_9 : Cond.fieldLink RX4 9 (TX4 0).1 (TX4 0).2.1 (TX4 0).2.2.1 ∈ fTB := fTB_at 75 rfl rfl
theorem dX4_init_9 : decode cX4_init 9 = .ok (.putfield 9, 3) := by decide +kernel
theorem dX4_init_12 : decode cX4_init 12 = .ok (.aload_n 0, 1) := by decide +kernel
theorem dX4_init_13 : decode cX4_init 13 = .ok (.bipush 8, 2) := by decide +kernel
theorem dX4_init_15 : decode cX4_init 15 = .ok (.newarray .int, 2) := by decide +kernel
set_option maxRecDepth 100000 in
theorem wF4_15 : Cond.fieldLink RX4 15 (TX4 1).1 (TX4 1).2.1 (TX4 1).2.2.1 ∈ fTB := fTB_at 77 rfl rfl
theorem dX4_init_17 : decode cX4_init 17 = .ok (.putfield 15, 3) := by decide +kernel
theorem dX4_init_20 : decode cX4_init 20 = .ok (.aload_n 0, 1) := by decide +kernel
theorem dX4_init_21 : decode cX4_init 21 = .ok (.iconst 1, 1) := by decide +kernel
set_option maxRecDepth 100000 in
theorem wF4_18 : Cond.fieldLink RX4 18 (TX4 2).1 (TX4 2).2.1 (TX4 2).2.2.1 ∈ fTB := fTB_at 79 rfl rfl
theorem dX4_init_22 : decode cX4_init 22 = .ok (.putfield 18, 3) := by decide +kernel
theorem dX4_init_25 : decode cX4_init 25 = .ok (.aload_n 0, 1) := by decide +kernel
theorem dX4_init_26 : decode cX4_init 26 = .ok (.getfield 9, 3) := by decide +kernel
theorem dX4_init_29 : decode cX4_init 29 = .ok (.iconst 0, 1) := by decide +kernel
theorem dX4_init_30 : decode cX4_init 30 = .ok (.bipush 80, 2) := by decide +kernel
theorem dX4_init_32 : decode cX4_init 32 = .ok (.iastore, 1) := by decide +kernel
theorem dX4_init_33 : decode cX4_init 33 = .ok (.return_, 1) := by decide +kernel
def cfX4_init (G : nG) (h0 : Nat) (u : Nat → Nat) : va_W := [(h0, .inr (4, [.ref (u 0), .ref (u 1), .int 1])), ((u 0), .inl (G.2.2.1, 8, .inl (upd (fun _ => 0) (0 : Int32).toNatClampNeg 80))), ((u 1), .inl (G.2.2.1, 8, .inl (fun _ => 0)))]
set_option maxRecDepth 100000 in
theorem crX4_init {G : nG} : nCtr G mX4_init { frames := 4, cells := 2, slots := 16, locals := 200 } (fun _ => True) 4 [.null, .null, .int 0] [] (cfX4_init G) := by
  refine nCtr.of (by decide +kernel) rfl (fun _ => Nat.le_of_ble_eq_true rfl) (fun h0 => ?_)
  show nV G mX4_init _ 0 0 0 [(0, .ref h0)] [] [(h0, .inr (4, [.null, .null, .int 0]))]
  refine nV.aload dX4_init_0 (List.mem_of_getElem? (i := 0) rfl) ?_
  refine nV.objInit dX4_init_1 wO4 wOi wOc (Nat.le_of_ble_eq_true rfl) (Nat.le_of_ble_eq_true rfl) ?_
  refine nV.aload dX4_init_4 (List.mem_of_getElem? (i := 0) rfl) ?_
  refine nV.bipush (x := 8) dX4_init_5 (by decide) (by decide) rfl ?_
  refine nV.newI (N := 8) dX4_init_7 wAI (by decide) rfl (by decide) (Nat.le_of_ble_eq_true rfl) (Nat.le_of_ble_eq_true rfl) (fun q7 => ?_)
  refine nV.to (cells' := 1) (slots' := 8) (ws' := [(h0, .inr (4, [.null, .null, .int 0])), (q7, .inl (G.2.2.1, 8, .inl (fun _ => 0)))]) rfl rfl rfl ?_
  refine nV.putF (C := RX4) (T := TX4) (N := 3) (ci := 4) (k := 0) (q0 := 0) (ty := tyX4 0) (ws' := [(h0, .inr (4, [.ref q7, .null, .int 0])), (q7, .inl (G.2.2.1, 8, .inl (fun _ => 0)))]) dX4_init_9 inT4 tyX4 tyX4_ok nmX4 rfl rfl (by decide) wF4_9 rfl (fun _ _ h => h) rfl (tyX4_ok 0 (by decide)) rfl rfl (Nat.le_of_ble_eq_true rfl) rfl ?_
  refine nV.aload dX4_init_12 (List.mem_of_getElem? (i := 0) rfl) ?_
  refine nV.bipush (x := 8) dX4_init_13 (by decide) (by decide) rfl ?_
  refine nV.newI (N := 8) dX4_init_15 wAI (by decide) rfl (by decide) (Nat.le_of_ble_eq_true rfl) (Nat.le_of_ble_eq_true rfl) (fun q15 => ?_)
  refine nV.to (cells' := 2) (slots' := 16) (ws' := [(h0, .inr (4, [.ref q7, .null, .int 0])), (q7, .inl (G.2.2.1, 8, .inl (fun _ => 0))), (q15, .inl (G.2.2.1, 8, .inl (fun _ => 0)))]) rfl rfl rfl ?_
  refine nV.putF (C := RX4) (T := TX4) (N := 3) (ci := 4) (k := 1) (q0 := 0) (ty := tyX4 1) (ws' := [(h0, .inr (4, [.ref q7, .ref q15, .int 0])), (q7, .inl (G.2.2.1, 8, .inl (fun _ => 0))), (q15, .inl (G.2.2.1, 8, .inl (fun _ => 0)))]) dX4_init_17 inT4 tyX4 tyX4_ok nmX4 rfl rfl (by decide) wF4_15 rfl (fun _ _ h => h) rfl (tyX4_ok 1 (by decide)) rfl rfl (Nat.le_of_ble_eq_true rfl) rfl ?_
  refine nV.aload dX4_init_20 (List.mem_of_getElem? (i := 0) rfl) ?_
  refine nV.iconst (x := 1) dX4_init_21 rfl ?_
  refine nV.put (C := RX4) (T := TX4) (N := 3) (ci := 4) (k := 2) (q0 := 0) (ty := tyX4 2) (ws' := [(h0, .inr (4, [.ref q7, .ref q15, .int 1])), (q7, .inl (G.2.2.1, 8, .inl (fun _ => 0))), (q15, .inl (G.2.2.1, 8, .inl (fun _ => 0)))]) dX4_init_22 inT4 tyX4 tyX4_ok nmX4 rfl rfl (by decide) wF4_18 rfl (tyX4_ok 2 (by decide)) rfl rfl (Nat.le_of_ble_eq_true rfl) rfl ?_
  refine nV.aload dX4_init_25 (List.mem_of_getElem? (i := 0) rfl) ?_
  refine nV.get (C := RX4) (T := TX4) (N := 3) (ci := 4) (k := 0) (q0 := 0) (v := .ref q7) dX4_init_26 inT4 rfl rfl (by decide) wF4_9 rfl ?_
  refine nV.iconst (x := 0) dX4_init_29 rfl ?_
  refine nV.bipush (x := 80) dX4_init_30 (by decide) (by decide) rfl ?_
  refine nV.iast (q0 := 1) (ws' := [(h0, .inr (4, [.ref q7, .ref q15, .int 1])), (q7, .inl (G.2.2.1, 8, .inl (upd (fun _ => 0) (0 : Int32).toNatClampNeg 80))), (q15, .inl (G.2.2.1, 8, .inl (fun _ => 0)))]) dX4_init_32 rfl (by unfold vp_in; decide) rfl ?_
  exact nV.ret rfl dX4_init_33 rfl rfl (fun i => [q7, q15].getD i 0) rfl
def mX6_init : fM := (yX6_init, cX6_init, 1, none, (fun _ => none), fun _ => none)
set_option maxRecDepth 100000 in
theorem kX6_init : fMok mX6_init 0 := ⟨fTB_at 93 rfl rfl, fTB_at 52 rfl rfl, by decide +kernel, by decide +kernel, by decide +kernel⟩
set_option maxRecDepth 100000 in
theorem jX6_init : Cond.instanceMethod yX6_init ∈ fTB := fTB_at 92 rfl rfl
theorem dX6_init_0 : decode cX6_init 0 = .ok (.aload_n 0, 1) := by decide +kernel
set_option maxRecDepth 100000 in
theorem wO6 : Cond.methodLink RX6 3 objectInit ∈ fTB := fTB_at 94 rfl rfl
theorem dX6_init_1 : decode cX6_init 1 = .ok (.invokespecial 3, 3) := by decide +kernel
theorem dX6_init_4 : decode cX6_init 4 = .ok (.aload_n 0, 1) := by decide +kernel
theorem dX6_init_5 : decode cX6_init 5 = .ok (.bipush 64, 2) := by decide +kernel
theorem dX6_init_7 : decode cX6_init 7 = .ok (.newarray .int, 2) := by decide +kernel
set_option maxRecDepth 100000 in
theorem wF6_9 : Cond.fieldLink RX6 9 (TX6 0).1 (TX6 0).2.1 (TX6 0).2.2.1 ∈ fTB := fTB_at 95 rfl rfl
theorem dX6_init_9 : decode cX6_init 9 = .ok (.putfield 9, 3) := by decide +kernel
theorem dX6_init_12 : decode cX6_init 12 = .ok (.aload_n 0, 1) := by decide +kernel
theorem dX6_init_13 : decode cX6_init 13 = .ok (.bipush 16, 2) := by decide +kernel
theorem dX6_init_15 : decode cX6_init 15 = .ok (.newarray .int, 2) := by decide +kernel
set_option maxRecDepth 100000 in
theorem wF6_15 : Cond.fieldLink RX6 15 (TX6 1).1 (TX6 1).2.1 (TX6 1).2.2.1 ∈ fTB := fTB_at 97 rfl rfl
theorem dX6_init_17 : decode cX6_init 17 = .ok (.putfield 15, 3) := by decide +kernel
theorem dX6_init_20 : decode cX6_init 20 = .ok (.aload_n 0, 1) := by decide +kernel
theorem dX6_init_21 : decode cX6_init 21 = .ok (.bipush 16, 2) := by decide +kernel
theorem dX6_init_23 : decode cX6_init 23 = .ok (.newarray .int, 2) := by decide +kernel
set_option maxRecDepth 100000 in
theorem wF6_18 : Cond.fieldLink RX6 18 (TX6 2).1 (TX6 2).2.1 (TX6 2).2.2.1 ∈ fTB := fTB_at 100 rfl rfl
theorem dX6_init_25 : decode cX6_init 25 = .ok (.putfield 18, 3) := by decide +kernel
theorem dX6_init_28 : decode cX6_init 28 = .ok (.aload_n 0, 1) := by decide +kernel
theorem dX6_init_29 : decode cX6_init 29 = .ok (.bipush 16, 2) := by decide +kernel
theorem dX6_init_31 : decode cX6_init 31 = .ok (.newarray .int, 2) := by decide +kernel
set_option maxRecDepth 100000 in
theorem wF6_21 : Cond.fieldLink RX6 21 (TX6 3).1 (TX6 3).2.1 (TX6 3).2.2.1 ∈ fTB := fTB_at 102 rfl rfl
theorem dX6_init_33 : decode cX6_init 33 = .ok (.putfield 21, 3) := by decide +kernel
theorem dX6_init_36 : decode cX6_init 36 = .ok (.aload_n 0, 1) := by decide +kernel
theorem dX6_init_37 : decode cX6_init 37 = .ok (.bipush 16, 2) := by decide +kernel
theorem dX6_init_39 : decode cX6_init 39 = .ok (.newarray .int, 2) := by decide +kernel
set_option maxRecDepth 100000 in
theorem wF6_24 : Cond.fieldLink RX6 24 (TX6 4).1 (TX6 4).2.1 (TX6 4).2.2.1 ∈ fTB := fTB_at 104 rfl rfl
theorem dX6_init_41 : decode cX6_init 41 = .ok (.putfield 24, 3) := by decide +kernel
theorem dX6_init_44 : decode cX6_init 44 = .ok (.aload_n 0, 1) := by decide +kernel
theorem dX6_init_45 : decode cX6_init 45 = .ok (.bipush 16, 2) := by decide +kernel
theorem dX6_init_47 : decode cX6_init 47 = .ok (.newarray .int, 2) := by decide +kernel
set_option maxRecDepth 100000 in
theorem wF6_27 : Cond.fieldLink RX6 27 (TX6 5).1 (TX6 5).2.1 (TX6 5).2.2.1 ∈ fTB := fTB_at 106 rfl rfl
theorem dX6_init_49 : decode cX6_init 49 = .ok (.putfield 27, 3) := by decide +kernel
theorem dX6_init_52 : decode cX6_init 52 = .ok (.aload_n 0, 1) := by decide +kernel
theorem dX6_init_53 : decode cX6_init 53 = .ok (.iconst 0, 1) := by decide +kernel
set_option maxRecDepth 100000 in
theorem wF6_30 : Cond.fieldLink RX6 30 (TX6 6).1 (TX6 6).2.1 (TX6 6).2.2.1 ∈ fTB := fTB_at 108 rfl rfl
theorem dX6_init_54 : decode cX6_init 54 = .ok (.putfield 30, 3) := by decide +kernel
theorem dX6_init_57 : decode cX6_init 57 = .ok (.return_, 1) := by decide +kernel
def cfX6_init (G : nG) (h0 : Nat) (u : Nat → Nat) : va_W := [(h0, .inr (6, [.ref (u 0), .ref (u 1), .ref (u 2), .ref (u 3), .ref (u 4), .ref (u 5), .int 0])), ((u 0), .inl (G.2.2.1, 64, .inl (fun _ => 0))), ((u 1), .inl (G.2.2.1, 16, .inl (fun _ => 0))), ((u 2), .inl (G.2.2.1, 16, .inl (fun _ => 0))), ((u 3), .inl (G.2.2.1, 16, .inl (fun _ => 0))), ((u 4), .inl (G.2.2.1, 16, .inl (fun _ => 0))), ((u 5), .inl (G.2.2.1, 16, .inl (fun _ => 0)))]
set_option maxRecDepth 100000 in
theorem crX6_init {G : nG} : nCtr G mX6_init { frames := 4, cells := 6, slots := 144, locals := 200 } (fun _ => True) 6 [.null, .null, .null, .null, .null, .null, .int 0] [] (cfX6_init G) := by
  refine nCtr.of (by decide +kernel) rfl (fun _ => Nat.le_of_ble_eq_true rfl) (fun h0 => ?_)
  show nV G mX6_init _ 0 0 0 [(0, .ref h0)] [] [(h0, .inr (6, [.null, .null, .null, .null, .null, .null, .int 0]))]
  refine nV.aload dX6_init_0 (List.mem_of_getElem? (i := 0) rfl) ?_
  refine nV.objInit dX6_init_1 wO6 wOi wOc (Nat.le_of_ble_eq_true rfl) (Nat.le_of_ble_eq_true rfl) ?_
  refine nV.aload dX6_init_4 (List.mem_of_getElem? (i := 0) rfl) ?_
  refine nV.bipush (x := 64) dX6_init_5 (by decide) (by decide) rfl ?_
  refine nV.newI (N := 64) dX6_init_7 wAI (by decide) rfl (by decide) (Nat.le_of_ble_eq_true rfl) (Nat.le_of_ble_eq_true rfl) (fun q7 => ?_)
  refine nV.to (cells' := 1) (slots' := 64) (ws' := [(h0, .inr (6, [.null, .null, .null, .null, .null, .null, .int 0])), (q7, .inl (G.2.2.1, 64, .inl (fun _ => 0)))]) rfl rfl rfl ?_
  refine nV.putF (C := RX6) (T := TX6) (N := 7) (ci := 6) (k := 0) (q0 := 0) (ty := tyX6 0) (ws' := [(h0, .inr (6, [.ref q7, .null, .null, .null, .null, .null, .int 0])), (q7, .inl (G.2.2.1, 64, .inl (fun _ => 0)))]) dX6_init_9 inT6 tyX6 tyX6_ok nmX6 rfl rfl (by decide) wF6_9 rfl (fun _ _ h => h) rfl (tyX6_ok 0 (by decide)) rfl rfl (Nat.le_of_ble_eq_true rfl) rfl ?_
  refine nV.aload dX6_init_12 (List.mem_of_getElem? (i := 0) rfl) ?_
  refine nV.bipush (x := 16) dX6_init_13 (by decide) (by decide) rfl ?_
  refine nV.newI (N := 16) dX6_init_15 wAI (by decide) rfl (by decide) (Nat.le_of_ble_eq_true rfl) (Nat.le_of_ble_eq_true rfl) (fun q15 => ?_)
  refine nV.to (cells' := 2) (slots' := 80) (ws' := [(h0, .inr (6, [.ref q7, .null, .null, .null, .null, .null, .int 0])), (q7, .inl (G.2.2.1, 64, .inl (fun _ => 0))), (q15, .inl (G.2.2.1, 16, .inl (fun _ => 0)))]) rfl rfl rfl ?_
  refine nV.putF (C := RX6) (T := TX6) (N := 7) (ci := 6) (k := 1) (q0 := 0) (ty := tyX6 1) (ws' := [(h0, .inr (6, [.ref q7, .ref q15, .null, .null, .null, .null, .int 0])), (q7, .inl (G.2.2.1, 64, .inl (fun _ => 0))), (q15, .inl (G.2.2.1, 16, .inl (fun _ => 0)))]) dX6_init_17 inT6 tyX6 tyX6_ok nmX6 rfl rfl (by decide) wF6_15 rfl (fun _ _ h => h) rfl (tyX6_ok 1 (by decide)) rfl rfl (Nat.le_of_ble_eq_true rfl) rfl ?_
  refine nV.aload dX6_init_20 (List.mem_of_getElem? (i := 0) rfl) ?_
  refine nV.bipush (x := 16) dX6_init_21 (by decide) (by decide) rfl ?_
  refine nV.newI (N := 16) dX6_init_23 wAI (by decide) rfl (by decide) (Nat.le_of_ble_eq_true rfl) (Nat.le_of_ble_eq_true rfl) (fun q23 => ?_)
  refine nV.to (cells' := 3) (slots' := 96) (ws' := [(h0, .inr (6, [.ref q7, .ref q15, .null, .null, .null, .null, .int 0])), (q7, .inl (G.2.2.1, 64, .inl (fun _ => 0))), (q15, .inl (G.2.2.1, 16, .inl (fun _ => 0))), (q23, .inl (G.2.2.1, 16, .inl (fun _ => 0)))]) rfl rfl rfl ?_
  refine nV.putF (C := RX6) (T := TX6) (N := 7) (ci := 6) (k := 2) (q0 := 0) (ty := tyX6 2) (ws' := [(h0, .inr (6, [.ref q7, .ref q15, .ref q23, .null, .null, .null, .int 0])), (q7, .inl (G.2.2.1, 64, .inl (fun _ => 0))), (q15, .inl (G.2.2.1, 16, .inl (fun _ => 0))), (q23, .inl (G.2.2.1, 16, .inl (fun _ => 0)))]) dX6_init_25 inT6 tyX6 tyX6_ok nmX6 rfl rfl (by decide) wF6_18 rfl (fun _ _ h => h) rfl (tyX6_ok 2 (by decide)) rfl rfl (Nat.le_of_ble_eq_true rfl) rfl ?_
  refine nV.aload dX6_init_28 (List.mem_of_getElem? (i := 0) rfl) ?_
  refine nV.bipush (x := 16) dX6_init_29 (by decide) (by decide) rfl ?_
  refine nV.newI (N := 16) dX6_init_31 wAI (by decide) rfl (by decide) (Nat.le_of_ble_eq_true rfl) (Nat.le_of_ble_eq_true rfl) (fun q31 => ?_)
  refine nV.to (cells' := 4) (slots' := 112) (ws' := [(h0, .inr (6, [.ref q7, .ref q15, .ref q23, .null, .null, .null, .int 0])), (q7, .inl (G.2.2.1, 64, .inl (fun _ => 0))), (q15, .inl (G.2.2.1, 16, .inl (fun _ => 0))), (q23, .inl (G.2.2.1, 16, .inl (fun _ => 0))), (q31, .inl (G.2.2.1, 16, .inl (fun _ => 0)))]) rfl rfl rfl ?_
  refine nV.putF (C := RX6) (T := TX6) (N := 7) (ci := 6) (k := 3) (q0 := 0) (ty := tyX6 3) (ws' := [(h0, .inr (6, [.ref q7, .ref q15, .ref q23, .ref q31, .null, .null, .int 0])), (q7, .inl (G.2.2.1, 64, .inl (fun _ => 0))), (q15, .inl (G.2.2.1, 16, .inl (fun _ => 0))), (q23, .inl (G.2.2.1, 16, .inl (fun _ => 0))), (q31, .inl (G.2.2.1, 16, .inl (fun _ => 0)))]) dX6_init_33 inT6 tyX6 tyX6_ok nmX6 rfl rfl (by decide) wF6_21 rfl (fun _ _ h => h) rfl (tyX6_ok 3 (by decide)) rfl rfl (Nat.le_of_ble_eq_true rfl) rfl ?_
  refine nV.aload dX6_init_36 (List.mem_of_getElem? (i := 0) rfl) ?_
  refine nV.bipush (x := 16) dX6_init_37 (by decide) (by decide) rfl ?_
  refine nV.newI (N := 16) dX6_init_39 wAI (by decide) rfl (by decide) (Nat.le_of_ble_eq_true rfl) (Nat.le_of_ble_eq_true rfl) (fun q39 => ?_)
  refine nV.to (cells' := 5) (slots' := 128) (ws' := [(h0, .inr (6, [.ref q7, .ref q15, .ref q23, .ref q31, .null, .null, .int 0])), (q7, .inl (G.2.2.1, 64, .inl (fun _ => 0))), (q15, .inl (G.2.2.1, 16, .inl (fun _ => 0))), (q23, .inl (G.2.2.1, 16, .inl (fun _ => 0))), (q31, .inl (G.2.2.1, 16, .inl (fun _ => 0))), (q39, .inl (G.2.2.1, 16, .inl (fun _ => 0)))]) rfl rfl rfl ?_
  refine nV.putF (C := RX6) (T := TX6) (N := 7) (ci := 6) (k := 4) (q0 := 0) (ty := tyX6 4) (ws' := [(h0, .inr (6, [.ref q7, .ref q15, .ref q23, .ref q31, .ref q39, .null, .int 0])), (q7, .inl (G.2.2.1, 64, .inl (fun _ => 0))), (q15, .inl (G.2.2.1, 16, .inl (fun _ => 0))), (q23, .inl (G.2.2.1, 16, .inl (fun _ => 0))), (q31, .inl (G.2.2.1, 16, .inl (fun _ => 0))), (q39, .inl (G.2.2.1, 16, .inl (fun _ => 0)))]) dX6_init_41 inT6 tyX6 tyX6_ok nmX6 rfl rfl (by decide) wF6_24 rfl (fun _ _ h => h) rfl (tyX6_ok 4 (by decide)) rfl rfl (Nat.le_of_ble_eq_true rfl) rfl ?_
  refine nV.aload dX6_init_44 (List.mem_of_getElem? (i := 0) rfl) ?_
  refine nV.bipush (x := 16) dX6_init_45 (by decide) (by decide) rfl ?_
  refine nV.newI (N := 16) dX6_init_47 wAI (by decide) rfl (by decide) (Nat.le_of_ble_eq_true rfl) (Nat.le_of_ble_eq_true rfl) (fun q47 => ?_)
  refine nV.to (cells' := 6) (slots' := 144) (ws' := [(h0, .inr (6, [.ref q7, .ref q15, .ref q23, .ref q31, .ref q39, .null, .int 0])), (q7, .inl (G.2.2.1, 64, .inl (fun _ => 0))), (q15, .inl (G.2.2.1, 16, .inl (fun _ => 0))), (q23, .inl (G.2.2.1, 16, .inl (fun _ => 0))), (q31, .inl (G.2.2.1, 16, .inl (fun _ => 0))), (q39, .inl (G.2.2.1, 16, .inl (fun _ => 0))), (q47, .inl (G.2.2.1, 16, .inl (fun _ => 0)))]) rfl rfl rfl ?_
  refine nV.putF (C := RX6) (T := TX6) (N := 7) (ci := 6) (k := 5) (q0 := 0) (ty := tyX6 5) (ws' := [(h0, .inr (6, [.ref q7, .ref q15, .ref q23, .ref q31, .ref q39, .ref q47, .int 0])), (q7, .inl (G.2.2.1, 64, .inl (fun _ => 0))), (q15, .inl (G.2.2.1, 16, .inl (fun _ => 0))), (q23, .inl (G.2.2.1, 16, .inl (fun _ => 0))), (q31, .inl (G.2.2.1, 16, .inl (fun _ => 0))), (q39, .inl (G.2.2.1, 16, .inl (fun _ => 0))), (q47, .inl (G.2.2.1, 16, .inl (fun _ => 0)))]) dX6_init_49 inT6 tyX6 tyX6_ok nmX6 rfl rfl (by decide) wF6_27 rfl (fun _ _ h => h) rfl (tyX6_ok 5 (by decide)) rfl rfl (Nat.le_of_ble_eq_true rfl) rfl ?_
  refine nV.aload dX6_init_52 (List.mem_of_getElem? (i := 0) rfl) ?_
  refine nV.iconst (x := 0) dX6_init_53 rfl ?_
  refine nV.put (C := RX6) (T := TX6) (N := 7) (ci := 6) (k := 6) (q0 := 0) (ty := tyX6 6) (ws' := [(h0, .inr (6, [.ref q7, .ref q15, .ref q23, .ref q31, .ref q39, .ref q47, .int 0])), (q7, .inl (G.2.2.1, 64, .inl (fun _ => 0))), (q15, .inl (G.2.2.1, 16, .inl (fun _ => 0))), (q23, .inl (G.2.2.1, 16, .inl (fun _ => 0))), (q31, .inl (G.2.2.1, 16, .inl (fun _ => 0))), (q39, .inl (G.2.2.1, 16, .inl (fun _ => 0))), (q47, .inl (G.2.2.1, 16, .inl (fun _ => 0)))]) dX6_init_54 inT6 tyX6 tyX6_ok nmX6 rfl rfl (by decide) wF6_30 rfl (tyX6_ok 6 (by decide)) rfl rfl (Nat.le_of_ble_eq_true rfl) rfl ?_
  exact nV.ret rfl dX6_init_57 rfl rfl (fun i => [q7, q15, q23, q31, q39, q47].getD i 0) rfl
def mX2_init : fM := (yX2_init, cX2_init, 3, none, (fun _ => none), fun _ => none)
set_option maxRecDepth 100000 in
theorem kX2_init : fMok mX2_init 1 := ⟨fTB_at 130 rfl rfl, fTB_at 53 rfl rfl, by decide +kernel, by decide +kernel, by decide +kernel⟩
set_option maxRecDepth 100000 in
theorem jX2_init : Cond.instanceMethod yX2_init ∈ fTB := fTB_at 129 rfl rfl
theorem dX2_init_0 : decode cX2_init 0 = .ok (.aload_n 0, 1) := by decide +kernel
set_option maxRecDepth 100000 in
theorem wO2 : Cond.methodLink RX2 3 objectInit ∈ fTB := fTB_at 131 rfl rfl
theorem dX2_init_1 : decode cX2_init 1 = .ok (.invokespecial 3, 3) := by decide +kernel
theorem dX2_init_4 : decode cX2_init 4 = .ok (.aload_n 0, 1) := by decide +kernel
theorem dX2_init_5 : decode cX2_init 5 = .ok (.iconst 0, 1) := by decide +kernel
set_option maxRecDepth 100000 in
theorem wF2_9 : Cond.fieldLink RX2 9 (TX2 2).1 (TX2 2).2.1 (TX2 2).2.2.1 ∈ fTB := fTB_at 139 rfl rfl
theorem dX2_init_6 : decode cX2_init 6 = .ok (.putfield 9, 3) := by decide +kernel
theorem dX2_init_9 : decode cX2_init 9 = .ok (.iload_n 1, 1) := by decide +kernel
theorem dX2_init_10 : decode cX2_init 10 = .ok (.iconst 0, 1) := by decide +kernel
set_option maxRecDepth 100000 in
theorem wM2_15 : Cond.methodLink RX2 15 yJ9_max_7cf53 ∈ fTB := fTB_at 132 rfl rfl
theorem dX2_init_11 : decode cX2_init 11 = .ok (.invokestatic 15, 3) := by decide +kernel
theorem dX2_init_14 : decode cX2_init 14 = .ok (.istore_n 2, 1) := by decide +kernel
theorem dX2_init_15 : decode cX2_init 15 = .ok (.aload_n 0, 1) := by decide +kernel
theorem dX2_init_16 : decode cX2_init 16 = .ok (.iload_n 2, 1) := by decide +kernel
theorem dX2_init_17 : decode cX2_init 17 = .ok (.newarray .int, 2) := by decide +kernel
set_option maxRecDepth 100000 in
theorem wF2_21 : Cond.fieldLink RX2 21 (TX2 0).1 (TX2 0).2.1 (TX2 0).2.2.1 ∈ fTB := fTB_at 135 rfl rfl
theorem dX2_init_19 : decode cX2_init 19 = .ok (.putfield 21, 3) := by decide +kernel
theorem dX2_init_22 : decode cX2_init 22 = .ok (.aload_n 0, 1) := by decide +kernel
theorem dX2_init_23 : decode cX2_init 23 = .ok (.iload_n 2, 1) := by decide +kernel
theorem dX2_init_24 : decode cX2_init 24 = .ok (.newarray .int, 2) := by decide +kernel
set_option maxRecDepth 100000 in
theorem wF2_25 : Cond.fieldLink RX2 25 (TX2 1).1 (TX2 1).2.1 (TX2 1).2.2.1 ∈ fTB := fTB_at 137 rfl rfl
theorem dX2_init_26 : decode cX2_init 26 = .ok (.putfield 25, 3) := by decide +kernel
theorem dX2_init_29 : decode cX2_init 29 = .ok (.return_, 1) := by decide +kernel
def cfX2_init_4 (G : nG) (h0 : Nat) (u : Nat → Nat) : va_W := [(h0, .inr (2, [.ref (u 0), .ref (u 1), .int 0])), ((u 0), .inl (G.2.2.1, 4, .inl (fun _ => 0))), ((u 1), .inl (G.2.2.1, 4, .inl (fun _ => 0)))]
set_option maxRecDepth 100000 in
theorem crX2_init_4 {G : nG} : nCtr G mX2_init { frames := 4, cells := 2, slots := 8, locals := 200 } (fun _ => True) 2 [.null, .null, .int 0] [.int 4] (cfX2_init_4 G) := by
  refine nCtr.of (by decide +kernel) rfl (fun _ => Nat.le_of_ble_eq_true rfl) (fun h0 => ?_)
  show nV G mX2_init _ 0 0 0 [(0, .ref h0), (1, .int 4)] [] [(h0, .inr (2, [.null, .null, .int 0]))]
  refine nV.aload dX2_init_0 (List.mem_of_getElem? (i := 0) rfl) ?_
  refine nV.objInit dX2_init_1 wO2 wOi wOc (Nat.le_of_ble_eq_true rfl) (Nat.le_of_ble_eq_true rfl) ?_
  refine nV.aload dX2_init_4 (List.mem_of_getElem? (i := 0) rfl) ?_
  refine nV.iconst (x := 0) dX2_init_5 rfl ?_
  refine nV.put (C := RX2) (T := TX2) (N := 3) (ci := 2) (k := 2) (q0 := 0) (ty := tyX2 2) (ws' := [(h0, .inr (2, [.null, .null, .int 0]))]) dX2_init_6 inT2 tyX2 tyX2_ok nmX2 rfl rfl (by decide) wF2_9 rfl (tyX2_ok 2 (by decide)) rfl rfl (Nat.le_of_ble_eq_true rfl) rfl ?_
  refine nV.iload dX2_init_9 (List.mem_of_getElem? (i := 1) rfl) ?_
  refine nV.iconst (x := 0) dX2_init_10 rfl ?_
  refine nV.mmax dX2_init_11 wM2_15 ⟨(Nat.le_of_ble_eq_true rfl), (Nat.le_of_ble_eq_true rfl), (Nat.le_of_ble_eq_true rfl), (Nat.le_of_ble_eq_true rfl)⟩ (z := 4) (by decide) ?_
  refine nV.istore (L' := [(2, .int 4), (0, .ref h0), (1, .int 4)]) dX2_init_14 (by decide) rfl ?_
  refine nV.aload dX2_init_15 (List.mem_of_getElem? (i := 1) rfl) ?_
  refine nV.iload dX2_init_16 (List.mem_of_getElem? (i := 0) rfl) ?_
  refine nV.newI (N := 4) dX2_init_17 wAI (by decide) rfl (by decide) (Nat.le_of_ble_eq_true rfl) (Nat.le_of_ble_eq_true rfl) (fun q17 => ?_)
  refine nV.to (cells' := 1) (slots' := 4) (ws' := [(h0, .inr (2, [.null, .null, .int 0])), (q17, .inl (G.2.2.1, 4, .inl (fun _ => 0)))]) rfl rfl rfl ?_
  refine nV.putF (C := RX2) (T := TX2) (N := 3) (ci := 2) (k := 0) (q0 := 0) (ty := tyX2 0) (ws' := [(h0, .inr (2, [.ref q17, .null, .int 0])), (q17, .inl (G.2.2.1, 4, .inl (fun _ => 0)))]) dX2_init_19 inT2 tyX2 tyX2_ok nmX2 rfl rfl (by decide) wF2_21 rfl (fun _ _ h => h) rfl (tyX2_ok 0 (by decide)) rfl rfl (Nat.le_of_ble_eq_true rfl) rfl ?_
  refine nV.aload dX2_init_22 (List.mem_of_getElem? (i := 1) rfl) ?_
  refine nV.iload dX2_init_23 (List.mem_of_getElem? (i := 0) rfl) ?_
  refine nV.newI (N := 4) dX2_init_24 wAI (by decide) rfl (by decide) (Nat.le_of_ble_eq_true rfl) (Nat.le_of_ble_eq_true rfl) (fun q24 => ?_)
  refine nV.to (cells' := 2) (slots' := 8) (ws' := [(h0, .inr (2, [.ref q17, .null, .int 0])), (q17, .inl (G.2.2.1, 4, .inl (fun _ => 0))), (q24, .inl (G.2.2.1, 4, .inl (fun _ => 0)))]) rfl rfl rfl ?_
  refine nV.putF (C := RX2) (T := TX2) (N := 3) (ci := 2) (k := 1) (q0 := 0) (ty := tyX2 1) (ws' := [(h0, .inr (2, [.ref q17, .ref q24, .int 0])), (q17, .inl (G.2.2.1, 4, .inl (fun _ => 0))), (q24, .inl (G.2.2.1, 4, .inl (fun _ => 0)))]) dX2_init_26 inT2 tyX2 tyX2_ok nmX2 rfl rfl (by decide) wF2_25 rfl (fun _ _ h => h) rfl (tyX2_ok 1 (by decide)) rfl rfl (Nat.le_of_ble_eq_true rfl) rfl ?_
  exact nV.ret rfl dX2_init_29 rfl rfl (fun i => [q17, q24].getD i 0) rfl
def cfX2_init_8 (G : nG) (h0 : Nat) (u : Nat → Nat) : va_W := [(h0, .inr (2, [.ref (u 0), .ref (u 1), .int 0])), ((u 0), .inl (G.2.2.1, 8, .inl (fun _ => 0))), ((u 1), .inl (G.2.2.1, 8, .inl (fun _ => 0)))]
set_option maxRecDepth 100000 in
theorem crX2_init_8 {G : nG} : nCtr G mX2_init { frames := 4, cells := 2, slots := 16, locals := 200 } (fun _ => True) 2 [.null, .null, .int 0] [.int 8] (cfX2_init_8 G) := by
  refine nCtr.of (by decide +kernel) rfl (fun _ => Nat.le_of_ble_eq_true rfl) (fun h0 => ?_)
  show nV G mX2_init _ 0 0 0 [(0, .ref h0), (1, .int 8)] [] [(h0, .inr (2, [.null, .null, .int 0]))]
  refine nV.aload dX2_init_0 (List.mem_of_getElem? (i := 0) rfl) ?_
  refine nV.objInit dX2_init_1 wO2 wOi wOc (Nat.le_of_ble_eq_true rfl) (Nat.le_of_ble_eq_true rfl) ?_
  refine nV.aload dX2_init_4 (List.mem_of_getElem? (i := 0) rfl) ?_
  refine nV.iconst (x := 0) dX2_init_5 rfl ?_
  refine nV.put (C := RX2) (T := TX2) (N := 3) (ci := 2) (k := 2) (q0 := 0) (ty := tyX2 2) (ws' := [(h0, .inr (2, [.null, .null, .int 0]))]) dX2_init_6 inT2 tyX2 tyX2_ok nmX2 rfl rfl (by decide) wF2_9 rfl (tyX2_ok 2 (by decide)) rfl rfl (Nat.le_of_ble_eq_true rfl) rfl ?_
  refine nV.iload dX2_init_9 (List.mem_of_getElem? (i := 1) rfl) ?_
  refine nV.iconst (x := 0) dX2_init_10 rfl ?_
  refine nV.mmax dX2_init_11 wM2_15 ⟨(Nat.le_of_ble_eq_true rfl), (Nat.le_of_ble_eq_true rfl), (Nat.le_of_ble_eq_true rfl), (Nat.le_of_ble_eq_true rfl)⟩ (z := 8) (by decide) ?_
  refine nV.istore (L' := [(2, .int 8), (0, .ref h0), (1, .int 8)]) dX2_init_14 (by decide) rfl ?_
  refine nV.aload dX2_init_15 (List.mem_of_getElem? (i := 1) rfl) ?_
  refine nV.iload dX2_init_16 (List.mem_of_getElem? (i := 0) rfl) ?_
  refine nV.newI (N := 8) dX2_init_17 wAI (by decide) rfl (by decide) (Nat.le_of_ble_eq_true rfl) (Nat.le_of_ble_eq_true rfl) (fun q17 => ?_)
  refine nV.to (cells' := 1) (slots' := 8) (ws' := [(h0, .inr (2, [.null, .null, .int 0])), (q17, .inl (G.2.2.1, 8, .inl (fun _ => 0)))]) rfl rfl rfl ?_
  refine nV.putF (C := RX2) (T := TX2) (N := 3) (ci := 2) (k := 0) (q0 := 0) (ty := tyX2 0) (ws' := [(h0, .inr (2, [.ref q17, .null, .int 0])), (q17, .inl (G.2.2.1, 8, .inl (fun _ => 0)))]) dX2_init_19 inT2 tyX2 tyX2_ok nmX2 rfl rfl (by decide) wF2_21 rfl (fun _ _ h => h) rfl (tyX2_ok 0 (by decide)) rfl rfl (Nat.le_of_ble_eq_true rfl) rfl ?_
  refine nV.aload dX2_init_22 (List.mem_of_getElem? (i := 1) rfl) ?_
  refine nV.iload dX2_init_23 (List.mem_of_getElem? (i := 0) rfl) ?_
  refine nV.newI (N := 8) dX2_init_24 wAI (by decide) rfl (by decide) (Nat.le_of_ble_eq_true rfl) (Nat.le_of_ble_eq_true rfl) (fun q24 => ?_)
  refine nV.to (cells' := 2) (slots' := 16) (ws' := [(h0, .inr (2, [.ref q17, .null, .int 0])), (q17, .inl (G.2.2.1, 8, .inl (fun _ => 0))), (q24, .inl (G.2.2.1, 8, .inl (fun _ => 0)))]) rfl rfl rfl ?_
  refine nV.putF (C := RX2) (T := TX2) (N := 3) (ci := 2) (k := 1) (q0 := 0) (ty := tyX2 1) (ws' := [(h0, .inr (2, [.ref q17, .ref q24, .int 0])), (q17, .inl (G.2.2.1, 8, .inl (fun _ => 0))), (q24, .inl (G.2.2.1, 8, .inl (fun _ => 0)))]) dX2_init_26 inT2 tyX2 tyX2_ok nmX2 rfl rfl (by decide) wF2_25 rfl (fun _ _ h => h) rfl (tyX2_ok 1 (by decide)) rfl rfl (Nat.le_of_ble_eq_true rfl) rfl ?_
  exact nV.ret rfl dX2_init_29 rfl rfl (fun i => [q17, q24].getD i 0) rfl
def mX3_init : fM := (yX3_init, cX3_init, 1, none, (fun _ => none), fun _ => none)
set_option maxRecDepth 100000 in
theorem kX3_init : fMok mX3_init 0 := ⟨fTB_at 152 rfl rfl, fTB_at 55 rfl rfl, by decide +kernel, by decide +kernel, by decide +kernel⟩
set_option maxRecDepth 100000 in
theorem jX3_init : Cond.instanceMethod yX3_init ∈ fTB := fTB_at 151 rfl rfl
theorem dX3_init_0 : decode cX3_init 0 = .ok (.aload_n 0, 1) := by decide +kernel
set_option maxRecDepth 100000 in
theorem wO3 : Cond.methodLink RX3 3 objectInit ∈ fTB := fTB_at 153 rfl rfl
theorem dX3_init_1 : decode cX3_init 1 = .ok (.invokespecial 3, 3) := by decide +kernel
theorem dX3_init_4 : decode cX3_init 4 = .ok (.aload_n 0, 1) := by decide +kernel
theorem dX3_init_5 : decode cX3_init 5 = .ok (.iconst 3, 1) := by decide +kernel
theorem dX3_init_6 : decode cX3_init 6 = .ok (.newarray .int, 2) := by decide +kernel
set_option maxRecDepth 100000 in
theorem wF3_9 : Cond.fieldLink RX3 9 (TX3 0).1 (TX3 0).2.1 (TX3 0).2.2.1 ∈ fTB := fTB_at 154 rfl rfl
theorem dX3_init_8 : decode cX3_init 8 = .ok (.putfield 9, 3) := by decide +kernel
theorem dX3_init_11 : decode cX3_init 11 = .ok (.aload_n 0, 1) := by decide +kernel
theorem dX3_init_12 : decode cX3_init 12 = .ok (.bipush 8, 2) := by decide +kernel
theorem dX3_init_14 : decode cX3_init 14 = .ok (.newarray .int, 2) := by decide +kernel
set_option maxRecDepth 100000 in
theorem wF3_15 : Cond.fieldLink RX3 15 (TX3 1).1 (TX3 1).2.1 (TX3 1).2.2.1 ∈ fTB := fTB_at 157 rfl rfl
theorem dX3_init_16 : decode cX3_init 16 = .ok (.putfield 15, 3) := by decide +kernel
theorem dX3_init_19 : decode cX3_init 19 = .ok (.aload_n 0, 1) := by decide +kernel
theorem dX3_init_20 : decode cX3_init 20 = .ok (.bipush 8, 2) := by decide +kernel
theorem dX3_init_22 : decode cX3_init 22 = .ok (.newarray .int, 2) := by decide +kernel
set_option maxRecDepth 100000 in
theorem wF3_18 : Cond.fieldLink RX3 18 (TX3 2).1 (TX3 2).2.1 (TX3 2).2.2.1 ∈ fTB := fTB_at 158 rfl rfl
theorem dX3_init_24 : decode cX3_init 24 = .ok (.putfield 18, 3) := by decide +kernel
theorem dX3_init_27 : decode cX3_init 27 = .ok (.aload_n 0, 1) := by decide +kernel
theorem dX3_init_28 : decode cX3_init 28 = .ok (.iconst 5, 1) := by decide +kernel
theorem dX3_init_29 : decode cX3_init 29 = .ok (.newarray .long, 2) := by decide +kernel
set_option maxRecDepth 100000 in
theorem wF3_21 : Cond.fieldLink RX3 21 (TX3 3).1 (TX3 3).2.1 (TX3 3).2.2.1 ∈ fTB := fTB_at 159 rfl rfl
theorem dX3_init_31 : decode cX3_init 31 = .ok (.putfield 21, 3) := by decide +kernel
theorem dX3_init_34 : decode cX3_init 34 = .ok (.aload_n 0, 1) := by decide +kernel
theorem dX3_init_35 : decode cX3_init 35 = .ok (.iconst 5, 1) := by decide +kernel
theorem dX3_init_36 : decode cX3_init 36 = .ok (.newarray .long, 2) := by decide +kernel
set_option maxRecDepth 100000 in
theorem wF3_25 : Cond.fieldLink RX3 25 (TX3 4).1 (TX3 4).2.1 (TX3 4).2.2.1 ∈ fTB := fTB_at 160 rfl rfl
theorem dX3_init_38 : decode cX3_init 38 = .ok (.putfield 25, 3) := by decide +kernel
theorem dX3_init_41 : decode cX3_init 41 = .ok (.aload_n 0, 1) := by decide +kernel
theorem dX3_init_42 : decode cX3_init 42 = .ok (.iconst 0, 1) := by decide +kernel
set_option maxRecDepth 100000 in
theorem wF3_28 : Cond.fieldLink RX3 28 (TX3 5).1 (TX3 5).2.1 (TX3 5).2.2.1 ∈ fTB := fTB_at 161 rfl rfl
theorem dX3_init_43 : decode cX3_init 43 = .ok (.putfield 28, 3) := by decide +kernel
theorem dX3_init_46 : decode cX3_init 46 = .ok (.aload_n 0, 1) := by decide +kernel
theorem dX3_init_47 : decode cX3_init 47 = .ok (.iconst 0, 1) := by decide +kernel
set_option maxRecDepth 100000 in
theorem wF3_32 : Cond.fieldLink RX3 32 (TX3 6).1 (TX3 6).2.1 (TX3 6).2.2.1 ∈ fTB := fTB_at 162 rfl rfl
theorem dX3_init_48 : decode cX3_init 48 = .ok (.putfield 32, 3) := by decide +kernel
theorem dX3_init_51 : decode cX3_init 51 = .ok (.aload_n 0, 1) := by decide +kernel
theorem dX3_init_52 : decode cX3_init 52 = .ok (.iconst 0, 1) := by decide +kernel
set_option maxRecDepth 100000 in
theorem wF3_35 : Cond.fieldLink RX3 35 (TX3 7).1 (TX3 7).2.1 (TX3 7).2.2.1 ∈ fTB := fTB_at 163 rfl rfl
theorem dX3_init_53 : decode cX3_init 53 = .ok (.putfield 35, 3) := by decide +kernel
theorem dX3_init_56 : decode cX3_init 56 = .ok (.return_, 1) := by decide +kernel
def cfX3_init (G : nG) (h0 : Nat) (u : Nat → Nat) : va_W := [(h0, .inr (3, [.ref (u 0), .ref (u 1), .ref (u 2), .ref (u 3), .ref (u 4), .int 0, .int 0, .int 0])), ((u 0), .inl (G.2.2.1, 3, .inl (fun _ => 0))), ((u 1), .inl (G.2.2.1, 8, .inl (fun _ => 0))), ((u 2), .inl (G.2.2.1, 8, .inl (fun _ => 0))), ((u 3), .inl (G.2.2.2, 5, .inr (.inl (fun _ => 0)))), ((u 4), .inl (G.2.2.2, 5, .inr (.inl (fun _ => 0))))]
set_option maxRecDepth 100000 in
theorem crX3_init {G : nG} : nCtr G mX3_init { frames := 4, cells := 5, slots := 29, locals := 200 } (fun _ => True) 3 [.null, .null, .null, .null, .null, .int 0, .int 0, .int 0] [] (cfX3_init G) := by
  refine nCtr.of (by decide +kernel) rfl (fun _ => Nat.le_of_ble_eq_true rfl) (fun h0 => ?_)
  show nV G mX3_init _ 0 0 0 [(0, .ref h0)] [] [(h0, .inr (3, [.null, .null, .null, .null, .null, .int 0, .int 0, .int 0]))]
  refine nV.aload dX3_init_0 (List.mem_of_getElem? (i := 0) rfl) ?_
  refine nV.objInit dX3_init_1 wO3 wOi wOc (Nat.le_of_ble_eq_true rfl) (Nat.le_of_ble_eq_true rfl) ?_
  refine nV.aload dX3_init_4 (List.mem_of_getElem? (i := 0) rfl) ?_
  refine nV.iconst (x := 3) dX3_init_5 rfl ?_
  refine nV.newI (N := 3) dX3_init_6 wAI (by decide) rfl (by decide) (Nat.le_of_ble_eq_true rfl) (Nat.le_of_ble_eq_true rfl) (fun q6 => ?_)
  refine nV.to (cells' := 1) (slots' := 3) (ws' := [(h0, .inr (3, [.null, .null, .null, .null, .null, .int 0, .int 0, .int 0])), (q6, .inl (G.2.2.1, 3, .inl (fun _ => 0)))]) rfl rfl rfl ?_
  refine nV.putF (C := RX3) (T := TX3) (N := 8) (ci := 3) (k := 0) (q0 := 0) (ty := tyX3 0) (ws' := [(h0, .inr (3, [.ref q6, .null, .null, .null, .null, .int 0, .int 0, .int 0])), (q6, .inl (G.2.2.1, 3, .inl (fun _ => 0)))]) dX3_init_8 inT3 tyX3 tyX3_ok nmX3 rfl rfl (by decide) wF3_9 rfl (fun _ _ h => h) rfl (tyX3_ok 0 (by decide)) rfl rfl (Nat.le_of_ble_eq_true rfl) rfl ?_
  refine nV.aload dX3_init_11 (List.mem_of_getElem? (i := 0) rfl) ?_
  refine nV.bipush (x := 8) dX3_init_12 (by decide) (by decide) rfl ?_
  refine nV.newI (N := 8) dX3_init_14 wAI (by decide) rfl (by decide) (Nat.le_of_ble_eq_true rfl) (Nat.le_of_ble_eq_true rfl) (fun q14 => ?_)
  refine nV.to (cells' := 2) (slots' := 11) (ws' := [(h0, .inr (3, [.ref q6, .null, .null, .null, .null, .int 0, .int 0, .int 0])), (q6, .inl (G.2.2.1, 3, .inl (fun _ => 0))), (q14, .inl (G.2.2.1, 8, .inl (fun _ => 0)))]) rfl rfl rfl ?_
  refine nV.putF (C := RX3) (T := TX3) (N := 8) (ci := 3) (k := 1) (q0 := 0) (ty := tyX3 1) (ws' := [(h0, .inr (3, [.ref q6, .ref q14, .null, .null, .null, .int 0, .int 0, .int 0])), (q6, .inl (G.2.2.1, 3, .inl (fun _ => 0))), (q14, .inl (G.2.2.1, 8, .inl (fun _ => 0)))]) dX3_init_16 inT3 tyX3 tyX3_ok nmX3 rfl rfl (by decide) wF3_15 rfl (fun _ _ h => h) rfl (tyX3_ok 1 (by decide)) rfl rfl (Nat.le_of_ble_eq_true rfl) rfl ?_
  refine nV.aload dX3_init_19 (List.mem_of_getElem? (i := 0) rfl) ?_
  refine nV.bipush (x := 8) dX3_init_20 (by decide) (by decide) rfl ?_
  refine nV.newI (N := 8) dX3_init_22 wAI (by decide) rfl (by decide) (Nat.le_of_ble_eq_true rfl) (Nat.le_of_ble_eq_true rfl) (fun q22 => ?_)
  refine nV.to (cells' := 3) (slots' := 19) (ws' := [(h0, .inr (3, [.ref q6, .ref q14, .null, .null, .null, .int 0, .int 0, .int 0])), (q6, .inl (G.2.2.1, 3, .inl (fun _ => 0))), (q14, .inl (G.2.2.1, 8, .inl (fun _ => 0))), (q22, .inl (G.2.2.1, 8, .inl (fun _ => 0)))]) rfl rfl rfl ?_
  refine nV.putF (C := RX3) (T := TX3) (N := 8) (ci := 3) (k := 2) (q0 := 0) (ty := tyX3 2) (ws' := [(h0, .inr (3, [.ref q6, .ref q14, .ref q22, .null, .null, .int 0, .int 0, .int 0])), (q6, .inl (G.2.2.1, 3, .inl (fun _ => 0))), (q14, .inl (G.2.2.1, 8, .inl (fun _ => 0))), (q22, .inl (G.2.2.1, 8, .inl (fun _ => 0)))]) dX3_init_24 inT3 tyX3 tyX3_ok nmX3 rfl rfl (by decide) wF3_18 rfl (fun _ _ h => h) rfl (tyX3_ok 2 (by decide)) rfl rfl (Nat.le_of_ble_eq_true rfl) rfl ?_
  refine nV.aload dX3_init_27 (List.mem_of_getElem? (i := 0) rfl) ?_
  refine nV.iconst (x := 5) dX3_init_28 rfl ?_
  refine nV.newJ (N := 5) dX3_init_29 wAJ (by decide) rfl (by decide) (Nat.le_of_ble_eq_true rfl) (Nat.le_of_ble_eq_true rfl) (fun q29 => ?_)
  refine nV.to (cells' := 4) (slots' := 24) (ws' := [(h0, .inr (3, [.ref q6, .ref q14, .ref q22, .null, .null, .int 0, .int 0, .int 0])), (q6, .inl (G.2.2.1, 3, .inl (fun _ => 0))), (q14, .inl (G.2.2.1, 8, .inl (fun _ => 0))), (q22, .inl (G.2.2.1, 8, .inl (fun _ => 0))), (q29, .inl (G.2.2.2, 5, .inr (.inl (fun _ => 0))))]) rfl rfl rfl ?_
  refine nV.putF (C := RX3) (T := TX3) (N := 8) (ci := 3) (k := 3) (q0 := 0) (ty := tyX3 3) (ws' := [(h0, .inr (3, [.ref q6, .ref q14, .ref q22, .ref q29, .null, .int 0, .int 0, .int 0])), (q6, .inl (G.2.2.1, 3, .inl (fun _ => 0))), (q14, .inl (G.2.2.1, 8, .inl (fun _ => 0))), (q22, .inl (G.2.2.1, 8, .inl (fun _ => 0))), (q29, .inl (G.2.2.2, 5, .inr (.inl (fun _ => 0))))]) dX3_init_31 inT3 tyX3 tyX3_ok nmX3 rfl rfl (by decide) wF3_21 rfl (fun _ _ h => h) rfl (tyX3_ok 3 (by decide)) rfl rfl (Nat.le_of_ble_eq_true rfl) rfl ?_
  refine nV.aload dX3_init_34 (List.mem_of_getElem? (i := 0) rfl) ?_
  refine nV.iconst (x := 5) dX3_init_35 rfl ?_
  refine nV.newJ (N := 5) dX3_init_36 wAJ (by decide) rfl (by decide) (Nat.le_of_ble_eq_true rfl) (Nat.le_of_ble_eq_true rfl) (fun q36 => ?_)
  refine nV.to (cells' := 5) (slots' := 29) (ws' := [(h0, .inr (3, [.ref q6, .ref q14, .ref q22, .ref q29, .null, .int 0, .int 0, .int 0])), (q6, .inl (G.2.2.1, 3, .inl (fun _ => 0))), (q14, .inl (G.2.2.1, 8, .inl (fun _ => 0))), (q22, .inl (G.2.2.1, 8, .inl (fun _ => 0))), (q29, .inl (G.2.2.2, 5, .inr (.inl (fun _ => 0)))), (q36, .inl (G.2.2.2, 5, .inr (.inl (fun _ => 0))))]) rfl rfl rfl ?_
  refine nV.putF (C := RX3) (T := TX3) (N := 8) (ci := 3) (k := 4) (q0 := 0) (ty := tyX3 4) (ws' := [(h0, .inr (3, [.ref q6, .ref q14, .ref q22, .ref q29, .ref q36, .int 0, .int 0, .int 0])), (q6, .inl (G.2.2.1, 3, .inl (fun _ => 0))), (q14, .inl (G.2.2.1, 8, .inl (fun _ => 0))), (q22, .inl (G.2.2.1, 8, .inl (fun _ => 0))), (q29, .inl (G.2.2.2, 5, .inr (.inl (fun _ => 0)))), (q36, .inl (G.2.2.2, 5, .inr (.inl (fun _ => 0))))]) dX3_init_38 inT3 tyX3 tyX3_ok nmX3 rfl rfl (by decide) wF3_25 rfl (fun _ _ h => h) rfl (tyX3_ok 4 (by decide)) rfl rfl (Nat.le_of_ble_eq_true rfl) rfl ?_
  refine nV.aload dX3_init_41 (List.mem_of_getElem? (i := 0) rfl) ?_
  refine nV.iconst (x := 0) dX3_init_42 rfl ?_
  refine nV.put (C := RX3) (T := TX3) (N := 8) (ci := 3) (k := 5) (q0 := 0) (ty := tyX3 5) (ws' := [(h0, .inr (3, [.ref q6, .ref q14, .ref q22, .ref q29, .ref q36, .int 0, .int 0, .int 0])), (q6, .inl (G.2.2.1, 3, .inl (fun _ => 0))), (q14, .inl (G.2.2.1, 8, .inl (fun _ => 0))), (q22, .inl (G.2.2.1, 8, .inl (fun _ => 0))), (q29, .inl (G.2.2.2, 5, .inr (.inl (fun _ => 0)))), (q36, .inl (G.2.2.2, 5, .inr (.inl (fun _ => 0))))]) dX3_init_43 inT3 tyX3 tyX3_ok nmX3 rfl rfl (by decide) wF3_28 rfl (tyX3_ok 5 (by decide)) rfl rfl (Nat.le_of_ble_eq_true rfl) rfl ?_
  refine nV.aload dX3_init_46 (List.mem_of_getElem? (i := 0) rfl) ?_
  refine nV.iconst (x := 0) dX3_init_47 rfl ?_
  refine nV.put (C := RX3) (T := TX3) (N := 8) (ci := 3) (k := 6) (q0 := 0) (ty := tyX3 6) (ws' := [(h0, .inr (3, [.ref q6, .ref q14, .ref q22, .ref q29, .ref q36, .int 0, .int 0, .int 0])), (q6, .inl (G.2.2.1, 3, .inl (fun _ => 0))), (q14, .inl (G.2.2.1, 8, .inl (fun _ => 0))), (q22, .inl (G.2.2.1, 8, .inl (fun _ => 0))), (q29, .inl (G.2.2.2, 5, .inr (.inl (fun _ => 0)))), (q36, .inl (G.2.2.2, 5, .inr (.inl (fun _ => 0))))]) dX3_init_48 inT3 tyX3 tyX3_ok nmX3 rfl rfl (by decide) wF3_32 rfl (tyX3_ok 6 (by decide)) rfl rfl (Nat.le_of_ble_eq_true rfl) rfl ?_
  refine nV.aload dX3_init_51 (List.mem_of_getElem? (i := 0) rfl) ?_
  refine nV.iconst (x := 0) dX3_init_52 rfl ?_
  refine nV.put (C := RX3) (T := TX3) (N := 8) (ci := 3) (k := 7) (q0 := 0) (ty := tyX3 7) (ws' := [(h0, .inr (3, [.ref q6, .ref q14, .ref q22, .ref q29, .ref q36, .int 0, .int 0, .int 0])), (q6, .inl (G.2.2.1, 3, .inl (fun _ => 0))), (q14, .inl (G.2.2.1, 8, .inl (fun _ => 0))), (q22, .inl (G.2.2.1, 8, .inl (fun _ => 0))), (q29, .inl (G.2.2.2, 5, .inr (.inl (fun _ => 0)))), (q36, .inl (G.2.2.2, 5, .inr (.inl (fun _ => 0))))]) dX3_init_53 inT3 tyX3 tyX3_ok nmX3 rfl rfl (by decide) wF3_35 rfl (tyX3_ok 7 (by decide)) rfl rfl (Nat.le_of_ble_eq_true rfl) rfl ?_
  exact nV.ret rfl dX3_init_56 rfl rfl (fun i => [q6, q14, q22, q29, q36].getD i 0) rfl
def mX1_init : fM := (yX1_init, cX1_init, 1, none, (fun _ => none), fun _ => none)
set_option maxRecDepth 100000 in
theorem kX1_init : fMok mX1_init 0 := ⟨fTB_at 188 rfl rfl, fTB_at 56 rfl rfl, by decide +kernel, by decide +kernel, by decide +kernel⟩
set_option maxRecDepth 100000 in
theorem jX1_init : Cond.instanceMethod yX1_init ∈ fTB := fTB_at 187 rfl rfl
theorem dX1_init_0 : decode cX1_init 0 = .ok (.aload_n 0, 1) := by decide +kernel
set_option maxRecDepth 100000 in
theorem wO1 : Cond.methodLink RX1 5 objectInit ∈ fTB := fTB_at 189 rfl rfl
theorem dX1_init_1 : decode cX1_init 1 = .ok (.invokespecial 5, 3) := by decide +kernel
theorem dX1_init_4 : decode cX1_init 4 = .ok (.aload_n 0, 1) := by decide +kernel
theorem dX1_init_5 : decode cX1_init 5 = .ok (.sipush 3857, 3) := by decide +kernel
theorem dX1_init_8 : decode cX1_init 8 = .ok (.newarray .int, 2) := by decide +kernel
set_option maxRecDepth 100000 in
theorem wF1_11 : Cond.fieldLink RX1 11 (TX1 0).1 (TX1 0).2.1 (TX1 0).2.2.1 ∈ fTB := fTB_at 190 rfl rfl
theorem dX1_init_10 : decode cX1_init 10 = .ok (.putfield 11, 3) := by decide +kernel
theorem dX1_init_13 : decode cX1_init 13 = .ok (.aload_n 0, 1) := by decide +kernel
theorem dX1_init_14 : decode cX1_init 14 = .ok (.sipush 3857, 3) := by decide +kernel
theorem dX1_init_17 : decode cX1_init 17 = .ok (.newarray .long, 2) := by decide +kernel
set_option maxRecDepth 100000 in
theorem wF1_15 : Cond.fieldLink RX1 15 (TX1 1).1 (TX1 1).2.1 (TX1 1).2.2.1 ∈ fTB := fTB_at 191 rfl rfl
theorem dX1_init_19 : decode cX1_init 19 = .ok (.putfield 15, 3) := by decide +kernel
theorem dX1_init_22 : decode cX1_init 22 = .ok (.aload_n 0, 1) := by decide +kernel
theorem dX1_init_23 : decode cX1_init 23 = .ok (.iconst 0, 1) := by decide +kernel
set_option maxRecDepth 100000 in
theorem wF1_19 : Cond.fieldLink RX1 19 (TX1 2).1 (TX1 2).2.1 (TX1 2).2.2.1 ∈ fTB := fTB_at 193 rfl rfl
theorem dX1_init_24 : decode cX1_init 24 = .ok (.putfield 19, 3) := by decide +kernel
theorem dX1_init_27 : decode cX1_init 27 = .ok (.aload_n 0, 1) := by decide +kernel
theorem dX1_init_28 : decode cX1_init 28 = .ok (.iconst (-1), 1) := by decide +kernel
set_option maxRecDepth 100000 in
theorem wF1_23 : Cond.fieldLink RX1 23 (TX1 3).1 (TX1 3).2.1 (TX1 3).2.2.1 ∈ fTB := fTB_at 196 rfl rfl
theorem dX1_init_29 : decode cX1_init 29 = .ok (.putfield 23, 3) := by decide +kernel
theorem dX1_init_32 : decode cX1_init 32 = .ok (.return_, 1) := by decide +kernel
def cfX1_init (G : nG) (h0 : Nat) (u : Nat → Nat) : va_W := [(h0, .inr (1, [.ref (u 0), .ref (u 1), .int 0, .int (-1)])), ((u 0), .inl (G.2.2.1, 3857, .inl (fun _ => 0))), ((u 1), .inl (G.2.2.2, 3857, .inr (.inl (fun _ => 0))))]
set_option maxRecDepth 100000 in
theorem crX1_init {G : nG} : nCtr G mX1_init { frames := 4, cells := 2, slots := 7714, locals := 200 } (fun _ => True) 1 [.null, .null, .int 0, .int 0] [] (cfX1_init G) := by
  refine nCtr.of (by decide +kernel) rfl (fun _ => Nat.le_of_ble_eq_true rfl) (fun h0 => ?_)
  show nV G mX1_init _ 0 0 0 [(0, .ref h0)] [] [(h0, .inr (1, [.null, .null, .int 0, .int 0]))]
  refine nV.aload dX1_init_0 (List.mem_of_getElem? (i := 0) rfl) ?_
  refine nV.objInit dX1_init_1 wO1 wOi wOc (Nat.le_of_ble_eq_true rfl) (Nat.le_of_ble_eq_true rfl) ?_
  refine nV.aload dX1_init_4 (List.mem_of_getElem? (i := 0) rfl) ?_
  refine nV.sipush (x := 3857) dX1_init_5 (by decide) (by decide) rfl ?_
  refine nV.newI (N := 3857) dX1_init_8 wAI (by decide) rfl (by decide) (Nat.le_of_ble_eq_true rfl) (Nat.le_of_ble_eq_true rfl) (fun q8 => ?_)
  refine nV.to (cells' := 1) (slots' := 3857) (ws' := [(h0, .inr (1, [.null, .null, .int 0, .int 0])), (q8, .inl (G.2.2.1, 3857, .inl (fun _ => 0)))]) rfl rfl rfl ?_
  refine nV.putF (C := RX1) (T := TX1) (N := 4) (ci := 1) (k := 0) (q0 := 0) (ty := tyX1 0) (ws' := [(h0, .inr (1, [.ref q8, .null, .int 0, .int 0])), (q8, .inl (G.2.2.1, 3857, .inl (fun _ => 0)))]) dX1_init_10 inT1 tyX1 tyX1_ok nmX1 rfl rfl (by decide) wF1_11 rfl (fun _ _ h => h) rfl (tyX1_ok 0 (by decide)) rfl rfl (Nat.le_of_ble_eq_true rfl) rfl ?_
  refine nV.aload dX1_init_13 (List.mem_of_getElem? (i := 0) rfl) ?_
  refine nV.sipush (x := 3857) dX1_init_14 (by decide) (by decide) rfl ?_
  refine nV.newJ (N := 3857) dX1_init_17 wAJ (by decide) rfl (by decide) (Nat.le_of_ble_eq_true rfl) (Nat.le_of_ble_eq_true rfl) (fun q17 => ?_)
  refine nV.to (cells' := 2) (slots' := 7714) (ws' := [(h0, .inr (1, [.ref q8, .null, .int 0, .int 0])), (q8, .inl (G.2.2.1, 3857, .inl (fun _ => 0))), (q17, .inl (G.2.2.2, 3857, .inr (.inl (fun _ => 0))))]) rfl rfl rfl ?_
  refine nV.putF (C := RX1) (T := TX1) (N := 4) (ci := 1) (k := 1) (q0 := 0) (ty := tyX1 1) (ws' := [(h0, .inr (1, [.ref q8, .ref q17, .int 0, .int 0])), (q8, .inl (G.2.2.1, 3857, .inl (fun _ => 0))), (q17, .inl (G.2.2.2, 3857, .inr (.inl (fun _ => 0))))]) dX1_init_19 inT1 tyX1 tyX1_ok nmX1 rfl rfl (by decide) wF1_15 rfl (fun _ _ h => h) rfl (tyX1_ok 1 (by decide)) rfl rfl (Nat.le_of_ble_eq_true rfl) rfl ?_
  refine nV.aload dX1_init_22 (List.mem_of_getElem? (i := 0) rfl) ?_
  refine nV.iconst (x := 0) dX1_init_23 rfl ?_
  refine nV.put (C := RX1) (T := TX1) (N := 4) (ci := 1) (k := 2) (q0 := 0) (ty := tyX1 2) (ws' := [(h0, .inr (1, [.ref q8, .ref q17, .int 0, .int 0])), (q8, .inl (G.2.2.1, 3857, .inl (fun _ => 0))), (q17, .inl (G.2.2.2, 3857, .inr (.inl (fun _ => 0))))]) dX1_init_24 inT1 tyX1 tyX1_ok nmX1 rfl rfl (by decide) wF1_19 rfl (tyX1_ok 2 (by decide)) rfl rfl (Nat.le_of_ble_eq_true rfl) rfl ?_
  refine nV.aload dX1_init_27 (List.mem_of_getElem? (i := 0) rfl) ?_
  refine nV.iconst (x := (-1)) dX1_init_28 rfl ?_
  refine nV.put (C := RX1) (T := TX1) (N := 4) (ci := 1) (k := 3) (q0 := 0) (ty := tyX1 3) (ws' := [(h0, .inr (1, [.ref q8, .ref q17, .int 0, .int (-1)])), (q8, .inl (G.2.2.1, 3857, .inl (fun _ => 0))), (q17, .inl (G.2.2.2, 3857, .inr (.inl (fun _ => 0))))]) dX1_init_29 inT1 tyX1 tyX1_ok nmX1 rfl rfl (by decide) wF1_23 rfl (tyX1_ok 3 (by decide)) rfl rfl (Nat.le_of_ble_eq_true rfl) rfl ?_
  exact nV.ret rfl dX1_init_32 rfl rfl (fun i => [q8, q17].getD i 0) rfl
def mX5_init : fM := (yX5_init, cX5_init, 1, none, (fun _ => none), fun _ => none)
set_option maxRecDepth 100000 in
theorem kX5_init : fMok mX5_init 0 := ⟨fTB_at 211 rfl rfl, fTB_at 57 rfl rfl, by decide +kernel, by decide +kernel, by decide +kernel⟩
set_option maxRecDepth 100000 in
theorem jX5_init : Cond.instanceMethod yX5_init ∈ fTB := fTB_at 210 rfl rfl
theorem dX5_init_0 : decode cX5_init 0 = .ok (.aload_n 0, 1) := by decide +kernel
set_option maxRecDepth 100000 in
theorem wO5 : Cond.methodLink RX5 1 objectInit ∈ fTB := fTB_at 212 rfl rfl
theorem dX5_init_1 : decode cX5_init 1 = .ok (.invokespecial 1, 3) := by decide +kernel
theorem dX5_init_4 : decode cX5_init 4 = .ok (.aload_n 0, 1) := by decide +kernel
theorem dX5_init_5 : decode cX5_init 5 = .ok (.lconst 0, 1) := by decide +kernel
set_option maxRecDepth 100000 in
theorem wF5_7 : Cond.fieldLink RX5 7 (TX5 0).1 (TX5 0).2.1 (TX5 0).2.2.1 ∈ fTB := fTB_at 213 rfl rfl
theorem dX5_init_6 : decode cX5_init 6 = .ok (.putfield 7, 3) := by decide +kernel
theorem dX5_init_9 : decode cX5_init 9 = .ok (.aload_n 0, 1) := by decide +kernel
theorem dX5_init_10 : decode cX5_init 10 = .ok (.lconst 0, 1) := by decide +kernel
set_option maxRecDepth 100000 in
theorem wF5_13 : Cond.fieldLink RX5 13 (TX5 1).1 (TX5 1).2.1 (TX5 1).2.2.1 ∈ fTB := fTB_at 215 rfl rfl
theorem dX5_init_11 : decode cX5_init 11 = .ok (.putfield 13, 3) := by decide +kernel
theorem dX5_init_14 : decode cX5_init 14 = .ok (.aload_n 0, 1) := by decide +kernel
theorem dX5_init_15 : decode cX5_init 15 = .ok (.lconst 0, 1) := by decide +kernel
set_option maxRecDepth 100000 in
theorem wF5_16 : Cond.fieldLink RX5 16 (TX5 2).1 (TX5 2).2.1 (TX5 2).2.2.1 ∈ fTB := fTB_at 217 rfl rfl
theorem dX5_init_16 : decode cX5_init 16 = .ok (.putfield 16, 3) := by decide +kernel
theorem dX5_init_19 : decode cX5_init 19 = .ok (.return_, 1) := by decide +kernel
def cfX5_init (G : nG) (h0 : Nat) (u : Nat → Nat) : va_W := [(h0, .inr (5, [.long 0, .long 0, .long 0]))]
set_option maxRecDepth 100000 in
theorem crX5_init {G : nG} : nCtr G mX5_init { frames := 4, cells := 0, slots := 0, locals := 200 } (fun _ => True) 5 [.long 0, .long 0, .long 0] [] (cfX5_init G) := by
  refine nCtr.of (by decide +kernel) rfl (fun _ => Nat.le_of_ble_eq_true rfl) (fun h0 => ?_)
  show nV G mX5_init _ 0 0 0 [(0, .ref h0)] [] [(h0, .inr (5, [.long 0, .long 0, .long 0]))]
  refine nV.aload dX5_init_0 (List.mem_of_getElem? (i := 0) rfl) ?_
  refine nV.objInit dX5_init_1 wO5 wOi wOc (Nat.le_of_ble_eq_true rfl) (Nat.le_of_ble_eq_true rfl) ?_
  refine nV.aload dX5_init_4 (List.mem_of_getElem? (i := 0) rfl) ?_
  refine nV.lconst0 dX5_init_5 ?_
  refine nV.put (C := RX5) (T := TX5) (N := 3) (ci := 5) (k := 0) (q0 := 0) (ty := tyX5 0) (ws' := [(h0, .inr (5, [.long 0, .long 0, .long 0]))]) dX5_init_6 inT5 tyX5 tyX5_ok nmX5 rfl rfl (by decide) wF5_7 rfl (tyX5_ok 0 (by decide)) rfl rfl (Nat.le_of_ble_eq_true rfl) rfl ?_
  refine nV.aload dX5_init_9 (List.mem_of_getElem? (i := 0) rfl) ?_
  refine nV.lconst0 dX5_init_10 ?_
  refine nV.put (C := RX5) (T := TX5) (N := 3) (ci := 5) (k := 1) (q0 := 0) (ty := tyX5 1) (ws' := [(h0, .inr (5, [.long 0, .long 0, .long 0]))]) dX5_init_11 inT5 tyX5 tyX5_ok nmX5 rfl rfl (by decide) wF5_13 rfl (tyX5_ok 1 (by decide)) rfl rfl (Nat.le_of_ble_eq_true rfl) rfl ?_
  refine nV.aload dX5_init_14 (List.mem_of_getElem? (i := 0) rfl) ?_
  refine nV.lconst0 dX5_init_15 ?_
  refine nV.put (C := RX5) (T := TX5) (N := 3) (ci := 5) (k := 2) (q0 := 0) (ty := tyX5 2) (ws' := [(h0, .inr (5, [.long 0, .long 0, .long 0]))]) dX5_init_16 inT5 tyX5 tyX5_ok nmX5 rfl rfl (by decide) wF5_16 rfl (tyX5_ok 2 (by decide)) rfl rfl (Nat.le_of_ble_eq_true rfl) rfl ?_
  exact nV.ret rfl dX5_init_19 rfl rfl (fun i => [].getD i 0) rfl
def mX0_init : fM := (yX0_init, cX0_init, 1, none, (fun _ => none), fun _ => none)
set_option maxRecDepth 100000 in
theorem kX0_init : fMok mX0_init 0 := ⟨fTB_at 230 rfl rfl, fTB_at 58 rfl rfl, by decide +kernel, by decide +kernel, by decide +kernel⟩
set_option maxRecDepth 100000 in
theorem jX0_init : Cond.instanceMethod yX0_init ∈ fTB := fTB_at 229 rfl rfl
theorem dX0_init_0 : decode cX0_init 0 = .ok (.aload_n 0, 1) := by decide +kernel
set_option maxRecDepth 100000 in
theorem wO0 : Cond.methodLink RX0 3 objectInit ∈ fTB := fTB_at 231 rfl rfl
theorem dX0_init_1 : decode cX0_init 1 = .ok (.invokespecial 3, 3) := by decide +kernel
theorem dX0_init_4 : decode cX0_init 4 = .ok (.aload_n 0, 1) := by decide +kernel
theorem dX0_init_5 : decode cX0_init 5 = .ok (.iconst 4, 1) := by decide +kernel
theorem dX0_init_6 : decode cX0_init 6 = .ok (.newarray .int, 2) := by decide +kernel
set_option maxRecDepth 100000 in
theorem wF0_9 : Cond.fieldLink RX0 9 (TX0 0).1 (TX0 0).2.1 (TX0 0).2.2.1 ∈ fTB := fTB_at 232 rfl rfl
theorem dX0_init_8 : decode cX0_init 8 = .ok (.putfield 9, 3) := by decide +kernel
theorem dX0_init_11 : decode cX0_init 11 = .ok (.aload_n 0, 1) := by decide +kernel
theorem dX0_init_12 : decode cX0_init 12 = .ok (.bipush 16, 2) := by decide +kernel
theorem dX0_init_14 : decode cX0_init 14 = .ok (.newarray .int, 2) := by decide +kernel
set_option maxRecDepth 100000 in
theorem wF0_15 : Cond.fieldLink RX0 15 (TX0 1).1 (TX0 1).2.1 (TX0 1).2.2.1 ∈ fTB := fTB_at 234 rfl rfl
theorem dX0_init_16 : decode cX0_init 16 = .ok (.putfield 15, 3) := by decide +kernel
theorem dX0_init_19 : decode cX0_init 19 = .ok (.aload_n 0, 1) := by decide +kernel
theorem dX0_init_20 : decode cX0_init 20 = .ok (.sipush 3857, 3) := by decide +kernel
theorem dX0_init_23 : decode cX0_init 23 = .ok (.newarray .int, 2) := by decide +kernel
set_option maxRecDepth 100000 in
theorem wF0_18 : Cond.fieldLink RX0 18 (TX0 2).1 (TX0 2).2.1 (TX0 2).2.2.1 ∈ fTB := fTB_at 236 rfl rfl
theorem dX0_init_25 : decode cX0_init 25 = .ok (.putfield 18, 3) := by decide +kernel
theorem dX0_init_28 : decode cX0_init 28 = .ok (.aload_n 0, 1) := by decide +kernel
theorem dX0_init_29 : decode cX0_init 29 = .ok (.bipush 6, 2) := by decide +kernel
theorem dX0_init_31 : decode cX0_init 31 = .ok (.newarray .int, 2) := by decide +kernel
set_option maxRecDepth 100000 in
theorem wF0_21 : Cond.fieldLink RX0 21 (TX0 3).1 (TX0 3).2.1 (TX0 3).2.2.1 ∈ fTB := fTB_at 238 rfl rfl
theorem dX0_init_33 : decode cX0_init 33 = .ok (.putfield 21, 3) := by decide +kernel
theorem dX0_init_36 : decode cX0_init 36 = .ok (.aload_n 0, 1) := by decide +kernel
theorem dX0_init_37 : decode cX0_init 37 = .ok (.iconst 5, 1) := by decide +kernel
theorem dX0_init_38 : decode cX0_init 38 = .ok (.newarray .long, 2) := by decide +kernel
set_option maxRecDepth 100000 in
theorem wF0_24 : Cond.fieldLink RX0 24 (TX0 4).1 (TX0 4).2.1 (TX0 4).2.2.1 ∈ fTB := fTB_at 240 rfl rfl
theorem dX0_init_40 : decode cX0_init 40 = .ok (.putfield 24, 3) := by decide +kernel
theorem dX0_init_43 : decode cX0_init 43 = .ok (.aload_n 0, 1) := by decide +kernel
theorem dX0_init_44 : decode cX0_init 44 = .ok (.iconst 5, 1) := by decide +kernel
theorem dX0_init_45 : decode cX0_init 45 = .ok (.newarray .long, 2) := by decide +kernel
set_option maxRecDepth 100000 in
theorem wF0_28 : Cond.fieldLink RX0 28 (TX0 5).1 (TX0 5).2.1 (TX0 5).2.2.1 ∈ fTB := fTB_at 242 rfl rfl
theorem dX0_init_47 : decode cX0_init 47 = .ok (.putfield 28, 3) := by decide +kernel
theorem dX0_init_50 : decode cX0_init 50 = .ok (.aload_n 0, 1) := by decide +kernel
theorem dX0_init_51 : decode cX0_init 51 = .ok (.iconst 0, 1) := by decide +kernel
set_option maxRecDepth 100000 in
theorem wF0_31 : Cond.fieldLink RX0 31 (TX0 6).1 (TX0 6).2.1 (TX0 6).2.2.1 ∈ fTB := fTB_at 244 rfl rfl
theorem dX0_init_52 : decode cX0_init 52 = .ok (.putfield 31, 3) := by decide +kernel
theorem dX0_init_55 : decode cX0_init 55 = .ok (.aload_n 0, 1) := by decide +kernel
theorem dX0_init_56 : decode cX0_init 56 = .ok (.iconst 0, 1) := by decide +kernel
set_option maxRecDepth 100000 in
theorem wF0_35 : Cond.fieldLink RX0 35 (TX0 7).1 (TX0 7).2.1 (TX0 7).2.2.1 ∈ fTB := fTB_at 246 rfl rfl
theorem dX0_init_57 : decode cX0_init 57 = .ok (.putfield 35, 3) := by decide +kernel
theorem dX0_init_60 : decode cX0_init 60 = .ok (.aload_n 0, 1) := by decide +kernel
theorem dX0_init_61 : decode cX0_init 61 = .ok (.iconst 0, 1) := by decide +kernel
set_option maxRecDepth 100000 in
theorem wF0_38 : Cond.fieldLink RX0 38 (TX0 8).1 (TX0 8).2.1 (TX0 8).2.2.1 ∈ fTB := fTB_at 248 rfl rfl
theorem dX0_init_62 : decode cX0_init 62 = .ok (.putfield 38, 3) := by decide +kernel
theorem dX0_init_65 : decode cX0_init 65 = .ok (.aload_n 0, 1) := by decide +kernel
theorem dX0_init_66 : decode cX0_init 66 = .ok (.iconst 0, 1) := by decide +kernel
set_option maxRecDepth 100000 in
theorem wF0_41 : Cond.fieldLink RX0 41 (TX0 9).1 (TX0 9).2.1 (TX0 9).2.2.1 ∈ fTB := fTB_at 250 rfl rfl
theorem dX0_init_67 : decode cX0_init 67 = .ok (.putfield 41, 3) := by decide +kernel
theorem dX0_init_70 : decode cX0_init 70 = .ok (.aload_n 0, 1) := by decide +kernel
theorem dX0_init_71 : decode cX0_init 71 = .ok (.iconst (-1), 1) := by decide +kernel
set_option maxRecDepth 100000 in
theorem wF0_45 : Cond.fieldLink RX0 45 (TX0 10).1 (TX0 10).2.1 (TX0 10).2.2.1 ∈ fTB := fTB_at 252 rfl rfl
theorem dX0_init_72 : decode cX0_init 72 = .ok (.putfield 45, 3) := by decide +kernel
theorem dX0_init_75 : decode cX0_init 75 = .ok (.aload_n 0, 1) := by decide +kernel
theorem dX0_init_76 : decode cX0_init 76 = .ok (.iconst 0, 1) := by decide +kernel
set_option maxRecDepth 100000 in
theorem wF0_48 : Cond.fieldLink RX0 48 (TX0 11).1 (TX0 11).2.1 (TX0 11).2.2.1 ∈ fTB := fTB_at 254 rfl rfl
theorem dX0_init_77 : decode cX0_init 77 = .ok (.putfield 48, 3) := by decide +kernel
theorem dX0_init_80 : decode cX0_init 80 = .ok (.aload_n 0, 1) := by decide +kernel
theorem dX0_init_81 : decode cX0_init 81 = .ok (.iconst 0, 1) := by decide +kernel
set_option maxRecDepth 100000 in
theorem wF0_51 : Cond.fieldLink RX0 51 (TX0 12).1 (TX0 12).2.1 (TX0 12).2.2.1 ∈ fTB := fTB_at 256 rfl rfl
theorem dX0_init_82 : decode cX0_init 82 = .ok (.putfield 51, 3) := by decide +kernel
theorem dX0_init_85 : decode cX0_init 85 = .ok (.return_, 1) := by decide +kernel
def cfX0_init (G : nG) (h0 : Nat) (u : Nat → Nat) : va_W := [(h0, .inr (0, [.ref (u 0), .ref (u 1), .ref (u 2), .ref (u 3), .ref (u 4), .ref (u 5), .int 0, .int 0, .int 0, .int 0, .int (-1), .int 0, .int 0])), ((u 0), .inl (G.2.2.1, 4, .inl (fun _ => 0))), ((u 1), .inl (G.2.2.1, 16, .inl (fun _ => 0))), ((u 2), .inl (G.2.2.1, 3857, .inl (fun _ => 0))), ((u 3), .inl (G.2.2.1, 6, .inl (fun _ => 0))), ((u 4), .inl (G.2.2.2, 5, .inr (.inl (fun _ => 0)))), ((u 5), .inl (G.2.2.2, 5, .inr (.inl (fun _ => 0))))]
set_option maxRecDepth 100000 in
theorem crX0_init {G : nG} : nCtr G mX0_init { frames := 4, cells := 6, slots := 3893, locals := 200 } (fun _ => True) 0 [.null, .null, .null, .null, .null, .null, .int 0, .int 0, .int 0, .int 0, .int 0, .int 0, .int 0] [] (cfX0_init G) := by
  refine nCtr.of (by decide +kernel) rfl (fun _ => Nat.le_of_ble_eq_true rfl) (fun h0 => ?_)
  show nV G mX0_init _ 0 0 0 [(0, .ref h0)] [] [(h0, .inr (0, [.null, .null, .null, .null, .null, .null, .int 0, .int 0, .int 0, .int 0, .int 0, .int 0, .int 0]))]
  refine nV.aload dX0_init_0 (List.mem_of_getElem? (i := 0) rfl) ?_
  refine nV.objInit dX0_init_1 wO0 wOi wOc (Nat.le_of_ble_eq_true rfl) (Nat.le_of_ble_eq_true rfl) ?_
  refine nV.aload dX0_init_4 (List.mem_of_getElem? (i := 0) rfl) ?_
  refine nV.iconst (x := 4) dX0_init_5 rfl ?_
  refine nV.newI (N := 4) dX0_init_6 wAI (by decide) rfl (by decide) (Nat.le_of_ble_eq_true rfl) (Nat.le_of_ble_eq_true rfl) (fun q6 => ?_)
  refine nV.to (cells' := 1) (slots' := 4) (ws' := [(h0, .inr (0, [.null, .null, .null, .null, .null, .null, .int 0, .int 0, .int 0, .int 0, .int 0, .int 0, .int 0])), (q6, .inl (G.2.2.1, 4, .inl (fun _ => 0)))]) rfl rfl rfl ?_
  refine nV.putF (C := RX0) (T := TX0) (N := 13) (ci := 0) (k := 0) (q0 := 0) (ty := tyX0 0) (ws' := [(h0, .inr (0, [.ref q6, .null, .null, .null, .null, .null, .int 0, .int 0, .int 0, .int 0, .int 0, .int 0, .int 0])), (q6, .inl (G.2.2.1, 4, .inl (fun _ => 0)))]) dX0_init_8 inT0 tyX0 tyX0_ok nmX0 rfl rfl (by decide) wF0_9 rfl (fun _ _ h => h) rfl (tyX0_ok 0 (by decide)) rfl rfl (Nat.le_of_ble_eq_true rfl) rfl ?_
  refine nV.aload dX0_init_11 (List.mem_of_getElem? (i := 0) rfl) ?_
  refine nV.bipush (x := 16) dX0_init_12 (by decide) (by decide) rfl ?_
  refine nV.newI (N := 16) dX0_init_14 wAI (by decide) rfl (by decide) (Nat.le_of_ble_eq_true rfl) (Nat.le_of_ble_eq_true rfl) (fun q14 => ?_)
  refine nV.to (cells' := 2) (slots' := 20) (ws' := [(h0, .inr (0, [.ref q6, .null, .null, .null, .null, .null, .int 0, .int 0, .int 0, .int 0, .int 0, .int 0, .int 0])), (q6, .inl (G.2.2.1, 4, .inl (fun _ => 0))), (q14, .inl (G.2.2.1, 16, .inl (fun _ => 0)))]) rfl rfl rfl ?_
  refine nV.putF (C := RX0) (T := TX0) (N := 13) (ci := 0) (k := 1) (q0 := 0) (ty := tyX0 1) (ws' := [(h0, .inr (0, [.ref q6, .ref q14, .null, .null, .null, .null, .int 0, .int 0, .int 0, .int 0, .int 0, .int 0, .int 0])), (q6, .inl (G.2.2.1, 4, .inl (fun _ => 0))), (q14, .inl (G.2.2.1, 16, .inl (fun _ => 0)))]) dX0_init_16 inT0 tyX0 tyX0_ok nmX0 rfl rfl (by decide) wF0_15 rfl (fun _ _ h => h) rfl (tyX0_ok 1 (by decide)) rfl rfl (Nat.le_of_ble_eq_true rfl) rfl ?_
  refine nV.aload dX0_init_19 (List.mem_of_getElem? (i := 0) rfl) ?_
  refine nV.sipush (x := 3857) dX0_init_20 (by decide) (by decide) rfl ?_
  refine nV.newI (N := 3857) dX0_init_23 wAI (by decide) rfl (by decide) (Nat.le_of_ble_eq_true rfl) (Nat.le_of_ble_eq_true rfl) (fun q23 => ?_)
  refine nV.to (cells' := 3) (slots' := 3877) (ws' := [(h0, .inr (0, [.ref q6, .ref q14, .null, .null, .null, .null, .int 0, .int 0, .int 0, .int 0, .int 0, .int 0, .int 0])), (q6, .inl (G.2.2.1, 4, .inl (fun _ => 0))), (q14, .inl (G.2.2.1, 16, .inl (fun _ => 0))), (q23, .inl (G.2.2.1, 3857, .inl (fun _ => 0)))]) rfl rfl rfl ?_
  refine nV.putF (C := RX0) (T := TX0) (N := 13) (ci := 0) (k := 2) (q0 := 0) (ty := tyX0 2) (ws' := [(h0, .inr (0, [.ref q6, .ref q14, .ref q23, .null, .null, .null, .int 0, .int 0, .int 0, .int 0, .int 0, .int 0, .int 0])), (q6, .inl (G.2.2.1, 4, .inl (fun _ => 0))), (q14, .inl (G.2.2.1, 16, .inl (fun _ => 0))), (q23, .inl (G.2.2.1, 3857, .inl (fun _ => 0)))]) dX0_init_25 inT0 tyX0 tyX0_ok nmX0 rfl rfl (by decide) wF0_18 rfl (fun _ _ h => h) rfl (tyX0_ok 2 (by decide)) rfl rfl (Nat.le_of_ble_eq_true rfl) rfl ?_
  refine nV.aload dX0_init_28 (List.mem_of_getElem? (i := 0) rfl) ?_
  refine nV.bipush (x := 6) dX0_init_29 (by decide) (by decide) rfl ?_
  refine nV.newI (N := 6) dX0_init_31 wAI (by decide) rfl (by decide) (Nat.le_of_ble_eq_true rfl) (Nat.le_of_ble_eq_true rfl) (fun q31 => ?_)
  refine nV.to (cells' := 4) (slots' := 3883) (ws' := [(h0, .inr (0, [.ref q6, .ref q14, .ref q23, .null, .null, .null, .int 0, .int 0, .int 0, .int 0, .int 0, .int 0, .int 0])), (q6, .inl (G.2.2.1, 4, .inl (fun _ => 0))), (q14, .inl (G.2.2.1, 16, .inl (fun _ => 0))), (q23, .inl (G.2.2.1, 3857, .inl (fun _ => 0))), (q31, .inl (G.2.2.1, 6, .inl (fun _ => 0)))]) rfl rfl rfl ?_
  refine nV.putF (C := RX0) (T := TX0) (N := 13) (ci := 0) (k := 3) (q0 := 0) (ty := tyX0 3) (ws' := [(h0, .inr (0, [.ref q6, .ref q14, .ref q23, .ref q31, .null, .null, .int 0, .int 0, .int 0, .int 0, .int 0, .int 0, .int 0])), (q6, .inl (G.2.2.1, 4, .inl (fun _ => 0))), (q14, .inl (G.2.2.1, 16, .inl (fun _ => 0))), (q23, .inl (G.2.2.1, 3857, .inl (fun _ => 0))), (q31, .inl (G.2.2.1, 6, .inl (fun _ => 0)))]) dX0_init_33 inT0 tyX0 tyX0_ok nmX0 rfl rfl (by decide) wF0_21 rfl (fun _ _ h => h) rfl (tyX0_ok 3 (by decide)) rfl rfl (Nat.le_of_ble_eq_true rfl) rfl ?_
  refine nV.aload dX0_init_36 (List.mem_of_getElem? (i := 0) rfl) ?_
  refine nV.iconst (x := 5) dX0_init_37 rfl ?_
  refine nV.newJ (N := 5) dX0_init_38 wAJ (by decide) rfl (by decide) (Nat.le_of_ble_eq_true rfl) (Nat.le_of_ble_eq_true rfl) (fun q38 => ?_)
  refine nV.to (cells' := 5) (slots' := 3888) (ws' := [(h0, .inr (0, [.ref q6, .ref q14, .ref q23, .ref q31, .null, .null, .int 0, .int 0, .int 0, .int 0, .int 0, .int 0, .int 0])), (q6, .inl (G.2.2.1, 4, .inl (fun _ => 0))), (q14, .inl (G.2.2.1, 16, .inl (fun _ => 0))), (q23, .inl (G.2.2.1, 3857, .inl (fun _ => 0))), (q31, .inl (G.2.2.1, 6, .inl (fun _ => 0))), (q38, .inl (G.2.2.2, 5, .inr (.inl (fun _ => 0))))]) rfl rfl rfl ?_
  refine nV.putF (C := RX0) (T := TX0) (N := 13) (ci := 0) (k := 4) (q0 := 0) (ty := tyX0 4) (ws' := [(h0, .inr (0, [.ref q6, .ref q14, .ref q23, .ref q31, .ref q38, .null, .int 0, .int 0, .int 0, .int 0, .int 0, .int 0, .int 0])), (q6, .inl (G.2.2.1, 4, .inl (fun _ => 0))), (q14, .inl (G.2.2.1, 16, .inl (fun _ => 0))), (q23, .inl (G.2.2.1, 3857, .inl (fun _ => 0))), (q31, .inl (G.2.2.1, 6, .inl (fun _ => 0))), (q38, .inl (G.2.2.2, 5, .inr (.inl (fun _ => 0))))]) dX0_init_40 inT0 tyX0 tyX0_ok nmX0 rfl rfl (by decide) wF0_24 rfl (fun _ _ h => h) rfl (tyX0_ok 4 (by decide)) rfl rfl (Nat.le_of_ble_eq_true rfl) rfl ?_
  refine nV.aload dX0_init_43 (List.mem_of_getElem? (i := 0) rfl) ?_
  refine nV.iconst (x := 5) dX0_init_44 rfl ?_
  refine nV.newJ (N := 5) dX0_init_45 wAJ (by decide) rfl (by decide) (Nat.le_of_ble_eq_true rfl) (Nat.le_of_ble_eq_true rfl) (fun q45 => ?_)
  refine nV.to (cells' := 6) (slots' := 3893) (ws' := [(h0, .inr (0, [.ref q6, .ref q14, .ref q23, .ref q31, .ref q38, .null, .int 0, .int 0, .int 0, .int 0, .int 0, .int 0, .int 0])), (q6, .inl (G.2.2.1, 4, .inl (fun _ => 0))), (q14, .inl (G.2.2.1, 16, .inl (fun _ => 0))), (q23, .inl (G.2.2.1, 3857, .inl (fun _ => 0))), (q31, .inl (G.2.2.1, 6, .inl (fun _ => 0))), (q38, .inl (G.2.2.2, 5, .inr (.inl (fun _ => 0)))), (q45, .inl (G.2.2.2, 5, .inr (.inl (fun _ => 0))))]) rfl rfl rfl ?_
  refine nV.putF (C := RX0) (T := TX0) (N := 13) (ci := 0) (k := 5) (q0 := 0) (ty := tyX0 5) (ws' := [(h0, .inr (0, [.ref q6, .ref q14, .ref q23, .ref q31, .ref q38, .ref q45, .int 0, .int 0, .int 0, .int 0, .int 0, .int 0, .int 0])), (q6, .inl (G.2.2.1, 4, .inl (fun _ => 0))), (q14, .inl (G.2.2.1, 16, .inl (fun _ => 0))), (q23, .inl (G.2.2.1, 3857, .inl (fun _ => 0))), (q31, .inl (G.2.2.1, 6, .inl (fun _ => 0))), (q38, .inl (G.2.2.2, 5, .inr (.inl (fun _ => 0)))), (q45, .inl (G.2.2.2, 5, .inr (.inl (fun _ => 0))))]) dX0_init_47 inT0 tyX0 tyX0_ok nmX0 rfl rfl (by decide) wF0_28 rfl (fun _ _ h => h) rfl (tyX0_ok 5 (by decide)) rfl rfl (Nat.le_of_ble_eq_true rfl) rfl ?_
  refine nV.aload dX0_init_50 (List.mem_of_getElem? (i := 0) rfl) ?_
  refine nV.iconst (x := 0) dX0_init_51 rfl ?_
  refine nV.put (C := RX0) (T := TX0) (N := 13) (ci := 0) (k := 6) (q0 := 0) (ty := tyX0 6) (ws' := [(h0, .inr (0, [.ref q6, .ref q14, .ref q23, .ref q31, .ref q38, .ref q45, .int 0, .int 0, .int 0, .int 0, .int 0, .int 0, .int 0])), (q6, .inl (G.2.2.1, 4, .inl (fun _ => 0))), (q14, .inl (G.2.2.1, 16, .inl (fun _ => 0))), (q23, .inl (G.2.2.1, 3857, .inl (fun _ => 0))), (q31, .inl (G.2.2.1, 6, .inl (fun _ => 0))), (q38, .inl (G.2.2.2, 5, .inr (.inl (fun _ => 0)))), (q45, .inl (G.2.2.2, 5, .inr (.inl (fun _ => 0))))]) dX0_init_52 inT0 tyX0 tyX0_ok nmX0 rfl rfl (by decide) wF0_31 rfl (tyX0_ok 6 (by decide)) rfl rfl (Nat.le_of_ble_eq_true rfl) rfl ?_
  refine nV.aload dX0_init_55 (List.mem_of_getElem? (i := 0) rfl) ?_
  refine nV.iconst (x := 0) dX0_init_56 rfl ?_
  refine nV.put (C := RX0) (T := TX0) (N := 13) (ci := 0) (k := 7) (q0 := 0) (ty := tyX0 7) (ws' := [(h0, .inr (0, [.ref q6, .ref q14, .ref q23, .ref q31, .ref q38, .ref q45, .int 0, .int 0, .int 0, .int 0, .int 0, .int 0, .int 0])), (q6, .inl (G.2.2.1, 4, .inl (fun _ => 0))), (q14, .inl (G.2.2.1, 16, .inl (fun _ => 0))), (q23, .inl (G.2.2.1, 3857, .inl (fun _ => 0))), (q31, .inl (G.2.2.1, 6, .inl (fun _ => 0))), (q38, .inl (G.2.2.2, 5, .inr (.inl (fun _ => 0)))), (q45, .inl (G.2.2.2, 5, .inr (.inl (fun _ => 0))))]) dX0_init_57 inT0 tyX0 tyX0_ok nmX0 rfl rfl (by decide) wF0_35 rfl (tyX0_ok 7 (by decide)) rfl rfl (Nat.le_of_ble_eq_true rfl) rfl ?_
  refine nV.aload dX0_init_60 (List.mem_of_getElem? (i := 0) rfl) ?_
  refine nV.iconst (x := 0) dX0_init_61 rfl ?_
  refine nV.put (C := RX0) (T := TX0) (N := 13) (ci := 0) (k := 8) (q0 := 0) (ty := tyX0 8) (ws' := [(h0, .inr (0, [.ref q6, .ref q14, .ref q23, .ref q31, .ref q38, .ref q45, .int 0, .int 0, .int 0, .int 0, .int 0, .int 0, .int 0])), (q6, .inl (G.2.2.1, 4, .inl (fun _ => 0))), (q14, .inl (G.2.2.1, 16, .inl (fun _ => 0))), (q23, .inl (G.2.2.1, 3857, .inl (fun _ => 0))), (q31, .inl (G.2.2.1, 6, .inl (fun _ => 0))), (q38, .inl (G.2.2.2, 5, .inr (.inl (fun _ => 0)))), (q45, .inl (G.2.2.2, 5, .inr (.inl (fun _ => 0))))]) dX0_init_62 inT0 tyX0 tyX0_ok nmX0 rfl rfl (by decide) wF0_38 rfl (tyX0_ok 8 (by decide)) rfl rfl (Nat.le_of_ble_eq_true rfl) rfl ?_
  refine nV.aload dX0_init_65 (List.mem_of_getElem? (i := 0) rfl) ?_
  refine nV.iconst (x := 0) dX0_init_66 rfl ?_
  refine nV.put (C := RX0) (T := TX0) (N := 13) (ci := 0) (k := 9) (q0 := 0) (ty := tyX0 9) (ws' := [(h0, .inr (0, [.ref q6, .ref q14, .ref q23, .ref q31, .ref q38, .ref q45, .int 0, .int 0, .int 0, .int 0, .int 0, .int 0, .int 0])), (q6, .inl (G.2.2.1, 4, .inl (fun _ => 0))), (q14, .inl (G.2.2.1, 16, .inl (fun _ => 0))), (q23, .inl (G.2.2.1, 3857, .inl (fun _ => 0))), (q31, .inl (G.2.2.1, 6, .inl (fun _ => 0))), (q38, .inl (G.2.2.2, 5, .inr (.inl (fun _ => 0)))), (q45, .inl (G.2.2.2, 5, .inr (.inl (fun _ => 0))))]) dX0_init_67 inT0 tyX0 tyX0_ok nmX0 rfl rfl (by decide) wF0_41 rfl (tyX0_ok 9 (by decide)) rfl rfl (Nat.le_of_ble_eq_true rfl) rfl ?_
  refine nV.aload dX0_init_70 (List.mem_of_getElem? (i := 0) rfl) ?_
  refine nV.iconst (x := (-1)) dX0_init_71 rfl ?_
  refine nV.put (C := RX0) (T := TX0) (N := 13) (ci := 0) (k := 10) (q0 := 0) (ty := tyX0 10) (ws' := [(h0, .inr (0, [.ref q6, .ref q14, .ref q23, .ref q31, .ref q38, .ref q45, .int 0, .int 0, .int 0, .int 0, .int (-1), .int 0, .int 0])), (q6, .inl (G.2.2.1, 4, .inl (fun _ => 0))), (q14, .inl (G.2.2.1, 16, .inl (fun _ => 0))), (q23, .inl (G.2.2.1, 3857, .inl (fun _ => 0))), (q31, .inl (G.2.2.1, 6, .inl (fun _ => 0))), (q38, .inl (G.2.2.2, 5, .inr (.inl (fun _ => 0)))), (q45, .inl (G.2.2.2, 5, .inr (.inl (fun _ => 0))))]) dX0_init_72 inT0 tyX0 tyX0_ok nmX0 rfl rfl (by decide) wF0_45 rfl (tyX0_ok 10 (by decide)) rfl rfl (Nat.le_of_ble_eq_true rfl) rfl ?_
  refine nV.aload dX0_init_75 (List.mem_of_getElem? (i := 0) rfl) ?_
  refine nV.iconst (x := 0) dX0_init_76 rfl ?_
  refine nV.put (C := RX0) (T := TX0) (N := 13) (ci := 0) (k := 11) (q0 := 0) (ty := tyX0 11) (ws' := [(h0, .inr (0, [.ref q6, .ref q14, .ref q23, .ref q31, .ref q38, .ref q45, .int 0, .int 0, .int 0, .int 0, .int (-1), .int 0, .int 0])), (q6, .inl (G.2.2.1, 4, .inl (fun _ => 0))), (q14, .inl (G.2.2.1, 16, .inl (fun _ => 0))), (q23, .inl (G.2.2.1, 3857, .inl (fun _ => 0))), (q31, .inl (G.2.2.1, 6, .inl (fun _ => 0))), (q38, .inl (G.2.2.2, 5, .inr (.inl (fun _ => 0)))), (q45, .inl (G.2.2.2, 5, .inr (.inl (fun _ => 0))))]) dX0_init_77 inT0 tyX0 tyX0_ok nmX0 rfl rfl (by decide) wF0_48 rfl (tyX0_ok 11 (by decide)) rfl rfl (Nat.le_of_ble_eq_true rfl) rfl ?_
  refine nV.aload dX0_init_80 (List.mem_of_getElem? (i := 0) rfl) ?_
  refine nV.iconst (x := 0) dX0_init_81 rfl ?_
  refine nV.put (C := RX0) (T := TX0) (N := 13) (ci := 0) (k := 12) (q0 := 0) (ty := tyX0 12) (ws' := [(h0, .inr (0, [.ref q6, .ref q14, .ref q23, .ref q31, .ref q38, .ref q45, .int 0, .int 0, .int 0, .int 0, .int (-1), .int 0, .int 0])), (q6, .inl (G.2.2.1, 4, .inl (fun _ => 0))), (q14, .inl (G.2.2.1, 16, .inl (fun _ => 0))), (q23, .inl (G.2.2.1, 3857, .inl (fun _ => 0))), (q31, .inl (G.2.2.1, 6, .inl (fun _ => 0))), (q38, .inl (G.2.2.2, 5, .inr (.inl (fun _ => 0)))), (q45, .inl (G.2.2.2, 5, .inr (.inl (fun _ => 0))))]) dX0_init_82 inT0 tyX0 tyX0_ok nmX0 rfl rfl (by decide) wF0_51 rfl (tyX0_ok 12 (by decide)) rfl rfl (Nat.le_of_ble_eq_true rfl) rfl ?_
  exact nV.ret rfl dX0_init_85 rfl rfl (fun i => [q6, q14, q23, q31, q38, q45].getD i 0) rfl
def mX8_init : fM := (yX8_init, cX8_init, 1, none, (fun _ => none), fun _ => none)
set_option maxRecDepth 100000 in
theorem kX8_init : fMok mX8_init 0 := ⟨fTB_at 614 rfl rfl, fTB_at 59 rfl rfl, by decide +kernel, by decide +kernel, by decide +kernel⟩
set_option maxRecDepth 100000 in
theorem jX8_init : Cond.instanceMethod yX8_init ∈ fTB := fTB_at 613 rfl rfl
theorem dX8_init_0 : decode cX8_init 0 = .ok (.aload_n 0, 1) := by decide +kernel
set_option maxRecDepth 100000 in
theorem wO8 : Cond.methodLink RX8 1 objectInit ∈ fTB := fTB_at 615 rfl rfl
theorem dX8_init_1 : decode cX8_init 1 = .ok (.invokespecial 1, 3) := by decide +kernel
theorem dX8_init_4 : decode cX8_init 4 = .ok (.aload_n 0, 1) := by decide +kernel
theorem dX8_init_5 : decode cX8_init 5 = .ok (.bipush 8, 2) := by decide +kernel
theorem dX8_init_7 : decode cX8_init 7 = .ok (.newarray .int, 2) := by decide +kernel
set_option maxRecDepth 100000 in
theorem wF8_7 : Cond.fieldLink RX8 7 (TX8 1).1 (TX8 1).2.1 (TX8 1).2.2.1 ∈ fTB := fTB_at 617 rfl rfl
theorem dX8_init_9 : decode cX8_init 9 = .ok (.putfield 7, 3) := by decide +kernel
theorem dX8_init_12 : decode cX8_init 12 = .ok (.aload_n 0, 1) := by decide +kernel
theorem dX8_init_13 : decode cX8_init 13 = .ok (.bipush 8, 2) := by decide +kernel
theorem dX8_init_15 : decode cX8_init 15 = .ok (.newarray .int, 2) := by decide +kernel
set_option maxRecDepth 100000 in
theorem wF8_13 : Cond.fieldLink RX8 13 (TX8 2).1 (TX8 2).2.1 (TX8 2).2.2.1 ∈ fTB := fTB_at 618 rfl rfl
theorem dX8_init_17 : decode cX8_init 17 = .ok (.putfield 13, 3) := by decide +kernel
theorem dX8_init_20 : decode cX8_init 20 = .ok (.aload_n 0, 1) := by decide +kernel
theorem dX8_init_21 : decode cX8_init 21 = .ok (.bipush 64, 2) := by decide +kernel
theorem dX8_init_23 : decode cX8_init 23 = .ok (.newarray .int, 2) := by decide +kernel
set_option maxRecDepth 100000 in
theorem wF8_16 : Cond.fieldLink RX8 16 (TX8 4).1 (TX8 4).2.1 (TX8 4).2.2.1 ∈ fTB := fTB_at 620 rfl rfl
theorem dX8_init_25 : decode cX8_init 25 = .ok (.putfield 16, 3) := by decide +kernel
theorem dX8_init_28 : decode cX8_init 28 = .ok (.aload_n 0, 1) := by decide +kernel
theorem dX8_init_29 : decode cX8_init 29 = .ok (.bipush 16, 2) := by decide +kernel
theorem dX8_init_31 : decode cX8_init 31 = .ok (.newarray .int, 2) := by decide +kernel
set_option maxRecDepth 100000 in
theorem wF8_19 : Cond.fieldLink RX8 19 (TX8 5).1 (TX8 5).2.1 (TX8 5).2.2.1 ∈ fTB := fTB_at 621 rfl rfl
theorem dX8_init_33 : decode cX8_init 33 = .ok (.putfield 19, 3) := by decide +kernel
theorem dX8_init_36 : decode cX8_init 36 = .ok (.aload_n 0, 1) := by decide +kernel
theorem dX8_init_37 : decode cX8_init 37 = .ok (.iconst 4, 1) := by decide +kernel
theorem dX8_init_38 : decode cX8_init 38 = .ok (.newarray .int, 2) := by decide +kernel
set_option maxRecDepth 100000 in
theorem wF8_22 : Cond.fieldLink RX8 22 (TX8 7).1 (TX8 7).2.1 (TX8 7).2.2.1 ∈ fTB := fTB_at 623 rfl rfl
theorem dX8_init_40 : decode cX8_init 40 = .ok (.putfield 22, 3) := by decide +kernel
theorem dX8_init_43 : decode cX8_init 43 = .ok (.aload_n 0, 1) := by decide +kernel
theorem dX8_init_44 : decode cX8_init 44 = .ok (.iconst 4, 1) := by decide +kernel
theorem dX8_init_45 : decode cX8_init 45 = .ok (.newarray .int, 2) := by decide +kernel
set_option maxRecDepth 100000 in
theorem wF8_25 : Cond.fieldLink RX8 25 (TX8 8).1 (TX8 8).2.1 (TX8 8).2.2.1 ∈ fTB := fTB_at 624 rfl rfl
theorem dX8_init_47 : decode cX8_init 47 = .ok (.putfield 25, 3) := by decide +kernel
theorem dX8_init_50 : decode cX8_init 50 = .ok (.aload_n 0, 1) := by decide +kernel
theorem dX8_init_51 : decode cX8_init 51 = .ok (.iconst 4, 1) := by decide +kernel
theorem dX8_init_52 : decode cX8_init 52 = .ok (.newarray .int, 2) := by decide +kernel
set_option maxRecDepth 100000 in
theorem wF8_28 : Cond.fieldLink RX8 28 (TX8 9).1 (TX8 9).2.1 (TX8 9).2.2.1 ∈ fTB := fTB_at 625 rfl rfl
theorem dX8_init_54 : decode cX8_init 54 = .ok (.putfield 28, 3) := by decide +kernel
theorem dX8_init_57 : decode cX8_init 57 = .ok (.aload_n 0, 1) := by decide +kernel
theorem dX8_init_58 : decode cX8_init 58 = .ok (.bipush 8, 2) := by decide +kernel
theorem dX8_init_60 : decode cX8_init 60 = .ok (.newarray .int, 2) := by decide +kernel
set_option maxRecDepth 100000 in
theorem wF8_31 : Cond.fieldLink RX8 31 (TX8 11).1 (TX8 11).2.1 (TX8 11).2.2.1 ∈ fTB := fTB_at 627 rfl rfl
theorem dX8_init_62 : decode cX8_init 62 = .ok (.putfield 31, 3) := by decide +kernel
theorem dX8_init_65 : decode cX8_init 65 = .ok (.aload_n 0, 1) := by decide +kernel
theorem dX8_init_66 : decode cX8_init 66 = .ok (.bipush 8, 2) := by decide +kernel
theorem dX8_init_68 : decode cX8_init 68 = .ok (.newarray .int, 2) := by decide +kernel
set_option maxRecDepth 100000 in
theorem wF8_34 : Cond.fieldLink RX8 34 (TX8 12).1 (TX8 12).2.1 (TX8 12).2.2.1 ∈ fTB := fTB_at 628 rfl rfl
theorem dX8_init_70 : decode cX8_init 70 = .ok (.putfield 34, 3) := by decide +kernel
theorem dX8_init_73 : decode cX8_init 73 = .ok (.aload_n 0, 1) := by decide +kernel
theorem dX8_init_74 : decode cX8_init 74 = .ok (.iconst 2, 1) := by decide +kernel
set_option maxRecDepth 100000 in
theorem wF8_37 : Cond.fieldLink RX8 37 (TX8 13).1 (TX8 13).2.1 (TX8 13).2.2.1 ∈ fTB := fTB_at 629 rfl rfl
theorem dX8_init_75 : decode cX8_init 75 = .ok (.putfield 37, 3) := by decide +kernel
theorem dX8_init_78 : decode cX8_init 78 = .ok (.aload_n 0, 1) := by decide +kernel
theorem dX8_init_79 : decode cX8_init 79 = .ok (.iconst 4, 1) := by decide +kernel
set_option maxRecDepth 100000 in
theorem wF8_41 : Cond.fieldLink RX8 41 (TX8 14).1 (TX8 14).2.1 (TX8 14).2.2.1 ∈ fTB := fTB_at 630 rfl rfl
theorem dX8_init_80 : decode cX8_init 80 = .ok (.putfield 41, 3) := by decide +kernel
theorem dX8_init_83 : decode cX8_init 83 = .ok (.aload_n 0, 1) := by decide +kernel
theorem dX8_init_84 : decode cX8_init 84 = .ok (.iconst 2, 1) := by decide +kernel
theorem dX8_init_85 : decode cX8_init 85 = .ok (.newarray .long, 2) := by decide +kernel
set_option maxRecDepth 100000 in
theorem wF8_44 : Cond.fieldLink RX8 44 (TX8 15).1 (TX8 15).2.1 (TX8 15).2.2.1 ∈ fTB := fTB_at 631 rfl rfl
theorem dX8_init_87 : decode cX8_init 87 = .ok (.putfield 44, 3) := by decide +kernel
theorem dX8_init_90 : decode cX8_init 90 = .ok (.aload_n 0, 1) := by decide +kernel
theorem dX8_init_91 : decode cX8_init 91 = .ok (.iconst 2, 1) := by decide +kernel
theorem dX8_init_92 : decode cX8_init 92 = .ok (.newarray .long, 2) := by decide +kernel
set_option maxRecDepth 100000 in
theorem wF8_48 : Cond.fieldLink RX8 48 (TX8 16).1 (TX8 16).2.1 (TX8 16).2.2.1 ∈ fTB := fTB_at 632 rfl rfl
theorem dX8_init_94 : decode cX8_init 94 = .ok (.putfield 48, 3) := by decide +kernel
theorem dX8_init_97 : decode cX8_init 97 = .ok (.aload_n 0, 1) := by decide +kernel
theorem dX8_init_98 : decode cX8_init 98 = .ok (.bipush 8, 2) := by decide +kernel
theorem dX8_init_100 : decode cX8_init 100 = .ok (.newarray .long, 2) := by decide +kernel
set_option maxRecDepth 100000 in
theorem wF8_51 : Cond.fieldLink RX8 51 (TX8 17).1 (TX8 17).2.1 (TX8 17).2.2.1 ∈ fTB := fTB_at 633 rfl rfl
theorem dX8_init_102 : decode cX8_init 102 = .ok (.putfield 51, 3) := by decide +kernel
theorem dX8_init_105 : decode cX8_init 105 = .ok (.aload_n 0, 1) := by decide +kernel
theorem dX8_init_106 : decode cX8_init 106 = .ok (.bipush 8, 2) := by decide +kernel
theorem dX8_init_108 : decode cX8_init 108 = .ok (.newarray .long, 2) := by decide +kernel
set_option maxRecDepth 100000 in
theorem wF8_54 : Cond.fieldLink RX8 54 (TX8 18).1 (TX8 18).2.1 (TX8 18).2.2.1 ∈ fTB := fTB_at 634 rfl rfl
theorem dX8_init_110 : decode cX8_init 110 = .ok (.putfield 54, 3) := by decide +kernel
theorem dX8_init_113 : decode cX8_init 113 = .ok (.aload_n 0, 1) := by decide +kernel
theorem dX8_init_114 : decode cX8_init 114 = .ok (.iconst 5, 1) := by decide +kernel
theorem dX8_init_115 : decode cX8_init 115 = .ok (.newarray .long, 2) := by decide +kernel
set_option maxRecDepth 100000 in
theorem wF8_57 : Cond.fieldLink RX8 57 (TX8 19).1 (TX8 19).2.1 (TX8 19).2.2.1 ∈ fTB := fTB_at 635 rfl rfl
theorem dX8_init_117 : decode cX8_init 117 = .ok (.putfield 57, 3) := by decide +kernel
theorem dX8_init_120 : decode cX8_init 120 = .ok (.aload_n 0, 1) := by decide +kernel
theorem dX8_init_121 : decode cX8_init 121 = .ok (.iconst 5, 1) := by decide +kernel
theorem dX8_init_122 : decode cX8_init 122 = .ok (.newarray .long, 2) := by decide +kernel
set_option maxRecDepth 100000 in
theorem wF8_60 : Cond.fieldLink RX8 60 (TX8 20).1 (TX8 20).2.1 (TX8 20).2.2.1 ∈ fTB := fTB_at 636 rfl rfl
theorem dX8_init_124 : decode cX8_init 124 = .ok (.putfield 60, 3) := by decide +kernel
theorem dX8_init_127 : decode cX8_init 127 = .ok (.aload_n 0, 1) := by decide +kernel
theorem dX8_init_128 : decode cX8_init 128 = .ok (.iconst 3, 1) := by decide +kernel
theorem dX8_init_129 : decode cX8_init 129 = .ok (.newarray .int, 2) := by decide +kernel
set_option maxRecDepth 100000 in
theorem wF8_63 : Cond.fieldLink RX8 63 (TX8 21).1 (TX8 21).2.1 (TX8 21).2.2.1 ∈ fTB := fTB_at 637 rfl rfl
theorem dX8_init_131 : decode cX8_init 131 = .ok (.putfield 63, 3) := by decide +kernel
theorem dX8_init_134 : decode cX8_init 134 = .ok (.aload_n 0, 1) := by decide +kernel
theorem dX8_init_135 : decode cX8_init 135 = .ok (.sipush 4000, 3) := by decide +kernel
theorem dX8_init_138 : decode cX8_init 138 = .ok (.newarray .int, 2) := by decide +kernel
set_option maxRecDepth 100000 in
theorem wF8_66 : Cond.fieldLink RX8 66 (TX8 26).1 (TX8 26).2.1 (TX8 26).2.2.1 ∈ fTB := fTB_at 642 rfl rfl
theorem dX8_init_140 : decode cX8_init 140 = .ok (.putfield 66, 3) := by decide +kernel
theorem dX8_init_143 : decode cX8_init 143 = .ok (.aload_n 0, 1) := by decide +kernel
theorem dX8_init_144 : decode cX8_init 144 = .ok (.sipush 4000, 3) := by decide +kernel
theorem dX8_init_147 : decode cX8_init 147 = .ok (.newarray .int, 2) := by decide +kernel
set_option maxRecDepth 100000 in
theorem wF8_69 : Cond.fieldLink RX8 69 (TX8 27).1 (TX8 27).2.1 (TX8 27).2.2.1 ∈ fTB := fTB_at 643 rfl rfl
theorem dX8_init_149 : decode cX8_init 149 = .ok (.putfield 69, 3) := by decide +kernel
theorem dX8_init_152 : decode cX8_init 152 = .ok (.aload_n 0, 1) := by decide +kernel
theorem dX8_init_153 : decode cX8_init 153 = .ok (.sipush 4000, 3) := by decide +kernel
theorem dX8_init_156 : decode cX8_init 156 = .ok (.newarray .long, 2) := by decide +kernel
set_option maxRecDepth 100000 in
theorem wF8_72 : Cond.fieldLink RX8 72 (TX8 28).1 (TX8 28).2.1 (TX8 28).2.2.1 ∈ fTB := fTB_at 644 rfl rfl
theorem dX8_init_158 : decode cX8_init 158 = .ok (.putfield 72, 3) := by decide +kernel
theorem dX8_init_161 : decode cX8_init 161 = .ok (.aload_n 0, 1) := by decide +kernel
theorem dX8_init_162 : decode cX8_init 162 = .ok (.bipush 16, 2) := by decide +kernel
theorem dX8_init_164 : decode cX8_init 164 = .ok (.newarray .int, 2) := by decide +kernel
set_option maxRecDepth 100000 in
theorem wF8_75 : Cond.fieldLink RX8 75 (TX8 29).1 (TX8 29).2.1 (TX8 29).2.2.1 ∈ fTB := fTB_at 645 rfl rfl
theorem dX8_init_166 : decode cX8_init 166 = .ok (.putfield 75, 3) := by decide +kernel
theorem dX8_init_169 : decode cX8_init 169 = .ok (.aload_n 0, 1) := by decide +kernel
theorem dX8_init_170 : decode cX8_init 170 = .ok (.iconst 1, 1) := by decide +kernel
set_option maxRecDepth 100000 in
theorem wF8_78 : Cond.fieldLink RX8 78 (TX8 0).1 (TX8 0).2.1 (TX8 0).2.2.1 ∈ fTB := fTB_at 616 rfl rfl
theorem dX8_init_171 : decode cX8_init 171 = .ok (.putfield 78, 3) := by decide +kernel
theorem dX8_init_174 : decode cX8_init 174 = .ok (.aload_n 0, 1) := by decide +kernel
theorem dX8_init_175 : decode cX8_init 175 = .ok (.getfield 7, 3) := by decide +kernel
theorem dX8_init_178 : decode cX8_init 178 = .ok (.iconst 0, 1) := by decide +kernel
theorem dX8_init_179 : decode cX8_init 179 = .ok (.bipush 80, 2) := by decide +kernel
theorem dX8_init_181 : decode cX8_init 181 = .ok (.iastore, 1) := by decide +kernel
theorem dX8_init_182 : decode cX8_init 182 = .ok (.aload_n 0, 1) := by decide +kernel
theorem dX8_init_183 : decode cX8_init 183 = .ok (.getfield 13, 3) := by decide +kernel
theorem dX8_init_186 : decode cX8_init 186 = .ok (.iconst 0, 1) := by decide +kernel
theorem dX8_init_187 : decode cX8_init 187 = .ok (.iconst 0, 1) := by decide +kernel
theorem dX8_init_188 : decode cX8_init 188 = .ok (.iastore, 1) := by decide +kernel
theorem dX8_init_189 : decode cX8_init 189 = .ok (.return_, 1) := by decide +kernel
def cfX8_init (G : nG) (h0 : Nat) (u : Nat → Nat) : va_W := [(h0, .inr (8, [.int 1, .ref (u 0), .ref (u 1), .int 0, .ref (u 2), .ref (u 3), .int 0, .ref (u 4), .ref (u 5), .ref (u 6), .int 0, .ref (u 7), .ref (u 8), .int 2, .int 4, .ref (u 9), .ref (u 10), .ref (u 11), .ref (u 12), .ref (u 13), .ref (u 14), .ref (u 15), .int 0, .long 0, .long 0, .int 0, .ref (u 16), .ref (u 17), .ref (u 18), .ref (u 19)])), ((u 0), .inl (G.2.2.1, 8, .inl (upd (fun _ => 0) (0 : Int32).toNatClampNeg 80))), ((u 1), .inl (G.2.2.1, 8, .inl (upd (fun _ => 0) (0 : Int32).toNatClampNeg 0))), ((u 2), .inl (G.2.2.1, 64, .inl (fun _ => 0))), ((u 3), .inl (G.2.2.1, 16, .inl (fun _ => 0))), ((u 4), .inl (G.2.2.1, 4, .inl (fun _ => 0))), ((u 5), .inl (G.2.2.1, 4, .inl (fun _ => 0))), ((u 6), .inl (G.2.2.1, 4, .inl (fun _ => 0))), ((u 7), .inl (G.2.2.1, 8, .inl (fun _ => 0))), ((u 8), .inl (G.2.2.1, 8, .inl (fun _ => 0))), ((u 9), .inl (G.2.2.2, 2, .inr (.inl (fun _ => 0)))), ((u 10), .inl (G.2.2.2, 2, .inr (.inl (fun _ => 0)))), ((u 11), .inl (G.2.2.2, 8, .inr (.inl (fun _ => 0)))), ((u 12), .inl (G.2.2.2, 8, .inr (.inl (fun _ => 0)))), ((u 13), .inl (G.2.2.2, 5, .inr (.inl (fun _ => 0)))), ((u 14), .inl (G.2.2.2, 5, .inr (.inl (fun _ => 0)))), ((u 15), .inl (G.2.2.1, 3, .inl (fun _ => 0))), ((u 16), .inl (G.2.2.1, 4000, .inl (fun _ => 0))), ((u 17), .inl (G.2.2.1, 4000, .inl (fun _ => 0))), ((u 18), .inl (G.2.2.2, 4000, .inr (.inl (fun _ => 0)))), ((u 19), .inl (G.2.2.1, 16, .inl (fun _ => 0)))]
set_option maxRecDepth 100000 in
theorem crX8_init {G : nG} : nCtr G mX8_init { frames := 4, cells := 20, slots := 12173, locals := 200 } (fun _ => True) 8 [.int 0, .null, .null, .int 0, .null, .null, .int 0, .null, .null, .null, .int 0, .null, .null, .int 0, .int 0, .null, .null, .null, .null, .null, .null, .null, .int 0, .long 0, .long 0, .int 0, .null, .null, .null, .null] [] (cfX8_init G) := by
  refine nCtr.of (by decide +kernel) rfl (fun _ => Nat.le_of_ble_eq_true rfl) (fun h0 => ?_)
  show nV G mX8_init _ 0 0 0 [(0, .ref h0)] [] [(h0, .inr (8, [.int 0, .null, .null, .int 0, .null, .null, .int 0, .null, .null, .null, .int 0, .null, .null, .int 0, .int 0, .null, .null, .null, .null, .null, .null, .null, .int 0, .long 0, .long 0, .int 0, .null, .null, .null, .null]))]
  refine nV.aload dX8_init_0 (List.mem_of_getElem? (i := 0) rfl) ?_
  refine nV.objInit dX8_init_1 wO8 wOi wOc (Nat.le_of_ble_eq_true rfl) (Nat.le_of_ble_eq_true rfl) ?_
  refine nV.aload dX8_init_4 (List.mem_of_getElem? (i := 0) rfl) ?_
  refine nV.bipush (x := 8) dX8_init_5 (by decide) (by decide) rfl ?_
  refine nV.newI (N := 8) dX8_init_7 wAI (by decide) rfl (by decide) (Nat.le_of_ble_eq_true rfl) (Nat.le_of_ble_eq_true rfl) (fun q7 => ?_)
  refine nV.to (cells' := 1) (slots' := 8) (ws' := [(h0, .inr (8, [.int 0, .null, .null, .int 0, .null, .null, .int 0, .null, .null, .null, .int 0, .null, .null, .int 0, .int 0, .null, .null, .null, .null, .null, .null, .null, .int 0, .long 0, .long 0, .int 0, .null, .null, .null, .null])), (q7, .inl (G.2.2.1, 8, .inl (fun _ => 0)))]) rfl rfl rfl ?_
  refine nV.putF (C := RX8) (T := TX8) (N := 30) (ci := 8) (k := 1) (q0 := 0) (ty := tyX8 1) (ws' := [(h0, .inr (8, [.int 0, .ref q7, .null, .int 0, .null, .null, .int 0, .null, .null, .null, .int 0, .null, .null, .int 0, .int 0, .null, .null, .null, .null, .null, .null, .null, .int 0, .long 0, .long 0, .int 0, .null, .null, .null, .null])), (q7, .inl (G.2.2.1, 8, .inl (fun _ => 0)))]) dX8_init_9 inT8 tyX8 tyX8_ok nmX8 rfl rfl (by decide) wF8_7 rfl (fun _ _ h => h) rfl (tyX8_ok 1 (by decide)) rfl rfl (Nat.le_of_ble_eq_true rfl) rfl ?_
  refine nV.aload dX8_init_12 (List.mem_of_getElem? (i := 0) rfl) ?_
  refine nV.bipush (x := 8) dX8_init_13 (by decide) (by decide) rfl ?_
  refine nV.newI (N := 8) dX8_init_15 wAI (by decide) rfl (by decide) (Nat.le_of_ble_eq_true rfl) (Nat.le_of_ble_eq_true rfl) (fun q15 => ?_)
  refine nV.to (cells' := 2) (slots' := 16) (ws' := [(h0, .inr (8, [.int 0, .ref q7, .null, .int 0, .null, .null, .int 0, .null, .null, .null, .int 0, .null, .null, .int 0, .int 0, .null, .null, .null, .null, .null, .null, .null, .int 0, .long 0, .long 0, .int 0, .null, .null, .null, .null])), (q7, .inl (G.2.2.1, 8, .inl (fun _ => 0))), (q15, .inl (G.2.2.1, 8, .inl (fun _ => 0)))]) rfl rfl rfl ?_
  refine nV.putF (C := RX8) (T := TX8) (N := 30) (ci := 8) (k := 2) (q0 := 0) (ty := tyX8 2) (ws' := [(h0, .inr (8, [.int 0, .ref q7, .ref q15, .int 0, .null, .null, .int 0, .null, .null, .null, .int 0, .null, .null, .int 0, .int 0, .null, .null, .null, .null, .null, .null, .null, .int 0, .long 0, .long 0, .int 0, .null, .null, .null, .null])), (q7, .inl (G.2.2.1, 8, .inl (fun _ => 0))), (q15, .inl (G.2.2.1, 8, .inl (fun _ => 0)))]) dX8_init_17 inT8 tyX8 tyX8_ok nmX8 rfl rfl (by decide) wF8_13 rfl (fun _ _ h => h) rfl (tyX8_ok 2 (by decide)) rfl rfl (Nat.le_of_ble_eq_true rfl) rfl ?_
  refine nV.aload dX8_init_20 (List.mem_of_getElem? (i := 0) rfl) ?_
  refine nV.bipush (x := 64) dX8_init_21 (by decide) (by decide) rfl ?_
  refine nV.newI (N := 64) dX8_init_23 wAI (by decide) rfl (by decide) (Nat.le_of_ble_eq_true rfl) (Nat.le_of_ble_eq_true rfl) (fun q23 => ?_)
  refine nV.to (cells' := 3) (slots' := 80) (ws' := [(h0, .inr (8, [.int 0, .ref q7, .ref q15, .int 0, .null, .null, .int 0, .null, .null, .null, .int 0, .null, .null, .int 0, .int 0, .null, .null, .null, .null, .null, .null, .null, .int 0, .long 0, .long 0, .int 0, .null, .null, .null, .null])), (q7, .inl (G.2.2.1, 8, .inl (fun _ => 0))), (q15, .inl (G.2.2.1, 8, .inl (fun _ => 0))), (q23, .inl (G.2.2.1, 64, .inl (fun _ => 0)))]) rfl rfl rfl ?_
  refine nV.putF (C := RX8) (T := TX8) (N := 30) (ci := 8) (k := 4) (q0 := 0) (ty := tyX8 4) (ws' := [(h0, .inr (8, [.int 0, .ref q7, .ref q15, .int 0, .ref q23, .null, .int 0, .null, .null, .null, .int 0, .null, .null, .int 0, .int 0, .null, .null, .null, .null, .null, .null, .null, .int 0, .long 0, .long 0, .int 0, .null, .null, .null, .null])), (q7, .inl (G.2.2.1, 8, .inl (fun _ => 0))), (q15, .inl (G.2.2.1, 8, .inl (fun _ => 0))), (q23, .inl (G.2.2.1, 64, .inl (fun _ => 0)))]) dX8_init_25 inT8 tyX8 tyX8_ok nmX8 rfl rfl (by decide) wF8_16 rfl (fun _ _ h => h) rfl (tyX8_ok 4 (by decide)) rfl rfl (Nat.le_of_ble_eq_true rfl) rfl ?_
  refine nV.aload dX8_init_28 (List.mem_of_getElem? (i := 0) rfl) ?_
  refine nV.bipush (x := 16) dX8_init_29 (by decide) (by decide) rfl ?_
  refine nV.newI (N := 16) dX8_init_31 wAI (by decide) rfl (by decide) (Nat.le_of_ble_eq_true rfl) (Nat.le_of_ble_eq_true rfl) (fun q31 => ?_)
  refine nV.to (cells' := 4) (slots' := 96) (ws' := [(h0, .inr (8, [.int 0, .ref q7, .ref q15, .int 0, .ref q23, .null, .int 0, .null, .null, .null, .int 0, .null, .null, .int 0, .int 0, .null, .null, .null, .null, .null, .null, .null, .int 0, .long 0, .long 0, .int 0, .null, .null, .null, .null])), (q7, .inl (G.2.2.1, 8, .inl (fun _ => 0))), (q15, .inl (G.2.2.1, 8, .inl (fun _ => 0))), (q23, .inl (G.2.2.1, 64, .inl (fun _ => 0))), (q31, .inl (G.2.2.1, 16, .inl (fun _ => 0)))]) rfl rfl rfl ?_
  refine nV.putF (C := RX8) (T := TX8) (N := 30) (ci := 8) (k := 5) (q0 := 0) (ty := tyX8 5) (ws' := [(h0, .inr (8, [.int 0, .ref q7, .ref q15, .int 0, .ref q23, .ref q31, .int 0, .null, .null, .null, .int 0, .null, .null, .int 0, .int 0, .null, .null, .null, .null, .null, .null, .null, .int 0, .long 0, .long 0, .int 0, .null, .null, .null, .null])), (q7, .inl (G.2.2.1, 8, .inl (fun _ => 0))), (q15, .inl (G.2.2.1, 8, .inl (fun _ => 0))), (q23, .inl (G.2.2.1, 64, .inl (fun _ => 0))), (q31, .inl (G.2.2.1, 16, .inl (fun _ => 0)))]) dX8_init_33 inT8 tyX8 tyX8_ok nmX8 rfl rfl (by decide) wF8_19 rfl (fun _ _ h => h) rfl (tyX8_ok 5 (by decide)) rfl rfl (Nat.le_of_ble_eq_true rfl) rfl ?_
  refine nV.aload dX8_init_36 (List.mem_of_getElem? (i := 0) rfl) ?_
  refine nV.iconst (x := 4) dX8_init_37 rfl ?_
  refine nV.newI (N := 4) dX8_init_38 wAI (by decide) rfl (by decide) (Nat.le_of_ble_eq_true rfl) (Nat.le_of_ble_eq_true rfl) (fun q38 => ?_)
  refine nV.to (cells' := 5) (slots' := 100) (ws' := [(h0, .inr (8, [.int 0, .ref q7, .ref q15, .int 0, .ref q23, .ref q31, .int 0, .null, .null, .null, .int 0, .null, .null, .int 0, .int 0, .null, .null, .null, .null, .null, .null, .null, .int 0, .long 0, .long 0, .int 0, .null, .null, .null, .null])), (q7, .inl (G.2.2.1, 8, .inl (fun _ => 0))), (q15, .inl (G.2.2.1, 8, .inl (fun _ => 0))), (q23, .inl (G.2.2.1, 64, .inl (fun _ => 0))), (q31, .inl (G.2.2.1, 16, .inl (fun _ => 0))), (q38, .inl (G.2.2.1, 4, .inl (fun _ => 0)))]) rfl rfl rfl ?_
  refine nV.putF (C := RX8) (T := TX8) (N := 30) (ci := 8) (k := 7) (q0 := 0) (ty := tyX8 7) (ws' := [(h0, .inr (8, [.int 0, .ref q7, .ref q15, .int 0, .ref q23, .ref q31, .int 0, .ref q38, .null, .null, .int 0, .null, .null, .int 0, .int 0, .null, .null, .null, .null, .null, .null, .null, .int 0, .long 0, .long 0, .int 0, .null, .null, .null, .null])), (q7, .inl (G.2.2.1, 8, .inl (fun _ => 0))), (q15, .inl (G.2.2.1, 8, .inl (fun _ => 0))), (q23, .inl (G.2.2.1, 64, .inl (fun _ => 0))), (q31, .inl (G.2.2.1, 16, .inl (fun _ => 0))), (q38, .inl (G.2.2.1, 4, .inl (fun _ => 0)))]) dX8_init_40 inT8 tyX8 tyX8_ok nmX8 rfl rfl (by decide) wF8_22 rfl (fun _ _ h => h) rfl (tyX8_ok 7 (by decide)) rfl rfl (Nat.le_of_ble_eq_true rfl) rfl ?_
  refine nV.aload dX8_init_43 (List.mem_of_getElem? (i := 0) rfl) ?_
  refine nV.iconst (x := 4) dX8_init_44 rfl ?_
  refine nV.newI (N := 4) dX8_init_45 wAI (by decide) rfl (by decide) (Nat.le_of_ble_eq_true rfl) (Nat.le_of_ble_eq_true rfl) (fun q45 => ?_)
  refine nV.to (cells' := 6) (slots' := 104) (ws' := [(h0, .inr (8, [.int 0, .ref q7, .ref q15, .int 0, .ref q23, .ref q31, .int 0, .ref q38, .null, .null, .int 0, .null, .null, .int 0, .int 0, .null, .null, .null, .null, .null, .null, .null, .int 0, .long 0, .long 0, .int 0, .null, .null, .null, .null])), (q7, .inl (G.2.2.1, 8, .inl (fun _ => 0))), (q15, .inl (G.2.2.1, 8, .inl (fun _ => 0))), (q23, .inl (G.2.2.1, 64, .inl (fun _ => 0))), (q31, .inl (G.2.2.1, 16, .inl (fun _ => 0))), (q38, .inl (G.2.2.1, 4, .inl (fun _ => 0))), (q45, .inl (G.2.2.1, 4, .inl (fun _ => 0)))]) rfl rfl rfl ?_
  refine nV.putF (C := RX8) (T := TX8) (N := 30) (ci := 8) (k := 8) (q0 := 0) (ty := tyX8 8) (ws' := [(h0, .inr (8, [.int 0, .ref q7, .ref q15, .int 0, .ref q23, .ref q31, .int 0, .ref q38, .ref q45, .null, .int 0, .null, .null, .int 0, .int 0, .null, .null, .null, .null, .null, .null, .null, .int 0, .long 0, .long 0, .int 0, .null, .null, .null, .null])), (q7, .inl (G.2.2.1, 8, .inl (fun _ => 0))), (q15, .inl (G.2.2.1, 8, .inl (fun _ => 0))), (q23, .inl (G.2.2.1, 64, .inl (fun _ => 0))), (q31, .inl (G.2.2.1, 16, .inl (fun _ => 0))), (q38, .inl (G.2.2.1, 4, .inl (fun _ => 0))), (q45, .inl (G.2.2.1, 4, .inl (fun _ => 0)))]) dX8_init_47 inT8 tyX8 tyX8_ok nmX8 rfl rfl (by decide) wF8_25 rfl (fun _ _ h => h) rfl (tyX8_ok 8 (by decide)) rfl rfl (Nat.le_of_ble_eq_true rfl) rfl ?_
  refine nV.aload dX8_init_50 (List.mem_of_getElem? (i := 0) rfl) ?_
  refine nV.iconst (x := 4) dX8_init_51 rfl ?_
  refine nV.newI (N := 4) dX8_init_52 wAI (by decide) rfl (by decide) (Nat.le_of_ble_eq_true rfl) (Nat.le_of_ble_eq_true rfl) (fun q52 => ?_)
  refine nV.to (cells' := 7) (slots' := 108) (ws' := [(h0, .inr (8, [.int 0, .ref q7, .ref q15, .int 0, .ref q23, .ref q31, .int 0, .ref q38, .ref q45, .null, .int 0, .null, .null, .int 0, .int 0, .null, .null, .null, .null, .null, .null, .null, .int 0, .long 0, .long 0, .int 0, .null, .null, .null, .null])), (q7, .inl (G.2.2.1, 8, .inl (fun _ => 0))), (q15, .inl (G.2.2.1, 8, .inl (fun _ => 0))), (q23, .inl (G.2.2.1, 64, .inl (fun _ => 0))), (q31, .inl (G.2.2.1, 16, .inl (fun _ => 0))), (q38, .inl (G.2.2.1, 4, .inl (fun _ => 0))), (q45, .inl (G.2.2.1, 4, .inl (fun _ => 0))), (q52, .inl (G.2.2.1, 4, .inl (fun _ => 0)))]) rfl rfl rfl ?_
  refine nV.putF (C := RX8) (T := TX8) (N := 30) (ci := 8) (k := 9) (q0 := 0) (ty := tyX8 9) (ws' := [(h0, .inr (8, [.int 0, .ref q7, .ref q15, .int 0, .ref q23, .ref q31, .int 0, .ref q38, .ref q45, .ref q52, .int 0, .null, .null, .int 0, .int 0, .null, .null, .null, .null, .null, .null, .null, .int 0, .long 0, .long 0, .int 0, .null, .null, .null, .null])), (q7, .inl (G.2.2.1, 8, .inl (fun _ => 0))), (q15, .inl (G.2.2.1, 8, .inl (fun _ => 0))), (q23, .inl (G.2.2.1, 64, .inl (fun _ => 0))), (q31, .inl (G.2.2.1, 16, .inl (fun _ => 0))), (q38, .inl (G.2.2.1, 4, .inl (fun _ => 0))), (q45, .inl (G.2.2.1, 4, .inl (fun _ => 0))), (q52, .inl (G.2.2.1, 4, .inl (fun _ => 0)))]) dX8_init_54 inT8 tyX8 tyX8_ok nmX8 rfl rfl (by decide) wF8_28 rfl (fun _ _ h => h) rfl (tyX8_ok 9 (by decide)) rfl rfl (Nat.le_of_ble_eq_true rfl) rfl ?_
  refine nV.aload dX8_init_57 (List.mem_of_getElem? (i := 0) rfl) ?_
  refine nV.bipush (x := 8) dX8_init_58 (by decide) (by decide) rfl ?_
  refine nV.newI (N := 8) dX8_init_60 wAI (by decide) rfl (by decide) (Nat.le_of_ble_eq_true rfl) (Nat.le_of_ble_eq_true rfl) (fun q60 => ?_)
  refine nV.to (cells' := 8) (slots' := 116) (ws' := [(h0, .inr (8, [.int 0, .ref q7, .ref q15, .int 0, .ref q23, .ref q31, .int 0, .ref q38, .ref q45, .ref q52, .int 0, .null, .null, .int 0, .int 0, .null, .null, .null, .null, .null, .null, .null, .int 0, .long 0, .long 0, .int 0, .null, .null, .null, .null])), (q7, .inl (G.2.2.1, 8, .inl (fun _ => 0))), (q15, .inl (G.2.2.1, 8, .inl (fun _ => 0))), (q23, .inl (G.2.2.1, 64, .inl (fun _ => 0))), (q31, .inl (G.2.2.1, 16, .inl (fun _ => 0))), (q38, .inl (G.2.2.1, 4, .inl (fun _ => 0))), (q45, .inl (G.2.2.1, 4, .inl (fun _ => 0))), (q52, .inl (G.2.2.1, 4, .inl (fun _ => 0))), (q60, .inl (G.2.2.1, 8, .inl (fun _ => 0)))]) rfl rfl rfl ?_
  refine nV.putF (C := RX8) (T := TX8) (N := 30) (ci := 8) (k := 11) (q0 := 0) (ty := tyX8 11) (ws' := [(h0, .inr (8, [.int 0, .ref q7, .ref q15, .int 0, .ref q23, .ref q31, .int 0, .ref q38, .ref q45, .ref q52, .int 0, .ref q60, .null, .int 0, .int 0, .null, .null, .null, .null, .null, .null, .null, .int 0, .long 0, .long 0, .int 0, .null, .null, .null, .null])), (q7, .inl (G.2.2.1, 8, .inl (fun _ => 0))), (q15, .inl (G.2.2.1, 8, .inl (fun _ => 0))), (q23, .inl (G.2.2.1, 64, .inl (fun _ => 0))), (q31, .inl (G.2.2.1, 16, .inl (fun _ => 0))), (q38, .inl (G.2.2.1, 4, .inl (fun _ => 0))), (q45, .inl (G.2.2.1, 4, .inl (fun _ => 0))), (q52, .inl (G.2.2.1, 4, .inl (fun _ => 0))), (q60, .inl (G.2.2.1, 8, .inl (fun _ => 0)))]) dX8_init_62 inT8 tyX8 tyX8_ok nmX8 rfl rfl (by decide) wF8_31 rfl (fun _ _ h => h) rfl (tyX8_ok 11 (by decide)) rfl rfl (Nat.le_of_ble_eq_true rfl) rfl ?_
  refine nV.aload dX8_init_65 (List.mem_of_getElem? (i := 0) rfl) ?_
  refine nV.bipush (x := 8) dX8_init_66 (by decide) (by decide) rfl ?_
  refine nV.newI (N := 8) dX8_init_68 wAI (by decide) rfl (by decide) (Nat.le_of_ble_eq_true rfl) (Nat.le_of_ble_eq_true rfl) (fun q68 => ?_)
  refine nV.to (cells' := 9) (slots' := 124) (ws' := [(h0, .inr (8, [.int 0, .ref q7, .ref q15, .int 0, .ref q23, .ref q31, .int 0, .ref q38, .ref q45, .ref q52, .int 0, .ref q60, .null, .int 0, .int 0, .null, .null, .null, .null, .null, .null, .null, .int 0, .long 0, .long 0, .int 0, .null, .null, .null, .null])), (q7, .inl (G.2.2.1, 8, .inl (fun _ => 0))), (q15, .inl (G.2.2.1, 8, .inl (fun _ => 0))), (q23, .inl (G.2.2.1, 64, .inl (fun _ => 0))), (q31, .inl (G.2.2.1, 16, .inl (fun _ => 0))), (q38, .inl (G.2.2.1, 4, .inl (fun _ => 0))), (q45, .inl (G.2.2.1, 4, .inl (fun _ => 0))), (q52, .inl (G.2.2.1, 4, .inl (fun _ => 0))), (q60, .inl (G.2.2.1, 8, .inl (fun _ => 0))), (q68, .inl (G.2.2.1, 8, .inl (fun _ => 0)))]) rfl rfl rfl ?_
  refine nV.putF (C := RX8) (T := TX8) (N := 30) (ci := 8) (k := 12) (q0 := 0) (ty := tyX8 12) (ws' := [(h0, .inr (8, [.int 0, .ref q7, .ref q15, .int 0, .ref q23, .ref q31, .int 0, .ref q38, .ref q45, .ref q52, .int 0, .ref q60, .ref q68, .int 0, .int 0, .null, .null, .null, .null, .null, .null, .null, .int 0, .long 0, .long 0, .int 0, .null, .null, .null, .null])), (q7, .inl (G.2.2.1, 8, .inl (fun _ => 0))), (q15, .inl (G.2.2.1, 8, .inl (fun _ => 0))), (q23, .inl (G.2.2.1, 64, .inl (fun _ => 0))), (q31, .inl (G.2.2.1, 16, .inl (fun _ => 0))), (q38, .inl (G.2.2.1, 4, .inl (fun _ => 0))), (q45, .inl (G.2.2.1, 4, .inl (fun _ => 0))), (q52, .inl (G.2.2.1, 4, .inl (fun _ => 0))), (q60, .inl (G.2.2.1, 8, .inl (fun _ => 0))), (q68, .inl (G.2.2.1, 8, .inl (fun _ => 0)))]) dX8_init_70 inT8 tyX8 tyX8_ok nmX8 rfl rfl (by decide) wF8_34 rfl (fun _ _ h => h) rfl (tyX8_ok 12 (by decide)) rfl rfl (Nat.le_of_ble_eq_true rfl) rfl ?_
  refine nV.aload dX8_init_73 (List.mem_of_getElem? (i := 0) rfl) ?_
  refine nV.iconst (x := 2) dX8_init_74 rfl ?_
  refine nV.put (C := RX8) (T := TX8) (N := 30) (ci := 8) (k := 13) (q0 := 0) (ty := tyX8 13) (ws' := [(h0, .inr (8, [.int 0, .ref q7, .ref q15, .int 0, .ref q23, .ref q31, .int 0, .ref q38, .ref q45, .ref q52, .int 0, .ref q60, .ref q68, .int 2, .int 0, .null, .null, .null, .null, .null, .null, .null, .int 0, .long 0, .long 0, .int 0, .null, .null, .null, .null])), (q7, .inl (G.2.2.1, 8, .inl (fun _ => 0))), (q15, .inl (G.2.2.1, 8, .inl (fun _ => 0))), (q23, .inl (G.2.2.1, 64, .inl (fun _ => 0))), (q31, .inl (G.2.2.1, 16, .inl (fun _ => 0))), (q38, .inl (G.2.2.1, 4, .inl (fun _ => 0))), (q45, .inl (G.2.2.1, 4, .inl (fun _ => 0))), (q52, .inl (G.2.2.1, 4, .inl (fun _ => 0))), (q60, .inl (G.2.2.1, 8, .inl (fun _ => 0))), (q68, .inl (G.2.2.1, 8, .inl (fun _ => 0)))]) dX8_init_75 inT8 tyX8 tyX8_ok nmX8 rfl rfl (by decide) wF8_37 rfl (tyX8_ok 13 (by decide)) rfl rfl (Nat.le_of_ble_eq_true rfl) rfl ?_
  refine nV.aload dX8_init_78 (List.mem_of_getElem? (i := 0) rfl) ?_
  refine nV.iconst (x := 4) dX8_init_79 rfl ?_
  refine nV.put (C := RX8) (T := TX8) (N := 30) (ci := 8) (k := 14) (q0 := 0) (ty := tyX8 14) (ws' := [(h0, .inr (8, [.int 0, .ref q7, .ref q15, .int 0, .ref q23, .ref q31, .int 0, .ref q38, .ref q45, .ref q52, .int 0, .ref q60, .ref q68, .int 2, .int 4, .null, .null, .null, .null, .null, .null, .null, .int 0, .long 0, .long 0, .int 0, .null, .null, .null, .null])), (q7, .inl (G.2.2.1, 8, .inl (fun _ => 0))), (q15, .inl (G.2.2.1, 8, .inl (fun _ => 0))), (q23, .inl (G.2.2.1, 64, .inl (fun _ => 0))), (q31, .inl (G.2.2.1, 16, .inl (fun _ => 0))), (q38, .inl (G.2.2.1, 4, .inl (fun _ => 0))), (q45, .inl (G.2.2.1, 4, .inl (fun _ => 0))), (q52, .inl (G.2.2.1, 4, .inl (fun _ => 0))), (q60, .inl (G.2.2.1, 8, .inl (fun _ => 0))), (q68, .inl (G.2.2.1, 8, .inl (fun _ => 0)))]) dX8_init_80 inT8 tyX8 tyX8_ok nmX8 rfl rfl (by decide) wF8_41 rfl (tyX8_ok 14 (by decide)) rfl rfl (Nat.le_of_ble_eq_true rfl) rfl ?_
  refine nV.aload dX8_init_83 (List.mem_of_getElem? (i := 0) rfl) ?_
  refine nV.iconst (x := 2) dX8_init_84 rfl ?_
  refine nV.newJ (N := 2) dX8_init_85 wAJ (by decide) rfl (by decide) (Nat.le_of_ble_eq_true rfl) (Nat.le_of_ble_eq_true rfl) (fun q85 => ?_)
  refine nV.to (cells' := 10) (slots' := 126) (ws' := [(h0, .inr (8, [.int 0, .ref q7, .ref q15, .int 0, .ref q23, .ref q31, .int 0, .ref q38, .ref q45, .ref q52, .int 0, .ref q60, .ref q68, .int 2, .int 4, .null, .null, .null, .null, .null, .null, .null, .int 0, .long 0, .long 0, .int 0, .null, .null, .null, .null])), (q7, .inl (G.2.2.1, 8, .inl (fun _ => 0))), (q15, .inl (G.2.2.1, 8, .inl (fun _ => 0))), (q23, .inl (G.2.2.1, 64, .inl (fun _ => 0))), (q31, .inl (G.2.2.1, 16, .inl (fun _ => 0))), (q38, .inl (G.2.2.1, 4, .inl (fun _ => 0))), (q45, .inl (G.2.2.1, 4, .inl (fun _ => 0))), (q52, .inl (G.2.2.1, 4, .inl (fun _ => 0))), (q60, .inl (G.2.2.1, 8, .inl (fun _ => 0))), (q68, .inl (G.2.2.1, 8, .inl (fun _ => 0))), (q85, .inl (G.2.2.2, 2, .inr (.inl (fun _ => 0))))]) rfl rfl rfl ?_
  refine nV.putF (C := RX8) (T := TX8) (N := 30) (ci := 8) (k := 15) (q0 := 0) (ty := tyX8 15) (ws' := [(h0, .inr (8, [.int 0, .ref q7, .ref q15, .int 0, .ref q23, .ref q31, .int 0, .ref q38, .ref q45, .ref q52, .int 0, .ref q60, .ref q68, .int 2, .int 4, .ref q85, .null, .null, .null, .null, .null, .null, .int 0, .long 0, .long 0, .int 0, .null, .null, .null, .null])), (q7, .inl (G.2.2.1, 8, .inl (fun _ => 0))), (q15, .inl (G.2.2.1, 8, .inl (fun _ => 0))), (q23, .inl (G.2.2.1, 64, .inl (fun _ => 0))), (q31, .inl (G.2.2.1, 16, .inl (fun _ => 0))), (q38, .inl (G.2.2.1, 4, .inl (fun _ => 0))), (q45, .inl (G.2.2.1, 4, .inl (fun _ => 0))), (q52, .inl (G.2.2.1, 4, .inl (fun _ => 0))), (q60, .inl (G.2.2.1, 8, .inl (fun _ => 0))), (q68, .inl (G.2.2.1, 8, .inl (fun _ => 0))), (q85, .inl (G.2.2.2, 2, .inr (.inl (fun _ => 0))))]) dX8_init_87 inT8 tyX8 tyX8_ok nmX8 rfl rfl (by decide) wF8_44 rfl (fun _ _ h => h) rfl (tyX8_ok 15 (by decide)) rfl rfl (Nat.le_of_ble_eq_true rfl) rfl ?_
  refine nV.aload dX8_init_90 (List.mem_of_getElem? (i := 0) rfl) ?_
  refine nV.iconst (x := 2) dX8_init_91 rfl ?_
  refine nV.newJ (N := 2) dX8_init_92 wAJ (by decide) rfl (by decide) (Nat.le_of_ble_eq_true rfl) (Nat.le_of_ble_eq_true rfl) (fun q92 => ?_)
  refine nV.to (cells' := 11) (slots' := 128) (ws' := [(h0, .inr (8, [.int 0, .ref q7, .ref q15, .int 0, .ref q23, .ref q31, .int 0, .ref q38, .ref q45, .ref q52, .int 0, .ref q60, .ref q68, .int 2, .int 4, .ref q85, .null, .null, .null, .null, .null, .null, .int 0, .long 0, .long 0, .int 0, .null, .null, .null, .null])), (q7, .inl (G.2.2.1, 8, .inl (fun _ => 0))), (q15, .inl (G.2.2.1, 8, .inl (fun _ => 0))), (q23, .inl (G.2.2.1, 64, .inl (fun _ => 0))), (q31, .inl (G.2.2.1, 16, .inl (fun _ => 0))), (q38, .inl (G.2.2.1, 4, .inl (fun _ => 0))), (q45, .inl (G.2.2.1, 4, .inl (fun _ => 0))), (q52, .inl (G.2.2.1, 4, .inl (fun _ => 0))), (q60, .inl (G.2.2.1, 8, .inl (fun _ => 0))), (q68, .inl (G.2.2.1, 8, .inl (fun _ => 0))), (q85, .inl (G.2.2.2, 2, .inr (.inl (fun _ => 0)))), (q92, .inl (G.2.2.2, 2, .inr (.inl (fun _ => 0))))]) rfl rfl rfl ?_
  refine nV.putF (C := RX8) (T := TX8) (N := 30) (ci := 8) (k := 16) (q0 := 0) (ty := tyX8 16) (ws' := [(h0, .inr (8, [.int 0, .ref q7, .ref q15, .int 0, .ref q23, .ref q31, .int 0, .ref q38, .ref q45, .ref q52, .int 0, .ref q60, .ref q68, .int 2, .int 4, .ref q85, .ref q92, .null, .null, .null, .null, .null, .int 0, .long 0, .long 0, .int 0, .null, .null, .null, .null])), (q7, .inl (G.2.2.1, 8, .inl (fun _ => 0))), (q15, .inl (G.2.2.1, 8, .inl (fun _ => 0))), (q23, .inl (G.2.2.1, 64, .inl (fun _ => 0))), (q31, .inl (G.2.2.1, 16, .inl (fun _ => 0))), (q38, .inl (G.2.2.1, 4, .inl (fun _ => 0))), (q45, .inl (G.2.2.1, 4, .inl (fun _ => 0))), (q52, .inl (G.2.2.1, 4, .inl (fun _ => 0))), (q60, .inl (G.2.2.1, 8, .inl (fun _ => 0))), (q68, .inl (G.2.2.1, 8, .inl (fun _ => 0))), (q85, .inl (G.2.2.2, 2, .inr (.inl (fun _ => 0)))), (q92, .inl (G.2.2.2, 2, .inr (.inl (fun _ => 0))))]) dX8_init_94 inT8 tyX8 tyX8_ok nmX8 rfl rfl (by decide) wF8_48 rfl (fun _ _ h => h) rfl (tyX8_ok 16 (by decide)) rfl rfl (Nat.le_of_ble_eq_true rfl) rfl ?_
  refine nV.aload dX8_init_97 (List.mem_of_getElem? (i := 0) rfl) ?_
  refine nV.bipush (x := 8) dX8_init_98 (by decide) (by decide) rfl ?_
  refine nV.newJ (N := 8) dX8_init_100 wAJ (by decide) rfl (by decide) (Nat.le_of_ble_eq_true rfl) (Nat.le_of_ble_eq_true rfl) (fun q100 => ?_)
  refine nV.to (cells' := 12) (slots' := 136) (ws' := [(h0, .inr (8, [.int 0, .ref q7, .ref q15, .int 0, .ref q23, .ref q31, .int 0, .ref q38, .ref q45, .ref q52, .int 0, .ref q60, .ref q68, .int 2, .int 4, .ref q85, .ref q92, .null, .null, .null, .null, .null, .int 0, .long 0, .long 0, .int 0, .null, .null, .null, .null])), (q7, .inl (G.2.2.1, 8, .inl (fun _ => 0))), (q15, .inl (G.2.2.1, 8, .inl (fun _ => 0))), (q23, .inl (G.2.2.1, 64, .inl (fun _ => 0))), (q31, .inl (G.2.2.1, 16, .inl (fun _ => 0))), (q38, .inl (G.2.2.1, 4, .inl (fun _ => 0))), (q45, .inl (G.2.2.1, 4, .inl (fun _ => 0))), (q52, .inl (G.2.2.1, 4, .inl (fun _ => 0))), (q60, .inl (G.2.2.1, 8, .inl (fun _ => 0))), (q68, .inl (G.2.2.1, 8, .inl (fun _ => 0))), (q85, .inl (G.2.2.2, 2, .inr (.inl (fun _ => 0)))), (q92, .inl (G.2.2.2, 2, .inr (.inl (fun _ => 0)))), (q100, .inl (G.2.2.2, 8, .inr (.inl (fun _ => 0))))]) rfl rfl rfl ?_
  refine nV.putF (C := RX8) (T := TX8) (N := 30) (ci := 8) (k := 17) (q0 := 0) (ty := tyX8 17) (ws' := [(h0, .inr (8, [.int 0, .ref q7, .ref q15, .int 0, .ref q23, .ref q31, .int 0, .ref q38, .ref q45, .ref q52, .int 0, .ref q60, .ref q68, .int 2, .int 4, .ref q85, .ref q92, .ref q100, .null, .null, .null, .null, .int 0, .long 0, .long 0, .int 0, .null, .null, .null, .null])), (q7, .inl (G.2.2.1, 8, .inl (fun _ => 0))), (q15, .inl (G.2.2.1, 8, .inl (fun _ => 0))), (q23, .inl (G.2.2.1, 64, .inl (fun _ => 0))), (q31, .inl (G.2.2.1, 16, .inl (fun _ => 0))), (q38, .inl (G.2.2.1, 4, .inl (fun _ => 0))), (q45, .inl (G.2.2.1, 4, .inl (fun _ => 0))), (q52, .inl (G.2.2.1, 4, .inl (fun _ => 0))), (q60, .inl (G.2.2.1, 8, .inl (fun _ => 0))), (q68, .inl (G.2.2.1, 8, .inl (fun _ => 0))), (q85, .inl (G.2.2.2, 2, .inr (.inl (fun _ => 0)))), (q92, .inl (G.2.2.2, 2, .inr (.inl (fun _ => 0)))), (q100, .inl (G.2.2.2, 8, .inr (.inl (fun _ => 0))))]) dX8_init_102 inT8 tyX8 tyX8_ok nmX8 rfl rfl (by decide) wF8_51 rfl (fun _ _ h => h) rfl (tyX8_ok 17 (by decide)) rfl rfl (Nat.le_of_ble_eq_true rfl) rfl ?_
  refine nV.aload dX8_init_105 (List.mem_of_getElem? (i := 0) rfl) ?_
  refine nV.bipush (x := 8) dX8_init_106 (by decide) (by decide) rfl ?_
  refine nV.newJ (N := 8) dX8_init_108 wAJ (by decide) rfl (by decide) (Nat.le_of_ble_eq_true rfl) (Nat.le_of_ble_eq_true rfl) (fun q108 => ?_)
  refine nV.to (cells' := 13) (slots' := 144) (ws' := [(h0, .inr (8, [.int 0, .ref q7, .ref q15, .int 0, .ref q23, .ref q31, .int 0, .ref q38, .ref q45, .ref q52, .int 0, .ref q60, .ref q68, .int 2, .int 4, .ref q85, .ref q92, .ref q100, .null, .null, .null, .null, .int 0, .long 0, .long 0, .int 0, .null, .null, .null, .null])), (q7, .inl (G.2.2.1, 8, .inl (fun _ => 0))), (q15, .inl (G.2.2.1, 8, .inl (fun _ => 0))), (q23, .inl (G.2.2.1, 64, .inl (fun _ => 0))), (q31, .inl (G.2.2.1, 16, .inl (fun _ => 0))), (q38, .inl (G.2.2.1, 4, .inl (fun _ => 0))), (q45, .inl (G.2.2.1, 4, .inl (fun _ => 0))), (q52, .inl (G.2.2.1, 4, .inl (fun _ => 0))), (q60, .inl (G.2.2.1, 8, .inl (fun _ => 0))), (q68, .inl (G.2.2.1, 8, .inl (fun _ => 0))), (q85, .inl (G.2.2.2, 2, .inr (.inl (fun _ => 0)))), (q92, .inl (G.2.2.2, 2, .inr (.inl (fun _ => 0)))), (q100, .inl (G.2.2.2, 8, .inr (.inl (fun _ => 0)))), (q108, .inl (G.2.2.2, 8, .inr (.inl (fun _ => 0))))]) rfl rfl rfl ?_
  refine nV.putF (C := RX8) (T := TX8) (N := 30) (ci := 8) (k := 18) (q0 := 0) (ty := tyX8 18) (ws' := [(h0, .inr (8, [.int 0, .ref q7, .ref q15, .int 0, .ref q23, .ref q31, .int 0, .ref q38, .ref q45, .ref q52, .int 0, .ref q60, .ref q68, .int 2, .int 4, .ref q85, .ref q92, .ref q100, .ref q108, .null, .null, .null, .int 0, .long 0, .long 0, .int 0, .null, .null, .null, .null])), (q7, .inl (G.2.2.1, 8, .inl (fun _ => 0))), (q15, .inl (G.2.2.1, 8, .inl (fun _ => 0))), (q23, .inl (G.2.2.1, 64, .inl (fun _ => 0))), (q31, .inl (G.2.2.1, 16, .inl (fun _ => 0))), (q38, .inl (G.2.2.1, 4, .inl (fun _ => 0))), (q45, .inl (G.2.2.1, 4, .inl (fun _ => 0))), (q52, .inl (G.2.2.1, 4, .inl (fun _ => 0))), (q60, .inl (G.2.2.1, 8, .inl (fun _ => 0))), (q68, .inl (G.2.2.1, 8, .inl (fun _ => 0))), (q85, .inl (G.2.2.2, 2, .inr (.inl (fun _ => 0)))), (q92, .inl (G.2.2.2, 2, .inr (.inl (fun _ => 0)))), (q100, .inl (G.2.2.2, 8, .inr (.inl (fun _ => 0)))), (q108, .inl (G.2.2.2, 8, .inr (.inl (fun _ => 0))))]) dX8_init_110 inT8 tyX8 tyX8_ok nmX8 rfl rfl (by decide) wF8_54 rfl (fun _ _ h => h) rfl (tyX8_ok 18 (by decide)) rfl rfl (Nat.le_of_ble_eq_true rfl) rfl ?_
  refine nV.aload dX8_init_113 (List.mem_of_getElem? (i := 0) rfl) ?_
  refine nV.iconst (x := 5) dX8_init_114 rfl ?_
  refine nV.newJ (N := 5) dX8_init_115 wAJ (by decide) rfl (by decide) (Nat.le_of_ble_eq_true rfl) (Nat.le_of_ble_eq_true rfl) (fun q115 => ?_)
  refine nV.to (cells' := 14) (slots' := 149) (ws' := [(h0, .inr (8, [.int 0, .ref q7, .ref q15, .int 0, .ref q23, .ref q31, .int 0, .ref q38, .ref q45, .ref q52, .int 0, .ref q60, .ref q68, .int 2, .int 4, .ref q85, .ref q92, .ref q100, .ref q108, .null, .null, .null, .int 0, .long 0, .long 0, .int 0, .null, .null, .null, .null])), (q7, .inl (G.2.2.1, 8, .inl (fun _ => 0))), (q15, .inl (G.2.2.1, 8, .inl (fun _ => 0))), (q23, .inl (G.2.2.1, 64, .inl (fun _ => 0))), (q31, .inl (G.2.2.1, 16, .inl (fun _ => 0))), (q38, .inl (G.2.2.1, 4, .inl (fun _ => 0))), (q45, .inl (G.2.2.1, 4, .inl (fun _ => 0))), (q52, .inl (G.2.2.1, 4, .inl (fun _ => 0))), (q60, .inl (G.2.2.1, 8, .inl (fun _ => 0))), (q68, .inl (G.2.2.1, 8, .inl (fun _ => 0))), (q85, .inl (G.2.2.2, 2, .inr (.inl (fun _ => 0)))), (q92, .inl (G.2.2.2, 2, .inr (.inl (fun _ => 0)))), (q100, .inl (G.2.2.2, 8, .inr (.inl (fun _ => 0)))), (q108, .inl (G.2.2.2, 8, .inr (.inl (fun _ => 0)))), (q115, .inl (G.2.2.2, 5, .inr (.inl (fun _ => 0))))]) rfl rfl rfl ?_
  refine nV.putF (C := RX8) (T := TX8) (N := 30) (ci := 8) (k := 19) (q0 := 0) (ty := tyX8 19) (ws' := [(h0, .inr (8, [.int 0, .ref q7, .ref q15, .int 0, .ref q23, .ref q31, .int 0, .ref q38, .ref q45, .ref q52, .int 0, .ref q60, .ref q68, .int 2, .int 4, .ref q85, .ref q92, .ref q100, .ref q108, .ref q115, .null, .null, .int 0, .long 0, .long 0, .int 0, .null, .null, .null, .null])), (q7, .inl (G.2.2.1, 8, .inl (fun _ => 0))), (q15, .inl (G.2.2.1, 8, .inl (fun _ => 0))), (q23, .inl (G.2.2.1, 64, .inl (fun _ => 0))), (q31, .inl (G.2.2.1, 16, .inl (fun _ => 0))), (q38, .inl (G.2.2.1, 4, .inl (fun _ => 0))), (q45, .inl (G.2.2.1, 4, .inl (fun _ => 0))), (q52, .inl (G.2.2.1, 4, .inl (fun _ => 0))), (q60, .inl (G.2.2.1, 8, .inl (fun _ => 0))), (q68, .inl (G.2.2.1, 8, .inl (fun _ => 0))), (q85, .inl (G.2.2.2, 2, .inr (.inl (fun _ => 0)))), (q92, .inl (G.2.2.2, 2, .inr (.inl (fun _ => 0)))), (q100, .inl (G.2.2.2, 8, .inr (.inl (fun _ => 0)))), (q108, .inl (G.2.2.2, 8, .inr (.inl (fun _ => 0)))), (q115, .inl (G.2.2.2, 5, .inr (.inl (fun _ => 0))))]) dX8_init_117 inT8 tyX8 tyX8_ok nmX8 rfl rfl (by decide) wF8_57 rfl (fun _ _ h => h) rfl (tyX8_ok 19 (by decide)) rfl rfl (Nat.le_of_ble_eq_true rfl) rfl ?_
  refine nV.aload dX8_init_120 (List.mem_of_getElem? (i := 0) rfl) ?_
  refine nV.iconst (x := 5) dX8_init_121 rfl ?_
  refine nV.newJ (N := 5) dX8_init_122 wAJ (by decide) rfl (by decide) (Nat.le_of_ble_eq_true rfl) (Nat.le_of_ble_eq_true rfl) (fun q122 => ?_)
  refine nV.to (cells' := 15) (slots' := 154) (ws' := [(h0, .inr (8, [.int 0, .ref q7, .ref q15, .int 0, .ref q23, .ref q31, .int 0, .ref q38, .ref q45, .ref q52, .int 0, .ref q60, .ref q68, .int 2, .int 4, .ref q85, .ref q92, .ref q100, .ref q108, .ref q115, .null, .null, .int 0, .long 0, .long 0, .int 0, .null, .null, .null, .null])), (q7, .inl (G.2.2.1, 8, .inl (fun _ => 0))), (q15, .inl (G.2.2.1, 8, .inl (fun _ => 0))), (q23, .inl (G.2.2.1, 64, .inl (fun _ => 0))), (q31, .inl (G.2.2.1, 16, .inl (fun _ => 0))), (q38, .inl (G.2.2.1, 4, .inl (fun _ => 0))), (q45, .inl (G.2.2.1, 4, .inl (fun _ => 0))), (q52, .inl (G.2.2.1, 4, .inl (fun _ => 0))), (q60, .inl (G.2.2.1, 8, .inl (fun _ => 0))), (q68, .inl (G.2.2.1, 8, .inl (fun _ => 0))), (q85, .inl (G.2.2.2, 2, .inr (.inl (fun _ => 0)))), (q92, .inl (G.2.2.2, 2, .inr (.inl (fun _ => 0)))), (q100, .inl (G.2.2.2, 8, .inr (.inl (fun _ => 0)))), (q108, .inl (G.2.2.2, 8, .inr (.inl (fun _ => 0)))), (q115, .inl (G.2.2.2, 5, .inr (.inl (fun _ => 0)))), (q122, .inl (G.2.2.2, 5, .inr (.inl (fun _ => 0))))]) rfl rfl rfl ?_
  refine nV.putF (C := RX8) (T := TX8) (N := 30) (ci := 8) (k := 20) (q0 := 0) (ty := tyX8 20) (ws' := [(h0, .inr (8, [.int 0, .ref q7, .ref q15, .int 0, .ref q23, .ref q31, .int 0, .ref q38, .ref q45, .ref q52, .int 0, .ref q60, .ref q68, .int 2, .int 4, .ref q85, .ref q92, .ref q100, .ref q108, .ref q115, .ref q122, .null, .int 0, .long 0, .long 0, .int 0, .null, .null, .null, .null])), (q7, .inl (G.2.2.1, 8, .inl (fun _ => 0))), (q15, .inl (G.2.2.1, 8, .inl (fun _ => 0))), (q23, .inl (G.2.2.1, 64, .inl (fun _ => 0))), (q31, .inl (G.2.2.1, 16, .inl (fun _ => 0))), (q38, .inl (G.2.2.1, 4, .inl (fun _ => 0))), (q45, .inl (G.2.2.1, 4, .inl (fun _ => 0))), (q52, .inl (G.2.2.1, 4, .inl (fun _ => 0))), (q60, .inl (G.2.2.1, 8, .inl (fun _ => 0))), (q68, .inl (G.2.2.1, 8, .inl (fun _ => 0))), (q85, .inl (G.2.2.2, 2, .inr (.inl (fun _ => 0)))), (q92, .inl (G.2.2.2, 2, .inr (.inl (fun _ => 0)))), (q100, .inl (G.2.2.2, 8, .inr (.inl (fun _ => 0)))), (q108, .inl (G.2.2.2, 8, .inr (.inl (fun _ => 0)))), (q115, .inl (G.2.2.2, 5, .inr (.inl (fun _ => 0)))), (q122, .inl (G.2.2.2, 5, .inr (.inl (fun _ => 0))))]) dX8_init_124 inT8 tyX8 tyX8_ok nmX8 rfl rfl (by decide) wF8_60 rfl (fun _ _ h => h) rfl (tyX8_ok 20 (by decide)) rfl rfl (Nat.le_of_ble_eq_true rfl) rfl ?_
  refine nV.aload dX8_init_127 (List.mem_of_getElem? (i := 0) rfl) ?_
  refine nV.iconst (x := 3) dX8_init_128 rfl ?_
  refine nV.newI (N := 3) dX8_init_129 wAI (by decide) rfl (by decide) (Nat.le_of_ble_eq_true rfl) (Nat.le_of_ble_eq_true rfl) (fun q129 => ?_)
  refine nV.to (cells' := 16) (slots' := 157) (ws' := [(h0, .inr (8, [.int 0, .ref q7, .ref q15, .int 0, .ref q23, .ref q31, .int 0, .ref q38, .ref q45, .ref q52, .int 0, .ref q60, .ref q68, .int 2, .int 4, .ref q85, .ref q92, .ref q100, .ref q108, .ref q115, .ref q122, .null, .int 0, .long 0, .long 0, .int 0, .null, .null, .null, .null])), (q7, .inl (G.2.2.1, 8, .inl (fun _ => 0))), (q15, .inl (G.2.2.1, 8, .inl (fun _ => 0))), (q23, .inl (G.2.2.1, 64, .inl (fun _ => 0))), (q31, .inl (G.2.2.1, 16, .inl (fun _ => 0))), (q38, .inl (G.2.2.1, 4, .inl (fun _ => 0))), (q45, .inl (G.2.2.1, 4, .inl (fun _ => 0))), (q52, .inl (G.2.2.1, 4, .inl (fun _ => 0))), (q60, .inl (G.2.2.1, 8, .inl (fun _ => 0))), (q68, .inl (G.2.2.1, 8, .inl (fun _ => 0))), (q85, .inl (G.2.2.2, 2, .inr (.inl (fun _ => 0)))), (q92, .inl (G.2.2.2, 2, .inr (.inl (fun _ => 0)))), (q100, .inl (G.2.2.2, 8, .inr (.inl (fun _ => 0)))), (q108, .inl (G.2.2.2, 8, .inr (.inl (fun _ => 0)))), (q115, .inl (G.2.2.2, 5, .inr (.inl (fun _ => 0)))), (q122, .inl (G.2.2.2, 5, .inr (.inl (fun _ => 0)))), (q129, .inl (G.2.2.1, 3, .inl (fun _ => 0)))]) rfl rfl rfl ?_
  refine nV.putF (C := RX8) (T := TX8) (N := 30) (ci := 8) (k := 21) (q0 := 0) (ty := tyX8 21) (ws' := [(h0, .inr (8, [.int 0, .ref q7, .ref q15, .int 0, .ref q23, .ref q31, .int 0, .ref q38, .ref q45, .ref q52, .int 0, .ref q60, .ref q68, .int 2, .int 4, .ref q85, .ref q92, .ref q100, .ref q108, .ref q115, .ref q122, .ref q129, .int 0, .long 0, .long 0, .int 0, .null, .null, .null, .null])), (q7, .inl (G.2.2.1, 8, .inl (fun _ => 0))), (q15, .inl (G.2.2.1, 8, .inl (fun _ => 0))), (q23, .inl (G.2.2.1, 64, .inl (fun _ => 0))), (q31, .inl (G.2.2.1, 16, .inl (fun _ => 0))), (q38, .inl (G.2.2.1, 4, .inl (fun _ => 0))), (q45, .inl (G.2.2.1, 4, .inl (fun _ => 0))), (q52, .inl (G.2.2.1, 4, .inl (fun _ => 0))), (q60, .inl (G.2.2.1, 8, .inl (fun _ => 0))), (q68, .inl (G.2.2.1, 8, .inl (fun _ => 0))), (q85, .inl (G.2.2.2, 2, .inr (.inl (fun _ => 0)))), (q92, .inl (G.2.2.2, 2, .inr (.inl (fun _ => 0)))), (q100, .inl (G.2.2.2, 8, .inr (.inl (fun _ => 0)))), (q108, .inl (G.2.2.2, 8, .inr (.inl (fun _ => 0)))), (q115, .inl (G.2.2.2, 5, .inr (.inl (fun _ => 0)))), (q122, .inl (G.2.2.2, 5, .inr (.inl (fun _ => 0)))), (q129, .inl (G.2.2.1, 3, .inl (fun _ => 0)))]) dX8_init_131 inT8 tyX8 tyX8_ok nmX8 rfl rfl (by decide) wF8_63 rfl (fun _ _ h => h) rfl (tyX8_ok 21 (by decide)) rfl rfl (Nat.le_of_ble_eq_true rfl) rfl ?_
  refine nV.aload dX8_init_134 (List.mem_of_getElem? (i := 0) rfl) ?_
  refine nV.sipush (x := 4000) dX8_init_135 (by decide) (by decide) rfl ?_
  refine nV.newI (N := 4000) dX8_init_138 wAI (by decide) rfl (by decide) (Nat.le_of_ble_eq_true rfl) (Nat.le_of_ble_eq_true rfl) (fun q138 => ?_)
  refine nV.to (cells' := 17) (slots' := 4157) (ws' := [(h0, .inr (8, [.int 0, .ref q7, .ref q15, .int 0, .ref q23, .ref q31, .int 0, .ref q38, .ref q45, .ref q52, .int 0, .ref q60, .ref q68, .int 2, .int 4, .ref q85, .ref q92, .ref q100, .ref q108, .ref q115, .ref q122, .ref q129, .int 0, .long 0, .long 0, .int 0, .null, .null, .null, .null])), (q7, .inl (G.2.2.1, 8, .inl (fun _ => 0))), (q15, .inl (G.2.2.1, 8, .inl (fun _ => 0))), (q23, .inl (G.2.2.1, 64, .inl (fun _ => 0))), (q31, .inl (G.2.2.1, 16, .inl (fun _ => 0))), (q38, .inl (G.2.2.1, 4, .inl (fun _ => 0))), (q45, .inl (G.2.2.1, 4, .inl (fun _ => 0))), (q52, .inl (G.2.2.1, 4, .inl (fun _ => 0))), (q60, .inl (G.2.2.1, 8, .inl (fun _ => 0))), (q68, .inl (G.2.2.1, 8, .inl (fun _ => 0))), (q85, .inl (G.2.2.2, 2, .inr (.inl (fun _ => 0)))), (q92, .inl (G.2.2.2, 2, .inr (.inl (fun _ => 0)))), (q100, .inl (G.2.2.2, 8, .inr (.inl (fun _ => 0)))), (q108, .inl (G.2.2.2, 8, .inr (.inl (fun _ => 0)))), (q115, .inl (G.2.2.2, 5, .inr (.inl (fun _ => 0)))), (q122, .inl (G.2.2.2, 5, .inr (.inl (fun _ => 0)))), (q129, .inl (G.2.2.1, 3, .inl (fun _ => 0))), (q138, .inl (G.2.2.1, 4000, .inl (fun _ => 0)))]) rfl rfl rfl ?_
  refine nV.putF (C := RX8) (T := TX8) (N := 30) (ci := 8) (k := 26) (q0 := 0) (ty := tyX8 26) (ws' := [(h0, .inr (8, [.int 0, .ref q7, .ref q15, .int 0, .ref q23, .ref q31, .int 0, .ref q38, .ref q45, .ref q52, .int 0, .ref q60, .ref q68, .int 2, .int 4, .ref q85, .ref q92, .ref q100, .ref q108, .ref q115, .ref q122, .ref q129, .int 0, .long 0, .long 0, .int 0, .ref q138, .null, .null, .null])), (q7, .inl (G.2.2.1, 8, .inl (fun _ => 0))), (q15, .inl (G.2.2.1, 8, .inl (fun _ => 0))), (q23, .inl (G.2.2.1, 64, .inl (fun _ => 0))), (q31, .inl (G.2.2.1, 16, .inl (fun _ => 0))), (q38, .inl (G.2.2.1, 4, .inl (fun _ => 0))), (q45, .inl (G.2.2.1, 4, .inl (fun _ => 0))), (q52, .inl (G.2.2.1, 4, .inl (fun _ => 0))), (q60, .inl (G.2.2.1, 8, .inl (fun _ => 0))), (q68, .inl (G.2.2.1, 8, .inl (fun _ => 0))), (q85, .inl (G.2.2.2, 2, .inr (.inl (fun _ => 0)))), (q92, .inl (G.2.2.2, 2, .inr (.inl (fun _ => 0)))), (q100, .inl (G.2.2.2, 8, .inr (.inl (fun _ => 0)))), (q108, .inl (G.2.2.2, 8, .inr (.inl (fun _ => 0)))), (q115, .inl (G.2.2.2, 5, .inr (.inl (fun _ => 0)))), (q122, .inl (G.2.2.2, 5, .inr (.inl (fun _ => 0)))), (q129, .inl (G.2.2.1, 3, .inl (fun _ => 0))), (q138, .inl (G.2.2.1, 4000, .inl (fun _ => 0)))]) dX8_init_140 inT8 tyX8 tyX8_ok nmX8 rfl rfl (by decide) wF8_66 rfl (fun _ _ h => h) rfl (tyX8_ok 26 (by decide)) rfl rfl (Nat.le_of_ble_eq_true rfl) rfl ?_
  refine nV.aload dX8_init_143 (List.mem_of_getElem? (i := 0) rfl) ?_
  refine nV.sipush (x := 4000) dX8_init_144 (by decide) (by decide) rfl ?_
  refine nV.newI (N := 4000) dX8_init_147 wAI (by decide) rfl (by decide) (Nat.le_of_ble_eq_true rfl) (Nat.le_of_ble_eq_true rfl) (fun q147 => ?_)
  refine nV.to (cells' := 18) (slots' := 8157) (ws' := [(h0, .inr (8, [.int 0, .ref q7, .ref q15, .int 0, .ref q23, .ref q31, .int 0, .ref q38, .ref q45, .ref q52, .int 0, .ref q60, .ref q68, .int 2, .int 4, .ref q85, .ref q92, .ref q100, .ref q108, .ref q115, .ref q122, .ref q129, .int 0, .long 0, .long 0, .int 0, .ref q138, .null, .null, .null])), (q7, .inl (G.2.2.1, 8, .inl (fun _ => 0))), (q15, .inl (G.2.2.1, 8, .inl (fun _ => 0))), (q23, .inl (G.2.2.1, 64, .inl (fun _ => 0))), (q31, .inl (G.2.2.1, 16, .inl (fun _ => 0))), (q38, .inl (G.2.2.1, 4, .inl (fun _ => 0))), (q45, .inl (G.2.2.1, 4, .inl (fun _ => 0))), (q52, .inl (G.2.2.1, 4, .inl (fun _ => 0))), (q60, .inl (G.2.2.1, 8, .inl (fun _ => 0))), (q68, .inl (G.2.2.1, 8, .inl (fun _ => 0))), (q85, .inl (G.2.2.2, 2, .inr (.inl (fun _ => 0)))), (q92, .inl (G.2.2.2, 2, .inr (.inl (fun _ => 0)))), (q100, .inl (G.2.2.2, 8, .inr (.inl (fun _ => 0)))), (q108, .inl (G.2.2.2, 8, .inr (.inl (fun _ => 0)))), (q115, .inl (G.2.2.2, 5, .inr (.inl (fun _ => 0)))), (q122, .inl (G.2.2.2, 5, .inr (.inl (fun _ => 0)))), (q129, .inl (G.2.2.1, 3, .inl (fun _ => 0))), (q138, .inl (G.2.2.1, 4000, .inl (fun _ => 0))), (q147, .inl (G.2.2.1, 4000, .inl (fun _ => 0)))]) rfl rfl rfl ?_
  refine nV.putF (C := RX8) (T := TX8) (N := 30) (ci := 8) (k := 27) (q0 := 0) (ty := tyX8 27) (ws' := [(h0, .inr (8, [.int 0, .ref q7, .ref q15, .int 0, .ref q23, .ref q31, .int 0, .ref q38, .ref q45, .ref q52, .int 0, .ref q60, .ref q68, .int 2, .int 4, .ref q85, .ref q92, .ref q100, .ref q108, .ref q115, .ref q122, .ref q129, .int 0, .long 0, .long 0, .int 0, .ref q138, .ref q147, .null, .null])), (q7, .inl (G.2.2.1, 8, .inl (fun _ => 0))), (q15, .inl (G.2.2.1, 8, .inl (fun _ => 0))), (q23, .inl (G.2.2.1, 64, .inl (fun _ => 0))), (q31, .inl (G.2.2.1, 16, .inl (fun _ => 0))), (q38, .inl (G.2.2.1, 4, .inl (fun _ => 0))), (q45, .inl (G.2.2.1, 4, .inl (fun _ => 0))), (q52, .inl (G.2.2.1, 4, .inl (fun _ => 0))), (q60, .inl (G.2.2.1, 8, .inl (fun _ => 0))), (q68, .inl (G.2.2.1, 8, .inl (fun _ => 0))), (q85, .inl (G.2.2.2, 2, .inr (.inl (fun _ => 0)))), (q92, .inl (G.2.2.2, 2, .inr (.inl (fun _ => 0)))), (q100, .inl (G.2.2.2, 8, .inr (.inl (fun _ => 0)))), (q108, .inl (G.2.2.2, 8, .inr (.inl (fun _ => 0)))), (q115, .inl (G.2.2.2, 5, .inr (.inl (fun _ => 0)))), (q122, .inl (G.2.2.2, 5, .inr (.inl (fun _ => 0)))), (q129, .inl (G.2.2.1, 3, .inl (fun _ => 0))), (q138, .inl (G.2.2.1, 4000, .inl (fun _ => 0))), (q147, .inl (G.2.2.1, 4000, .inl (fun _ => 0)))]) dX8_init_149 inT8 tyX8 tyX8_ok nmX8 rfl rfl (by decide) wF8_69 rfl (fun _ _ h => h) rfl (tyX8_ok 27 (by decide)) rfl rfl (Nat.le_of_ble_eq_true rfl) rfl ?_
  refine nV.aload dX8_init_152 (List.mem_of_getElem? (i := 0) rfl) ?_
  refine nV.sipush (x := 4000) dX8_init_153 (by decide) (by decide) rfl ?_
  refine nV.newJ (N := 4000) dX8_init_156 wAJ (by decide) rfl (by decide) (Nat.le_of_ble_eq_true rfl) (Nat.le_of_ble_eq_true rfl) (fun q156 => ?_)
  refine nV.to (cells' := 19) (slots' := 12157) (ws' := [(h0, .inr (8, [.int 0, .ref q7, .ref q15, .int 0, .ref q23, .ref q31, .int 0, .ref q38, .ref q45, .ref q52, .int 0, .ref q60, .ref q68, .int 2, .int 4, .ref q85, .ref q92, .ref q100, .ref q108, .ref q115, .ref q122, .ref q129, .int 0, .long 0, .long 0, .int 0, .ref q138, .ref q147, .null, .null])), (q7, .inl (G.2.2.1, 8, .inl (fun _ => 0))), (q15, .inl (G.2.2.1, 8, .inl (fun _ => 0))), (q23, .inl (G.2.2.1, 64, .inl (fun _ => 0))), (q31, .inl (G.2.2.1, 16, .inl (fun _ => 0))), (q38, .inl (G.2.2.1, 4, .inl (fun _ => 0))), (q45, .inl (G.2.2.1, 4, .inl (fun _ => 0))), (q52, .inl (G.2.2.1, 4, .inl (fun _ => 0))), (q60, .inl (G.2.2.1, 8, .inl (fun _ => 0))), (q68, .inl (G.2.2.1, 8, .inl (fun _ => 0))), (q85, .inl (G.2.2.2, 2, .inr (.inl (fun _ => 0)))), (q92, .inl (G.2.2.2, 2, .inr (.inl (fun _ => 0)))), (q100, .inl (G.2.2.2, 8, .inr (.inl (fun _ => 0)))), (q108, .inl (G.2.2.2, 8, .inr (.inl (fun _ => 0)))), (q115, .inl (G.2.2.2, 5, .inr (.inl (fun _ => 0)))), (q122, .inl (G.2.2.2, 5, .inr (.inl (fun _ => 0)))), (q129, .inl (G.2.2.1, 3, .inl (fun _ => 0))), (q138, .inl (G.2.2.1, 4000, .inl (fun _ => 0))), (q147, .inl (G.2.2.1, 4000, .inl (fun _ => 0))), (q156, .inl (G.2.2.2, 4000, .inr (.inl (fun _ => 0))))]) rfl rfl rfl ?_
  refine nV.putF (C := RX8) (T := TX8) (N := 30) (ci := 8) (k := 28) (q0 := 0) (ty := tyX8 28) (ws' := [(h0, .inr (8, [.int 0, .ref q7, .ref q15, .int 0, .ref q23, .ref q31, .int 0, .ref q38, .ref q45, .ref q52, .int 0, .ref q60, .ref q68, .int 2, .int 4, .ref q85, .ref q92, .ref q100, .ref q108, .ref q115, .ref q122, .ref q129, .int 0, .long 0, .long 0, .int 0, .ref q138, .ref q147, .ref q156, .null])), (q7, .inl (G.2.2.1, 8, .inl (fun _ => 0))), (q15, .inl (G.2.2.1, 8, .inl (fun _ => 0))), (q23, .inl (G.2.2.1, 64, .inl (fun _ => 0))), (q31, .inl (G.2.2.1, 16, .inl (fun _ => 0))), (q38, .inl (G.2.2.1, 4, .inl (fun _ => 0))), (q45, .inl (G.2.2.1, 4, .inl (fun _ => 0))), (q52, .inl (G.2.2.1, 4, .inl (fun _ => 0))), (q60, .inl (G.2.2.1, 8, .inl (fun _ => 0))), (q68, .inl (G.2.2.1, 8, .inl (fun _ => 0))), (q85, .inl (G.2.2.2, 2, .inr (.inl (fun _ => 0)))), (q92, .inl (G.2.2.2, 2, .inr (.inl (fun _ => 0)))), (q100, .inl (G.2.2.2, 8, .inr (.inl (fun _ => 0)))), (q108, .inl (G.2.2.2, 8, .inr (.inl (fun _ => 0)))), (q115, .inl (G.2.2.2, 5, .inr (.inl (fun _ => 0)))), (q122, .inl (G.2.2.2, 5, .inr (.inl (fun _ => 0)))), (q129, .inl (G.2.2.1, 3, .inl (fun _ => 0))), (q138, .inl (G.2.2.1, 4000, .inl (fun _ => 0))), (q147, .inl (G.2.2.1, 4000, .inl (fun _ => 0))), (q156, .inl (G.2.2.2, 4000, .inr (.inl (fun _ => 0))))]) dX8_init_158 inT8 tyX8 tyX8_ok nmX8 rfl rfl (by decide) wF8_72 rfl (fun _ _ h => h) rfl (tyX8_ok 28 (by decide)) rfl rfl (Nat.le_of_ble_eq_true rfl) rfl ?_
  refine nV.aload dX8_init_161 (List.mem_of_getElem? (i := 0) rfl) ?_
  refine nV.bipush (x := 16) dX8_init_162 (by decide) (by decide) rfl ?_
  refine nV.newI (N := 16) dX8_init_164 wAI (by decide) rfl (by decide) (Nat.le_of_ble_eq_true rfl) (Nat.le_of_ble_eq_true rfl) (fun q164 => ?_)
  refine nV.to (cells' := 20) (slots' := 12173) (ws' := [(h0, .inr (8, [.int 0, .ref q7, .ref q15, .int 0, .ref q23, .ref q31, .int 0, .ref q38, .ref q45, .ref q52, .int 0, .ref q60, .ref q68, .int 2, .int 4, .ref q85, .ref q92, .ref q100, .ref q108, .ref q115, .ref q122, .ref q129, .int 0, .long 0, .long 0, .int 0, .ref q138, .ref q147, .ref q156, .null])), (q7, .inl (G.2.2.1, 8, .inl (fun _ => 0))), (q15, .inl (G.2.2.1, 8, .inl (fun _ => 0))), (q23, .inl (G.2.2.1, 64, .inl (fun _ => 0))), (q31, .inl (G.2.2.1, 16, .inl (fun _ => 0))), (q38, .inl (G.2.2.1, 4, .inl (fun _ => 0))), (q45, .inl (G.2.2.1, 4, .inl (fun _ => 0))), (q52, .inl (G.2.2.1, 4, .inl (fun _ => 0))), (q60, .inl (G.2.2.1, 8, .inl (fun _ => 0))), (q68, .inl (G.2.2.1, 8, .inl (fun _ => 0))), (q85, .inl (G.2.2.2, 2, .inr (.inl (fun _ => 0)))), (q92, .inl (G.2.2.2, 2, .inr (.inl (fun _ => 0)))), (q100, .inl (G.2.2.2, 8, .inr (.inl (fun _ => 0)))), (q108, .inl (G.2.2.2, 8, .inr (.inl (fun _ => 0)))), (q115, .inl (G.2.2.2, 5, .inr (.inl (fun _ => 0)))), (q122, .inl (G.2.2.2, 5, .inr (.inl (fun _ => 0)))), (q129, .inl (G.2.2.1, 3, .inl (fun _ => 0))), (q138, .inl (G.2.2.1, 4000, .inl (fun _ => 0))), (q147, .inl (G.2.2.1, 4000, .inl (fun _ => 0))), (q156, .inl (G.2.2.2, 4000, .inr (.inl (fun _ => 0)))), (q164, .inl (G.2.2.1, 16, .inl (fun _ => 0)))]) rfl rfl rfl ?_
  refine nV.putF (C := RX8) (T := TX8) (N := 30) (ci := 8) (k := 29) (q0 := 0) (ty := tyX8 29) (ws' := [(h0, .inr (8, [.int 0, .ref q7, .ref q15, .int 0, .ref q23, .ref q31, .int 0, .ref q38, .ref q45, .ref q52, .int 0, .ref q60, .ref q68, .int 2, .int 4, .ref q85, .ref q92, .ref q100, .ref q108, .ref q115, .ref q122, .ref q129, .int 0, .long 0, .long 0, .int 0, .ref q138, .ref q147, .ref q156, .ref q164])), (q7, .inl (G.2.2.1, 8, .inl (fun _ => 0))), (q15, .inl (G.2.2.1, 8, .inl (fun _ => 0))), (q23, .inl (G.2.2.1, 64, .inl (fun _ => 0))), (q31, .inl (G.2.2.1, 16, .inl (fun _ => 0))), (q38, .inl (G.2.2.1, 4, .inl (fun _ => 0))), (q45, .inl (G.2.2.1, 4, .inl (fun _ => 0))), (q52, .inl (G.2.2.1, 4, .inl (fun _ => 0))), (q60, .inl (G.2.2.1, 8, .inl (fun _ => 0))), (q68, .inl (G.2.2.1, 8, .inl (fun _ => 0))), (q85, .inl (G.2.2.2, 2, .inr (.inl (fun _ => 0)))), (q92, .inl (G.2.2.2, 2, .inr (.inl (fun _ => 0)))), (q100, .inl (G.2.2.2, 8, .inr (.inl (fun _ => 0)))), (q108, .inl (G.2.2.2, 8, .inr (.inl (fun _ => 0)))), (q115, .inl (G.2.2.2, 5, .inr (.inl (fun _ => 0)))), (q122, .inl (G.2.2.2, 5, .inr (.inl (fun _ => 0)))), (q129, .inl (G.2.2.1, 3, .inl (fun _ => 0))), (q138, .inl (G.2.2.1, 4000, .inl (fun _ => 0))), (q147, .inl (G.2.2.1, 4000, .inl (fun _ => 0))), (q156, .inl (G.2.2.2, 4000, .inr (.inl (fun _ => 0)))), (q164, .inl (G.2.2.1, 16, .inl (fun _ => 0)))]) dX8_init_166 inT8 tyX8 tyX8_ok nmX8 rfl rfl (by decide) wF8_75 rfl (fun _ _ h => h) rfl (tyX8_ok 29 (by decide)) rfl rfl (Nat.le_of_ble_eq_true rfl) rfl ?_
  refine nV.aload dX8_init_169 (List.mem_of_getElem? (i := 0) rfl) ?_
  refine nV.iconst (x := 1) dX8_init_170 rfl ?_
  refine nV.put (C := RX8) (T := TX8) (N := 30) (ci := 8) (k := 0) (q0 := 0) (ty := tyX8 0) (ws' := [(h0, .inr (8, [.int 1, .ref q7, .ref q15, .int 0, .ref q23, .ref q31, .int 0, .ref q38, .ref q45, .ref q52, .int 0, .ref q60, .ref q68, .int 2, .int 4, .ref q85, .ref q92, .ref q100, .ref q108, .ref q115, .ref q122, .ref q129, .int 0, .long 0, .long 0, .int 0, .ref q138, .ref q147, .ref q156, .ref q164])), (q7, .inl (G.2.2.1, 8, .inl (fun _ => 0))), (q15, .inl (G.2.2.1, 8, .inl (fun _ => 0))), (q23, .inl (G.2.2.1, 64, .inl (fun _ => 0))), (q31, .inl (G.2.2.1, 16, .inl (fun _ => 0))), (q38, .inl (G.2.2.1, 4, .inl (fun _ => 0))), (q45, .inl (G.2.2.1, 4, .inl (fun _ => 0))), (q52, .inl (G.2.2.1, 4, .inl (fun _ => 0))), (q60, .inl (G.2.2.1, 8, .inl (fun _ => 0))), (q68, .inl (G.2.2.1, 8, .inl (fun _ => 0))), (q85, .inl (G.2.2.2, 2, .inr (.inl (fun _ => 0)))), (q92, .inl (G.2.2.2, 2, .inr (.inl (fun _ => 0)))), (q100, .inl (G.2.2.2, 8, .inr (.inl (fun _ => 0)))), (q108, .inl (G.2.2.2, 8, .inr (.inl (fun _ => 0)))), (q115, .inl (G.2.2.2, 5, .inr (.inl (fun _ => 0)))), (q122, .inl (G.2.2.2, 5, .inr (.inl (fun _ => 0)))), (q129, .inl (G.2.2.1, 3, .inl (fun _ => 0))), (q138, .inl (G.2.2.1, 4000, .inl (fun _ => 0))), (q147, .inl (G.2.2.1, 4000, .inl (fun _ => 0))), (q156, .inl (G.2.2.2, 4000, .inr (.inl (fun _ => 0)))), (q164, .inl (G.2.2.1, 16, .inl (fun _ => 0)))]) dX8_init_171 inT8 tyX8 tyX8_ok nmX8 rfl rfl (by decide) wF8_78 rfl (tyX8_ok 0 (by decide)) rfl rfl (Nat.le_of_ble_eq_true rfl) rfl ?_
  refine nV.aload dX8_init_174 (List.mem_of_getElem? (i := 0) rfl) ?_
  refine nV.get (C := RX8) (T := TX8) (N := 30) (ci := 8) (k := 1) (q0 := 0) (v := .ref q7) dX8_init_175 inT8 rfl rfl (by decide) wF8_7 rfl ?_
  refine nV.iconst (x := 0) dX8_init_178 rfl ?_
  refine nV.bipush (x := 80) dX8_init_179 (by decide) (by decide) rfl ?_
  refine nV.iast (q0 := 1) (ws' := [(h0, .inr (8, [.int 1, .ref q7, .ref q15, .int 0, .ref q23, .ref q31, .int 0, .ref q38, .ref q45, .ref q52, .int 0, .ref q60, .ref q68, .int 2, .int 4, .ref q85, .ref q92, .ref q100, .ref q108, .ref q115, .ref q122, .ref q129, .int 0, .long 0, .long 0, .int 0, .ref q138, .ref q147, .ref q156, .ref q164])), (q7, .inl (G.2.2.1, 8, .inl (upd (fun _ => 0) (0 : Int32).toNatClampNeg 80))), (q15, .inl (G.2.2.1, 8, .inl (fun _ => 0))), (q23, .inl (G.2.2.1, 64, .inl (fun _ => 0))), (q31, .inl (G.2.2.1, 16, .inl (fun _ => 0))), (q38, .inl (G.2.2.1, 4, .inl (fun _ => 0))), (q45, .inl (G.2.2.1, 4, .inl (fun _ => 0))), (q52, .inl (G.2.2.1, 4, .inl (fun _ => 0))), (q60, .inl (G.2.2.1, 8, .inl (fun _ => 0))), (q68, .inl (G.2.2.1, 8, .inl (fun _ => 0))), (q85, .inl (G.2.2.2, 2, .inr (.inl (fun _ => 0)))), (q92, .inl (G.2.2.2, 2, .inr (.inl (fun _ => 0)))), (q100, .inl (G.2.2.2, 8, .inr (.inl (fun _ => 0)))), (q108, .inl (G.2.2.2, 8, .inr (.inl (fun _ => 0)))), (q115, .inl (G.2.2.2, 5, .inr (.inl (fun _ => 0)))), (q122, .inl (G.2.2.2, 5, .inr (.inl (fun _ => 0)))), (q129, .inl (G.2.2.1, 3, .inl (fun _ => 0))), (q138, .inl (G.2.2.1, 4000, .inl (fun _ => 0))), (q147, .inl (G.2.2.1, 4000, .inl (fun _ => 0))), (q156, .inl (G.2.2.2, 4000, .inr (.inl (fun _ => 0)))), (q164, .inl (G.2.2.1, 16, .inl (fun _ => 0)))]) dX8_init_181 rfl (by unfold vp_in; decide) rfl ?_
  refine nV.aload dX8_init_182 (List.mem_of_getElem? (i := 0) rfl) ?_
  refine nV.get (C := RX8) (T := TX8) (N := 30) (ci := 8) (k := 2) (q0 := 0) (v := .ref q15) dX8_init_183 inT8 rfl rfl (by decide) wF8_13 rfl ?_
  refine nV.iconst (x := 0) dX8_init_186 rfl ?_
  refine nV.iconst (x := 0) dX8_init_187 rfl ?_
  refine nV.iast (q0 := 2) (ws' := [(h0, .inr (8, [.int 1, .ref q7, .ref q15, .int 0, .ref q23, .ref q31, .int 0, .ref q38, .ref q45, .ref q52, .int 0, .ref q60, .ref q68, .int 2, .int 4, .ref q85, .ref q92, .ref q100, .ref q108, .ref q115, .ref q122, .ref q129, .int 0, .long 0, .long 0, .int 0, .ref q138, .ref q147, .ref q156, .ref q164])), (q7, .inl (G.2.2.1, 8, .inl (upd (fun _ => 0) (0 : Int32).toNatClampNeg 80))), (q15, .inl (G.2.2.1, 8, .inl (upd (fun _ => 0) (0 : Int32).toNatClampNeg 0))), (q23, .inl (G.2.2.1, 64, .inl (fun _ => 0))), (q31, .inl (G.2.2.1, 16, .inl (fun _ => 0))), (q38, .inl (G.2.2.1, 4, .inl (fun _ => 0))), (q45, .inl (G.2.2.1, 4, .inl (fun _ => 0))), (q52, .inl (G.2.2.1, 4, .inl (fun _ => 0))), (q60, .inl (G.2.2.1, 8, .inl (fun _ => 0))), (q68, .inl (G.2.2.1, 8, .inl (fun _ => 0))), (q85, .inl (G.2.2.2, 2, .inr (.inl (fun _ => 0)))), (q92, .inl (G.2.2.2, 2, .inr (.inl (fun _ => 0)))), (q100, .inl (G.2.2.2, 8, .inr (.inl (fun _ => 0)))), (q108, .inl (G.2.2.2, 8, .inr (.inl (fun _ => 0)))), (q115, .inl (G.2.2.2, 5, .inr (.inl (fun _ => 0)))), (q122, .inl (G.2.2.2, 5, .inr (.inl (fun _ => 0)))), (q129, .inl (G.2.2.1, 3, .inl (fun _ => 0))), (q138, .inl (G.2.2.1, 4000, .inl (fun _ => 0))), (q147, .inl (G.2.2.1, 4000, .inl (fun _ => 0))), (q156, .inl (G.2.2.2, 4000, .inr (.inl (fun _ => 0)))), (q164, .inl (G.2.2.1, 16, .inl (fun _ => 0)))]) dX8_init_188 rfl (by unfold vp_in; decide) rfl ?_
  exact nV.ret rfl dX8_init_189 rfl rfl (fun i => [q7, q15, q23, q31, q38, q45, q52, q60, q68, q85, q92, q100, q108, q115, q122, q129, q138, q147, q156, q164].getD i 0) rfl
def mX7_init : fM := (yX7_init, cX7_init, 1, none, (fun _ => none), fun _ => none)
set_option maxRecDepth 100000 in
theorem kX7_init : fMok mX7_init 0 := ⟨fTB_at 65 rfl rfl, fTB_at 50 rfl rfl, by decide +kernel, by decide +kernel, by decide +kernel⟩
set_option maxRecDepth 100000 in
theorem jX7_init : Cond.instanceMethod yX7_init ∈ fTB := fTB_at 64 rfl rfl
theorem dX7_init_0 : decode cX7_init 0 = .ok (.aload_n 0, 1) := by decide +kernel
set_option maxRecDepth 100000 in
theorem wO7 : Cond.methodLink RX7 1 objectInit ∈ fTB := fTB_at 66 rfl rfl
theorem dX7_init_1 : decode cX7_init 1 = .ok (.invokespecial 1, 3) := by decide +kernel
theorem dX7_init_4 : decode cX7_init 4 = .ok (.aload_n 0, 1) := by decide +kernel
set_option maxRecDepth 100000 in
theorem wCl7_7 : Cond.classLink RX7 7 RX4 ∈ fTB := fTB_at 69 rfl rfl
theorem dX7_init_5 : decode cX7_init 5 = .ok (.new 7, 3) := by decide +kernel
theorem dX7_init_8 : decode cX7_init 8 = .ok (.dup, 1) := by decide +kernel
set_option maxRecDepth 100000 in
theorem wL7_9 : Cond.methodLink RX7 9 yX4_init ∈ fTB := fTB_at 71 rfl rfl
theorem dX7_init_9 : decode cX7_init 9 = .ok (.invokespecial 9, 3) := by decide +kernel
set_option maxRecDepth 100000 in
theorem wF7_10 : Cond.fieldLink RX7 10 (TX7 0).1 (TX7 0).2.1 (TX7 0).2.2.1 ∈ fTB := fTB_at 285 rfl rfl
theorem dX7_init_12 : decode cX7_init 12 = .ok (.putfield 10, 3) := by decide +kernel
theorem dX7_init_15 : decode cX7_init 15 = .ok (.aload_n 0, 1) := by decide +kernel
set_option maxRecDepth 100000 in
theorem wCl7_16 : Cond.classLink RX7 16 RX6 ∈ fTB := fTB_at 89 rfl rfl
theorem dX7_init_16 : decode cX7_init 16 = .ok (.new 16, 3) := by decide +kernel
theorem dX7_init_19 : decode cX7_init 19 = .ok (.dup, 1) := by decide +kernel
theorem dX7_init_20 : decode cX7_init 20 = .ok (.invokespecial 18, 3) := by decide +kernel
set_option maxRecDepth 100000 in
theorem wF7_19 : Cond.fieldLink RX7 19 (TX7 1).1 (TX7 1).2.1 (TX7 1).2.2.1 ∈ fTB := fTB_at 286 rfl rfl
theorem dX7_init_23 : decode cX7_init 23 = .ok (.putfield 19, 3) := by decide +kernel
theorem dX7_init_26 : decode cX7_init 26 = .ok (.aload_n 0, 1) := by decide +kernel
set_option maxRecDepth 100000 in
theorem wCl7_23 : Cond.classLink RX7 23 RX2 ∈ fTB := fTB_at 126 rfl rfl
theorem dX7_init_27 : decode cX7_init 27 = .ok (.new 23, 3) := by decide +kernel
theorem dX7_init_30 : decode cX7_init 30 = .ok (.dup, 1) := by decide +kernel
theorem dX7_init_31 : decode cX7_init 31 = .ok (.iconst 4, 1) := by decide +kernel
set_option maxRecDepth 100000 in
theorem wL7_25 : Cond.methodLink RX7 25 yX2_init ∈ fTB := fTB_at 128 rfl rfl
theorem dX7_init_32 : decode cX7_init 32 = .ok (.invokespecial 25, 3) := by decide +kernel
set_option maxRecDepth 100000 in
theorem wF7_28 : Cond.fieldLink RX7 28 (TX7 2).1 (TX7 2).2.1 (TX7 2).2.2.1 ∈ fTB := fTB_at 287 rfl rfl
theorem dX7_init_35 : decode cX7_init 35 = .ok (.putfield 28, 3) := by decide +kernel
theorem dX7_init_38 : decode cX7_init 38 = .ok (.aload_n 0, 1) := by decide +kernel
theorem dX7_init_39 : decode cX7_init 39 = .ok (.new 23, 3) := by decide +kernel
theorem dX7_init_42 : decode cX7_init 42 = .ok (.dup, 1) := by decide +kernel
theorem dX7_init_43 : decode cX7_init 43 = .ok (.bipush 8, 2) := by decide +kernel
theorem dX7_init_45 : decode cX7_init 45 = .ok (.invokespecial 25, 3) := by decide +kernel
set_option maxRecDepth 100000 in
theorem wF7_32 : Cond.fieldLink RX7 32 (TX7 3).1 (TX7 3).2.1 (TX7 3).2.2.1 ∈ fTB := fTB_at 288 rfl rfl
theorem dX7_init_48 : decode cX7_init 48 = .ok (.putfield 32, 3) := by decide +kernel
theorem dX7_init_51 : decode cX7_init 51 = .ok (.aload_n 0, 1) := by decide +kernel
theorem dX7_init_52 : decode cX7_init 52 = .ok (.iconst 4, 1) := by decide +kernel
theorem dX7_init_53 : decode cX7_init 53 = .ok (.newarray .int, 2) := by decide +kernel
set_option maxRecDepth 100000 in
theorem wF7_35 : Cond.fieldLink RX7 35 (TX7 4).1 (TX7 4).2.1 (TX7 4).2.2.1 ∈ fTB := fTB_at 289 rfl rfl
theorem dX7_init_55 : decode cX7_init 55 = .ok (.putfield 35, 3) := by decide +kernel
theorem dX7_init_58 : decode cX7_init 58 = .ok (.aload_n 0, 1) := by decide +kernel
set_option maxRecDepth 100000 in
theorem wCl7_39 : Cond.classLink RX7 39 RX3 ∈ fTB := fTB_at 148 rfl rfl
theorem dX7_init_59 : decode cX7_init 59 = .ok (.new 39, 3) := by decide +kernel
theorem dX7_init_62 : decode cX7_init 62 = .ok (.dup, 1) := by decide +kernel
theorem dX7_init_63 : decode cX7_init 63 = .ok (.invokespecial 41, 3) := by decide +kernel
set_option maxRecDepth 100000 in
theorem wF7_42 : Cond.fieldLink RX7 42 (TX7 5).1 (TX7 5).2.1 (TX7 5).2.2.1 ∈ fTB := fTB_at 290 rfl rfl
theorem dX7_init_66 : decode cX7_init 66 = .ok (.putfield 42, 3) := by decide +kernel
theorem dX7_init_69 : decode cX7_init 69 = .ok (.aload_n 0, 1) := by decide +kernel
set_option maxRecDepth 100000 in
theorem wCl7_46 : Cond.classLink RX7 46 RX1 ∈ fTB := fTB_at 184 rfl rfl
theorem dX7_init_70 : decode cX7_init 70 = .ok (.new 46, 3) := by decide +kernel
theorem dX7_init_73 : decode cX7_init 73 = .ok (.dup, 1) := by decide +kernel
theorem dX7_init_74 : decode cX7_init 74 = .ok (.invokespecial 48, 3) := by decide +kernel
set_option maxRecDepth 100000 in
theorem wF7_49 : Cond.fieldLink RX7 49 (TX7 6).1 (TX7 6).2.1 (TX7 6).2.2.1 ∈ fTB := fTB_at 291 rfl rfl
theorem dX7_init_77 : decode cX7_init 77 = .ok (.putfield 49, 3) := by decide +kernel
theorem dX7_init_80 : decode cX7_init 80 = .ok (.aload_n 0, 1) := by decide +kernel
set_option maxRecDepth 100000 in
theorem wCl7_53 : Cond.classLink RX7 53 RX5 ∈ fTB := fTB_at 207 rfl rfl
theorem dX7_init_81 : decode cX7_init 81 = .ok (.new 53, 3) := by decide +kernel
theorem dX7_init_84 : decode cX7_init 84 = .ok (.dup, 1) := by decide +kernel
theorem dX7_init_85 : decode cX7_init 85 = .ok (.invokespecial 55, 3) := by decide +kernel
set_option maxRecDepth 100000 in
theorem wF7_56 : Cond.fieldLink RX7 56 (TX7 7).1 (TX7 7).2.1 (TX7 7).2.2.1 ∈ fTB := fTB_at 292 rfl rfl
theorem dX7_init_88 : decode cX7_init 88 = .ok (.putfield 56, 3) := by decide +kernel
theorem dX7_init_91 : decode cX7_init 91 = .ok (.aload_n 0, 1) := by decide +kernel
set_option maxRecDepth 100000 in
theorem wCl7_60 : Cond.classLink RX7 60 RX0 ∈ fTB := fTB_at 226 rfl rfl
theorem dX7_init_92 : decode cX7_init 92 = .ok (.new 60, 3) := by decide +kernel
theorem dX7_init_95 : decode cX7_init 95 = .ok (.dup, 1) := by decide +kernel
theorem dX7_init_96 : decode cX7_init 96 = .ok (.invokespecial 62, 3) := by decide +kernel
set_option maxRecDepth 100000 in
theorem wF7_63 : Cond.fieldLink RX7 63 (TX7 8).1 (TX7 8).2.1 (TX7 8).2.2.1 ∈ fTB := fTB_at 293 rfl rfl
theorem dX7_init_99 : decode cX7_init 99 = .ok (.putfield 63, 3) := by decide +kernel
theorem dX7_init_102 : decode cX7_init 102 = .ok (.aload_n 0, 1) := by decide +kernel
theorem dX7_init_103 : decode cX7_init 103 = .ok (.iconst 2, 1) := by decide +kernel
set_option maxRecDepth 100000 in
theorem wF7_67 : Cond.fieldLink RX7 67 (TX7 9).1 (TX7 9).2.1 (TX7 9).2.2.1 ∈ fTB := fTB_at 294 rfl rfl
theorem dX7_init_104 : decode cX7_init 104 = .ok (.putfield 67, 3) := by decide +kernel
theorem dX7_init_107 : decode cX7_init 107 = .ok (.aload_n 0, 1) := by decide +kernel
theorem dX7_init_108 : decode cX7_init 108 = .ok (.iconst 4, 1) := by decide +kernel
set_option maxRecDepth 100000 in
theorem wF7_71 : Cond.fieldLink RX7 71 (TX7 10).1 (TX7 10).2.1 (TX7 10).2.2.1 ∈ fTB := fTB_at 295 rfl rfl
theorem dX7_init_109 : decode cX7_init 109 = .ok (.putfield 71, 3) := by decide +kernel
theorem dX7_init_112 : decode cX7_init 112 = .ok (.return_, 1) := by decide +kernel
def cfX7_init (G : nG) (h0 : Nat) (u : Nat → Nat) : va_W := [(h0, .inr (7, [.ref (u 0), .ref (u 3), .ref (u 10), .ref (u 13), .ref (u 16), .ref (u 17), .ref (u 23), .ref (u 26), .ref (u 27), .int 2, .int 4])), ((u 0), .inr (4, [.ref (u 1), .ref (u 2), .int 1])), ((u 1), .inl (G.2.2.1, 8, .inl (upd (fun _ => 0) (0 : Int32).toNatClampNeg 80))), ((u 2), .inl (G.2.2.1, 8, .inl (fun _ => 0))), ((u 3), .inr (6, [.ref (u 4), .ref (u 5), .ref (u 6), .ref (u 7), .ref (u 8), .ref (u 9), .int 0])), ((u 4), .inl (G.2.2.1, 64, .inl (fun _ => 0))), ((u 5), .inl (G.2.2.1, 16, .inl (fun _ => 0))), ((u 6), .inl (G.2.2.1, 16, .inl (fun _ => 0))), ((u 7), .inl (G.2.2.1, 16, .inl (fun _ => 0))), ((u 8), .inl (G.2.2.1, 16, .inl (fun _ => 0))), ((u 9), .inl (G.2.2.1, 16, .inl (fun _ => 0))), ((u 10), .inr (2, [.ref (u 11), .ref (u 12), .int 0])), ((u 11), .inl (G.2.2.1, 4, .inl (fun _ => 0))), ((u 12), .inl (G.2.2.1, 4, .inl (fun _ => 0))), ((u 13), .inr (2, [.ref (u 14), .ref (u 15), .int 0])), ((u 14), .inl (G.2.2.1, 8, .inl (fun _ => 0))), ((u 15), .inl (G.2.2.1, 8, .inl (fun _ => 0))), ((u 16), .inl (G.2.2.1, 4, .inl (fun _ => 0))), ((u 17), .inr (3, [.ref (u 18), .ref (u 19), .ref (u 20), .ref (u 21), .ref (u 22), .int 0, .int 0, .int 0])), ((u 18), .inl (G.2.2.1, 3, .inl (fun _ => 0))), ((u 19), .inl (G.2.2.1, 8, .inl (fun _ => 0))), ((u 20), .inl (G.2.2.1, 8, .inl (fun _ => 0))), ((u 21), .inl (G.2.2.2, 5, .inr (.inl (fun _ => 0)))), ((u 22), .inl (G.2.2.2, 5, .inr (.inl (fun _ => 0)))), ((u 23), .inr (1, [.ref (u 24), .ref (u 25), .int 0, .int (-1)])), ((u 24), .inl (G.2.2.1, 3857, .inl (fun _ => 0))), ((u 25), .inl (G.2.2.2, 3857, .inr (.inl (fun _ => 0)))), ((u 26), .inr (5, [.long 0, .long 0, .long 0])), ((u 27), .inr (0, [.ref (u 28), .ref (u 29), .ref (u 30), .ref (u 31), .ref (u 32), .ref (u 33), .int 0, .int 0, .int 0, .int 0, .int (-1), .int 0, .int 0])), ((u 28), .inl (G.2.2.1, 4, .inl (fun _ => 0))), ((u 29), .inl (G.2.2.1, 16, .inl (fun _ => 0))), ((u 30), .inl (G.2.2.1, 3857, .inl (fun _ => 0))), ((u 31), .inl (G.2.2.1, 6, .inl (fun _ => 0))), ((u 32), .inl (G.2.2.2, 5, .inr (.inl (fun _ => 0)))), ((u 33), .inl (G.2.2.2, 5, .inr (.inl (fun _ => 0))))]
set_option maxRecDepth 100000 in
theorem crX7_init {G : nG} : nCtr G mX7_init { frames := 8, cells := 34, slots := 11868, locals := 600 } nest7 7 [.null, .null, .null, .null, .null, .null, .null, .null, .null, .int 0, .int 0] [] (cfX7_init G) := by
  refine nCtr.of (by decide +kernel) rfl (fun _ => Nat.le_of_ble_eq_true rfl) (fun h0 => ?_)
  show nV G mX7_init _ 0 0 0 [(0, .ref h0)] [] [(h0, .inr (7, [.null, .null, .null, .null, .null, .null, .null, .null, .null, .int 0, .int 0]))]
  refine nV.aload dX7_init_0 (List.mem_of_getElem? (i := 0) rfl) ?_
  refine nV.objInit dX7_init_1 wO7 wOi wOc (Nat.le_of_ble_eq_true rfl) (Nat.le_of_ble_eq_true rfl) ?_
  refine nV.aload dX7_init_4 (List.mem_of_getElem? (i := 0) rfl) ?_
  refine nV.new (C := RX4) (T := TX4) (N := 3) (ci := 4) (fs := [.null, .null, .int 0]) dX7_init_5 inT4 tyX4 tyX4_ok wCl7_7 wIs4 wIn4 rfl (fun j hj => by rcases (show j = 0 ∨ j = 1 ∨ j = 2 by omega) with rfl | rfl | rfl <;> rfl) (Nat.le_of_ble_eq_true rfl) (Nat.le_of_ble_eq_true rfl) (fun q5 => ?_)
  refine nV.to (cells' := 1) (slots' := 3) (ws' := [(h0, .inr (7, [.null, .null, .null, .null, .null, .null, .null, .null, .null, .int 0, .int 0])), (q5, .inr (4, [.null, .null, .int 0]))]) rfl rfl rfl ?_
  refine nV.dup dX7_init_8 ?_
  refine nV.call (M2 := mX4_init) (rm := { frames := 4, cells := 2, slots := 16, locals := 200 }) (wr := [(h0, .inr (7, [.null, .null, .null, .null, .null, .null, .null, .null, .null, .int 0, .int 0]))]) (i := 1) (av := []) (rest := [.ref q5, .ref h0]) [0] kX4_init jX4_init rfl rfl dX7_init_9 wL7_9 rfl rfl (Nat.le_of_ble_eq_true rfl) ⟨(Nat.le_of_ble_eq_true rfl), (Nat.le_of_ble_eq_true rfl)⟩ ⟨(Nat.le_of_ble_eq_true rfl), (Nat.le_of_ble_eq_true rfl)⟩ crX4_init (fun _ _ _ _ h => h) (fun _ _ _ _ => trivial) rfl rfl rfl (by decide) (fun u9 => ?_)
  refine nV.to (cells' := 3) (slots' := 19) (ws' := [(h0, .inr (7, [.null, .null, .null, .null, .null, .null, .null, .null, .null, .int 0, .int 0])), (q5, .inr (4, [.ref (u9 0), .ref (u9 1), .int 1])), ((u9 0), .inl (G.2.2.1, 8, .inl (upd (fun _ => 0) (0 : Int32).toNatClampNeg 80))), ((u9 1), .inl (G.2.2.1, 8, .inl (fun _ => 0)))]) rfl rfl rfl ?_
  refine nV.putF (C := RX7) (T := TX7) (N := 11) (ci := 7) (k := 0) (q0 := 0) (ty := tyX7 0) (ws' := [(h0, .inr (7, [.ref q5, .null, .null, .null, .null, .null, .null, .null, .null, .int 0, .int 0])), (q5, .inr (4, [.ref (u9 0), .ref (u9 1), .int 1])), ((u9 0), .inl (G.2.2.1, 8, .inl (upd (fun _ => 0) (0 : Int32).toNatClampNeg 80))), ((u9 1), .inl (G.2.2.1, 8, .inl (fun _ => 0)))]) dX7_init_12 inT7 tyX7 tyX7_ok nmX7 rfl rfl (by decide) wF7_10 rfl (fun _ _ h => h) rfl (tyX7_ok 0 (by decide)) rfl rfl (Nat.le_of_ble_eq_true rfl) rfl ?_
  refine nV.aload dX7_init_15 (List.mem_of_getElem? (i := 0) rfl) ?_
  refine nV.new (C := RX6) (T := TX6) (N := 7) (ci := 6) (fs := [.null, .null, .null, .null, .null, .null, .int 0]) dX7_init_16 inT6 tyX6 tyX6_ok wCl7_16 wIs6 wIn6 rfl (fun j hj => by rcases (show j = 0 ∨ j = 1 ∨ j = 2 ∨ j = 3 ∨ j = 4 ∨ j = 5 ∨ j = 6 by omega) with rfl | rfl | rfl | rfl | rfl | rfl | rfl <;> rfl) (Nat.le_of_ble_eq_true rfl) (Nat.le_of_ble_eq_true rfl) (fun q16 => ?_)
  refine nV.to (cells' := 4) (slots' := 26) (ws' := [(h0, .inr (7, [.ref q5, .null, .null, .null, .null, .null, .null, .null, .null, .int 0, .int 0])), (q5, .inr (4, [.ref (u9 0), .ref (u9 1), .int 1])), ((u9 0), .inl (G.2.2.1, 8, .inl (upd (fun _ => 0) (0 : Int32).toNatClampNeg 80))), ((u9 1), .inl (G.2.2.1, 8, .inl (fun _ => 0))), (q16, .inr (6, [.null, .null, .null, .null, .null, .null, .int 0]))]) rfl rfl rfl ?_
  refine nV.dup dX7_init_19 ?_
  refine nV.callN (M2 := mX6_init) (rm := { frames := 4, cells := 6, slots := 144, locals := 200 }) (wr := [(h0, .inr (7, [.ref q5, .null, .null, .null, .null, .null, .null, .null, .null, .int 0, .int 0])), (q5, .inr (4, [.ref (u9 0), .ref (u9 1), .int 1])), ((u9 0), .inl (G.2.2.1, 8, .inl (upd (fun _ => 0) (0 : Int32).toNatClampNeg 80))), ((u9 1), .inl (G.2.2.1, 8, .inl (fun _ => 0)))]) (i := 4) (av := []) (rest := [.ref q16, .ref h0]) (host := "HallHeard") [0, 1, 2, 3] kX6_init jX6_init rfl rfl dX7_init_20 (fun s h => h.1) rfl rfl (Nat.le_of_ble_eq_true rfl) ⟨(Nat.le_of_ble_eq_true rfl), (Nat.le_of_ble_eq_true rfl)⟩ ⟨(Nat.le_of_ble_eq_true rfl), (Nat.le_of_ble_eq_true rfl)⟩ crX6_init (fun _ _ _ _ h => h) (fun _ _ _ _ => trivial) rfl rfl rfl (by decide) (fun u20 => ?_)
  refine nV.to (cells' := 10) (slots' := 170) (ws' := [(h0, .inr (7, [.ref q5, .null, .null, .null, .null, .null, .null, .null, .null, .int 0, .int 0])), (q5, .inr (4, [.ref (u9 0), .ref (u9 1), .int 1])), ((u9 0), .inl (G.2.2.1, 8, .inl (upd (fun _ => 0) (0 : Int32).toNatClampNeg 80))), ((u9 1), .inl (G.2.2.1, 8, .inl (fun _ => 0))), (q16, .inr (6, [.ref (u20 0), .ref (u20 1), .ref (u20 2), .ref (u20 3), .ref (u20 4), .ref (u20 5), .int 0])), ((u20 0), .inl (G.2.2.1, 64, .inl (fun _ => 0))), ((u20 1), .inl (G.2.2.1, 16, .inl (fun _ => 0))), ((u20 2), .inl (G.2.2.1, 16, .inl (fun _ => 0))), ((u20 3), .inl (G.2.2.1, 16, .inl (fun _ => 0))), ((u20 4), .inl (G.2.2.1, 16, .inl (fun _ => 0))), ((u20 5), .inl (G.2.2.1, 16, .inl (fun _ => 0)))]) rfl rfl rfl ?_
  refine nV.putF (C := RX7) (T := TX7) (N := 11) (ci := 7) (k := 1) (q0 := 0) (ty := tyX7 1) (ws' := [(h0, .inr (7, [.ref q5, .ref q16, .null, .null, .null, .null, .null, .null, .null, .int 0, .int 0])), (q5, .inr (4, [.ref (u9 0), .ref (u9 1), .int 1])), ((u9 0), .inl (G.2.2.1, 8, .inl (upd (fun _ => 0) (0 : Int32).toNatClampNeg 80))), ((u9 1), .inl (G.2.2.1, 8, .inl (fun _ => 0))), (q16, .inr (6, [.ref (u20 0), .ref (u20 1), .ref (u20 2), .ref (u20 3), .ref (u20 4), .ref (u20 5), .int 0])), ((u20 0), .inl (G.2.2.1, 64, .inl (fun _ => 0))), ((u20 1), .inl (G.2.2.1, 16, .inl (fun _ => 0))), ((u20 2), .inl (G.2.2.1, 16, .inl (fun _ => 0))), ((u20 3), .inl (G.2.2.1, 16, .inl (fun _ => 0))), ((u20 4), .inl (G.2.2.1, 16, .inl (fun _ => 0))), ((u20 5), .inl (G.2.2.1, 16, .inl (fun _ => 0)))]) dX7_init_23 inT7 tyX7 tyX7_ok nmX7 rfl rfl (by decide) wF7_19 rfl (fun _ _ h => h) rfl (tyX7_ok 1 (by decide)) rfl rfl (Nat.le_of_ble_eq_true rfl) rfl ?_
  refine nV.aload dX7_init_26 (List.mem_of_getElem? (i := 0) rfl) ?_
  refine nV.new (C := RX2) (T := TX2) (N := 3) (ci := 2) (fs := [.null, .null, .int 0]) dX7_init_27 inT2 tyX2 tyX2_ok wCl7_23 wIs2 wIn2 rfl (fun j hj => by rcases (show j = 0 ∨ j = 1 ∨ j = 2 by omega) with rfl | rfl | rfl <;> rfl) (Nat.le_of_ble_eq_true rfl) (Nat.le_of_ble_eq_true rfl) (fun q27 => ?_)
  refine nV.to (cells' := 11) (slots' := 173) (ws' := [(h0, .inr (7, [.ref q5, .ref q16, .null, .null, .null, .null, .null, .null, .null, .int 0, .int 0])), (q5, .inr (4, [.ref (u9 0), .ref (u9 1), .int 1])), ((u9 0), .inl (G.2.2.1, 8, .inl (upd (fun _ => 0) (0 : Int32).toNatClampNeg 80))), ((u9 1), .inl (G.2.2.1, 8, .inl (fun _ => 0))), (q16, .inr (6, [.ref (u20 0), .ref (u20 1), .ref (u20 2), .ref (u20 3), .ref (u20 4), .ref (u20 5), .int 0])), ((u20 0), .inl (G.2.2.1, 64, .inl (fun _ => 0))), ((u20 1), .inl (G.2.2.1, 16, .inl (fun _ => 0))), ((u20 2), .inl (G.2.2.1, 16, .inl (fun _ => 0))), ((u20 3), .inl (G.2.2.1, 16, .inl (fun _ => 0))), ((u20 4), .inl (G.2.2.1, 16, .inl (fun _ => 0))), ((u20 5), .inl (G.2.2.1, 16, .inl (fun _ => 0))), (q27, .inr (2, [.null, .null, .int 0]))]) rfl rfl rfl ?_
  refine nV.dup dX7_init_30 ?_
  refine nV.iconst (x := 4) dX7_init_31 rfl ?_
  refine nV.call (M2 := mX2_init) (rm := { frames := 4, cells := 2, slots := 8, locals := 200 }) (wr := [(h0, .inr (7, [.ref q5, .ref q16, .null, .null, .null, .null, .null, .null, .null, .int 0, .int 0])), (q5, .inr (4, [.ref (u9 0), .ref (u9 1), .int 1])), ((u9 0), .inl (G.2.2.1, 8, .inl (upd (fun _ => 0) (0 : Int32).toNatClampNeg 80))), ((u9 1), .inl (G.2.2.1, 8, .inl (fun _ => 0))), (q16, .inr (6, [.ref (u20 0), .ref (u20 1), .ref (u20 2), .ref (u20 3), .ref (u20 4), .ref (u20 5), .int 0])), ((u20 0), .inl (G.2.2.1, 64, .inl (fun _ => 0))), ((u20 1), .inl (G.2.2.1, 16, .inl (fun _ => 0))), ((u20 2), .inl (G.2.2.1, 16, .inl (fun _ => 0))), ((u20 3), .inl (G.2.2.1, 16, .inl (fun _ => 0))), ((u20 4), .inl (G.2.2.1, 16, .inl (fun _ => 0))), ((u20 5), .inl (G.2.2.1, 16, .inl (fun _ => 0)))]) (i := 11) (av := [.int 4]) (rest := [.ref q27, .ref h0]) [0, 1, 2, 3, 4, 5, 6, 7, 8, 9, 10] kX2_init jX2_init rfl rfl dX7_init_32 wL7_25 rfl rfl (Nat.le_of_ble_eq_true rfl) ⟨(Nat.le_of_ble_eq_true rfl), (Nat.le_of_ble_eq_true rfl)⟩ ⟨(Nat.le_of_ble_eq_true rfl), (Nat.le_of_ble_eq_true rfl)⟩ crX2_init_4 (fun _ _ _ _ h => h) (fun _ _ _ _ => trivial) rfl rfl rfl (by decide) (fun u32 => ?_)
  refine nV.to (cells' := 13) (slots' := 181) (ws' := [(h0, .inr (7, [.ref q5, .ref q16, .null, .null, .null, .null, .null, .null, .null, .int 0, .int 0])), (q5, .inr (4, [.ref (u9 0), .ref (u9 1), .int 1])), ((u9 0), .inl (G.2.2.1, 8, .inl (upd (fun _ => 0) (0 : Int32).toNatClampNeg 80))), ((u9 1), .inl (G.2.2.1, 8, .inl (fun _ => 0))), (q16, .inr (6, [.ref (u20 0), .ref (u20 1), .ref (u20 2), .ref (u20 3), .ref (u20 4), .ref (u20 5), .int 0])), ((u20 0), .inl (G.2.2.1, 64, .inl (fun _ => 0))), ((u20 1), .inl (G.2.2.1, 16, .inl (fun _ => 0))), ((u20 2), .inl (G.2.2.1, 16, .inl (fun _ => 0))), ((u20 3), .inl (G.2.2.1, 16, .inl (fun _ => 0))), ((u20 4), .inl (G.2.2.1, 16, .inl (fun _ => 0))), ((u20 5), .inl (G.2.2.1, 16, .inl (fun _ => 0))), (q27, .inr (2, [.ref (u32 0), .ref (u32 1), .int 0])), ((u32 0), .inl (G.2.2.1, 4, .inl (fun _ => 0))), ((u32 1), .inl (G.2.2.1, 4, .inl (fun _ => 0)))]) rfl rfl rfl ?_
  refine nV.putF (C := RX7) (T := TX7) (N := 11) (ci := 7) (k := 2) (q0 := 0) (ty := tyX7 2) (ws' := [(h0, .inr (7, [.ref q5, .ref q16, .ref q27, .null, .null, .null, .null, .null, .null, .int 0, .int 0])), (q5, .inr (4, [.ref (u9 0), .ref (u9 1), .int 1])), ((u9 0), .inl (G.2.2.1, 8, .inl (upd (fun _ => 0) (0 : Int32).toNatClampNeg 80))), ((u9 1), .inl (G.2.2.1, 8, .inl (fun _ => 0))), (q16, .inr (6, [.ref (u20 0), .ref (u20 1), .ref (u20 2), .ref (u20 3), .ref (u20 4), .ref (u20 5), .int 0])), ((u20 0), .inl (G.2.2.1, 64, .inl (fun _ => 0))), ((u20 1), .inl (G.2.2.1, 16, .inl (fun _ => 0))), ((u20 2), .inl (G.2.2.1, 16, .inl (fun _ => 0))), ((u20 3), .inl (G.2.2.1, 16, .inl (fun _ => 0))), ((u20 4), .inl (G.2.2.1, 16, .inl (fun _ => 0))), ((u20 5), .inl (G.2.2.1, 16, .inl (fun _ => 0))), (q27, .inr (2, [.ref (u32 0), .ref (u32 1), .int 0])), ((u32 0), .inl (G.2.2.1, 4, .inl (fun _ => 0))), ((u32 1), .inl (G.2.2.1, 4, .inl (fun _ => 0)))]) dX7_init_35 inT7 tyX7 tyX7_ok nmX7 rfl rfl (by decide) wF7_28 rfl (fun _ _ h => h) rfl (tyX7_ok 2 (by decide)) rfl rfl (Nat.le_of_ble_eq_true rfl) rfl ?_
  refine nV.aload dX7_init_38 (List.mem_of_getElem? (i := 0) rfl) ?_
  refine nV.new (C := RX2) (T := TX2) (N := 3) (ci := 2) (fs := [.null, .null, .int 0]) dX7_init_39 inT2 tyX2 tyX2_ok wCl7_23 wIs2 wIn2 rfl (fun j hj => by rcases (show j = 0 ∨ j = 1 ∨ j = 2 by omega) with rfl | rfl | rfl <;> rfl) (Nat.le_of_ble_eq_true rfl) (Nat.le_of_ble_eq_true rfl) (fun q39 => ?_)
  refine nV.to (cells' := 14) (slots' := 184) (ws' := [(h0, .inr (7, [.ref q5, .ref q16, .ref q27, .null, .null, .null, .null, .null, .null, .int 0, .int 0])), (q5, .inr (4, [.ref (u9 0), .ref (u9 1), .int 1])), ((u9 0), .inl (G.2.2.1, 8, .inl (upd (fun _ => 0) (0 : Int32).toNatClampNeg 80))), ((u9 1), .inl (G.2.2.1, 8, .inl (fun _ => 0))), (q16, .inr (6, [.ref (u20 0), .ref (u20 1), .ref (u20 2), .ref (u20 3), .ref (u20 4), .ref (u20 5), .int 0])), ((u20 0), .inl (G.2.2.1, 64, .inl (fun _ => 0))), ((u20 1), .inl (G.2.2.1, 16, .inl (fun _ => 0))), ((u20 2), .inl (G.2.2.1, 16, .inl (fun _ => 0))), ((u20 3), .inl (G.2.2.1, 16, .inl (fun _ => 0))), ((u20 4), .inl (G.2.2.1, 16, .inl (fun _ => 0))), ((u20 5), .inl (G.2.2.1, 16, .inl (fun _ => 0))), (q27, .inr (2, [.ref (u32 0), .ref (u32 1), .int 0])), ((u32 0), .inl (G.2.2.1, 4, .inl (fun _ => 0))), ((u32 1), .inl (G.2.2.1, 4, .inl (fun _ => 0))), (q39, .inr (2, [.null, .null, .int 0]))]) rfl rfl rfl ?_
  refine nV.dup dX7_init_42 ?_
  refine nV.bipush (x := 8) dX7_init_43 (by decide) (by decide) rfl ?_
  refine nV.call (M2 := mX2_init) (rm := { frames := 4, cells := 2, slots := 16, locals := 200 }) (wr := [(h0, .inr (7, [.ref q5, .ref q16, .ref q27, .null, .null, .null, .null, .null, .null, .int 0, .int 0])), (q5, .inr (4, [.ref (u9 0), .ref (u9 1), .int 1])), ((u9 0), .inl (G.2.2.1, 8, .inl (upd (fun _ => 0) (0 : Int32).toNatClampNeg 80))), ((u9 1), .inl (G.2.2.1, 8, .inl (fun _ => 0))), (q16, .inr (6, [.ref (u20 0), .ref (u20 1), .ref (u20 2), .ref (u20 3), .ref (u20 4), .ref (u20 5), .int 0])), ((u20 0), .inl (G.2.2.1, 64, .inl (fun _ => 0))), ((u20 1), .inl (G.2.2.1, 16, .inl (fun _ => 0))), ((u20 2), .inl (G.2.2.1, 16, .inl (fun _ => 0))), ((u20 3), .inl (G.2.2.1, 16, .inl (fun _ => 0))), ((u20 4), .inl (G.2.2.1, 16, .inl (fun _ => 0))), ((u20 5), .inl (G.2.2.1, 16, .inl (fun _ => 0))), (q27, .inr (2, [.ref (u32 0), .ref (u32 1), .int 0])), ((u32 0), .inl (G.2.2.1, 4, .inl (fun _ => 0))), ((u32 1), .inl (G.2.2.1, 4, .inl (fun _ => 0)))]) (i := 14) (av := [.int 8]) (rest := [.ref q39, .ref h0]) [0, 1, 2, 3, 4, 5, 6, 7, 8, 9, 10, 11, 12, 13] kX2_init jX2_init rfl rfl dX7_init_45 wL7_25 rfl rfl (Nat.le_of_ble_eq_true rfl) ⟨(Nat.le_of_ble_eq_true rfl), (Nat.le_of_ble_eq_true rfl)⟩ ⟨(Nat.le_of_ble_eq_true rfl), (Nat.le_of_ble_eq_true rfl)⟩ crX2_init_8 (fun _ _ _ _ h => h) (fun _ _ _ _ => trivial) rfl rfl rfl (by decide) (fun u45 => ?_)
  refine nV.to (cells' := 16) (slots' := 200) (ws' := [(h0, .inr (7, [.ref q5, .ref q16, .ref q27, .null, .null, .null, .null, .null, .null, .int 0, .int 0])), (q5, .inr (4, [.ref (u9 0), .ref (u9 1), .int 1])), ((u9 0), .inl (G.2.2.1, 8, .inl (upd (fun _ => 0) (0 : Int32).toNatClampNeg 80))), ((u9 1), .inl (G.2.2.1, 8, .inl (fun _ => 0))), (q16, .inr (6, [.ref (u20 0), .ref (u20 1), .ref (u20 2), .ref (u20 3), .ref (u20 4), .ref (u20 5), .int 0])), ((u20 0), .inl (G.2.2.1, 64, .inl (fun _ => 0))), ((u20 1), .inl (G.2.2.1, 16, .inl (fun _ => 0))), ((u20 2), .inl (G.2.2.1, 16, .inl (fun _ => 0))), ((u20 3), .inl (G.2.2.1, 16, .inl (fun _ => 0))), ((u20 4), .inl (G.2.2.1, 16, .inl (fun _ => 0))), ((u20 5), .inl (G.2.2.1, 16, .inl (fun _ => 0))), (q27, .inr (2, [.ref (u32 0), .ref (u32 1), .int 0])), ((u32 0), .inl (G.2.2.1, 4, .inl (fun _ => 0))), ((u32 1), .inl (G.2.2.1, 4, .inl (fun _ => 0))), (q39, .inr (2, [.ref (u45 0), .ref (u45 1), .int 0])), ((u45 0), .inl (G.2.2.1, 8, .inl (fun _ => 0))), ((u45 1), .inl (G.2.2.1, 8, .inl (fun _ => 0)))]) rfl rfl rfl ?_
  refine nV.putF (C := RX7) (T := TX7) (N := 11) (ci := 7) (k := 3) (q0 := 0) (ty := tyX7 3) (ws' := [(h0, .inr (7, [.ref q5, .ref q16, .ref q27, .ref q39, .null, .null, .null, .null, .null, .int 0, .int 0])), (q5, .inr (4, [.ref (u9 0), .ref (u9 1), .int 1])), ((u9 0), .inl (G.2.2.1, 8, .inl (upd (fun _ => 0) (0 : Int32).toNatClampNeg 80))), ((u9 1), .inl (G.2.2.1, 8, .inl (fun _ => 0))), (q16, .inr (6, [.ref (u20 0), .ref (u20 1), .ref (u20 2), .ref (u20 3), .ref (u20 4), .ref (u20 5), .int 0])), ((u20 0), .inl (G.2.2.1, 64, .inl (fun _ => 0))), ((u20 1), .inl (G.2.2.1, 16, .inl (fun _ => 0))), ((u20 2), .inl (G.2.2.1, 16, .inl (fun _ => 0))), ((u20 3), .inl (G.2.2.1, 16, .inl (fun _ => 0))), ((u20 4), .inl (G.2.2.1, 16, .inl (fun _ => 0))), ((u20 5), .inl (G.2.2.1, 16, .inl (fun _ => 0))), (q27, .inr (2, [.ref (u32 0), .ref (u32 1), .int 0])), ((u32 0), .inl (G.2.2.1, 4, .inl (fun _ => 0))), ((u32 1), .inl (G.2.2.1, 4, .inl (fun _ => 0))), (q39, .inr (2, [.ref (u45 0), .ref (u45 1), .int 0])), ((u45 0), .inl (G.2.2.1, 8, .inl (fun _ => 0))), ((u45 1), .inl (G.2.2.1, 8, .inl (fun _ => 0)))]) dX7_init_48 inT7 tyX7 tyX7_ok nmX7 rfl rfl (by decide) wF7_32 rfl (fun _ _ h => h) rfl (tyX7_ok 3 (by decide)) rfl rfl (Nat.le_of_ble_eq_true rfl) rfl ?_
  refine nV.aload dX7_init_51 (List.mem_of_getElem? (i := 0) rfl) ?_
  refine nV.iconst (x := 4) dX7_init_52 rfl ?_
  refine nV.newI (N := 4) dX7_init_53 wAI (by decide) rfl (by decide) (Nat.le_of_ble_eq_true rfl) (Nat.le_of_ble_eq_true rfl) (fun q53 => ?_)
  refine nV.to (cells' := 17) (slots' := 204) (ws' := [(h0, .inr (7, [.ref q5, .ref q16, .ref q27, .ref q39, .null, .null, .null, .null, .null, .int 0, .int 0])), (q5, .inr (4, [.ref (u9 0), .ref (u9 1), .int 1])), ((u9 0), .inl (G.2.2.1, 8, .inl (upd (fun _ => 0) (0 : Int32).toNatClampNeg 80))), ((u9 1), .inl (G.2.2.1, 8, .inl (fun _ => 0))), (q16, .inr (6, [.ref (u20 0), .ref (u20 1), .ref (u20 2), .ref (u20 3), .ref (u20 4), .ref (u20 5), .int 0])), ((u20 0), .inl (G.2.2.1, 64, .inl (fun _ => 0))), ((u20 1), .inl (G.2.2.1, 16, .inl (fun _ => 0))), ((u20 2), .inl (G.2.2.1, 16, .inl (fun _ => 0))), ((u20 3), .inl (G.2.2.1, 16, .inl (fun _ => 0))), ((u20 4), .inl (G.2.2.1, 16, .inl (fun _ => 0))), ((u20 5), .inl (G.2.2.1, 16, .inl (fun _ => 0))), (q27, .inr (2, [.ref (u32 0), .ref (u32 1), .int 0])), ((u32 0), .inl (G.2.2.1, 4, .inl (fun _ => 0))), ((u32 1), .inl (G.2.2.1, 4, .inl (fun _ => 0))), (q39, .inr (2, [.ref (u45 0), .ref (u45 1), .int 0])), ((u45 0), .inl (G.2.2.1, 8, .inl (fun _ => 0))), ((u45 1), .inl (G.2.2.1, 8, .inl (fun _ => 0))), (q53, .inl (G.2.2.1, 4, .inl (fun _ => 0)))]) rfl rfl rfl ?_
  refine nV.putF (C := RX7) (T := TX7) (N := 11) (ci := 7) (k := 4) (q0 := 0) (ty := tyX7 4) (ws' := [(h0, .inr (7, [.ref q5, .ref q16, .ref q27, .ref q39, .ref q53, .null, .null, .null, .null, .int 0, .int 0])), (q5, .inr (4, [.ref (u9 0), .ref (u9 1), .int 1])), ((u9 0), .inl (G.2.2.1, 8, .inl (upd (fun _ => 0) (0 : Int32).toNatClampNeg 80))), ((u9 1), .inl (G.2.2.1, 8, .inl (fun _ => 0))), (q16, .inr (6, [.ref (u20 0), .ref (u20 1), .ref (u20 2), .ref (u20 3), .ref (u20 4), .ref (u20 5), .int 0])), ((u20 0), .inl (G.2.2.1, 64, .inl (fun _ => 0))), ((u20 1), .inl (G.2.2.1, 16, .inl (fun _ => 0))), ((u20 2), .inl (G.2.2.1, 16, .inl (fun _ => 0))), ((u20 3), .inl (G.2.2.1, 16, .inl (fun _ => 0))), ((u20 4), .inl (G.2.2.1, 16, .inl (fun _ => 0))), ((u20 5), .inl (G.2.2.1, 16, .inl (fun _ => 0))), (q27, .inr (2, [.ref (u32 0), .ref (u32 1), .int 0])), ((u32 0), .inl (G.2.2.1, 4, .inl (fun _ => 0))), ((u32 1), .inl (G.2.2.1, 4, .inl (fun _ => 0))), (q39, .inr (2, [.ref (u45 0), .ref (u45 1), .int 0])), ((u45 0), .inl (G.2.2.1, 8, .inl (fun _ => 0))), ((u45 1), .inl (G.2.2.1, 8, .inl (fun _ => 0))), (q53, .inl (G.2.2.1, 4, .inl (fun _ => 0)))]) dX7_init_55 inT7 tyX7 tyX7_ok nmX7 rfl rfl (by decide) wF7_35 rfl (fun _ _ h => h) rfl (tyX7_ok 4 (by decide)) rfl rfl (Nat.le_of_ble_eq_true rfl) rfl ?_
  refine nV.aload dX7_init_58 (List.mem_of_getElem? (i := 0) rfl) ?_
  refine nV.new (C := RX3) (T := TX3) (N := 8) (ci := 3) (fs := [.null, .null, .null, .null, .null, .int 0, .int 0, .int 0]) dX7_init_59 inT3 tyX3 tyX3_ok wCl7_39 wIs3 wIn3 rfl (fun j hj => by rcases (show j = 0 ∨ j = 1 ∨ j = 2 ∨ j = 3 ∨ j = 4 ∨ j = 5 ∨ j = 6 ∨ j = 7 by omega) with rfl | rfl | rfl | rfl | rfl | rfl | rfl | rfl <;> rfl) (Nat.le_of_ble_eq_true rfl) (Nat.le_of_ble_eq_true rfl) (fun q59 => ?_)
  refine nV.to (cells' := 18) (slots' := 212) (ws' := [(h0, .inr (7, [.ref q5, .ref q16, .ref q27, .ref q39, .ref q53, .null, .null, .null, .null, .int 0, .int 0])), (q5, .inr (4, [.ref (u9 0), .ref (u9 1), .int 1])), ((u9 0), .inl (G.2.2.1, 8, .inl (upd (fun _ => 0) (0 : Int32).toNatClampNeg 80))), ((u9 1), .inl (G.2.2.1, 8, .inl (fun _ => 0))), (q16, .inr (6, [.ref (u20 0), .ref (u20 1), .ref (u20 2), .ref (u20 3), .ref (u20 4), .ref (u20 5), .int 0])), ((u20 0), .inl (G.2.2.1, 64, .inl (fun _ => 0))), ((u20 1), .inl (G.2.2.1, 16, .inl (fun _ => 0))), ((u20 2), .inl (G.2.2.1, 16, .inl (fun _ => 0))), ((u20 3), .inl (G.2.2.1, 16, .inl (fun _ => 0))), ((u20 4), .inl (G.2.2.1, 16, .inl (fun _ => 0))), ((u20 5), .inl (G.2.2.1, 16, .inl (fun _ => 0))), (q27, .inr (2, [.ref (u32 0), .ref (u32 1), .int 0])), ((u32 0), .inl (G.2.2.1, 4, .inl (fun _ => 0))), ((u32 1), .inl (G.2.2.1, 4, .inl (fun _ => 0))), (q39, .inr (2, [.ref (u45 0), .ref (u45 1), .int 0])), ((u45 0), .inl (G.2.2.1, 8, .inl (fun _ => 0))), ((u45 1), .inl (G.2.2.1, 8, .inl (fun _ => 0))), (q53, .inl (G.2.2.1, 4, .inl (fun _ => 0))), (q59, .inr (3, [.null, .null, .null, .null, .null, .int 0, .int 0, .int 0]))]) rfl rfl rfl ?_
  refine nV.dup dX7_init_62 ?_
  refine nV.callN (M2 := mX3_init) (rm := { frames := 4, cells := 5, slots := 29, locals := 200 }) (wr := [(h0, .inr (7, [.ref q5, .ref q16, .ref q27, .ref q39, .ref q53, .null, .null, .null, .null, .int 0, .int 0])), (q5, .inr (4, [.ref (u9 0), .ref (u9 1), .int 1])), ((u9 0), .inl (G.2.2.1, 8, .inl (upd (fun _ => 0) (0 : Int32).toNatClampNeg 80))), ((u9 1), .inl (G.2.2.1, 8, .inl (fun _ => 0))), (q16, .inr (6, [.ref (u20 0), .ref (u20 1), .ref (u20 2), .ref (u20 3), .ref (u20 4), .ref (u20 5), .int 0])), ((u20 0), .inl (G.2.2.1, 64, .inl (fun _ => 0))), ((u20 1), .inl (G.2.2.1, 16, .inl (fun _ => 0))), ((u20 2), .inl (G.2.2.1, 16, .inl (fun _ => 0))), ((u20 3), .inl (G.2.2.1, 16, .inl (fun _ => 0))), ((u20 4), .inl (G.2.2.1, 16, .inl (fun _ => 0))), ((u20 5), .inl (G.2.2.1, 16, .inl (fun _ => 0))), (q27, .inr (2, [.ref (u32 0), .ref (u32 1), .int 0])), ((u32 0), .inl (G.2.2.1, 4, .inl (fun _ => 0))), ((u32 1), .inl (G.2.2.1, 4, .inl (fun _ => 0))), (q39, .inr (2, [.ref (u45 0), .ref (u45 1), .int 0])), ((u45 0), .inl (G.2.2.1, 8, .inl (fun _ => 0))), ((u45 1), .inl (G.2.2.1, 8, .inl (fun _ => 0))), (q53, .inl (G.2.2.1, 4, .inl (fun _ => 0)))]) (i := 18) (av := []) (rest := [.ref q59, .ref h0]) (host := "HallHeard") [0, 1, 2, 3, 4, 5, 6, 7, 8, 9, 10, 11, 12, 13, 14, 15, 16, 17] kX3_init jX3_init rfl rfl dX7_init_63 (fun s h => h.2.1) rfl rfl (Nat.le_of_ble_eq_true rfl) ⟨(Nat.le_of_ble_eq_true rfl), (Nat.le_of_ble_eq_true rfl)⟩ ⟨(Nat.le_of_ble_eq_true rfl), (Nat.le_of_ble_eq_true rfl)⟩ crX3_init (fun _ _ _ _ h => h) (fun _ _ _ _ => trivial) rfl rfl rfl (by decide) (fun u63 => ?_)
  refine nV.to (cells' := 23) (slots' := 241) (ws' := [(h0, .inr (7, [.ref q5, .ref q16, .ref q27, .ref q39, .ref q53, .null, .null, .null, .null, .int 0, .int 0])), (q5, .inr (4, [.ref (u9 0), .ref (u9 1), .int 1])), ((u9 0), .inl (G.2.2.1, 8, .inl (upd (fun _ => 0) (0 : Int32).toNatClampNeg 80))), ((u9 1), .inl (G.2.2.1, 8, .inl (fun _ => 0))), (q16, .inr (6, [.ref (u20 0), .ref (u20 1), .ref (u20 2), .ref (u20 3), .ref (u20 4), .ref (u20 5), .int 0])), ((u20 0), .inl (G.2.2.1, 64, .inl (fun _ => 0))), ((u20 1), .inl (G.2.2.1, 16, .inl (fun _ => 0))), ((u20 2), .inl (G.2.2.1, 16, .inl (fun _ => 0))), ((u20 3), .inl (G.2.2.1, 16, .inl (fun _ => 0))), ((u20 4), .inl (G.2.2.1, 16, .inl (fun _ => 0))), ((u20 5), .inl (G.2.2.1, 16, .inl (fun _ => 0))), (q27, .inr (2, [.ref (u32 0), .ref (u32 1), .int 0])), ((u32 0), .inl (G.2.2.1, 4, .inl (fun _ => 0))), ((u32 1), .inl (G.2.2.1, 4, .inl (fun _ => 0))), (q39, .inr (2, [.ref (u45 0), .ref (u45 1), .int 0])), ((u45 0), .inl (G.2.2.1, 8, .inl (fun _ => 0))), ((u45 1), .inl (G.2.2.1, 8, .inl (fun _ => 0))), (q53, .inl (G.2.2.1, 4, .inl (fun _ => 0))), (q59, .inr (3, [.ref (u63 0), .ref (u63 1), .ref (u63 2), .ref (u63 3), .ref (u63 4), .int 0, .int 0, .int 0])), ((u63 0), .inl (G.2.2.1, 3, .inl (fun _ => 0))), ((u63 1), .inl (G.2.2.1, 8, .inl (fun _ => 0))), ((u63 2), .inl (G.2.2.1, 8, .inl (fun _ => 0))), ((u63 3), .inl (G.2.2.2, 5, .inr (.inl (fun _ => 0)))), ((u63 4), .inl (G.2.2.2, 5, .inr (.inl (fun _ => 0))))]) rfl rfl rfl ?_
  refine nV.putF (C := RX7) (T := TX7) (N := 11) (ci := 7) (k := 5) (q0 := 0) (ty := tyX7 5) (ws' := [(h0, .inr (7, [.ref q5, .ref q16, .ref q27, .ref q39, .ref q53, .ref q59, .null, .null, .null, .int 0, .int 0])), (q5, .inr (4, [.ref (u9 0), .ref (u9 1), .int 1])), ((u9 0), .inl (G.2.2.1, 8, .inl (upd (fun _ => 0) (0 : Int32).toNatClampNeg 80))), ((u9 1), .inl (G.2.2.1, 8, .inl (fun _ => 0))), (q16, .inr (6, [.ref (u20 0), .ref (u20 1), .ref (u20 2), .ref (u20 3), .ref (u20 4), .ref (u20 5), .int 0])), ((u20 0), .inl (G.2.2.1, 64, .inl (fun _ => 0))), ((u20 1), .inl (G.2.2.1, 16, .inl (fun _ => 0))), ((u20 2), .inl (G.2.2.1, 16, .inl (fun _ => 0))), ((u20 3), .inl (G.2.2.1, 16, .inl (fun _ => 0))), ((u20 4), .inl (G.2.2.1, 16, .inl (fun _ => 0))), ((u20 5), .inl (G.2.2.1, 16, .inl (fun _ => 0))), (q27, .inr (2, [.ref (u32 0), .ref (u32 1), .int 0])), ((u32 0), .inl (G.2.2.1, 4, .inl (fun _ => 0))), ((u32 1), .inl (G.2.2.1, 4, .inl (fun _ => 0))), (q39, .inr (2, [.ref (u45 0), .ref (u45 1), .int 0])), ((u45 0), .inl (G.2.2.1, 8, .inl (fun _ => 0))), ((u45 1), .inl (G.2.2.1, 8, .inl (fun _ => 0))), (q53, .inl (G.2.2.1, 4, .inl (fun _ => 0))), (q59, .inr (3, [.ref (u63 0), .ref (u63 1), .ref (u63 2), .ref (u63 3), .ref (u63 4), .int 0, .int 0, .int 0])), ((u63 0), .inl (G.2.2.1, 3, .inl (fun _ => 0))), ((u63 1), .inl (G.2.2.1, 8, .inl (fun _ => 0))), ((u63 2), .inl (G.2.2.1, 8, .inl (fun _ => 0))), ((u63 3), .inl (G.2.2.2, 5, .inr (.inl (fun _ => 0)))), ((u63 4), .inl (G.2.2.2, 5, .inr (.inl (fun _ => 0))))]) dX7_init_66 inT7 tyX7 tyX7_ok nmX7 rfl rfl (by decide) wF7_42 rfl (fun _ _ h => h) rfl (tyX7_ok 5 (by decide)) rfl rfl (Nat.le_of_ble_eq_true rfl) rfl ?_
  refine nV.aload dX7_init_69 (List.mem_of_getElem? (i := 0) rfl) ?_
  refine nV.new (C := RX1) (T := TX1) (N := 4) (ci := 1) (fs := [.null, .null, .int 0, .int 0]) dX7_init_70 inT1 tyX1 tyX1_ok wCl7_46 wIs1 wIn1 rfl (fun j hj => by rcases (show j = 0 ∨ j = 1 ∨ j = 2 ∨ j = 3 by omega) with rfl | rfl | rfl | rfl <;> rfl) (Nat.le_of_ble_eq_true rfl) (Nat.le_of_ble_eq_true rfl) (fun q70 => ?_)
  refine nV.to (cells' := 24) (slots' := 245) (ws' := [(h0, .inr (7, [.ref q5, .ref q16, .ref q27, .ref q39, .ref q53, .ref q59, .null, .null, .null, .int 0, .int 0])), (q5, .inr (4, [.ref (u9 0), .ref (u9 1), .int 1])), ((u9 0), .inl (G.2.2.1, 8, .inl (upd (fun _ => 0) (0 : Int32).toNatClampNeg 80))), ((u9 1), .inl (G.2.2.1, 8, .inl (fun _ => 0))), (q16, .inr (6, [.ref (u20 0), .ref (u20 1), .ref (u20 2), .ref (u20 3), .ref (u20 4), .ref (u20 5), .int 0])), ((u20 0), .inl (G.2.2.1, 64, .inl (fun _ => 0))), ((u20 1), .inl (G.2.2.1, 16, .inl (fun _ => 0))), ((u20 2), .inl (G.2.2.1, 16, .inl (fun _ => 0))), ((u20 3), .inl (G.2.2.1, 16, .inl (fun _ => 0))), ((u20 4), .inl (G.2.2.1, 16, .inl (fun _ => 0))), ((u20 5), .inl (G.2.2.1, 16, .inl (fun _ => 0))), (q27, .inr (2, [.ref (u32 0), .ref (u32 1), .int 0])), ((u32 0), .inl (G.2.2.1, 4, .inl (fun _ => 0))), ((u32 1), .inl (G.2.2.1, 4, .inl (fun _ => 0))), (q39, .inr (2, [.ref (u45 0), .ref (u45 1), .int 0])), ((u45 0), .inl (G.2.2.1, 8, .inl (fun _ => 0))), ((u45 1), .inl (G.2.2.1, 8, .inl (fun _ => 0))), (q53, .inl (G.2.2.1, 4, .inl (fun _ => 0))), (q59, .inr (3, [.ref (u63 0), .ref (u63 1), .ref (u63 2), .ref (u63 3), .ref (u63 4), .int 0, .int 0, .int 0])), ((u63 0), .inl (G.2.2.1, 3, .inl (fun _ => 0))), ((u63 1), .inl (G.2.2.1, 8, .inl (fun _ => 0))), ((u63 2), .inl (G.2.2.1, 8, .inl (fun _ => 0))), ((u63 3), .inl (G.2.2.2, 5, .inr (.inl (fun _ => 0)))), ((u63 4), .inl (G.2.2.2, 5, .inr (.inl (fun _ => 0)))), (q70, .inr (1, [.null, .null, .int 0, .int 0]))]) rfl rfl rfl ?_
  refine nV.dup dX7_init_73 ?_
  refine nV.callN (M2 := mX1_init) (rm := { frames := 4, cells := 2, slots := 7714, locals := 200 }) (wr := [(h0, .inr (7, [.ref q5, .ref q16, .ref q27, .ref q39, .ref q53, .ref q59, .null, .null, .null, .int 0, .int 0])), (q5, .inr (4, [.ref (u9 0), .ref (u9 1), .int 1])), ((u9 0), .inl (G.2.2.1, 8, .inl (upd (fun _ => 0) (0 : Int32).toNatClampNeg 80))), ((u9 1), .inl (G.2.2.1, 8, .inl (fun _ => 0))), (q16, .inr (6, [.ref (u20 0), .ref (u20 1), .ref (u20 2), .ref (u20 3), .ref (u20 4), .ref (u20 5), .int 0])), ((u20 0), .inl (G.2.2.1, 64, .inl (fun _ => 0))), ((u20 1), .inl (G.2.2.1, 16, .inl (fun _ => 0))), ((u20 2), .inl (G.2.2.1, 16, .inl (fun _ => 0))), ((u20 3), .inl (G.2.2.1, 16, .inl (fun _ => 0))), ((u20 4), .inl (G.2.2.1, 16, .inl (fun _ => 0))), ((u20 5), .inl (G.2.2.1, 16, .inl (fun _ => 0))), (q27, .inr (2, [.ref (u32 0), .ref (u32 1), .int 0])), ((u32 0), .inl (G.2.2.1, 4, .inl (fun _ => 0))), ((u32 1), .inl (G.2.2.1, 4, .inl (fun _ => 0))), (q39, .inr (2, [.ref (u45 0), .ref (u45 1), .int 0])), ((u45 0), .inl (G.2.2.1, 8, .inl (fun _ => 0))), ((u45 1), .inl (G.2.2.1, 8, .inl (fun _ => 0))), (q53, .inl (G.2.2.1, 4, .inl (fun _ => 0))), (q59, .inr (3, [.ref (u63 0), .ref (u63 1), .ref (u63 2), .ref (u63 3), .ref (u63 4), .int 0, .int 0, .int 0])), ((u63 0), .inl (G.2.2.1, 3, .inl (fun _ => 0))), ((u63 1), .inl (G.2.2.1, 8, .inl (fun _ => 0))), ((u63 2), .inl (G.2.2.1, 8, .inl (fun _ => 0))), ((u63 3), .inl (G.2.2.2, 5, .inr (.inl (fun _ => 0)))), ((u63 4), .inl (G.2.2.2, 5, .inr (.inl (fun _ => 0))))]) (i := 24) (av := []) (rest := [.ref q70, .ref h0]) (host := "HallHeard") [0, 1, 2, 3, 4, 5, 6, 7, 8, 9, 10, 11, 12, 13, 14, 15, 16, 17, 18, 19, 20, 21, 22, 23] kX1_init jX1_init rfl rfl dX7_init_74 (fun s h => h.2.2.1) rfl rfl (Nat.le_of_ble_eq_true rfl) ⟨(Nat.le_of_ble_eq_true rfl), (Nat.le_of_ble_eq_true rfl)⟩ ⟨(Nat.le_of_ble_eq_true rfl), (Nat.le_of_ble_eq_true rfl)⟩ crX1_init (fun _ _ _ _ h => h) (fun _ _ _ _ => trivial) rfl rfl rfl (by decide) (fun u74 => ?_)
  refine nV.to (cells' := 26) (slots' := 7959) (ws' := [(h0, .inr (7, [.ref q5, .ref q16, .ref q27, .ref q39, .ref q53, .ref q59, .null, .null, .null, .int 0, .int 0])), (q5, .inr (4, [.ref (u9 0), .ref (u9 1), .int 1])), ((u9 0), .inl (G.2.2.1, 8, .inl (upd (fun _ => 0) (0 : Int32).toNatClampNeg 80))), ((u9 1), .inl (G.2.2.1, 8, .inl (fun _ => 0))), (q16, .inr (6, [.ref (u20 0), .ref (u20 1), .ref (u20 2), .ref (u20 3), .ref (u20 4), .ref (u20 5), .int 0])), ((u20 0), .inl (G.2.2.1, 64, .inl (fun _ => 0))), ((u20 1), .inl (G.2.2.1, 16, .inl (fun _ => 0))), ((u20 2), .inl (G.2.2.1, 16, .inl (fun _ => 0))), ((u20 3), .inl (G.2.2.1, 16, .inl (fun _ => 0))), ((u20 4), .inl (G.2.2.1, 16, .inl (fun _ => 0))), ((u20 5), .inl (G.2.2.1, 16, .inl (fun _ => 0))), (q27, .inr (2, [.ref (u32 0), .ref (u32 1), .int 0])), ((u32 0), .inl (G.2.2.1, 4, .inl (fun _ => 0))), ((u32 1), .inl (G.2.2.1, 4, .inl (fun _ => 0))), (q39, .inr (2, [.ref (u45 0), .ref (u45 1), .int 0])), ((u45 0), .inl (G.2.2.1, 8, .inl (fun _ => 0))), ((u45 1), .inl (G.2.2.1, 8, .inl (fun _ => 0))), (q53, .inl (G.2.2.1, 4, .inl (fun _ => 0))), (q59, .inr (3, [.ref (u63 0), .ref (u63 1), .ref (u63 2), .ref (u63 3), .ref (u63 4), .int 0, .int 0, .int 0])), ((u63 0), .inl (G.2.2.1, 3, .inl (fun _ => 0))), ((u63 1), .inl (G.2.2.1, 8, .inl (fun _ => 0))), ((u63 2), .inl (G.2.2.1, 8, .inl (fun _ => 0))), ((u63 3), .inl (G.2.2.2, 5, .inr (.inl (fun _ => 0)))), ((u63 4), .inl (G.2.2.2, 5, .inr (.inl (fun _ => 0)))), (q70, .inr (1, [.ref (u74 0), .ref (u74 1), .int 0, .int (-1)])), ((u74 0), .inl (G.2.2.1, 3857, .inl (fun _ => 0))), ((u74 1), .inl (G.2.2.2, 3857, .inr (.inl (fun _ => 0))))]) rfl rfl rfl ?_
  refine nV.putF (C := RX7) (T := TX7) (N := 11) (ci := 7) (k := 6) (q0 := 0) (ty := tyX7 6) (ws' := [(h0, .inr (7, [.ref q5, .ref q16, .ref q27, .ref q39, .ref q53, .ref q59, .ref q70, .null, .null, .int 0, .int 0])), (q5, .inr (4, [.ref (u9 0), .ref (u9 1), .int 1])), ((u9 0), .inl (G.2.2.1, 8, .inl (upd (fun _ => 0) (0 : Int32).toNatClampNeg 80))), ((u9 1), .inl (G.2.2.1, 8, .inl (fun _ => 0))), (q16, .inr (6, [.ref (u20 0), .ref (u20 1), .ref (u20 2), .ref (u20 3), .ref (u20 4), .ref (u20 5), .int 0])), ((u20 0), .inl (G.2.2.1, 64, .inl (fun _ => 0))), ((u20 1), .inl (G.2.2.1, 16, .inl (fun _ => 0))), ((u20 2), .inl (G.2.2.1, 16, .inl (fun _ => 0))), ((u20 3), .inl (G.2.2.1, 16, .inl (fun _ => 0))), ((u20 4), .inl (G.2.2.1, 16, .inl (fun _ => 0))), ((u20 5), .inl (G.2.2.1, 16, .inl (fun _ => 0))), (q27, .inr (2, [.ref (u32 0), .ref (u32 1), .int 0])), ((u32 0), .inl (G.2.2.1, 4, .inl (fun _ => 0))), ((u32 1), .inl (G.2.2.1, 4, .inl (fun _ => 0))), (q39, .inr (2, [.ref (u45 0), .ref (u45 1), .int 0])), ((u45 0), .inl (G.2.2.1, 8, .inl (fun _ => 0))), ((u45 1), .inl (G.2.2.1, 8, .inl (fun _ => 0))), (q53, .inl (G.2.2.1, 4, .inl (fun _ => 0))), (q59, .inr (3, [.ref (u63 0), .ref (u63 1), .ref (u63 2), .ref (u63 3), .ref (u63 4), .int 0, .int 0, .int 0])), ((u63 0), .inl (G.2.2.1, 3, .inl (fun _ => 0))), ((u63 1), .inl (G.2.2.1, 8, .inl (fun _ => 0))), ((u63 2), .inl (G.2.2.1, 8, .inl (fun _ => 0))), ((u63 3), .inl (G.2.2.2, 5, .inr (.inl (fun _ => 0)))), ((u63 4), .inl (G.2.2.2, 5, .inr (.inl (fun _ => 0)))), (q70, .inr (1, [.ref (u74 0), .ref (u74 1), .int 0, .int (-1)])), ((u74 0), .inl (G.2.2.1, 3857, .inl (fun _ => 0))), ((u74 1), .inl (G.2.2.2, 3857, .inr (.inl (fun _ => 0))))]) dX7_init_77 inT7 tyX7 tyX7_ok nmX7 rfl rfl (by decide) wF7_49 rfl (fun _ _ h => h) rfl (tyX7_ok 6 (by decide)) rfl rfl (Nat.le_of_ble_eq_true rfl) rfl ?_
  refine nV.aload dX7_init_80 (List.mem_of_getElem? (i := 0) rfl) ?_
  refine nV.new (C := RX5) (T := TX5) (N := 3) (ci := 5) (fs := [.long 0, .long 0, .long 0]) dX7_init_81 inT5 tyX5 tyX5_ok wCl7_53 wIs5 wIn5 rfl (fun j hj => by rcases (show j = 0 ∨ j = 1 ∨ j = 2 by omega) with rfl | rfl | rfl <;> rfl) (Nat.le_of_ble_eq_true rfl) (Nat.le_of_ble_eq_true rfl) (fun q81 => ?_)
  refine nV.to (cells' := 27) (slots' := 7962) (ws' := [(h0, .inr (7, [.ref q5, .ref q16, .ref q27, .ref q39, .ref q53, .ref q59, .ref q70, .null, .null, .int 0, .int 0])), (q5, .inr (4, [.ref (u9 0), .ref (u9 1), .int 1])), ((u9 0), .inl (G.2.2.1, 8, .inl (upd (fun _ => 0) (0 : Int32).toNatClampNeg 80))), ((u9 1), .inl (G.2.2.1, 8, .inl (fun _ => 0))), (q16, .inr (6, [.ref (u20 0), .ref (u20 1), .ref (u20 2), .ref (u20 3), .ref (u20 4), .ref (u20 5), .int 0])), ((u20 0), .inl (G.2.2.1, 64, .inl (fun _ => 0))), ((u20 1), .inl (G.2.2.1, 16, .inl (fun _ => 0))), ((u20 2), .inl (G.2.2.1, 16, .inl (fun _ => 0))), ((u20 3), .inl (G.2.2.1, 16, .inl (fun _ => 0))), ((u20 4), .inl (G.2.2.1, 16, .inl (fun _ => 0))), ((u20 5), .inl (G.2.2.1, 16, .inl (fun _ => 0))), (q27, .inr (2, [.ref (u32 0), .ref (u32 1), .int 0])), ((u32 0), .inl (G.2.2.1, 4, .inl (fun _ => 0))), ((u32 1), .inl (G.2.2.1, 4, .inl (fun _ => 0))), (q39, .inr (2, [.ref (u45 0), .ref (u45 1), .int 0])), ((u45 0), .inl (G.2.2.1, 8, .inl (fun _ => 0))), ((u45 1), .inl (G.2.2.1, 8, .inl (fun _ => 0))), (q53, .inl (G.2.2.1, 4, .inl (fun _ => 0))), (q59, .inr (3, [.ref (u63 0), .ref (u63 1), .ref (u63 2), .ref (u63 3), .ref (u63 4), .int 0, .int 0, .int 0])), ((u63 0), .inl (G.2.2.1, 3, .inl (fun _ => 0))), ((u63 1), .inl (G.2.2.1, 8, .inl (fun _ => 0))), ((u63 2), .inl (G.2.2.1, 8, .inl (fun _ => 0))), ((u63 3), .inl (G.2.2.2, 5, .inr (.inl (fun _ => 0)))), ((u63 4), .inl (G.2.2.2, 5, .inr (.inl (fun _ => 0)))), (q70, .inr (1, [.ref (u74 0), .ref (u74 1), .int 0, .int (-1)])), ((u74 0), .inl (G.2.2.1, 3857, .inl (fun _ => 0))), ((u74 1), .inl (G.2.2.2, 3857, .inr (.inl (fun _ => 0)))), (q81, .inr (5, [.long 0, .long 0, .long 0]))]) rfl rfl rfl ?_
  refine nV.dup dX7_init_84 ?_
  refine nV.callN (M2 := mX5_init) (rm := { frames := 4, cells := 0, slots := 0, locals := 200 }) (wr := [(h0, .inr (7, [.ref q5, .ref q16, .ref q27, .ref q39, .ref q53, .ref q59, .ref q70, .null, .null, .int 0, .int 0])), (q5, .inr (4, [.ref (u9 0), .ref (u9 1), .int 1])), ((u9 0), .inl (G.2.2.1, 8, .inl (upd (fun _ => 0) (0 : Int32).toNatClampNeg 80))), ((u9 1), .inl (G.2.2.1, 8, .inl (fun _ => 0))), (q16, .inr (6, [.ref (u20 0), .ref (u20 1), .ref (u20 2), .ref (u20 3), .ref (u20 4), .ref (u20 5), .int 0])), ((u20 0), .inl (G.2.2.1, 64, .inl (fun _ => 0))), ((u20 1), .inl (G.2.2.1, 16, .inl (fun _ => 0))), ((u20 2), .inl (G.2.2.1, 16, .inl (fun _ => 0))), ((u20 3), .inl (G.2.2.1, 16, .inl (fun _ => 0))), ((u20 4), .inl (G.2.2.1, 16, .inl (fun _ => 0))), ((u20 5), .inl (G.2.2.1, 16, .inl (fun _ => 0))), (q27, .inr (2, [.ref (u32 0), .ref (u32 1), .int 0])), ((u32 0), .inl (G.2.2.1, 4, .inl (fun _ => 0))), ((u32 1), .inl (G.2.2.1, 4, .inl (fun _ => 0))), (q39, .inr (2, [.ref (u45 0), .ref (u45 1), .int 0])), ((u45 0), .inl (G.2.2.1, 8, .inl (fun _ => 0))), ((u45 1), .inl (G.2.2.1, 8, .inl (fun _ => 0))), (q53, .inl (G.2.2.1, 4, .inl (fun _ => 0))), (q59, .inr (3, [.ref (u63 0), .ref (u63 1), .ref (u63 2), .ref (u63 3), .ref (u63 4), .int 0, .int 0, .int 0])), ((u63 0), .inl (G.2.2.1, 3, .inl (fun _ => 0))), ((u63 1), .inl (G.2.2.1, 8, .inl (fun _ => 0))), ((u63 2), .inl (G.2.2.1, 8, .inl (fun _ => 0))), ((u63 3), .inl (G.2.2.2, 5, .inr (.inl (fun _ => 0)))), ((u63 4), .inl (G.2.2.2, 5, .inr (.inl (fun _ => 0)))), (q70, .inr (1, [.ref (u74 0), .ref (u74 1), .int 0, .int (-1)])), ((u74 0), .inl (G.2.2.1, 3857, .inl (fun _ => 0))), ((u74 1), .inl (G.2.2.2, 3857, .inr (.inl (fun _ => 0))))]) (i := 27) (av := []) (rest := [.ref q81, .ref h0]) (host := "HallHeard") [0, 1, 2, 3, 4, 5, 6, 7, 8, 9, 10, 11, 12, 13, 14, 15, 16, 17, 18, 19, 20, 21, 22, 23, 24, 25, 26] kX5_init jX5_init rfl rfl dX7_init_85 (fun s h => h.2.2.2.1) rfl rfl (Nat.le_of_ble_eq_true rfl) ⟨(Nat.le_of_ble_eq_true rfl), (Nat.le_of_ble_eq_true rfl)⟩ ⟨(Nat.le_of_ble_eq_true rfl), (Nat.le_of_ble_eq_true rfl)⟩ crX5_init (fun _ _ _ _ h => h) (fun _ _ _ _ => trivial) rfl rfl rfl (by decide) (fun u85 => ?_)
  refine nV.to (cells' := 27) (slots' := 7962) (ws' := [(h0, .inr (7, [.ref q5, .ref q16, .ref q27, .ref q39, .ref q53, .ref q59, .ref q70, .null, .null, .int 0, .int 0])), (q5, .inr (4, [.ref (u9 0), .ref (u9 1), .int 1])), ((u9 0), .inl (G.2.2.1, 8, .inl (upd (fun _ => 0) (0 : Int32).toNatClampNeg 80))), ((u9 1), .inl (G.2.2.1, 8, .inl (fun _ => 0))), (q16, .inr (6, [.ref (u20 0), .ref (u20 1), .ref (u20 2), .ref (u20 3), .ref (u20 4), .ref (u20 5), .int 0])), ((u20 0), .inl (G.2.2.1, 64, .inl (fun _ => 0))), ((u20 1), .inl (G.2.2.1, 16, .inl (fun _ => 0))), ((u20 2), .inl (G.2.2.1, 16, .inl (fun _ => 0))), ((u20 3), .inl (G.2.2.1, 16, .inl (fun _ => 0))), ((u20 4), .inl (G.2.2.1, 16, .inl (fun _ => 0))), ((u20 5), .inl (G.2.2.1, 16, .inl (fun _ => 0))), (q27, .inr (2, [.ref (u32 0), .ref (u32 1), .int 0])), ((u32 0), .inl (G.2.2.1, 4, .inl (fun _ => 0))), ((u32 1), .inl (G.2.2.1, 4, .inl (fun _ => 0))), (q39, .inr (2, [.ref (u45 0), .ref (u45 1), .int 0])), ((u45 0), .inl (G.2.2.1, 8, .inl (fun _ => 0))), ((u45 1), .inl (G.2.2.1, 8, .inl (fun _ => 0))), (q53, .inl (G.2.2.1, 4, .inl (fun _ => 0))), (q59, .inr (3, [.ref (u63 0), .ref (u63 1), .ref (u63 2), .ref (u63 3), .ref (u63 4), .int 0, .int 0, .int 0])), ((u63 0), .inl (G.2.2.1, 3, .inl (fun _ => 0))), ((u63 1), .inl (G.2.2.1, 8, .inl (fun _ => 0))), ((u63 2), .inl (G.2.2.1, 8, .inl (fun _ => 0))), ((u63 3), .inl (G.2.2.2, 5, .inr (.inl (fun _ => 0)))), ((u63 4), .inl (G.2.2.2, 5, .inr (.inl (fun _ => 0)))), (q70, .inr (1, [.ref (u74 0), .ref (u74 1), .int 0, .int (-1)])), ((u74 0), .inl (G.2.2.1, 3857, .inl (fun _ => 0))), ((u74 1), .inl (G.2.2.2, 3857, .inr (.inl (fun _ => 0)))), (q81, .inr (5, [.long 0, .long 0, .long 0]))]) rfl rfl rfl ?_
  refine nV.putF (C := RX7) (T := TX7) (N := 11) (ci := 7) (k := 7) (q0 := 0) (ty := tyX7 7) (ws' := [(h0, .inr (7, [.ref q5, .ref q16, .ref q27, .ref q39, .ref q53, .ref q59, .ref q70, .ref q81, .null, .int 0, .int 0])), (q5, .inr (4, [.ref (u9 0), .ref (u9 1), .int 1])), ((u9 0), .inl (G.2.2.1, 8, .inl (upd (fun _ => 0) (0 : Int32).toNatClampNeg 80))), ((u9 1), .inl (G.2.2.1, 8, .inl (fun _ => 0))), (q16, .inr (6, [.ref (u20 0), .ref (u20 1), .ref (u20 2), .ref (u20 3), .ref (u20 4), .ref (u20 5), .int 0])), ((u20 0), .inl (G.2.2.1, 64, .inl (fun _ => 0))), ((u20 1), .inl (G.2.2.1, 16, .inl (fun _ => 0))), ((u20 2), .inl (G.2.2.1, 16, .inl (fun _ => 0))), ((u20 3), .inl (G.2.2.1, 16, .inl (fun _ => 0))), ((u20 4), .inl (G.2.2.1, 16, .inl (fun _ => 0))), ((u20 5), .inl (G.2.2.1, 16, .inl (fun _ => 0))), (q27, .inr (2, [.ref (u32 0), .ref (u32 1), .int 0])), ((u32 0), .inl (G.2.2.1, 4, .inl (fun _ => 0))), ((u32 1), .inl (G.2.2.1, 4, .inl (fun _ => 0))), (q39, .inr (2, [.ref (u45 0), .ref (u45 1), .int 0])), ((u45 0), .inl (G.2.2.1, 8, .inl (fun _ => 0))), ((u45 1), .inl (G.2.2.1, 8, .inl (fun _ => 0))), (q53, .inl (G.2.2.1, 4, .inl (fun _ => 0))), (q59, .inr (3, [.ref (u63 0), .ref (u63 1), .ref (u63 2), .ref (u63 3), .ref (u63 4), .int 0, .int 0, .int 0])), ((u63 0), .inl (G.2.2.1, 3, .inl (fun _ => 0))), ((u63 1), .inl (G.2.2.1, 8, .inl (fun _ => 0))), ((u63 2), .inl (G.2.2.1, 8, .inl (fun _ => 0))), ((u63 3), .inl (G.2.2.2, 5, .inr (.inl (fun _ => 0)))), ((u63 4), .inl (G.2.2.2, 5, .inr (.inl (fun _ => 0)))), (q70, .inr (1, [.ref (u74 0), .ref (u74 1), .int 0, .int (-1)])), ((u74 0), .inl (G.2.2.1, 3857, .inl (fun _ => 0))), ((u74 1), .inl (G.2.2.2, 3857, .inr (.inl (fun _ => 0)))), (q81, .inr (5, [.long 0, .long 0, .long 0]))]) dX7_init_88 inT7 tyX7 tyX7_ok nmX7 rfl rfl (by decide) wF7_56 rfl (fun _ _ h => h) rfl (tyX7_ok 7 (by decide)) rfl rfl (Nat.le_of_ble_eq_true rfl) rfl ?_
  refine nV.aload dX7_init_91 (List.mem_of_getElem? (i := 0) rfl) ?_
  refine nV.new (C := RX0) (T := TX0) (N := 13) (ci := 0) (fs := [.null, .null, .null, .null, .null, .null, .int 0, .int 0, .int 0, .int 0, .int 0, .int 0, .int 0]) dX7_init_92 inT0 tyX0 tyX0_ok wCl7_60 wIs0 wIn0 rfl (fun j hj => by rcases (show j = 0 ∨ j = 1 ∨ j = 2 ∨ j = 3 ∨ j = 4 ∨ j = 5 ∨ j = 6 ∨ j = 7 ∨ j = 8 ∨ j = 9 ∨ j = 10 ∨ j = 11 ∨ j = 12 by omega) with rfl | rfl | rfl | rfl | rfl | rfl | rfl | rfl | rfl | rfl | rfl | rfl | rfl <;> rfl) (Nat.le_of_ble_eq_true rfl) (Nat.le_of_ble_eq_true rfl) (fun q92 => ?_)
  refine nV.to (cells' := 28) (slots' := 7975) (ws' := [(h0, .inr (7, [.ref q5, .ref q16, .ref q27, .ref q39, .ref q53, .ref q59, .ref q70, .ref q81, .null, .int 0, .int 0])), (q5, .inr (4, [.ref (u9 0), .ref (u9 1), .int 1])), ((u9 0), .inl (G.2.2.1, 8, .inl (upd (fun _ => 0) (0 : Int32).toNatClampNeg 80))), ((u9 1), .inl (G.2.2.1, 8, .inl (fun _ => 0))), (q16, .inr (6, [.ref (u20 0), .ref (u20 1), .ref (u20 2), .ref (u20 3), .ref (u20 4), .ref (u20 5), .int 0])), ((u20 0), .inl (G.2.2.1, 64, .inl (fun _ => 0))), ((u20 1), .inl (G.2.2.1, 16, .inl (fun _ => 0))), ((u20 2), .inl (G.2.2.1, 16, .inl (fun _ => 0))), ((u20 3), .inl (G.2.2.1, 16, .inl (fun _ => 0))), ((u20 4), .inl (G.2.2.1, 16, .inl (fun _ => 0))), ((u20 5), .inl (G.2.2.1, 16, .inl (fun _ => 0))), (q27, .inr (2, [.ref (u32 0), .ref (u32 1), .int 0])), ((u32 0), .inl (G.2.2.1, 4, .inl (fun _ => 0))), ((u32 1), .inl (G.2.2.1, 4, .inl (fun _ => 0))), (q39, .inr (2, [.ref (u45 0), .ref (u45 1), .int 0])), ((u45 0), .inl (G.2.2.1, 8, .inl (fun _ => 0))), ((u45 1), .inl (G.2.2.1, 8, .inl (fun _ => 0))), (q53, .inl (G.2.2.1, 4, .inl (fun _ => 0))), (q59, .inr (3, [.ref (u63 0), .ref (u63 1), .ref (u63 2), .ref (u63 3), .ref (u63 4), .int 0, .int 0, .int 0])), ((u63 0), .inl (G.2.2.1, 3, .inl (fun _ => 0))), ((u63 1), .inl (G.2.2.1, 8, .inl (fun _ => 0))), ((u63 2), .inl (G.2.2.1, 8, .inl (fun _ => 0))), ((u63 3), .inl (G.2.2.2, 5, .inr (.inl (fun _ => 0)))), ((u63 4), .inl (G.2.2.2, 5, .inr (.inl (fun _ => 0)))), (q70, .inr (1, [.ref (u74 0), .ref (u74 1), .int 0, .int (-1)])), ((u74 0), .inl (G.2.2.1, 3857, .inl (fun _ => 0))), ((u74 1), .inl (G.2.2.2, 3857, .inr (.inl (fun _ => 0)))), (q81, .inr (5, [.long 0, .long 0, .long 0])), (q92, .inr (0, [.null, .null, .null, .null, .null, .null, .int 0, .int 0, .int 0, .int 0, .int 0, .int 0, .int 0]))]) rfl rfl rfl ?_
  refine nV.dup dX7_init_95 ?_
  refine nV.callN (M2 := mX0_init) (rm := { frames := 4, cells := 6, slots := 3893, locals := 200 }) (wr := [(h0, .inr (7, [.ref q5, .ref q16, .ref q27, .ref q39, .ref q53, .ref q59, .ref q70, .ref q81, .null, .int 0, .int 0])), (q5, .inr (4, [.ref (u9 0), .ref (u9 1), .int 1])), ((u9 0), .inl (G.2.2.1, 8, .inl (upd (fun _ => 0) (0 : Int32).toNatClampNeg 80))), ((u9 1), .inl (G.2.2.1, 8, .inl (fun _ => 0))), (q16, .inr (6, [.ref (u20 0), .ref (u20 1), .ref (u20 2), .ref (u20 3), .ref (u20 4), .ref (u20 5), .int 0])), ((u20 0), .inl (G.2.2.1, 64, .inl (fun _ => 0))), ((u20 1), .inl (G.2.2.1, 16, .inl (fun _ => 0))), ((u20 2), .inl (G.2.2.1, 16, .inl (fun _ => 0))), ((u20 3), .inl (G.2.2.1, 16, .inl (fun _ => 0))), ((u20 4), .inl (G.2.2.1, 16, .inl (fun _ => 0))), ((u20 5), .inl (G.2.2.1, 16, .inl (fun _ => 0))), (q27, .inr (2, [.ref (u32 0), .ref (u32 1), .int 0])), ((u32 0), .inl (G.2.2.1, 4, .inl (fun _ => 0))), ((u32 1), .inl (G.2.2.1, 4, .inl (fun _ => 0))), (q39, .inr (2, [.ref (u45 0), .ref (u45 1), .int 0])), ((u45 0), .inl (G.2.2.1, 8, .inl (fun _ => 0))), ((u45 1), .inl (G.2.2.1, 8, .inl (fun _ => 0))), (q53, .inl (G.2.2.1, 4, .inl (fun _ => 0))), (q59, .inr (3, [.ref (u63 0), .ref (u63 1), .ref (u63 2), .ref (u63 3), .ref (u63 4), .int 0, .int 0, .int 0])), ((u63 0), .inl (G.2.2.1, 3, .inl (fun _ => 0))), ((u63 1), .inl (G.2.2.1, 8, .inl (fun _ => 0))), ((u63 2), .inl (G.2.2.1, 8, .inl (fun _ => 0))), ((u63 3), .inl (G.2.2.2, 5, .inr (.inl (fun _ => 0)))), ((u63 4), .inl (G.2.2.2, 5, .inr (.inl (fun _ => 0)))), (q70, .inr (1, [.ref (u74 0), .ref (u74 1), .int 0, .int (-1)])), ((u74 0), .inl (G.2.2.1, 3857, .inl (fun _ => 0))), ((u74 1), .inl (G.2.2.2, 3857, .inr (.inl (fun _ => 0)))), (q81, .inr (5, [.long 0, .long 0, .long 0]))]) (i := 28) (av := []) (rest := [.ref q92, .ref h0]) (host := "HallHeard") [0, 1, 2, 3, 4, 5, 6, 7, 8, 9, 10, 11, 12, 13, 14, 15, 16, 17, 18, 19, 20, 21, 22, 23, 24, 25, 26, 27] kX0_init jX0_init rfl rfl dX7_init_96 (fun s h => h.2.2.2.2) rfl rfl (Nat.le_of_ble_eq_true rfl) ⟨(Nat.le_of_ble_eq_true rfl), (Nat.le_of_ble_eq_true rfl)⟩ ⟨(Nat.le_of_ble_eq_true rfl), (Nat.le_of_ble_eq_true rfl)⟩ crX0_init (fun _ _ _ _ h => h) (fun _ _ _ _ => trivial) rfl rfl rfl (by decide) (fun u96 => ?_)
  refine nV.to (cells' := 34) (slots' := 11868) (ws' := [(h0, .inr (7, [.ref q5, .ref q16, .ref q27, .ref q39, .ref q53, .ref q59, .ref q70, .ref q81, .null, .int 0, .int 0])), (q5, .inr (4, [.ref (u9 0), .ref (u9 1), .int 1])), ((u9 0), .inl (G.2.2.1, 8, .inl (upd (fun _ => 0) (0 : Int32).toNatClampNeg 80))), ((u9 1), .inl (G.2.2.1, 8, .inl (fun _ => 0))), (q16, .inr (6, [.ref (u20 0), .ref (u20 1), .ref (u20 2), .ref (u20 3), .ref (u20 4), .ref (u20 5), .int 0])), ((u20 0), .inl (G.2.2.1, 64, .inl (fun _ => 0))), ((u20 1), .inl (G.2.2.1, 16, .inl (fun _ => 0))), ((u20 2), .inl (G.2.2.1, 16, .inl (fun _ => 0))), ((u20 3), .inl (G.2.2.1, 16, .inl (fun _ => 0))), ((u20 4), .inl (G.2.2.1, 16, .inl (fun _ => 0))), ((u20 5), .inl (G.2.2.1, 16, .inl (fun _ => 0))), (q27, .inr (2, [.ref (u32 0), .ref (u32 1), .int 0])), ((u32 0), .inl (G.2.2.1, 4, .inl (fun _ => 0))), ((u32 1), .inl (G.2.2.1, 4, .inl (fun _ => 0))), (q39, .inr (2, [.ref (u45 0), .ref (u45 1), .int 0])), ((u45 0), .inl (G.2.2.1, 8, .inl (fun _ => 0))), ((u45 1), .inl (G.2.2.1, 8, .inl (fun _ => 0))), (q53, .inl (G.2.2.1, 4, .inl (fun _ => 0))), (q59, .inr (3, [.ref (u63 0), .ref (u63 1), .ref (u63 2), .ref (u63 3), .ref (u63 4), .int 0, .int 0, .int 0])), ((u63 0), .inl (G.2.2.1, 3, .inl (fun _ => 0))), ((u63 1), .inl (G.2.2.1, 8, .inl (fun _ => 0))), ((u63 2), .inl (G.2.2.1, 8, .inl (fun _ => 0))), ((u63 3), .inl (G.2.2.2, 5, .inr (.inl (fun _ => 0)))), ((u63 4), .inl (G.2.2.2, 5, .inr (.inl (fun _ => 0)))), (q70, .inr (1, [.ref (u74 0), .ref (u74 1), .int 0, .int (-1)])), ((u74 0), .inl (G.2.2.1, 3857, .inl (fun _ => 0))), ((u74 1), .inl (G.2.2.2, 3857, .inr (.inl (fun _ => 0)))), (q81, .inr (5, [.long 0, .long 0, .long 0])), (q92, .inr (0, [.ref (u96 0), .ref (u96 1), .ref (u96 2), .ref (u96 3), .ref (u96 4), .ref (u96 5), .int 0, .int 0, .int 0, .int 0, .int (-1), .int 0, .int 0])), ((u96 0), .inl (G.2.2.1, 4, .inl (fun _ => 0))), ((u96 1), .inl (G.2.2.1, 16, .inl (fun _ => 0))), ((u96 2), .inl (G.2.2.1, 3857, .inl (fun _ => 0))), ((u96 3), .inl (G.2.2.1, 6, .inl (fun _ => 0))), ((u96 4), .inl (G.2.2.2, 5, .inr (.inl (fun _ => 0)))), ((u96 5), .inl (G.2.2.2, 5, .inr (.inl (fun _ => 0))))]) rfl rfl rfl ?_
  refine nV.putF (C := RX7) (T := TX7) (N := 11) (ci := 7) (k := 8) (q0 := 0) (ty := tyX7 8) (ws' := [(h0, .inr (7, [.ref q5, .ref q16, .ref q27, .ref q39, .ref q53, .ref q59, .ref q70, .ref q81, .ref q92, .int 0, .int 0])), (q5, .inr (4, [.ref (u9 0), .ref (u9 1), .int 1])), ((u9 0), .inl (G.2.2.1, 8, .inl (upd (fun _ => 0) (0 : Int32).toNatClampNeg 80))), ((u9 1), .inl (G.2.2.1, 8, .inl (fun _ => 0))), (q16, .inr (6, [.ref (u20 0), .ref (u20 1), .ref (u20 2), .ref (u20 3), .ref (u20 4), .ref (u20 5), .int 0])), ((u20 0), .inl (G.2.2.1, 64, .inl (fun _ => 0))), ((u20 1), .inl (G.2.2.1, 16, .inl (fun _ => 0))), ((u20 2), .inl (G.2.2.1, 16, .inl (fun _ => 0))), ((u20 3), .inl (G.2.2.1, 16, .inl (fun _ => 0))), ((u20 4), .inl (G.2.2.1, 16, .inl (fun _ => 0))), ((u20 5), .inl (G.2.2.1, 16, .inl (fun _ => 0))), (q27, .inr (2, [.ref (u32 0), .ref (u32 1), .int 0])), ((u32 0), .inl (G.2.2.1, 4, .inl (fun _ => 0))), ((u32 1), .inl (G.2.2.1, 4, .inl (fun _ => 0))), (q39, .inr (2, [.ref (u45 0), .ref (u45 1), .int 0])), ((u45 0), .inl (G.2.2.1, 8, .inl (fun _ => 0))), ((u45 1), .inl (G.2.2.1, 8, .inl (fun _ => 0))), (q53, .inl (G.2.2.1, 4, .inl (fun _ => 0))), (q59, .inr (3, [.ref (u63 0), .ref (u63 1), .ref (u63 2), .ref (u63 3), .ref (u63 4), .int 0, .int 0, .int 0])), ((u63 0), .inl (G.2.2.1, 3, .inl (fun _ => 0))), ((u63 1), .inl (G.2.2.1, 8, .inl (fun _ => 0))), ((u63 2), .inl (G.2.2.1, 8, .inl (fun _ => 0))), ((u63 3), .inl (G.2.2.2, 5, .inr (.inl (fun _ => 0)))), ((u63 4), .inl (G.2.2.2, 5, .inr (.inl (fun _ => 0)))), (q70, .inr (1, [.ref (u74 0), .ref (u74 1), .int 0, .int (-1)])), ((u74 0), .inl (G.2.2.1, 3857, .inl (fun _ => 0))), ((u74 1), .inl (G.2.2.2, 3857, .inr (.inl (fun _ => 0)))), (q81, .inr (5, [.long 0, .long 0, .long 0])), (q92, .inr (0, [.ref (u96 0), .ref (u96 1), .ref (u96 2), .ref (u96 3), .ref (u96 4), .ref (u96 5), .int 0, .int 0, .int 0, .int 0, .int (-1), .int 0, .int 0])), ((u96 0), .inl (G.2.2.1, 4, .inl (fun _ => 0))), ((u96 1), .inl (G.2.2.1, 16, .inl (fun _ => 0))), ((u96 2), .inl (G.2.2.1, 3857, .inl (fun _ => 0))), ((u96 3), .inl (G.2.2.1, 6, .inl (fun _ => 0))), ((u96 4), .inl (G.2.2.2, 5, .inr (.inl (fun _ => 0)))), ((u96 5), .inl (G.2.2.2, 5, .inr (.inl (fun _ => 0))))]) dX7_init_99 inT7 tyX7 tyX7_ok nmX7 rfl rfl (by decide) wF7_63 rfl (fun _ _ h => h) rfl (tyX7_ok 8 (by decide)) rfl rfl (Nat.le_of_ble_eq_true rfl) rfl ?_
  refine nV.aload dX7_init_102 (List.mem_of_getElem? (i := 0) rfl) ?_
  refine nV.iconst (x := 2) dX7_init_103 rfl ?_
  refine nV.put (C := RX7) (T := TX7) (N := 11) (ci := 7) (k := 9) (q0 := 0) (ty := tyX7 9) (ws' := [(h0, .inr (7, [.ref q5, .ref q16, .ref q27, .ref q39, .ref q53, .ref q59, .ref q70, .ref q81, .ref q92, .int 2, .int 0])), (q5, .inr (4, [.ref (u9 0), .ref (u9 1), .int 1])), ((u9 0), .inl (G.2.2.1, 8, .inl (upd (fun _ => 0) (0 : Int32).toNatClampNeg 80))), ((u9 1), .inl (G.2.2.1, 8, .inl (fun _ => 0))), (q16, .inr (6, [.ref (u20 0), .ref (u20 1), .ref (u20 2), .ref (u20 3), .ref (u20 4), .ref (u20 5), .int 0])), ((u20 0), .inl (G.2.2.1, 64, .inl (fun _ => 0))), ((u20 1), .inl (G.2.2.1, 16, .inl (fun _ => 0))), ((u20 2), .inl (G.2.2.1, 16, .inl (fun _ => 0))), ((u20 3), .inl (G.2.2.1, 16, .inl (fun _ => 0))), ((u20 4), .inl (G.2.2.1, 16, .inl (fun _ => 0))), ((u20 5), .inl (G.2.2.1, 16, .inl (fun _ => 0))), (q27, .inr (2, [.ref (u32 0), .ref (u32 1), .int 0])), ((u32 0), .inl (G.2.2.1, 4, .inl (fun _ => 0))), ((u32 1), .inl (G.2.2.1, 4, .inl (fun _ => 0))), (q39, .inr (2, [.ref (u45 0), .ref (u45 1), .int 0])), ((u45 0), .inl (G.2.2.1, 8, .inl (fun _ => 0))), ((u45 1), .inl (G.2.2.1, 8, .inl (fun _ => 0))), (q53, .inl (G.2.2.1, 4, .inl (fun _ => 0))), (q59, .inr (3, [.ref (u63 0), .ref (u63 1), .ref (u63 2), .ref (u63 3), .ref (u63 4), .int 0, .int 0, .int 0])), ((u63 0), .inl (G.2.2.1, 3, .inl (fun _ => 0))), ((u63 1), .inl (G.2.2.1, 8, .inl (fun _ => 0))), ((u63 2), .inl (G.2.2.1, 8, .inl (fun _ => 0))), ((u63 3), .inl (G.2.2.2, 5, .inr (.inl (fun _ => 0)))), ((u63 4), .inl (G.2.2.2, 5, .inr (.inl (fun _ => 0)))), (q70, .inr (1, [.ref (u74 0), .ref (u74 1), .int 0, .int (-1)])), ((u74 0), .inl (G.2.2.1, 3857, .inl (fun _ => 0))), ((u74 1), .inl (G.2.2.2, 3857, .inr (.inl (fun _ => 0)))), (q81, .inr (5, [.long 0, .long 0, .long 0])), (q92, .inr (0, [.ref (u96 0), .ref (u96 1), .ref (u96 2), .ref (u96 3), .ref (u96 4), .ref (u96 5), .int 0, .int 0, .int 0, .int 0, .int (-1), .int 0, .int 0])), ((u96 0), .inl (G.2.2.1, 4, .inl (fun _ => 0))), ((u96 1), .inl (G.2.2.1, 16, .inl (fun _ => 0))), ((u96 2), .inl (G.2.2.1, 3857, .inl (fun _ => 0))), ((u96 3), .inl (G.2.2.1, 6, .inl (fun _ => 0))), ((u96 4), .inl (G.2.2.2, 5, .inr (.inl (fun _ => 0)))), ((u96 5), .inl (G.2.2.2, 5, .inr (.inl (fun _ => 0))))]) dX7_init_104 inT7 tyX7 tyX7_ok nmX7 rfl rfl (by decide) wF7_67 rfl (tyX7_ok 9 (by decide)) rfl rfl (Nat.le_of_ble_eq_true rfl) rfl ?_
  refine nV.aload dX7_init_107 (List.mem_of_getElem? (i := 0) rfl) ?_
  refine nV.iconst (x := 4) dX7_init_108 rfl ?_
  refine nV.put (C := RX7) (T := TX7) (N := 11) (ci := 7) (k := 10) (q0 := 0) (ty := tyX7 10) (ws' := [(h0, .inr (7, [.ref q5, .ref q16, .ref q27, .ref q39, .ref q53, .ref q59, .ref q70, .ref q81, .ref q92, .int 2, .int 4])), (q5, .inr (4, [.ref (u9 0), .ref (u9 1), .int 1])), ((u9 0), .inl (G.2.2.1, 8, .inl (upd (fun _ => 0) (0 : Int32).toNatClampNeg 80))), ((u9 1), .inl (G.2.2.1, 8, .inl (fun _ => 0))), (q16, .inr (6, [.ref (u20 0), .ref (u20 1), .ref (u20 2), .ref (u20 3), .ref (u20 4), .ref (u20 5), .int 0])), ((u20 0), .inl (G.2.2.1, 64, .inl (fun _ => 0))), ((u20 1), .inl (G.2.2.1, 16, .inl (fun _ => 0))), ((u20 2), .inl (G.2.2.1, 16, .inl (fun _ => 0))), ((u20 3), .inl (G.2.2.1, 16, .inl (fun _ => 0))), ((u20 4), .inl (G.2.2.1, 16, .inl (fun _ => 0))), ((u20 5), .inl (G.2.2.1, 16, .inl (fun _ => 0))), (q27, .inr (2, [.ref (u32 0), .ref (u32 1), .int 0])), ((u32 0), .inl (G.2.2.1, 4, .inl (fun _ => 0))), ((u32 1), .inl (G.2.2.1, 4, .inl (fun _ => 0))), (q39, .inr (2, [.ref (u45 0), .ref (u45 1), .int 0])), ((u45 0), .inl (G.2.2.1, 8, .inl (fun _ => 0))), ((u45 1), .inl (G.2.2.1, 8, .inl (fun _ => 0))), (q53, .inl (G.2.2.1, 4, .inl (fun _ => 0))), (q59, .inr (3, [.ref (u63 0), .ref (u63 1), .ref (u63 2), .ref (u63 3), .ref (u63 4), .int 0, .int 0, .int 0])), ((u63 0), .inl (G.2.2.1, 3, .inl (fun _ => 0))), ((u63 1), .inl (G.2.2.1, 8, .inl (fun _ => 0))), ((u63 2), .inl (G.2.2.1, 8, .inl (fun _ => 0))), ((u63 3), .inl (G.2.2.2, 5, .inr (.inl (fun _ => 0)))), ((u63 4), .inl (G.2.2.2, 5, .inr (.inl (fun _ => 0)))), (q70, .inr (1, [.ref (u74 0), .ref (u74 1), .int 0, .int (-1)])), ((u74 0), .inl (G.2.2.1, 3857, .inl (fun _ => 0))), ((u74 1), .inl (G.2.2.2, 3857, .inr (.inl (fun _ => 0)))), (q81, .inr (5, [.long 0, .long 0, .long 0])), (q92, .inr (0, [.ref (u96 0), .ref (u96 1), .ref (u96 2), .ref (u96 3), .ref (u96 4), .ref (u96 5), .int 0, .int 0, .int 0, .int 0, .int (-1), .int 0, .int 0])), ((u96 0), .inl (G.2.2.1, 4, .inl (fun _ => 0))), ((u96 1), .inl (G.2.2.1, 16, .inl (fun _ => 0))), ((u96 2), .inl (G.2.2.1, 3857, .inl (fun _ => 0))), ((u96 3), .inl (G.2.2.1, 6, .inl (fun _ => 0))), ((u96 4), .inl (G.2.2.2, 5, .inr (.inl (fun _ => 0)))), ((u96 5), .inl (G.2.2.2, 5, .inr (.inl (fun _ => 0))))]) dX7_init_109 inT7 tyX7 tyX7_ok nmX7 rfl rfl (by decide) wF7_71 rfl (tyX7_ok 10 (by decide)) rfl rfl (Nat.le_of_ble_eq_true rfl) rfl ?_
  exact nV.ret rfl dX7_init_112 rfl rfl (fun i => [q5, (u9 0), (u9 1), q16, (u20 0), (u20 1), (u20 2), (u20 3), (u20 4), (u20 5), q27, (u32 0), (u32 1), q39, (u45 0), (u45 1), q53, q59, (u63 0), (u63 1), (u63 2), (u63 3), (u63 4), q70, (u74 0), (u74 1), q81, q92, (u96 0), (u96 1), (u96 2), (u96 3), (u96 4), (u96 5)].getD i 0) rfl

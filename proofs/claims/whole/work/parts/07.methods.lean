/-! THE METHODS: names, field numbers, constants, what the tables say of them -/
def fLook : List (Nat × Nat × Nat × Nat) → Nat → Option (Nat × Nat)
  | [], _ => none
  | q :: t, i => bif Nat.beq q.1 i then some (q.2.1, q.2.2.1) else fLook t i
theorem fLook_mem : ∀ {l : List (Nat × Nat × Nat × Nat)} {i ci k : Nat}, fLook l i = some (ci, k) → ∃ q ∈ l, q.1 = i ∧ q.2.1 = ci ∧ q.2.2.1 = k
  | [], _, _, _, h => by cases h
  | q :: t, i, ci, k, h => by
    unfold fLook at h
    cases hq : Nat.beq q.1 i with
    | true =>
      rw [hq] at h
      simp only [cond_true, Option.some.injEq, Prod.mk.injEq] at h
      exact ⟨q, List.mem_cons_self, Nat.eq_of_beq_eq_true hq, h.1, h.2⟩
    | false =>
      rw [hq] at h
      obtain ⟨r, h1, h2⟩ := fLook_mem h
      exact ⟨r, List.mem_cons_of_mem _ h1, h2⟩
def fLkOk (own : String) (q : Nat × Nat × Nat × Nat) : Bool := match vwCl[q.2.1]? with
  | none => false
  | some z => decide (q.2.2.1 < z.2.2) && (decide (lw_tbl[q.2.2.2]? = some (Cond.fieldLink own q.1 (z.2.1 q.2.2.1).1 (z.2.1 q.2.2.1).2.1 (z.2.1 q.2.2.1).2.2.1)) && goodWord (Cond.fieldLink own q.1 (z.2.1 q.2.2.1).1 (z.2.1 q.2.2.1).2.1 (z.2.1 q.2.2.1).2.2.1))
theorem fLk_of {own : String} {l : List (Nat × Nat × Nat × Nat)} (h : l.all (fLkOk own) = true) : fFlOk own (fLook l) := by
  intro idx ci k hk
  obtain ⟨q, hq, rfl, rfl, rfl⟩ := fLook_mem hk
  have z := List.all_eq_true.mp h q hq
  unfold fLkOk at z
  split at z
  · cases z
  · rename_i w hw
    obtain ⟨C, T, N⟩ := w
    simp only [Bool.and_eq_true, decide_eq_true_eq] at z
    exact ⟨C, T, N, hw, z.1, fTB_at _ z.2.1 z.2.2⟩
def fKon : List (Nat × Value × Nat) → Nat → Option Value
  | [], _ => none
  | q :: t, i => bif Nat.beq q.1 i then some q.2.1 else fKon t i
theorem fKon_mem : ∀ {l : List (Nat × Value × Nat)} {i : Nat} {v : Value}, fKon l i = some v → ∃ q ∈ l, q.1 = i ∧ q.2.1 = v
  | [], _, _, h => by cases h
  | q :: t, i, v, h => by
    unfold fKon at h
    cases hq : Nat.beq q.1 i with
    | true =>
      rw [hq] at h
      simp only [cond_true, Option.some.injEq] at h
      exact ⟨q, List.mem_cons_self, Nat.eq_of_beq_eq_true hq, h⟩
    | false =>
      rw [hq] at h
      obtain ⟨r, h1, h2⟩ := fKon_mem h
      exact ⟨r, List.mem_cons_of_mem _ h1, h2⟩
def fKonOk (own : String) (q : Nat × Value × Nat) : Bool := match q.2.1 with
  | .int x => decide (lw_tbl[q.2.2]? = some (Cond.constant own q.1 x)) && goodWord (Cond.constant own q.1 x)
  | .long x => decide (lw_tbl[q.2.2]? = some (Cond.constantLong own q.1 x)) && goodWord (Cond.constantLong own q.1 x)
  | _ => false
theorem fKon_of {own : String} {l : List (Nat × Value × Nat)} (h : l.all (fKonOk own) = true) : fKcOk own (fKon l) := by
  intro idx
  refine ⟨fun x hx => ?_, fun x hx => ?_⟩
  · obtain ⟨q, hq, rfl, e⟩ := fKon_mem hx
    have z := List.all_eq_true.mp h q hq
    unfold fKonOk at z
    rw [e] at z
    simp only [Bool.and_eq_true, decide_eq_true_eq] at z
    exact fTB_at _ z.1 z.2
  · obtain ⟨q, hq, rfl, e⟩ := fKon_mem hx
    have z := List.all_eq_true.mp h q hq
    unfold fKonOk at z
    rw [e] at z
    simp only [Bool.and_eq_true, decide_eq_true_eq] at z
    exact fTB_at _ z.1 z.2
def flX0 : List (Nat × Nat × Nat × Nat) := [(31, 0, 6, 244), (9, 0, 0, 232), (41, 0, 9, 250), (45, 0, 10, 252), (51, 0, 12, 256), (15, 0, 1, 234), (21, 0, 3, 238), (48, 0, 11, 254), (35, 0, 7, 246), (38, 0, 8, 248), (18, 0, 2, 236), (54, 6, 1, 98), (57, 1, 2, 194)]
theorem flX0_ok : fFlOk RX0 (fLook flX0) := fLk_of (by decide +kernel)
def kcX0 : List (Nat × Value × Nat) := []
theorem kcX0_ok : fKcOk RX0 (fKon kcX0) := fKon_of (by decide +kernel)
def flX1 : List (Nat × Nat × Nat × Nat) := [(19, 1, 2, 193), (23, 1, 3, 196), (11, 1, 0, 190), (15, 1, 1, 191), (26, 3, 7, 164), (31, 3, 0, 155)]
theorem flX1_ok : fFlOk RX1 (fLook flX1) := fLk_of (by decide +kernel)
def kcX1 : List (Nat × Value × Nat) := [(46, .long (32768), 491)]
theorem kcX1_ok : fKcOk RX1 (fKon kcX1) := fKon_of (by decide +kernel)
def flX2 : List (Nat × Nat × Nat × Nat) := [(9, 2, 2, 139), (21, 2, 0, 135), (25, 2, 1, 137)]
theorem flX2_ok : fFlOk RX2 (fLook flX2) := fLk_of (by decide +kernel)
def kcX2 : List (Nat × Value × Nat) := []
theorem kcX2_ok : fKcOk RX2 (fKon kcX2) := fKon_of (by decide +kernel)
def flX3 : List (Nat × Nat × Nat × Nat) := [(25, 3, 4, 160), (35, 3, 7, 163), (15, 3, 1, 157), (18, 3, 2, 158), (21, 3, 3, 159), (9, 3, 0, 154), (42, 6, 2, 101), (28, 3, 5, 161), (32, 3, 6, 162), (47, 6, 3, 103), (68, 6, 4, 105), (71, 6, 5, 107), (74, 6, 6, 110)]
theorem flX3_ok : fFlOk RX3 (fLook flX3) := fLk_of (by decide +kernel)
def kcX3 : List (Nat × Value × Nat) := []
theorem kcX3_ok : fKcOk RX3 (fKon kcX3) := fKon_of (by decide +kernel)
def flX4 : List (Nat × Nat × Nat × Nat) := [(18, 4, 2, 79), (9, 4, 0, 75), (15, 4, 1, 77)]
theorem flX4_ok : fFlOk RX4 (fLook flX4) := fLk_of (by decide +kernel)
def kcX4 : List (Nat × Value × Nat) := []
theorem kcX4_ok : fKcOk RX4 (fKon kcX4) := fKon_of (by decide +kernel)
def flX5 : List (Nat × Nat × Nat × Nat) := [(7, 5, 0, 213), (13, 5, 1, 215), (16, 5, 2, 217)]
theorem flX5_ok : fFlOk RX5 (fLook flX5) := fLk_of (by decide +kernel)
def kcX5 : List (Nat × Value × Nat) := []
theorem kcX5_ok : fKcOk RX5 (fKon kcX5) := fKon_of (by decide +kernel)
def flX6 : List (Nat × Nat × Nat × Nat) := [(30, 6, 6, 108), (9, 6, 0, 95), (24, 6, 4, 104), (27, 6, 5, 106), (15, 6, 1, 97), (18, 6, 2, 100), (21, 6, 3, 102)]
theorem flX6_ok : fFlOk RX6 (fLook flX6) := fLk_of (by decide +kernel)
def kcX6 : List (Nat × Value × Nat) := []
theorem kcX6_ok : fKcOk RX6 (fKon kcX6) := fKon_of (by decide +kernel)
def flX7 : List (Nat × Nat × Nat × Nat) := [(19, 7, 1, 286), (63, 7, 8, 293), (49, 7, 6, 291), (42, 7, 5, 290), (56, 7, 7, 292), (10, 7, 0, 285), (97, 6, 6, 109), (28, 7, 2, 287), (67, 7, 9, 294), (32, 7, 3, 288), (94, 6, 1, 99), (35, 7, 4, 289), (163, 3, 7, 165), (179, 5, 0, 214), (183, 5, 1, 216), (71, 7, 10, 295), (132, 1, 2, 195), (114, 2, 2, 140), (190, 5, 2, 218), (197, 1, 3, 197), (278, 0, 4, 241), (280, 0, 5, 243), (113, 4, 2, 80), (142, 1, 1, 192), (237, 4, 0, 76), (240, 2, 0, 136), (243, 2, 1, 138), (293, 0, 1, 235), (294, 0, 3, 239), (110, 6, 0, 96), (219, 0, 9, 251), (223, 0, 10, 253), (226, 0, 11, 255), (229, 0, 12, 257), (261, 3, 0, 156), (275, 0, 6, 245), (285, 0, 0, 233), (287, 4, 1, 78), (290, 0, 7, 247), (297, 0, 2, 237), (300, 0, 8, 249)]
theorem flX7_ok : fFlOk RX7 (fLook flX7) := fLk_of (by decide +kernel)
def kcX7 : List (Nat × Value × Nat) := [(133, .long (-1001), 500), (135, .long (-1002), 501), (137, .long (-1), 502), (200, .long (1000000000000), 565), (202, .long (1000), 553), (207, .int (1000000), 584), (264, .long (1000000), 515), (266, .long (100), 517)]
theorem kcX7_ok : fKcOk RX7 (fKon kcX7) := fKon_of (by decide +kernel)
def flX8 : List (Nat × Nat × Nat × Nat) := [(89, 8, 3, 619), (16, 8, 4, 620), (159, 8, 22, 638), (78, 8, 0, 616), (19, 8, 5, 621), (48, 8, 16, 632), (181, 8, 25, 641), (63, 8, 21, 637), (103, 8, 6, 622), (106, 8, 10, 626), (149, 8, 24, 640), (44, 8, 15, 631), (145, 8, 23, 639), (51, 8, 17, 633), (54, 8, 18, 634), (57, 8, 19, 635), (60, 8, 20, 636), (41, 8, 14, 630), (7, 8, 1, 617), (37, 8, 13, 629), (69, 8, 27, 643), (72, 8, 28, 644), (13, 8, 2, 618), (22, 8, 7, 623), (25, 8, 8, 624), (31, 8, 11, 627), (34, 8, 12, 628), (28, 8, 9, 625), (66, 8, 26, 642), (75, 8, 29, 645)]
theorem flX8_ok : fFlOk RX8 (fLook flX8) := fLk_of (by decide +kernel)
def kcX8 : List (Nat × Value × Nat) := [(81, .long (1000), 715), (87, .long (100), 711), (115, .long (3), 763), (121, .long (5), 768), (162, .long (2), 821), (191, .long (1000000), 869), (197, .long (16384), 874), (199, .long (50), 875), (204, .long (-1), 800), (210, .long (-1001), 858), (212, .long (6), 859), (214, .long (-1002), 860), (226, .long (4), 884), (231, .long (300), 897), (233, .long (1000000000000), 902)]
theorem kcX8_ok : fKcOk RX8 (fKon kcX8) := fKon_of (by decide +kernel)
def flJ6 : List (Nat × Nat × Nat × Nat) := []
theorem flJ6_ok : fFlOk RJ6 (fLook flJ6) := fLk_of (by decide +kernel)
def kcJ6 : List (Nat × Value × Nat) := [(265, .int (1431655765), 581), (266, .int (858993459), 582), (267, .int (252645135), 583)]
theorem kcJ6_ok : fKcOk RJ6 (fKon kcJ6) := fKon_of (by decide +kernel)
def flJ9 : List (Nat × Nat × Nat × Nat) := []
theorem flJ9_ok : fFlOk RJ9 (fLook flJ9) := fLk_of (by decide +kernel)
def kcJ9 : List (Nat × Value × Nat) := []
theorem kcJ9_ok : fKcOk RJ9 (fKon kcJ9) := fKon_of (by decide +kernel)
def flL : List (Nat × Nat × Nat × Nat) := []
theorem flL_ok : fFlOk RL (fLook flL) := fLk_of (by decide +kernel)
def kcL : List (Nat × Value × Nat) := [(81, .long (4294967295), 914)]
theorem kcL_ok : fKcOk RL (fKon kcL) := fKon_of (by decide +kernel)
def mX0_begin : fM := (yX0_begin, cX0_begin, 6, none, fLook flX0, fKon kcX0)
theorem bXX0_begin : fMb mX0_begin := ⟨flX0_ok, kcX0_ok, by decide +kernel⟩
set_option maxRecDepth 100000 in
theorem kX0_begin : fMokV mX0_begin 4 := ⟨⟨fTB_at 588 rfl rfl, fTB_at 58 rfl rfl, by decide +kernel, by decide +kernel, by decide +kernel⟩, fTB_at 586 rfl rfl, fTB_at 587 rfl rfl⟩
def mX0_group : fM := (yX0_group, cX0_group, 5, none, fLook flX0, fKon kcX0)
theorem bXX0_group : fMb mX0_group := ⟨flX0_ok, kcX0_ok, by decide +kernel⟩
set_option maxRecDepth 100000 in
theorem kX0_group : fMokV mX0_group 1 := ⟨⟨fTB_at 592 rfl rfl, fTB_at 58 rfl rfl, by decide +kernel, by decide +kernel, by decide +kernel⟩, fTB_at 590 rfl rfl, fTB_at 591 rfl rfl⟩
def mX0_groupOf : fM := (yX0_groupOf, cX0_groupOf, 7, (some .int), fLook flX0, fKon kcX0)
theorem bXX0_groupOf : fMb mX0_groupOf := ⟨flX0_ok, kcX0_ok, by decide +kernel⟩
set_option maxRecDepth 100000 in
theorem kX0_groupOf : fMokV mX0_groupOf 2 := ⟨⟨fTB_at 596 rfl rfl, fTB_at 58 rfl rfl, by decide +kernel, by decide +kernel, by decide +kernel⟩, fTB_at 595 rfl rfl, fTB_at 19 rfl rfl⟩
def mX0_weigh : fM := (yX0_weigh, cX0_weigh, 4, none, fLook flX0, fKon kcX0)
theorem bXX0_weigh : fMb mX0_weigh := ⟨flX0_ok, kcX0_ok, by decide +kernel⟩
set_option maxRecDepth 100000 in
theorem kX0_weigh : fMokV mX0_weigh 2 := ⟨⟨fTB_at 609 rfl rfl, fTB_at 58 rfl rfl, by decide +kernel, by decide +kernel, by decide +kernel⟩, fTB_at 607 rfl rfl, fTB_at 608 rfl rfl⟩
def mX1_clear : fM := (yX1_clear, cX1_clear, 1, none, fLook flX1, fKon kcX1)
theorem bXX1_clear : fMb mX1_clear := ⟨flX1_ok, kcX1_ok, by decide +kernel⟩
set_option maxRecDepth 100000 in
theorem kX1_clear : fMokV mX1_clear 0 := ⟨⟨fTB_at 429 rfl rfl, fTB_at 56 rfl rfl, by decide +kernel, by decide +kernel, by decide +kernel⟩, fTB_at 427 rfl rfl, fTB_at 428 rfl rfl⟩
def mX1_add : fM := (yX1_add, cX1_add, 6, none, fLook flX1, fKon kcX1)
theorem bXX1_add : fMb mX1_add := ⟨flX1_ok, kcX1_ok, by decide +kernel⟩
set_option maxRecDepth 100000 in
theorem kX1_add : fMokV mX1_add 1 := ⟨⟨fTB_at 483 rfl rfl, fTB_at 56 rfl rfl, by decide +kernel, by decide +kernel, by decide +kernel⟩, fTB_at 481 rfl rfl, fTB_at 482 rfl rfl⟩
def mX1_wallOf : fM := (yX1_wallOf, cX1_wallOf, 3, (some .int), fLook flX1, fKon kcX1)
theorem bXX1_wallOf : fMb mX1_wallOf := ⟨flX1_ok, kcX1_ok, by decide +kernel⟩
set_option maxRecDepth 100000 in
theorem kX1_wallOf : fMokV mX1_wallOf 2 := ⟨⟨fTB_at 510 rfl rfl, fTB_at 56 rfl rfl, by decide +kernel, by decide +kernel, by decide +kernel⟩, fTB_at 508 rfl rfl, fTB_at 509 rfl rfl⟩
def mX1_tickOf : fM := (yX1_tickOf, cX1_tickOf, 2, (some .int), fLook flX1, fKon kcX1)
theorem bXX1_tickOf : fMb mX1_tickOf := ⟨flX1_ok, kcX1_ok, by decide +kernel⟩
set_option maxRecDepth 100000 in
theorem kX1_tickOf : fMokV mX1_tickOf 1 := ⟨⟨fTB_at 521 rfl rfl, fTB_at 56 rfl rfl, by decide +kernel, by decide +kernel, by decide +kernel⟩, fTB_at 519 rfl rfl, fTB_at 520 rfl rfl⟩
def mX1_orderOf : fM := (yX1_orderOf, cX1_orderOf, 4, (some .int), fLook flX1, fKon kcX1)
theorem bXX1_orderOf : fMb mX1_orderOf := ⟨flX1_ok, kcX1_ok, by decide +kernel⟩
set_option maxRecDepth 100000 in
theorem kX1_orderOf : fMokV mX1_orderOf 1 := ⟨⟨fTB_at 506 rfl rfl, fTB_at 56 rfl rfl, by decide +kernel, by decide +kernel, by decide +kernel⟩, fTB_at 504 rfl rfl, fTB_at 505 rfl rfl⟩
def mX1_wholeRoot : fM := (yX1_wholeRoot, cX1_wholeRoot, 6, (some .int), fLook flX1, fKon kcX1)
theorem bXX1_wholeRoot : fMb mX1_wholeRoot := ⟨flX1_ok, kcX1_ok, by decide +kernel⟩
set_option maxRecDepth 100000 in
theorem kX1_wholeRoot : fMokS mX1_wholeRoot 1 := ⟨⟨fTB_at 490 rfl rfl, fTB_at 56 rfl rfl, by decide +kernel, by decide +kernel, by decide +kernel⟩, fTB_at 489 rfl rfl⟩
def mX2_has : fM := (yX2_has, cX2_has, 2, (some .boolean), fLook flX2, fKon kcX2)
theorem bXX2_has : fMb mX2_has := ⟨flX2_ok, kcX2_ok, by decide +kernel⟩
set_option maxRecDepth 100000 in
theorem kX2_has : fMokV mX2_has 1 := ⟨⟨fTB_at 376 rfl rfl, fTB_at 53 rfl rfl, by decide +kernel, by decide +kernel, by decide +kernel⟩, fTB_at 374 rfl rfl, fTB_at 375 rfl rfl⟩
def mX2_add : fM := (yX2_add, cX2_add, 3, (some .int), fLook flX2, fKon kcX2)
theorem bXX2_add : fMb mX2_add := ⟨flX2_ok, kcX2_ok, by decide +kernel⟩
set_option maxRecDepth 100000 in
theorem kX2_add : fMokV mX2_add 2 := ⟨⟨fTB_at 368 rfl rfl, fTB_at 53 rfl rfl, by decide +kernel, by decide +kernel, by decide +kernel⟩, fTB_at 366 rfl rfl, fTB_at 367 rfl rfl⟩
def mX2_put : fM := (yX2_put, cX2_put, 4, none, fLook flX2, fKon kcX2)
theorem bXX2_put : fMb mX2_put := ⟨flX2_ok, kcX2_ok, by decide +kernel⟩
set_option maxRecDepth 100000 in
theorem kX2_put : fMokV mX2_put 3 := ⟨⟨fTB_at 372 rfl rfl, fTB_at 53 rfl rfl, by decide +kernel, by decide +kernel, by decide +kernel⟩, fTB_at 370 rfl rfl, fTB_at 371 rfl rfl⟩
def mX3_start : fM := (yX3_start, cX3_start, 5, none, fLook flX3, fKon kcX3)
theorem bXX3_start : fMb mX3_start := ⟨flX3_ok, kcX3_ok, by decide +kernel⟩
set_option maxRecDepth 100000 in
theorem kX3_start : fMokV mX3_start 4 := ⟨⟨fTB_at 437 rfl rfl, fTB_at 55 rfl rfl, by decide +kernel, by decide +kernel, by decide +kernel⟩, fTB_at 435 rfl rfl, fTB_at 436 rfl rfl⟩
def mX3_put : fM := (yX3_put, cX3_put, 4, none, fLook flX3, fKon kcX3)
theorem bXX3_put : fMb mX3_put := ⟨flX3_ok, kcX3_ok, by decide +kernel⟩
set_option maxRecDepth 100000 in
theorem kX3_put : fMokV mX3_put 3 := ⟨⟨fTB_at 495 rfl rfl, fTB_at 55 rfl rfl, by decide +kernel, by decide +kernel, by decide +kernel⟩, fTB_at 493 rfl rfl, fTB_at 494 rfl rfl⟩
def mX3_mirror : fM := (yX3_mirror, cX3_mirror, 6, none, fLook flX3, fKon kcX3)
theorem bXX3_mirror : fMb mX3_mirror := ⟨flX3_ok, kcX3_ok, by decide +kernel⟩
set_option maxRecDepth 100000 in
theorem kX3_mirror : fMokS mX3_mirror 5 := ⟨⟨fTB_at 463 rfl rfl, fTB_at 55 rfl rfl, by decide +kernel, by decide +kernel, by decide +kernel⟩, fTB_at 462 rfl rfl⟩
def mX3_lengthSquared : fM := (yX3_lengthSquared, cX3_lengthSquared, 5, (some .long), fLook flX3, fKon kcX3)
theorem bXX3_lengthSquared : fMb mX3_lengthSquared := ⟨flX3_ok, kcX3_ok, by decide +kernel⟩
set_option maxRecDepth 100000 in
theorem kX3_lengthSquared : fMokV mX3_lengthSquared 0 := ⟨⟨fTB_at 487 rfl rfl, fTB_at 55 rfl rfl, by decide +kernel, by decide +kernel, by decide +kernel⟩, fTB_at 485 rfl rfl, fTB_at 486 rfl rfl⟩
def mX3_hasBounces : fM := (yX3_hasBounces, cX3_hasBounces, 4, (some .boolean), fLook flX3, fKon kcX3)
theorem bXX3_hasBounces : fMb mX3_hasBounces := ⟨flX3_ok, kcX3_ok, by decide +kernel⟩
set_option maxRecDepth 100000 in
theorem kX3_hasBounces : fMokV mX3_hasBounces 1 := ⟨⟨fTB_at 445 rfl rfl, fTB_at 55 rfl rfl, by decide +kernel, by decide +kernel, by decide +kernel⟩, fTB_at 443 rfl rfl, fTB_at 444 rfl rfl⟩
def mX3_setBounce : fM := (yX3_setBounce, cX3_setBounce, 16, (some .boolean), fLook flX3, fKon kcX3)
theorem bXX3_setBounce : fMb mX3_setBounce := ⟨flX3_ok, kcX3_ok, by decide +kernel⟩
set_option maxRecDepth 100000 in
theorem kX3_setBounce : fMokV mX3_setBounce 3 := ⟨⟨fTB_at 449 rfl rfl, fTB_at 55 rfl rfl, by decide +kernel, by decide +kernel, by decide +kernel⟩, fTB_at 448 rfl rfl, fTB_at 7 rfl rfl⟩
def mX3_isOnWall : fM := (yX3_isOnWall, cX3_isOnWall, 10, (some .boolean), fLook flX3, fKon kcX3)
theorem bXX3_isOnWall : fMb mX3_isOnWall := ⟨flX3_ok, kcX3_ok, by decide +kernel⟩
set_option maxRecDepth 100000 in
theorem kX3_isOnWall : fMokV mX3_isOnWall 5 := ⟨⟨fTB_at 456 rfl rfl, fTB_at 55 rfl rfl, by decide +kernel, by decide +kernel, by decide +kernel⟩, fTB_at 455 rfl rfl, fTB_at 8 rfl rfl⟩
def mX3_sidewaysAt : fM := (yX3_sidewaysAt, cX3_sidewaysAt, 11, (some .long), fLook flX3, fKon kcX3)
theorem bXX3_sidewaysAt : fMb mX3_sidewaysAt := ⟨flX3_ok, kcX3_ok, by decide +kernel⟩
set_option maxRecDepth 100000 in
theorem kX3_sidewaysAt : fMokV mX3_sidewaysAt 4 := ⟨⟨fTB_at 460 rfl rfl, fTB_at 55 rfl rfl, by decide +kernel, by decide +kernel, by decide +kernel⟩, fTB_at 459 rfl rfl, fTB_at 9 rfl rfl⟩
def mX3_isSeen : fM := (yX3_isSeen, cX3_isSeen, 4, (some .boolean), fLook flX3, fKon kcX3)
theorem bXX3_isSeen : fMb mX3_isSeen := ⟨flX3_ok, kcX3_ok, by decide +kernel⟩
set_option maxRecDepth 100000 in
theorem kX3_isSeen : fMokV mX3_isSeen 1 := ⟨⟨fTB_at 467 rfl rfl, fTB_at 55 rfl rfl, by decide +kernel, by decide +kernel, by decide +kernel⟩, fTB_at 465 rfl rfl, fTB_at 466 rfl rfl⟩
def mX3_bouncesAtEnd : fM := (yX3_bouncesAtEnd, cX3_bouncesAtEnd, 3, (some .boolean), fLook flX3, fKon kcX3)
theorem bXX3_bouncesAtEnd : fMb mX3_bouncesAtEnd := ⟨flX3_ok, kcX3_ok, by decide +kernel⟩
set_option maxRecDepth 100000 in
theorem kX3_bouncesAtEnd : fMokV mX3_bouncesAtEnd 2 := ⟨⟨fTB_at 471 rfl rfl, fTB_at 55 rfl rfl, by decide +kernel, by decide +kernel, by decide +kernel⟩, fTB_at 470 rfl rfl, fTB_at 10 rfl rfl⟩
def mX3_meets : fM := (yX3_meets, cX3_meets, 13, (some .boolean), fLook flX3, fKon kcX3)
theorem bXX3_meets : fMb mX3_meets := ⟨flX3_ok, kcX3_ok, by decide +kernel⟩
set_option maxRecDepth 100000 in
theorem kX3_meets : fMokV mX3_meets 3 := ⟨⟨fTB_at 475 rfl rfl, fTB_at 55 rfl rfl, by decide +kernel, by decide +kernel, by decide +kernel⟩, fTB_at 474 rfl rfl, fTB_at 11 rfl rfl⟩
def mX3_overlaps : fM := (yX3_overlaps, cX3_overlaps, 15, (some .boolean), fLook flX3, fKon kcX3)
theorem bXX3_overlaps : fMb mX3_overlaps := ⟨flX3_ok, kcX3_ok, by decide +kernel⟩
set_option maxRecDepth 100000 in
theorem kX3_overlaps : fMokV mX3_overlaps 3 := ⟨⟨fTB_at 479 rfl rfl, fTB_at 55 rfl rfl, by decide +kernel, by decide +kernel, by decide +kernel⟩, fTB_at 478 rfl rfl, fTB_at 12 rfl rfl⟩
def mX4_has : fM := (yX4_has, cX4_has, 2, (some .boolean), fLook flX4, fKon kcX4)
theorem bXX4_has : fMb mX4_has := ⟨flX4_ok, kcX4_ok, by decide +kernel⟩
set_option maxRecDepth 100000 in
theorem kX4_has : fMokV mX4_has 1 := ⟨⟨fTB_at 337 rfl rfl, fTB_at 51 rfl rfl, by decide +kernel, by decide +kernel, by decide +kernel⟩, fTB_at 335 rfl rfl, fTB_at 336 rfl rfl⟩
def mX4_add : fM := (yX4_add, cX4_add, 3, (some .int), fLook flX4, fKon kcX4)
theorem bXX4_add : fMb mX4_add := ⟨flX4_ok, kcX4_ok, by decide +kernel⟩
set_option maxRecDepth 100000 in
theorem kX4_add : fMokV mX4_add 2 := ⟨⟨fTB_at 329 rfl rfl, fTB_at 51 rfl rfl, by decide +kernel, by decide +kernel, by decide +kernel⟩, fTB_at 327 rfl rfl, fTB_at 328 rfl rfl⟩
def mX5_clear : fM := (yX5_clear, cX5_clear, 1, none, fLook flX5, fKon kcX5)
theorem bXX5_clear : fMb mX5_clear := ⟨flX5_ok, kcX5_ok, by decide +kernel⟩
set_option maxRecDepth 100000 in
theorem kX5_clear : fMokV mX5_clear 0 := ⟨⟨fTB_at 545 rfl rfl, fTB_at 57 rfl rfl, by decide +kernel, by decide +kernel, by decide +kernel⟩, fTB_at 543 rfl rfl, fTB_at 544 rfl rfl⟩
def mX6_has : fM := (yX6_has, cX6_has, 2, (some .boolean), fLook flX6, fKon kcX6)
theorem bXX6_has : fMb mX6_has := ⟨flX6_ok, kcX6_ok, by decide +kernel⟩
set_option maxRecDepth 100000 in
theorem kX6_has : fMokV mX6_has 1 := ⟨⟨fTB_at 356 rfl rfl, fTB_at 52 rfl rfl, by decide +kernel, by decide +kernel, by decide +kernel⟩, fTB_at 354 rfl rfl, fTB_at 355 rfl rfl⟩
def mX6_add : fM := (yX6_add, cX6_add, 7, (some .int), fLook flX6, fKon kcX6)
theorem bXX6_add : fMb mX6_add := ⟨flX6_ok, kcX6_ok, by decide +kernel⟩
set_option maxRecDepth 100000 in
theorem kX6_add : fMokV mX6_add 5 := ⟨⟨fTB_at 344 rfl rfl, fTB_at 52 rfl rfl, by decide +kernel, by decide +kernel, by decide +kernel⟩, fTB_at 342 rfl rfl, fTB_at 343 rfl rfl⟩
def mX6_lengthOf : fM := (yX6_lengthOf, cX6_lengthOf, 2, (some .int), fLook flX6, fKon kcX6)
theorem bXX6_lengthOf : fMb mX6_lengthOf := ⟨flX6_ok, kcX6_ok, by decide +kernel⟩
set_option maxRecDepth 100000 in
theorem kX6_lengthOf : fMokV mX6_lengthOf 1 := ⟨⟨fTB_at 397 rfl rfl, fTB_at 52 rfl rfl, by decide +kernel, by decide +kernel, by decide +kernel⟩, fTB_at 395 rfl rfl, fTB_at 396 rfl rfl⟩
def mX7_stuff : fM := (yX7_stuff, cX7_stuff, 3, (some .int), fLook flX7, fKon kcX7)
theorem bXX7_stuff : fMb mX7_stuff := ⟨flX7_ok, kcX7_ok, by decide +kernel⟩
set_option maxRecDepth 100000 in
theorem kX7_stuff : fMokV mX7_stuff 2 := ⟨⟨fTB_at 322 rfl rfl, fTB_at 50 rfl rfl, by decide +kernel, by decide +kernel, by decide +kernel⟩, fTB_at 320 rfl rfl, fTB_at 321 rfl rfl⟩
def mX7_wall : fM := (yX7_wall, cX7_wall, 8, (some .int), fLook flX7, fKon kcX7)
theorem bXX7_wall : fMb mX7_wall := ⟨flX7_ok, kcX7_ok, by decide +kernel⟩
set_option maxRecDepth 100000 in
theorem kX7_wall : fMokV mX7_wall 5 := ⟨⟨fTB_at 333 rfl rfl, fTB_at 50 rfl rfl, by decide +kernel, by decide +kernel, by decide +kernel⟩, fTB_at 331 rfl rfl, fTB_at 332 rfl rfl⟩
def mX7_cover : fM := (yX7_cover, cX7_cover, 4, (some .int), fLook flX7, fKon kcX7)
theorem bXX7_cover : fMb mX7_cover := ⟨flX7_ok, kcX7_ok, by decide +kernel⟩
set_option maxRecDepth 100000 in
theorem kX7_cover : fMokV mX7_cover 2 := ⟨⟨fTB_at 352 rfl rfl, fTB_at 50 rfl rfl, by decide +kernel, by decide +kernel, by decide +kernel⟩, fTB_at 350 rfl rfl, fTB_at 351 rfl rfl⟩
def mX7_back : fM := (yX7_back, cX7_back, 1, (some .int), fLook flX7, fKon kcX7)
theorem bXX7_back : fMb mX7_back := ⟨flX7_ok, kcX7_ok, by decide +kernel⟩
set_option maxRecDepth 100000 in
theorem kX7_back : fMokV mX7_back 0 := ⟨⟨fTB_at 360 rfl rfl, fTB_at 50 rfl rfl, by decide +kernel, by decide +kernel, by decide +kernel⟩, fTB_at 358 rfl rfl, fTB_at 359 rfl rfl⟩
def mX7_source : fM := (yX7_source, cX7_source, 5, (some .int), fLook flX7, fKon kcX7)
theorem bXX7_source : fMb mX7_source := ⟨flX7_ok, kcX7_ok, by decide +kernel⟩
set_option maxRecDepth 100000 in
theorem kX7_source : fMokV mX7_source 3 := ⟨⟨fTB_at 364 rfl rfl, fTB_at 50 rfl rfl, by decide +kernel, by decide +kernel, by decide +kernel⟩, fTB_at 362 rfl rfl, fTB_at 363 rfl rfl⟩
def mX7_seat : fM := (yX7_seat, cX7_seat, 3, (some .int), fLook flX7, fKon kcX7)
theorem bXX7_seat : fMb mX7_seat := ⟨flX7_ok, kcX7_ok, by decide +kernel⟩
set_option maxRecDepth 100000 in
theorem kX7_seat : fMokV mX7_seat 2 := ⟨⟨fTB_at 380 rfl rfl, fTB_at 50 rfl rfl, by decide +kernel, by decide +kernel, by decide +kernel⟩, fTB_at 378 rfl rfl, fTB_at 379 rfl rfl⟩
def mX7_move : fM := (yX7_move, cX7_move, 6, (some .int), fLook flX7, fKon kcX7)
theorem bXX7_move : fMb mX7_move := ⟨flX7_ok, kcX7_ok, by decide +kernel⟩
set_option maxRecDepth 100000 in
theorem kX7_move : fMokV mX7_move 4 := ⟨⟨fTB_at 384 rfl rfl, fTB_at 50 rfl rfl, by decide +kernel, by decide +kernel, by decide +kernel⟩, fTB_at 382 rfl rfl, fTB_at 383 rfl rfl⟩
def mX7_rule : fM := (yX7_rule, cX7_rule, 4, (some .int), fLook flX7, fKon kcX7)
theorem bXX7_rule : fMb mX7_rule := ⟨flX7_ok, kcX7_ok, by decide +kernel⟩
set_option maxRecDepth 100000 in
theorem kX7_rule : fMokV mX7_rule 2 := ⟨⟨fTB_at 389 rfl rfl, fTB_at 50 rfl rfl, by decide +kernel, by decide +kernel, by decide +kernel⟩, fTB_at 387 rfl rfl, fTB_at 388 rfl rfl⟩
def mX7_told : fM := (yX7_told, cX7_told, 3, (some .int), fLook flX7, fKon kcX7)
theorem bXX7_told : fMb mX7_told := ⟨flX7_ok, kcX7_ok, by decide +kernel⟩
set_option maxRecDepth 100000 in
theorem kX7_told : fMokV mX7_told 2 := ⟨⟨fTB_at 393 rfl rfl, fTB_at 50 rfl rfl, by decide +kernel, by decide +kernel, by decide +kernel⟩, fTB_at 391 rfl rfl, fTB_at 392 rfl rfl⟩
def mX7_count : fM := (yX7_count, cX7_count, 2, (some .int), fLook flX7, fKon kcX7)
theorem bXX7_count : fMb mX7_count := ⟨flX7_ok, kcX7_ok, by decide +kernel⟩
set_option maxRecDepth 100000 in
theorem kX7_count : fMokV mX7_count 1 := ⟨⟨fTB_at 401 rfl rfl, fTB_at 50 rfl rfl, by decide +kernel, by decide +kernel, by decide +kernel⟩, fTB_at 399 rfl rfl, fTB_at 400 rfl rfl⟩
def mX7_paths : fM := (yX7_paths, cX7_paths, 4, (some .int), fLook flX7, fKon kcX7)
theorem bXX7_paths : fMb mX7_paths := ⟨flX7_ok, kcX7_ok, by decide +kernel⟩
set_option maxRecDepth 100000 in
theorem kX7_paths : fMokV mX7_paths 3 := ⟨⟨fTB_at 417 rfl rfl, fTB_at 50 rfl rfl, by decide +kernel, by decide +kernel, by decide +kernel⟩, fTB_at 415 rfl rfl, fTB_at 416 rfl rfl⟩
def mX7_path : fM := (yX7_path, cX7_path, 5, (some .long), fLook flX7, fKon kcX7)
theorem bXX7_path : fMb mX7_path := ⟨flX7_ok, kcX7_ok, by decide +kernel⟩
set_option maxRecDepth 100000 in
theorem kX7_path : fMokV mX7_path 4 := ⟨⟨fTB_at 499 rfl rfl, fTB_at 50 rfl rfl, by decide +kernel, by decide +kernel, by decide +kernel⟩, fTB_at 497 rfl rfl, fTB_at 498 rfl rfl⟩
def mX7_sees : fM := (yX7_sees, cX7_sees, 6, (some .int), fLook flX7, fKon kcX7)
theorem bXX7_sees : fMb mX7_sees := ⟨flX7_ok, kcX7_ok, by decide +kernel⟩
set_option maxRecDepth 100000 in
theorem kX7_sees : fMokV mX7_sees 5 := ⟨⟨fTB_at 525 rfl rfl, fTB_at 50 rfl rfl, by decide +kernel, by decide +kernel, by decide +kernel⟩, fTB_at 523 rfl rfl, fTB_at 524 rfl rfl⟩
def mX7_heard : fM := (yX7_heard, cX7_heard, 4, (some .long), fLook flX7, fKon kcX7)
theorem bXX7_heard : fMb mX7_heard := ⟨flX7_ok, kcX7_ok, by decide +kernel⟩
set_option maxRecDepth 100000 in
theorem kX7_heard : fMokV mX7_heard 3 := ⟨⟨fTB_at 537 rfl rfl, fTB_at 50 rfl rfl, by decide +kernel, by decide +kernel, by decide +kernel⟩, fTB_at 535 rfl rfl, fTB_at 536 rfl rfl⟩
def mX7_at : fM := (yX7_at, cX7_at, 7, (some .long), fLook flX7, fKon kcX7)
theorem bXX7_at : fMb mX7_at := ⟨flX7_ok, kcX7_ok, by decide +kernel⟩
set_option maxRecDepth 100000 in
theorem kX7_at : fMokV mX7_at 3 := ⟨⟨fTB_at 560 rfl rfl, fTB_at 50 rfl rfl, by decide +kernel, by decide +kernel, by decide +kernel⟩, fTB_at 558 rfl rfl, fTB_at 559 rfl rfl⟩
def mX7_left : fM := (yX7_left, cX7_left, 9, (some .long), fLook flX7, fKon kcX7)
theorem bXX7_left : fMb mX7_left := ⟨flX7_ok, kcX7_ok, by decide +kernel⟩
set_option maxRecDepth 100000 in
theorem kX7_left : fMokV mX7_left 2 := ⟨⟨fTB_at 564 rfl rfl, fTB_at 50 rfl rfl, by decide +kernel, by decide +kernel, by decide +kernel⟩, fTB_at 562 rfl rfl, fTB_at 563 rfl rfl⟩
def mX7_worst : fM := (yX7_worst, cX7_worst, 6, (some .int), fLook flX7, fKon kcX7)
theorem bXX7_worst : fMb mX7_worst := ⟨flX7_ok, kcX7_ok, by decide +kernel⟩
set_option maxRecDepth 100000 in
theorem kX7_worst : fMokV mX7_worst 1 := ⟨⟨fTB_at 569 rfl rfl, fTB_at 50 rfl rfl, by decide +kernel, by decide +kernel, by decide +kernel⟩, fTB_at 567 rfl rfl, fTB_at 568 rfl rfl⟩
def mX7_best : fM := (yX7_best, cX7_best, 6, (some .int), fLook flX7, fKon kcX7)
theorem bXX7_best : fMb mX7_best := ⟨flX7_ok, kcX7_ok, by decide +kernel⟩
set_option maxRecDepth 100000 in
theorem kX7_best : fMokV mX7_best 5 := ⟨⟨fTB_at 573 rfl rfl, fTB_at 50 rfl rfl, by decide +kernel, by decide +kernel, by decide +kernel⟩, fTB_at 571 rfl rfl, fTB_at 572 rfl rfl⟩
def mX7_isWithin : fM := (yX7_isWithin, cX7_isWithin, 3, (some .boolean), fLook flX7, fKon kcX7)
theorem bXX7_isWithin : fMb mX7_isWithin := ⟨flX7_ok, kcX7_ok, by decide +kernel⟩
set_option maxRecDepth 100000 in
theorem kX7_isWithin : fMokS mX7_isWithin 3 := ⟨⟨fTB_at 325 rfl rfl, fTB_at 50 rfl rfl, by decide +kernel, by decide +kernel, by decide +kernel⟩, fTB_at 324 rfl rfl⟩
def mX7_isPoint : fM := (yX7_isPoint, cX7_isPoint, 2, (some .boolean), fLook flX7, fKon kcX7)
theorem bXX7_isPoint : fMb mX7_isPoint := ⟨flX7_ok, kcX7_ok, by decide +kernel⟩
set_option maxRecDepth 100000 in
theorem kX7_isPoint : fMokS mX7_isPoint 2 := ⟨⟨fTB_at 340 rfl rfl, fTB_at 50 rfl rfl, by decide +kernel, by decide +kernel, by decide +kernel⟩, fTB_at 339 rfl rfl⟩
def mX7_areThere : fM := (yX7_areThere, cX7_areThere, 3, (some .boolean), fLook flX7, fKon kcX7)
theorem bXX7_areThere : fMb mX7_areThere := ⟨flX7_ok, kcX7_ok, by decide +kernel⟩
set_option maxRecDepth 100000 in
theorem kX7_areThere : fMokV mX7_areThere 2 := ⟨⟨fTB_at 421 rfl rfl, fTB_at 50 rfl rfl, by decide +kernel, by decide +kernel, by decide +kernel⟩, fTB_at 420 rfl rfl, fTB_at 3 rfl rfl⟩
def mX7_isWallOrNone : fM := (yX7_isWallOrNone, cX7_isWallOrNone, 2, (some .boolean), fLook flX7, fKon kcX7)
theorem bXX7_isWallOrNone : fMb mX7_isWallOrNone := ⟨flX7_ok, kcX7_ok, by decide +kernel⟩
set_option maxRecDepth 100000 in
theorem kX7_isWallOrNone : fMokV mX7_isWallOrNone 1 := ⟨⟨fTB_at 529 rfl rfl, fTB_at 50 rfl rfl, by decide +kernel, by decide +kernel, by decide +kernel⟩, fTB_at 528 rfl rfl, fTB_at 14 rfl rfl⟩
def mX7_isSet : fM := (yX7_isSet, cX7_isSet, 2, (some .boolean), fLook flX7, fKon kcX7)
theorem bXX7_isSet : fMb mX7_isSet := ⟨flX7_ok, kcX7_ok, by decide +kernel⟩
set_option maxRecDepth 100000 in
theorem kX7_isSet : fMokV mX7_isSet 1 := ⟨⟨fTB_at 577 rfl rfl, fTB_at 50 rfl rfl, by decide +kernel, by decide +kernel, by decide +kernel⟩, fTB_at 576 rfl rfl, fTB_at 18 rfl rfl⟩
def mX7_lineOfHall : fM := (yX7_lineOfHall, cX7_lineOfHall, 3, (some .int), fLook flX7, fKon kcX7)
theorem bXX7_lineOfHall : fMb mX7_lineOfHall := ⟨flX7_ok, kcX7_ok, by decide +kernel⟩
set_option maxRecDepth 100000 in
theorem kX7_lineOfHall : fMokV mX7_lineOfHall 0 := ⟨⟨fTB_at 405 rfl rfl, fTB_at 50 rfl rfl, by decide +kernel, by decide +kernel, by decide +kernel⟩, fTB_at 404 rfl rfl, fTB_at 0 rfl rfl⟩
def mX7_lostInHall : fM := (yX7_lostInHall, cX7_lostInHall, 3, (some .int), fLook flX7, fKon kcX7)
theorem bXX7_lostInHall : fMb mX7_lostInHall := ⟨flX7_ok, kcX7_ok, by decide +kernel⟩
set_option maxRecDepth 100000 in
theorem kX7_lostInHall : fMokV mX7_lostInHall 0 := ⟨⟨fTB_at 409 rfl rfl, fTB_at 50 rfl rfl, by decide +kernel, by decide +kernel, by decide +kernel⟩, fTB_at 408 rfl rfl, fTB_at 1 rfl rfl⟩
def mX7_decayOfHall : fM := (yX7_decayOfHall, cX7_decayOfHall, 2, (some .int), fLook flX7, fKon kcX7)
theorem bXX7_decayOfHall : fMb mX7_decayOfHall := ⟨flX7_ok, kcX7_ok, by decide +kernel⟩
set_option maxRecDepth 100000 in
theorem kX7_decayOfHall : fMokV mX7_decayOfHall 0 := ⟨⟨fTB_at 413 rfl rfl, fTB_at 50 rfl rfl, by decide +kernel, by decide +kernel, by decide +kernel⟩, fTB_at 412 rfl rfl, fTB_at 2 rfl rfl⟩
def mX7_startRoute : fM := (yX7_startRoute, cX7_startRoute, 3, none, fLook flX7, fKon kcX7)
theorem bXX7_startRoute : fMb mX7_startRoute := ⟨flX7_ok, kcX7_ok, by decide +kernel⟩
set_option maxRecDepth 100000 in
theorem kX7_startRoute : fMokV mX7_startRoute 2 := ⟨⟨fTB_at 433 rfl rfl, fTB_at 50 rfl rfl, by decide +kernel, by decide +kernel, by decide +kernel⟩, fTB_at 432 rfl rfl, fTB_at 5 rfl rfl⟩
def mX7_lengthenRoute : fM := (yX7_lengthenRoute, cX7_lengthenRoute, 2, none, fLook flX7, fKon kcX7)
theorem bXX7_lengthenRoute : fMb mX7_lengthenRoute := ⟨flX7_ok, kcX7_ok, by decide +kernel⟩
set_option maxRecDepth 100000 in
theorem kX7_lengthenRoute : fMokV mX7_lengthenRoute 1 := ⟨⟨fTB_at 533 rfl rfl, fTB_at 50 rfl rfl, by decide +kernel, by decide +kernel, by decide +kernel⟩, fTB_at 532 rfl rfl, fTB_at 15 rfl rfl⟩
def mX7_find : fM := (yX7_find, cX7_find, 6, none, fLook flX7, fKon kcX7)
theorem bXX7_find : fMb mX7_find := ⟨flX7_ok, kcX7_ok, by decide +kernel⟩
set_option maxRecDepth 100000 in
theorem kX7_find : fMokV mX7_find 4 := ⟨⟨fTB_at 425 rfl rfl, fTB_at 50 rfl rfl, by decide +kernel, by decide +kernel, by decide +kernel⟩, fTB_at 424 rfl rfl, fTB_at 4 rfl rfl⟩
def mX7_tryRows : fM := (yX7_tryRows, cX7_tryRows, 4, none, fLook flX7, fKon kcX7)
theorem bXX7_tryRows : fMb mX7_tryRows := ⟨flX7_ok, kcX7_ok, by decide +kernel⟩
set_option maxRecDepth 100000 in
theorem kX7_tryRows : fMokV mX7_tryRows 2 := ⟨⟨fTB_at 441 rfl rfl, fTB_at 50 rfl rfl, by decide +kernel, by decide +kernel, by decide +kernel⟩, fTB_at 440 rfl rfl, fTB_at 6 rfl rfl⟩
def mX7_energyOf : fM := (yX7_energyOf, cX7_energyOf, 8, (some .long), fLook flX7, fKon kcX7)
theorem bXX7_energyOf : fMb mX7_energyOf := ⟨flX7_ok, kcX7_ok, by decide +kernel⟩
set_option maxRecDepth 100000 in
theorem kX7_energyOf : fMokV mX7_energyOf 3 := ⟨⟨fTB_at 514 rfl rfl, fTB_at 50 rfl rfl, by decide +kernel, by decide +kernel, by decide +kernel⟩, fTB_at 513 rfl rfl, fTB_at 13 rfl rfl⟩
def mX7_isEarly : fM := (yX7_isEarly, cX7_isEarly, 2, (some .boolean), fLook flX7, fKon kcX7)
theorem bXX7_isEarly : fMb mX7_isEarly := ⟨flX7_ok, kcX7_ok, by decide +kernel⟩
set_option maxRecDepth 100000 in
theorem kX7_isEarly : fMokV mX7_isEarly 1 := ⟨⟨fTB_at 549 rfl rfl, fTB_at 50 rfl rfl, by decide +kernel, by decide +kernel, by decide +kernel⟩, fTB_at 548 rfl rfl, fTB_at 17 rfl rfl⟩
def mX7_sumUp : fM := (yX7_sumUp, cX7_sumUp, 5, none, fLook flX7, fKon kcX7)
theorem bXX7_sumUp : fMb mX7_sumUp := ⟨flX7_ok, kcX7_ok, by decide +kernel⟩
set_option maxRecDepth 100000 in
theorem kX7_sumUp : fMokV mX7_sumUp 1 := ⟨⟨fTB_at 541 rfl rfl, fTB_at 50 rfl rfl, by decide +kernel, by decide +kernel, by decide +kernel⟩, fTB_at 540 rfl rfl, fTB_at 16 rfl rfl⟩
def mX7_clarityOf : fM := (yX7_clarityOf, cX7_clarityOf, 6, (some .int), fLook flX7, fKon kcX7)
theorem bXX7_clarityOf : fMb mX7_clarityOf := ⟨flX7_ok, kcX7_ok, by decide +kernel⟩
set_option maxRecDepth 100000 in
theorem kX7_clarityOf : fMokS mX7_clarityOf 2 := ⟨⟨fTB_at 552 rfl rfl, fTB_at 50 rfl rfl, by decide +kernel, by decide +kernel, by decide +kernel⟩, fTB_at 551 rfl rfl⟩
def mX7_centreOf : fM := (yX7_centreOf, cX7_centreOf, 4, (some .long), fLook flX7, fKon kcX7)
theorem bXX7_centreOf : fMb mX7_centreOf := ⟨flX7_ok, kcX7_ok, by decide +kernel⟩
set_option maxRecDepth 100000 in
theorem kX7_centreOf : fMokS mX7_centreOf 2 := ⟨⟨fTB_at 556 rfl rfl, fTB_at 50 rfl rfl, by decide +kernel, by decide +kernel, by decide +kernel⟩, fTB_at 555 rfl rfl⟩
def mX7_choose : fM := (yX7_choose, cX7_choose, 6, none, fLook flX7, fKon kcX7)
theorem bXX7_choose : fMb mX7_choose := ⟨flX7_ok, kcX7_ok, by decide +kernel⟩
set_option maxRecDepth 100000 in
theorem kX7_choose : fMokV mX7_choose 2 := ⟨⟨fTB_at 601 rfl rfl, fTB_at 50 rfl rfl, by decide +kernel, by decide +kernel, by decide +kernel⟩, fTB_at 600 rfl rfl, fTB_at 20 rfl rfl⟩
def mX7_hearGroup : fM := (yX7_hearGroup, cX7_hearGroup, 10, none, fLook flX7, fKon kcX7)
theorem bXX7_hearGroup : fMb mX7_hearGroup := ⟨flX7_ok, kcX7_ok, by decide +kernel⟩
set_option maxRecDepth 100000 in
theorem kX7_hearGroup : fMokV mX7_hearGroup 1 := ⟨⟨fTB_at 605 rfl rfl, fTB_at 50 rfl rfl, by decide +kernel, by decide +kernel, by decide +kernel⟩, fTB_at 604 rfl rfl, fTB_at 21 rfl rfl⟩
def mX8_in : fM := (yX8_in, cX8_in, 6, (some .boolean), fLook flX8, fKon kcX8)
theorem bXX8_in : fMb mX8_in := ⟨flX8_ok, kcX8_ok, by decide +kernel⟩
set_option maxRecDepth 100000 in
theorem kX8_in : fMokS mX8_in 3 := ⟨⟨fTB_at 714 rfl rfl, fTB_at 59 rfl rfl, by decide +kernel, by decide +kernel, by decide +kernel⟩, fTB_at 713 rfl rfl⟩
def mX8_isPoint : fM := (yX8_isPoint, cX8_isPoint, 2, (some .boolean), fLook flX8, fKon kcX8)
theorem bXX8_isPoint : fMb mX8_isPoint := ⟨flX8_ok, kcX8_ok, by decide +kernel⟩
set_option maxRecDepth 100000 in
theorem kX8_isPoint : fMokS mX8_isPoint 2 := ⟨⟨fTB_at 726 rfl rfl, fTB_at 59 rfl rfl, by decide +kernel, by decide +kernel, by decide +kernel⟩, fTB_at 725 rfl rfl⟩
def mX8_stuff : fM := (yX8_stuff, cX8_stuff, 3, (some .int), fLook flX8, fKon kcX8)
theorem bXX8_stuff : fMb mX8_stuff := ⟨flX8_ok, kcX8_ok, by decide +kernel⟩
set_option maxRecDepth 100000 in
theorem kX8_stuff : fMokV mX8_stuff 2 := ⟨⟨fTB_at 710 rfl rfl, fTB_at 59 rfl rfl, by decide +kernel, by decide +kernel, by decide +kernel⟩, fTB_at 708 rfl rfl, fTB_at 709 rfl rfl⟩
def mX8_isStuff : fM := (yX8_isStuff, cX8_isStuff, 2, (some .boolean), fLook flX8, fKon kcX8)
theorem bXX8_isStuff : fMb mX8_isStuff := ⟨flX8_ok, kcX8_ok, by decide +kernel⟩
set_option maxRecDepth 100000 in
theorem kX8_isStuff : fMokV mX8_isStuff 1 := ⟨⟨fTB_at 723 rfl rfl, fTB_at 59 rfl rfl, by decide +kernel, by decide +kernel, by decide +kernel⟩, fTB_at 722 rfl rfl, fTB_at 22 rfl rfl⟩
def mX8_isWall : fM := (yX8_isWall, cX8_isWall, 2, (some .boolean), fLook flX8, fKon kcX8)
theorem bXX8_isWall : fMb mX8_isWall := ⟨flX8_ok, kcX8_ok, by decide +kernel⟩
set_option maxRecDepth 100000 in
theorem kX8_isWall : fMokV mX8_isWall 1 := ⟨⟨fTB_at 734 rfl rfl, fTB_at 59 rfl rfl, by decide +kernel, by decide +kernel, by decide +kernel⟩, fTB_at 733 rfl rfl, fTB_at 23 rfl rfl⟩
def mX8_wall : fM := (yX8_wall, cX8_wall, 6, (some .int), fLook flX8, fKon kcX8)
theorem bXX8_wall : fMb mX8_wall := ⟨flX8_ok, kcX8_ok, by decide +kernel⟩
set_option maxRecDepth 100000 in
theorem kX8_wall : fMokV mX8_wall 5 := ⟨⟨fTB_at 719 rfl rfl, fTB_at 59 rfl rfl, by decide +kernel, by decide +kernel, by decide +kernel⟩, fTB_at 717 rfl rfl, fTB_at 718 rfl rfl⟩
def mX8_cover : fM := (yX8_cover, cX8_cover, 4, (some .int), fLook flX8, fKon kcX8)
theorem bXX8_cover : fMb mX8_cover := ⟨flX8_ok, kcX8_ok, by decide +kernel⟩
set_option maxRecDepth 100000 in
theorem kX8_cover : fMokV mX8_cover 2 := ⟨⟨fTB_at 730 rfl rfl, fTB_at 59 rfl rfl, by decide +kernel, by decide +kernel, by decide +kernel⟩, fTB_at 728 rfl rfl, fTB_at 729 rfl rfl⟩
def mX8_back : fM := (yX8_back, cX8_back, 1, (some .int), fLook flX8, fKon kcX8)
theorem bXX8_back : fMb mX8_back := ⟨flX8_ok, kcX8_ok, by decide +kernel⟩
set_option maxRecDepth 100000 in
theorem kX8_back : fMokV mX8_back 0 := ⟨⟨fTB_at 738 rfl rfl, fTB_at 59 rfl rfl, by decide +kernel, by decide +kernel, by decide +kernel⟩, fTB_at 736 rfl rfl, fTB_at 737 rfl rfl⟩
def mX8_source : fM := (yX8_source, cX8_source, 4, (some .int), fLook flX8, fKon kcX8)
theorem bXX8_source : fMb mX8_source := ⟨flX8_ok, kcX8_ok, by decide +kernel⟩
set_option maxRecDepth 100000 in
theorem kX8_source : fMokV mX8_source 3 := ⟨⟨fTB_at 742 rfl rfl, fTB_at 59 rfl rfl, by decide +kernel, by decide +kernel, by decide +kernel⟩, fTB_at 740 rfl rfl, fTB_at 741 rfl rfl⟩
def mX8_seat : fM := (yX8_seat, cX8_seat, 3, (some .int), fLook flX8, fKon kcX8)
theorem bXX8_seat : fMb mX8_seat := ⟨flX8_ok, kcX8_ok, by decide +kernel⟩
set_option maxRecDepth 100000 in
theorem kX8_seat : fMokV mX8_seat 2 := ⟨⟨fTB_at 746 rfl rfl, fTB_at 59 rfl rfl, by decide +kernel, by decide +kernel, by decide +kernel⟩, fTB_at 744 rfl rfl, fTB_at 745 rfl rfl⟩
def mX8_isSource : fM := (yX8_isSource, cX8_isSource, 2, (some .boolean), fLook flX8, fKon kcX8)
theorem bXX8_isSource : fMb mX8_isSource := ⟨flX8_ok, kcX8_ok, by decide +kernel⟩
set_option maxRecDepth 100000 in
theorem kX8_isSource : fMokV mX8_isSource 1 := ⟨⟨fTB_at 754 rfl rfl, fTB_at 59 rfl rfl, by decide +kernel, by decide +kernel, by decide +kernel⟩, fTB_at 753 rfl rfl, fTB_at 24 rfl rfl⟩
def mX8_isSeat : fM := (yX8_isSeat, cX8_isSeat, 2, (some .boolean), fLook flX8, fKon kcX8)
theorem bXX8_isSeat : fMb mX8_isSeat := ⟨flX8_ok, kcX8_ok, by decide +kernel⟩
set_option maxRecDepth 100000 in
theorem kX8_isSeat : fMokV mX8_isSeat 1 := ⟨⟨fTB_at 758 rfl rfl, fTB_at 59 rfl rfl, by decide +kernel, by decide +kernel, by decide +kernel⟩, fTB_at 757 rfl rfl, fTB_at 25 rfl rfl⟩
def mX8_move : fM := (yX8_move, cX8_move, 5, (some .int), fLook flX8, fKon kcX8)
theorem bXX8_move : fMb mX8_move := ⟨flX8_ok, kcX8_ok, by decide +kernel⟩
set_option maxRecDepth 100000 in
theorem kX8_move : fMokV mX8_move 4 := ⟨⟨fTB_at 750 rfl rfl, fTB_at 59 rfl rfl, by decide +kernel, by decide +kernel, by decide +kernel⟩, fTB_at 748 rfl rfl, fTB_at 749 rfl rfl⟩
def mX8_rule : fM := (yX8_rule, cX8_rule, 4, (some .int), fLook flX8, fKon kcX8)
theorem bXX8_rule : fMb mX8_rule := ⟨flX8_ok, kcX8_ok, by decide +kernel⟩
set_option maxRecDepth 100000 in
theorem kX8_rule : fMokV mX8_rule 2 := ⟨⟨fTB_at 762 rfl rfl, fTB_at 59 rfl rfl, by decide +kernel, by decide +kernel, by decide +kernel⟩, fTB_at 760 rfl rfl, fTB_at 761 rfl rfl⟩
def mX8_size : fM := (yX8_size, cX8_size, 1, (some .int), fLook flX8, fKon kcX8)
theorem bXX8_size : fMb mX8_size := ⟨flX8_ok, kcX8_ok, by decide +kernel⟩
set_option maxRecDepth 100000 in
theorem kX8_size : fMokS mX8_size 1 := ⟨⟨fTB_at 775 rfl rfl, fTB_at 59 rfl rfl, by decide +kernel, by decide +kernel, by decide +kernel⟩, fTB_at 774 rfl rfl⟩
def mX8_lengthOf : fM := (yX8_lengthOf, cX8_lengthOf, 2, (some .int), fLook flX8, fKon kcX8)
theorem bXX8_lengthOf : fMb mX8_lengthOf := ⟨flX8_ok, kcX8_ok, by decide +kernel⟩
set_option maxRecDepth 100000 in
theorem kX8_lengthOf : fMokV mX8_lengthOf 1 := ⟨⟨fTB_at 772 rfl rfl, fTB_at 59 rfl rfl, by decide +kernel, by decide +kernel, by decide +kernel⟩, fTB_at 771 rfl rfl, fTB_at 26 rfl rfl⟩
def mX8_told : fM := (yX8_told, cX8_told, 3, (some .int), fLook flX8, fKon kcX8)
theorem bXX8_told : fMb mX8_told := ⟨flX8_ok, kcX8_ok, by decide +kernel⟩
set_option maxRecDepth 100000 in
theorem kX8_told : fMokV mX8_told 2 := ⟨⟨fTB_at 767 rfl rfl, fTB_at 59 rfl rfl, by decide +kernel, by decide +kernel, by decide +kernel⟩, fTB_at 765 rfl rfl, fTB_at 766 rfl rfl⟩
def mX8_line : fM := (yX8_line, cX8_line, 3, (some .int), fLook flX8, fKon kcX8)
theorem bXX8_line : fMb mX8_line := ⟨flX8_ok, kcX8_ok, by decide +kernel⟩
set_option maxRecDepth 100000 in
theorem kX8_line : fMokV mX8_line 0 := ⟨⟨fTB_at 783 rfl rfl, fTB_at 59 rfl rfl, by decide +kernel, by decide +kernel, by decide +kernel⟩, fTB_at 782 rfl rfl, fTB_at 27 rfl rfl⟩
def mX8_lost : fM := (yX8_lost, cX8_lost, 3, (some .int), fLook flX8, fKon kcX8)
theorem bXX8_lost : fMb mX8_lost := ⟨flX8_ok, kcX8_ok, by decide +kernel⟩
set_option maxRecDepth 100000 in
theorem kX8_lost : fMokV mX8_lost 0 := ⟨⟨fTB_at 787 rfl rfl, fTB_at 59 rfl rfl, by decide +kernel, by decide +kernel, by decide +kernel⟩, fTB_at 786 rfl rfl, fTB_at 28 rfl rfl⟩
def mX8_decay : fM := (yX8_decay, cX8_decay, 1, (some .int), fLook flX8, fKon kcX8)
theorem bXX8_decay : fMb mX8_decay := ⟨flX8_ok, kcX8_ok, by decide +kernel⟩
set_option maxRecDepth 100000 in
theorem kX8_decay : fMokV mX8_decay 0 := ⟨⟨fTB_at 791 rfl rfl, fTB_at 59 rfl rfl, by decide +kernel, by decide +kernel, by decide +kernel⟩, fTB_at 790 rfl rfl, fTB_at 29 rfl rfl⟩
def mX8_count : fM := (yX8_count, cX8_count, 2, (some .int), fLook flX8, fKon kcX8)
theorem bXX8_count : fMb mX8_count := ⟨flX8_ok, kcX8_ok, by decide +kernel⟩
set_option maxRecDepth 100000 in
theorem kX8_count : fMokV mX8_count 1 := ⟨⟨fTB_at 779 rfl rfl, fTB_at 59 rfl rfl, by decide +kernel, by decide +kernel, by decide +kernel⟩, fTB_at 777 rfl rfl, fTB_at 778 rfl rfl⟩
def mX8_axisOf : fM := (yX8_axisOf, cX8_axisOf, 2, (some .int), fLook flX8, fKon kcX8)
theorem bXX8_axisOf : fMb mX8_axisOf := ⟨flX8_ok, kcX8_ok, by decide +kernel⟩
set_option maxRecDepth 100000 in
theorem kX8_axisOf : fMokV mX8_axisOf 1 := ⟨⟨fTB_at 820 rfl rfl, fTB_at 59 rfl rfl, by decide +kernel, by decide +kernel, by decide +kernel⟩, fTB_at 819 rfl rfl, fTB_at 35 rfl rfl⟩
def mX8_lineOf : fM := (yX8_lineOf, cX8_lineOf, 2, (some .int), fLook flX8, fKon kcX8)
theorem bXX8_lineOf : fMb mX8_lineOf := ⟨flX8_ok, kcX8_ok, by decide +kernel⟩
set_option maxRecDepth 100000 in
theorem kX8_lineOf : fMokV mX8_lineOf 1 := ⟨⟨fTB_at 825 rfl rfl, fTB_at 59 rfl rfl, by decide +kernel, by decide +kernel, by decide +kernel⟩, fTB_at 824 rfl rfl, fTB_at 36 rfl rfl⟩
def mX8_lowOf : fM := (yX8_lowOf, cX8_lowOf, 3, (some .int), fLook flX8, fKon kcX8)
theorem bXX8_lowOf : fMb mX8_lowOf := ⟨flX8_ok, kcX8_ok, by decide +kernel⟩
set_option maxRecDepth 100000 in
theorem kX8_lowOf : fMokV mX8_lowOf 1 := ⟨⟨fTB_at 841 rfl rfl, fTB_at 59 rfl rfl, by decide +kernel, by decide +kernel, by decide +kernel⟩, fTB_at 840 rfl rfl, fTB_at 40 rfl rfl⟩
def mX8_highOf : fM := (yX8_highOf, cX8_highOf, 2, (some .int), fLook flX8, fKon kcX8)
theorem bXX8_highOf : fMb mX8_highOf := ⟨flX8_ok, kcX8_ok, by decide +kernel⟩
set_option maxRecDepth 100000 in
theorem kX8_highOf : fMokV mX8_highOf 1 := ⟨⟨fTB_at 845 rfl rfl, fTB_at 59 rfl rfl, by decide +kernel, by decide +kernel, by decide +kernel⟩, fTB_at 844 rfl rfl, fTB_at 41 rfl rfl⟩
def mX8_placeAt : fM := (yX8_placeAt, cX8_placeAt, 7, (some .long), fLook flX8, fKon kcX8)
theorem bXX8_placeAt : fMb mX8_placeAt := ⟨flX8_ok, kcX8_ok, by decide +kernel⟩
set_option maxRecDepth 100000 in
theorem kX8_placeAt : fMokV mX8_placeAt 4 := ⟨⟨fTB_at 837 rfl rfl, fTB_at 59 rfl rfl, by decide +kernel, by decide +kernel, by decide +kernel⟩, fTB_at 836 rfl rfl, fTB_at 39 rfl rfl⟩
def mX8_cross : fM := (yX8_cross, cX8_cross, 6, (some .boolean), fLook flX8, fKon kcX8)
theorem bXX8_cross : fMb mX8_cross := ⟨flX8_ok, kcX8_ok, by decide +kernel⟩
set_option maxRecDepth 100000 in
theorem kX8_cross : fMokV mX8_cross 2 := ⟨⟨fTB_at 829 rfl rfl, fTB_at 59 rfl rfl, by decide +kernel, by decide +kernel, by decide +kernel⟩, fTB_at 828 rfl rfl, fTB_at 37 rfl rfl⟩
def mX8_isOnAt : fM := (yX8_isOnAt, cX8_isOnAt, 9, (some .boolean), fLook flX8, fKon kcX8)
theorem bXX8_isOnAt : fMb mX8_isOnAt := ⟨flX8_ok, kcX8_ok, by decide +kernel⟩
set_option maxRecDepth 100000 in
theorem kX8_isOnAt : fMokV mX8_isOnAt 4 := ⟨⟨fTB_at 833 rfl rfl, fTB_at 59 rfl rfl, by decide +kernel, by decide +kernel, by decide +kernel⟩, fTB_at 832 rfl rfl, fTB_at 38 rfl rfl⟩
def mX8_findBounces : fM := (yX8_findBounces, cX8_findBounces, 12, (some .boolean), fLook flX8, fKon kcX8)
theorem bXX8_findBounces : fMb mX8_findBounces := ⟨flX8_ok, kcX8_ok, by decide +kernel⟩
set_option maxRecDepth 100000 in
theorem kX8_findBounces : fMokV mX8_findBounces 2 := ⟨⟨fTB_at 816 rfl rfl, fTB_at 59 rfl rfl, by decide +kernel, by decide +kernel, by decide +kernel⟩, fTB_at 815 rfl rfl, fTB_at 34 rfl rfl⟩
def mX8_meets : fM := (yX8_meets, cX8_meets, 18, (some .boolean), fLook flX8, fKon kcX8)
theorem bXX8_meets : fMb mX8_meets := ⟨flX8_ok, kcX8_ok, by decide +kernel⟩
set_option maxRecDepth 100000 in
theorem kX8_meets : fMokV mX8_meets 2 := ⟨⟨fTB_at 853 rfl rfl, fTB_at 59 rfl rfl, by decide +kernel, by decide +kernel, by decide +kernel⟩, fTB_at 852 rfl rfl, fTB_at 43 rfl rfl⟩
def mX8_isSeen : fM := (yX8_isSeen, cX8_isSeen, 4, (some .boolean), fLook flX8, fKon kcX8)
theorem bXX8_isSeen : fMb mX8_isSeen := ⟨flX8_ok, kcX8_ok, by decide +kernel⟩
set_option maxRecDepth 100000 in
theorem kX8_isSeen : fMokV mX8_isSeen 0 := ⟨⟨fTB_at 849 rfl rfl, fTB_at 59 rfl rfl, by decide +kernel, by decide +kernel, by decide +kernel⟩, fTB_at 848 rfl rfl, fTB_at 42 rfl rfl⟩
def mX8_tryRow : fM := (yX8_tryRow, cX8_tryRow, 4, none, fLook flX8, fKon kcX8)
theorem bXX8_tryRow : fMb mX8_tryRow := ⟨flX8_ok, kcX8_ok, by decide +kernel⟩
set_option maxRecDepth 100000 in
theorem kX8_tryRow : fMokV mX8_tryRow 3 := ⟨⟨fTB_at 812 rfl rfl, fTB_at 59 rfl rfl, by decide +kernel, by decide +kernel, by decide +kernel⟩, fTB_at 811 rfl rfl, fTB_at 33 rfl rfl⟩
def mX8_findOrder : fM := (yX8_findOrder, cX8_findOrder, 8, none, fLook flX8, fKon kcX8)
theorem bXX8_findOrder : fMb mX8_findOrder := ⟨flX8_ok, kcX8_ok, by decide +kernel⟩
set_option maxRecDepth 100000 in
theorem kX8_findOrder : fMokV mX8_findOrder 3 := ⟨⟨fTB_at 808 rfl rfl, fTB_at 59 rfl rfl, by decide +kernel, by decide +kernel, by decide +kernel⟩, fTB_at 807 rfl rfl, fTB_at 32 rfl rfl⟩
def mX8_findPaths : fM := (yX8_findPaths, cX8_findPaths, 4, none, fLook flX8, fKon kcX8)
theorem bXX8_findPaths : fMb mX8_findPaths := ⟨flX8_ok, kcX8_ok, by decide +kernel⟩
set_option maxRecDepth 100000 in
theorem kX8_findPaths : fMokV mX8_findPaths 2 := ⟨⟨fTB_at 804 rfl rfl, fTB_at 59 rfl rfl, by decide +kernel, by decide +kernel, by decide +kernel⟩, fTB_at 803 rfl rfl, fTB_at 31 rfl rfl⟩
def mX8_wallOf : fM := (yX8_wallOf, cX8_wallOf, 6, (some .int), fLook flX8, fKon kcX8)
theorem bXX8_wallOf : fMb mX8_wallOf := ⟨flX8_ok, kcX8_ok, by decide +kernel⟩
set_option maxRecDepth 100000 in
theorem kX8_wallOf : fMokV mX8_wallOf 2 := ⟨⟨fTB_at 864 rfl rfl, fTB_at 59 rfl rfl, by decide +kernel, by decide +kernel, by decide +kernel⟩, fTB_at 863 rfl rfl, fTB_at 44 rfl rfl⟩
def mX8_energyOf : fM := (yX8_energyOf, cX8_energyOf, 6, (some .long), fLook flX8, fKon kcX8)
theorem bXX8_energyOf : fMb mX8_energyOf := ⟨flX8_ok, kcX8_ok, by decide +kernel⟩
set_option maxRecDepth 100000 in
theorem kX8_energyOf : fMokV mX8_energyOf 2 := ⟨⟨fTB_at 868 rfl rfl, fTB_at 59 rfl rfl, by decide +kernel, by decide +kernel, by decide +kernel⟩, fTB_at 867 rfl rfl, fTB_at 45 rfl rfl⟩
def mX8_tickOf : fM := (yX8_tickOf, cX8_tickOf, 6, (some .int), fLook flX8, fKon kcX8)
theorem bXX8_tickOf : fMb mX8_tickOf := ⟨flX8_ok, kcX8_ok, by decide +kernel⟩
set_option maxRecDepth 100000 in
theorem kX8_tickOf : fMokV mX8_tickOf 1 := ⟨⟨fTB_at 873 rfl rfl, fTB_at 59 rfl rfl, by decide +kernel, by decide +kernel, by decide +kernel⟩, fTB_at 872 rfl rfl, fTB_at 46 rfl rfl⟩
def mX8_areThere : fM := (yX8_areThere, cX8_areThere, 3, (some .boolean), fLook flX8, fKon kcX8)
theorem bXX8_areThere : fMb mX8_areThere := ⟨flX8_ok, kcX8_ok, by decide +kernel⟩
set_option maxRecDepth 100000 in
theorem kX8_areThere : fMokV mX8_areThere 2 := ⟨⟨fTB_at 799 rfl rfl, fTB_at 59 rfl rfl, by decide +kernel, by decide +kernel, by decide +kernel⟩, fTB_at 798 rfl rfl, fTB_at 30 rfl rfl⟩
def mX8_paths : fM := (yX8_paths, cX8_paths, 4, (some .int), fLook flX8, fKon kcX8)
theorem bXX8_paths : fMb mX8_paths := ⟨flX8_ok, kcX8_ok, by decide +kernel⟩
set_option maxRecDepth 100000 in
theorem kX8_paths : fMokV mX8_paths 3 := ⟨⟨fTB_at 795 rfl rfl, fTB_at 59 rfl rfl, by decide +kernel, by decide +kernel, by decide +kernel⟩, fTB_at 793 rfl rfl, fTB_at 794 rfl rfl⟩
def mX8_path : fM := (yX8_path, cX8_path, 5, (some .long), fLook flX8, fKon kcX8)
theorem bXX8_path : fMb mX8_path := ⟨flX8_ok, kcX8_ok, by decide +kernel⟩
set_option maxRecDepth 100000 in
theorem kX8_path : fMokV mX8_path 4 := ⟨⟨fTB_at 857 rfl rfl, fTB_at 59 rfl rfl, by decide +kernel, by decide +kernel, by decide +kernel⟩, fTB_at 855 rfl rfl, fTB_at 856 rfl rfl⟩
def mX8_sees : fM := (yX8_sees, cX8_sees, 7, (some .int), fLook flX8, fKon kcX8)
theorem bXX8_sees : fMb mX8_sees := ⟨flX8_ok, kcX8_ok, by decide +kernel⟩
set_option maxRecDepth 100000 in
theorem kX8_sees : fMokV mX8_sees 5 := ⟨⟨fTB_at 879 rfl rfl, fTB_at 59 rfl rfl, by decide +kernel, by decide +kernel, by decide +kernel⟩, fTB_at 877 rfl rfl, fTB_at 878 rfl rfl⟩
def mX8_leastTick : fM := (yX8_leastTick, cX8_leastTick, 3, (some .int), fLook flX8, fKon kcX8)
theorem bXX8_leastTick : fMb mX8_leastTick := ⟨flX8_ok, kcX8_ok, by decide +kernel⟩
set_option maxRecDepth 100000 in
theorem kX8_leastTick : fMokV mX8_leastTick 0 := ⟨⟨fTB_at 892 rfl rfl, fTB_at 59 rfl rfl, by decide +kernel, by decide +kernel, by decide +kernel⟩, fTB_at 891 rfl rfl, fTB_at 48 rfl rfl⟩
def mX8_heardBy : fM := (yX8_heardBy, cX8_heardBy, 14, (some .long), fLook flX8, fKon kcX8)
theorem bXX8_heardBy : fMb mX8_heardBy := ⟨flX8_ok, kcX8_ok, by decide +kernel⟩
set_option maxRecDepth 100000 in
theorem kX8_heardBy : fMokV mX8_heardBy 2 := ⟨⟨fTB_at 888 rfl rfl, fTB_at 59 rfl rfl, by decide +kernel, by decide +kernel, by decide +kernel⟩, fTB_at 887 rfl rfl, fTB_at 47 rfl rfl⟩
def mX8_heard : fM := (yX8_heard, cX8_heard, 4, (some .long), fLook flX8, fKon kcX8)
theorem bXX8_heard : fMb mX8_heard := ⟨flX8_ok, kcX8_ok, by decide +kernel⟩
set_option maxRecDepth 100000 in
theorem kX8_heard : fMokV mX8_heard 3 := ⟨⟨fTB_at 883 rfl rfl, fTB_at 59 rfl rfl, by decide +kernel, by decide +kernel, by decide +kernel⟩, fTB_at 881 rfl rfl, fTB_at 882 rfl rfl⟩
def mX8_at : fM := (yX8_at, cX8_at, 7, (some .long), fLook flX8, fKon kcX8)
theorem bXX8_at : fMb mX8_at := ⟨flX8_ok, kcX8_ok, by decide +kernel⟩
set_option maxRecDepth 100000 in
theorem kX8_at : fMokV mX8_at 3 := ⟨⟨fTB_at 896 rfl rfl, fTB_at 59 rfl rfl, by decide +kernel, by decide +kernel, by decide +kernel⟩, fTB_at 894 rfl rfl, fTB_at 895 rfl rfl⟩
def mX8_left : fM := (yX8_left, cX8_left, 9, (some .long), fLook flX8, fKon kcX8)
theorem bXX8_left : fMb mX8_left := ⟨flX8_ok, kcX8_ok, by decide +kernel⟩
set_option maxRecDepth 100000 in
theorem kX8_left : fMokV mX8_left 2 := ⟨⟨fTB_at 901 rfl rfl, fTB_at 59 rfl rfl, by decide +kernel, by decide +kernel, by decide +kernel⟩, fTB_at 899 rfl rfl, fTB_at 900 rfl rfl⟩
def mX8_worst : fM := (yX8_worst, cX8_worst, 8, (some .int), fLook flX8, fKon kcX8)
theorem bXX8_worst : fMb mX8_worst := ⟨flX8_ok, kcX8_ok, by decide +kernel⟩
set_option maxRecDepth 100000 in
theorem kX8_worst : fMokV mX8_worst 1 := ⟨⟨fTB_at 906 rfl rfl, fTB_at 59 rfl rfl, by decide +kernel, by decide +kernel, by decide +kernel⟩, fTB_at 904 rfl rfl, fTB_at 905 rfl rfl⟩
def mX8_bits : fM := (yX8_bits, cX8_bits, 3, (some .int), fLook flX8, fKon kcX8)
theorem bXX8_bits : fMb mX8_bits := ⟨flX8_ok, kcX8_ok, by decide +kernel⟩
set_option maxRecDepth 100000 in
theorem kX8_bits : fMokS mX8_bits 1 := ⟨⟨fTB_at 913 rfl rfl, fTB_at 59 rfl rfl, by decide +kernel, by decide +kernel, by decide +kernel⟩, fTB_at 912 rfl rfl⟩
def mX8_best : fM := (yX8_best, cX8_best, 17, (some .int), fLook flX8, fKon kcX8)
theorem bXX8_best : fMb mX8_best := ⟨flX8_ok, kcX8_ok, by decide +kernel⟩
set_option maxRecDepth 100000 in
theorem kX8_best : fMokV mX8_best 5 := ⟨⟨fTB_at 910 rfl rfl, fTB_at 59 rfl rfl, by decide +kernel, by decide +kernel, by decide +kernel⟩, fTB_at 908 rfl rfl, fTB_at 909 rfl rfl⟩
def mJ6_bitCount_0f7a4 : fM := (yJ6_bitCount_0f7a4, cJ6_bitCount_0f7a4, 1, (some .int), fLook flJ6, fKon kcJ6)
theorem bXJ6_bitCount_0f7a4 : fMb mJ6_bitCount_0f7a4 := ⟨flJ6_ok, kcJ6_ok, by decide +kernel⟩
set_option maxRecDepth 100000 in
theorem kJ6_bitCount_0f7a4 : fMokS mJ6_bitCount_0f7a4 1 := ⟨⟨fTB_at 580 rfl rfl, fTB_at 60 rfl rfl, by decide +kernel, by decide +kernel, by decide +kernel⟩, fTB_at 579 rfl rfl⟩
def mJ9_abs_067f4 : fM := (yJ9_abs_067f4, cJ9_abs_067f4, 2, (some .long), fLook flJ9, fKon kcJ9)
set_option maxRecDepth 100000 in
theorem kJ9_abs_067f4 : fMokS mJ9_abs_067f4 1 := ⟨⟨fTB_at 452 rfl rfl, fTB_at 54 rfl rfl, by decide +kernel, by decide +kernel, by decide +kernel⟩, fTB_at 451 rfl rfl⟩
def mJ9_max_7cf53 : fM := (yJ9_max_7cf53, cJ9_max_7cf53, 2, (some .int), fLook flJ9, fKon kcJ9)
set_option maxRecDepth 100000 in
theorem kJ9_max_7cf53 : fMokS mJ9_max_7cf53 2 := ⟨⟨fTB_at 134 rfl rfl, fTB_at 54 rfl rfl, by decide +kernel, by decide +kernel, by decide +kernel⟩, fTB_at 133 rfl rfl⟩
def mJ9_min_7cf53 : fM := (yJ9_min_7cf53, cJ9_min_7cf53, 2, (some .int), fLook flJ9, fKon kcJ9)
set_option maxRecDepth 100000 in
theorem kJ9_min_7cf53 : fMokS mJ9_min_7cf53 2 := ⟨⟨fTB_at 347 rfl rfl, fTB_at 54 rfl rfl, by decide +kernel, by decide +kernel, by decide +kernel⟩, fTB_at 346 rfl rfl⟩
def mL_law : fM := (yL_law, cL_law, 4, (some .boolean), fLook flL, fKon kcL)
theorem bXL_law : fMb mL_law := ⟨flL_ok, kcL_ok, by decide +kernel⟩

/-! the hall's bounds are kept by every call that changes it -/
def hEx (h : hH) : Prop := ∃ a b c e, hOk h a b c e
theorem nI_ne {n k : Nat} (hn : n < 2 ^ 31) (hk : k < 2 ^ 31) (h : ¬ nI n = nI k) : ¬ n = k := fun z => h (by rw [z])
theorem upd_q {P : Int32 → Prop} {f : Nat → Int32} {k j : Nat} {x : Int32} (hx : P x) (h : ¬ j = k → P (f j)) : P (upd f k x j) := by
  by_cases e : j = k
  · rw [e, upd_y]; exact hx
  · rw [upd_n _ _ e]; exact h e
theorem hk_stuff {h : hH} (H : hEx h) (s c : Int32) : hEx (oStuff h s c).2 := by
  obtain ⟨a, b, n, e, H⟩ := H
  unfold oStuff
  split
  · rename_i hc
    split
    · exact ⟨a, b, n, e, H⟩
    · rename_i h8
      obtain ⟨⟨s1, s2, s3, s4⟩, ⟨w1, w2, w3⟩, r⟩ := H
      have ha : a + 1 ≤ 8 := by
        have : ¬ a = 8 := fun z => h8 (by rw [s1, z]; rfl)
        omega
      refine ⟨a + 1, b, n, e, ⟨by rw [s1, nI_1], by omega, ha, fun i hi => ?_⟩, ⟨w1, w2, fun w hw => ⟨(w3 w hw).1, ?_⟩⟩, r⟩
      · show (0 ≤ upd h.1.2.1 _ s i ∧ upd h.1.2.1 _ s i ≤ 100) ∧ (0 ≤ upd h.1.2.2 _ c i ∧ upd h.1.2.2 _ c i ≤ 1000)
        rw [s1, nI_clamp (by omega)]
        exact ⟨upd_q (P := fun z => 0 ≤ z ∧ z ≤ 100) hc.1 (fun z => (s4 i (by omega)).1), upd_q (P := fun z => 0 ≤ z ∧ z ≤ 1000) hc.2 (fun z => (s4 i (by omega)).2)⟩
      · obtain ⟨i, hi, ei⟩ := (w3 w hw).2
        exact ⟨i, by omega, ei⟩
  · exact ⟨a, b, n, e, H⟩
theorem hk_wall {h : hH} (H : hEx h) (x0 y0 x1 y1 m : Int32) : hEx (oWall h x0 y0 x1 y1 m).2 := by
  obtain ⟨a, b, n, e, H⟩ := H
  unfold oWall
  split
  · rename_i hm
    split
    · rename_i hc
      split
      · rename_i hd
        split
        · exact ⟨a, b, n, e, H⟩
        · rename_i h16
          obtain ⟨⟨s1, s2, s3, s4⟩, ⟨w1, w2, w3⟩, r⟩ := H
          have hb : b + 1 ≤ 16 := by
            have : ¬ b = 16 := fun z => h16 (by rw [w1, z]; rfl)
            omega
          obtain ⟨i, hi, rfl⟩ := n_in (x := m) (n := a) (by omega) hm.1 (by rw [← s1]; exact hm.2)
          refine ⟨a, b + 1, n, e, ⟨s1, s2, s3, s4⟩, ⟨by rw [w1, nI_1], hb, fun w hw => ?_⟩, r⟩
          have hE : (h.1, (h.2.1.1 + 1, oEnds h.2.1.2.1 h.2.1.1 x0 y0 x1 y1, upd h.2.1.2.2 h.2.1.1.toNatClampNeg (nI i)), h.2.2).2.1.2.1 = oEnds h.2.1.2.1 (nI b) x0 y0 x1 y1 := by rw [w1]
          have hF : (h.1, (h.2.1.1 + 1, oEnds h.2.1.2.1 h.2.1.1 x0 y0 x1 y1, upd h.2.1.2.2 h.2.1.1.toNatClampNeg (nI i)), h.2.2).2.1.2.2 = upd h.2.1.2.2 b (nI i) := by rw [w1, nI_clamp (by omega)]
          rw [hE, hF]
          by_cases ew : w = b
          · subst ew
            obtain ⟨q0, q1, q2, q3⟩ := oEnds_at (en := h.2.1.2.1) (b := w) (x0 := x0) (y0 := y0) (x1 := x1) (y1 := y1) (by omega)
            refine ⟨⟨fun j hj => ?_, ?_⟩, i, hi, upd_y _ _ _⟩
            · rcases (show j = 0 ∨ j = 1 ∨ j = 2 ∨ j = 3 by omega) with rfl | rfl | rfl | rfl
              · rw [Nat.add_zero, q0]; exact hc.1.1
              · rw [q1]; exact hc.1.2
              · rw [q2]; exact hc.2.1
              · rw [q3]; exact hc.2.2
            · rw [q0, q1, q2, q3]; exact hd
          · have lo : ∀ j, j < 4 → oEnds h.2.1.2.1 (nI b) x0 y0 x1 y1 (4 * w + j) = h.2.1.2.1 (4 * w + j) := fun j hj => oEnds_lo (by omega) (by omega)
            obtain ⟨⟨v1, v2⟩, v3⟩ := w3 w (by omega)
            refine ⟨⟨fun j hj => by rw [lo j hj]; exact v1 j hj, ?_⟩, by rw [upd_n _ _ ew]; exact v3⟩
            have l0 := lo 0 (by omega)
            rw [Nat.add_zero] at l0
            rw [l0, lo 1 (by omega), lo 2 (by omega), lo 3 (by omega)]
            exact v2
      · exact ⟨a, b, n, e, H⟩
    · exact ⟨a, b, n, e, H⟩
  · exact ⟨a, b, n, e, H⟩
theorem hk_cover {h : hH} (H : hEx h) (w m : Int32) : hEx (oCover h w m).2 := by
  obtain ⟨a, b, n, e, H⟩ := H
  unfold oCover
  split
  · rename_i hc
    obtain ⟨⟨s1, s2, s3, s4⟩, ⟨w1, w2, w3⟩, r⟩ := H
    obtain ⟨i, hi, rfl⟩ := n_in (x := m) (n := a) (by omega) hc.2.1 (by rw [← s1]; exact hc.2.2)
    refine ⟨a, b, n, e, ⟨s1, s2, s3, s4⟩, ⟨w1, w2, fun v hv => ⟨(w3 v hv).1, ?_⟩⟩, r⟩
    exact upd_q (P := fun z => ∃ i, i < a ∧ z = nI i) ⟨i, hi, rfl⟩ (fun _ => (w3 v hv).2)
  · exact ⟨a, b, n, e, H⟩
theorem hk_back {h : hH} (H : hEx h) : hEx (oBack h).2 := by
  obtain ⟨a, b, n, e, H⟩ := H
  unfold oBack
  split
  · exact ⟨a, b, n, e, H⟩
  · rename_i h0
    obtain ⟨s, ⟨w1, w2, w3⟩, r⟩ := H
    obtain ⟨k, rfl⟩ : ∃ k, b = k + 1 := ⟨b - 1, by have : ¬ b = 0 := fun z => h0 (by rw [w1, z]; rfl); omega⟩
    exact ⟨a, k, n, e, s, ⟨by rw [w1, nI_pred], by omega, fun w hw => w3 w (by omega)⟩, r⟩
theorem hk_source {h : hH} (H : hEx h) (x y p : Int32) : hEx (oSource h x y p).2 := by
  obtain ⟨a, b, n, e, H⟩ := H
  unfold oSource
  split
  · rename_i hc
    split
    · exact ⟨a, b, n, e, H⟩
    · rename_i h4
      obtain ⟨s, w, ⟨c1, c2, c3⟩, r⟩ := H
      have hn : n + 1 ≤ 4 := by
        have : ¬ n = 4 := fun z => h4 (by rw [c1, z]; rfl)
        omega
      refine ⟨a, b, n + 1, e, s, w, ⟨by rw [c1, nI_1], hn, fun i hi => ?_⟩, r⟩
      show (0 ≤ upd h.2.2.1.2.1 _ x i ∧ upd h.2.2.1.2.1 _ x i ≤ 1000) ∧ (0 ≤ upd h.2.2.1.2.2.1 _ y i ∧ upd h.2.2.1.2.2.1 _ y i ≤ 1000) ∧ (1 ≤ upd h.2.2.1.2.2.2 _ p i ∧ upd h.2.2.1.2.2.2 _ p i ≤ 1000)
      rw [c1, nI_clamp (by omega)]
      exact ⟨upd_q (P := fun z => 0 ≤ z ∧ z ≤ 1000) hc.1.1 (fun z => (c3 i (by omega)).1), upd_q (P := fun z => 0 ≤ z ∧ z ≤ 1000) hc.1.2 (fun z => (c3 i (by omega)).2.1), upd_q (P := fun z => 1 ≤ z ∧ z ≤ 1000) hc.2 (fun z => (c3 i (by omega)).2.2)⟩
  · exact ⟨a, b, n, e, H⟩
theorem hk_seat {h : hH} (H : hEx h) (x y : Int32) : hEx (oSeat h x y).2 := by
  obtain ⟨a, b, n, e, H⟩ := H
  unfold oSeat
  split
  · rename_i hc
    split
    · exact ⟨a, b, n, e, H⟩
    · rename_i h8
      obtain ⟨s, w, c, ⟨e1, e2, e3⟩, r⟩ := H
      have hn : e + 1 ≤ 8 := by
        have : ¬ e = 8 := fun z => h8 (by rw [e1, z]; rfl)
        omega
      refine ⟨a, b, n, e + 1, s, w, c, ⟨by rw [e1, nI_1], hn, fun i hi => ?_⟩, r⟩
      show (0 ≤ upd h.2.2.2.1.2.1 _ x i ∧ upd h.2.2.2.1.2.1 _ x i ≤ 1000) ∧ (0 ≤ upd h.2.2.2.1.2.2 _ y i ∧ upd h.2.2.2.1.2.2 _ y i ≤ 1000)
      rw [e1, nI_clamp (by omega)]
      exact ⟨upd_q (P := fun z => 0 ≤ z ∧ z ≤ 1000) hc.1 (fun z => (e3 i (by omega)).1), upd_q (P := fun z => 0 ≤ z ∧ z ≤ 1000) hc.2 (fun z => (e3 i (by omega)).2)⟩
  · exact ⟨a, b, n, e, H⟩
theorem hk_move {h : hH} (H : hEx h) (k t x y : Int32) : hEx (oMove h k t x y).2 := by
  obtain ⟨a, b, n, e, H⟩ := H
  unfold oMove
  split
  · split
    · split
      · rename_i hc
        obtain ⟨s, w, ⟨c1, c2, c3⟩, r⟩ := H
        refine ⟨a, b, n, e, s, w, ⟨c1, c2, fun i hi => ?_⟩, r⟩
        exact ⟨upd_q (P := fun z => 0 ≤ z ∧ z ≤ 1000) hc.1 (fun z => (c3 i (by omega)).1), upd_q (P := fun z => 0 ≤ z ∧ z ≤ 1000) hc.2 (fun z => (c3 i (by omega)).2.1), (c3 i (by omega)).2.2⟩
      · exact ⟨a, b, n, e, H⟩
    · exact ⟨a, b, n, e, H⟩
  · split
    · split
      · split
        · rename_i hc
          obtain ⟨s, w, c, ⟨e1, e2, e3⟩, r⟩ := H
          refine ⟨a, b, n, e, s, w, c, ⟨e1, e2, fun i hi => ?_⟩, r⟩
          exact ⟨upd_q (P := fun z => 0 ≤ z ∧ z ≤ 1000) hc.1 (fun z => (e3 i (by omega)).1), upd_q (P := fun z => 0 ≤ z ∧ z ≤ 1000) hc.2 (fun z => (e3 i (by omega)).2)⟩
        · exact ⟨a, b, n, e, H⟩
      · exact ⟨a, b, n, e, H⟩
    · exact ⟨a, b, n, e, H⟩
theorem hk_rule {h : hH} (H : hEx h) (t v : Int32) : hEx (oRule h t v).2 := by
  obtain ⟨a, b, n, e, H⟩ := H
  unfold oRule
  split
  · split
    · rename_i hc
      obtain ⟨s, w, c, d, r1, r2⟩ := H
      exact ⟨a, b, n, e, s, w, c, d, hc, r2⟩
    · exact ⟨a, b, n, e, H⟩
  · split
    · split
      · rename_i hc
        obtain ⟨s, w, c, d, r1, r2⟩ := H
        exact ⟨a, b, n, e, s, w, c, d, r1, hc⟩
      · exact ⟨a, b, n, e, H⟩
    · exact ⟨a, b, n, e, H⟩

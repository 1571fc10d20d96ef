/-! walls chosen: a switch by looking up, bits, figures -/
theorem fV.lsw2 {G : fG} {M : fM} {Z : fZ} {pc : Nat} {L : fL} {r : List Value} {S : fS} {x : Int32} {dflt k0 o0 k1 o1 : Int} {len : Nat} {K0 K1 : Int32} {t0 t1 tgt : Nat} (hd : decode M.2.1 pc = .ok (.lookupswitch dflt #[(k0, o0), (k1, o1)], len)) (hk : k0 < k1) (e0 : K0.toInt = k0) (e1 : K1.toInt = k1) (h0 : (pc : Int) + o0 = (t0 : Int)) (h1 : (pc : Int) + o1 = (t1 : Int)) (h2 : (pc : Int) + dflt = (tgt : Int))
    (q0 : x = K0 → fV G M Z t0 L r S) (q1 : ¬ x = K0 → x = K1 → fV G M Z t1 L r S) (q2 : ¬ x = K0 → ¬ x = K1 → fV G M Z tgt L r S) : fV G M Z pc L (.int x :: r) S := by
  intro p e s m args below meth c X g1 g2 g3 g4 H locs ls f1 f2 f3
  have hp : (((#[(k0, o0), (k1, o1)] : Array (Int × Int)).toList.zip ((#[(k0, o0), (k1, o1)] : Array (Int × Int)).toList.drop 1)).all (fun (a, next) => a.1 < next.1)) = true := by simp [hk]
  by_cases c0 : x = K0
  · refine lv_lookup X.1 X.2.1 hd hp (off := o0) ?_ h0 (q0 c0 p e s m args below meth c X g1 g2 g3 g4 H locs ls f1 f2 f3)
    rw [Op.lookupswitch.offset_cons, if_pos]
    rw [c0, e0]
  · by_cases c1 : x = K1
    · refine lv_lookup X.1 X.2.1 hd hp (off := o1) ?_ h1 (q1 c0 c1 p e s m args below meth c X g1 g2 g3 g4 H locs ls f1 f2 f3)
      rw [show (#[(k0, o0), (k1, o1)] : Array (Int × Int)).toList = [(k0, o0), (k1, o1)] from rfl, lv_osw c0 e0, Op.lookupswitch.offset_cons, if_pos]
      rw [c1, e1]
    · refine lv_lookup X.1 X.2.1 hd hp (off := dflt) ?_ h2 (q2 c0 c1 p e s m args below meth c X g1 g2 g3 g4 H locs ls f1 f2 f3)
      rw [show (#[(k0, o0), (k1, o1)] : Array (Int × Int)).toList = [(k0, o0), (k1, o1)] from rfl, lv_osw c0 e0, lv_osw c1 e1]
      rfl
/-- the bits of a set -/
def bt1 (m w : Nat) : Bool := Nat.beq (m / 2 ^ w % 2) 1
def wsU (m i : Nat) : List Nat := (List.range i).filter (bt1 m)
theorem wsU_s (m i : Nat) : wsU m (i + 1) = wsU m i ++ (if bt1 m i = true then [i] else []) := by
  unfold wsU
  rw [List.range_succ, List.filter_append]
  congr 1
  by_cases h : bt1 m i = true
  · rw [if_pos h]; simp [h]
  · rw [if_neg h]; simp [h]
theorem wsU_lt {m i w : Nat} (h : w ∈ wsU m i) : w < i := List.mem_range.mp (List.mem_filter.mp h).1
theorem wsU_le (m : Nat) {i j : Nat} (h : i ≤ j) : (wsU m i).length ≤ (wsU m j).length := ((List.range_sublist.mpr h).filter _).length_le
theorem wsU_nd (m i : Nat) : (wsU m i).Nodup := List.nodup_range.filter _
theorem shw : ∀ t : Nat, t < 16 → ((nI t &&& 31).toBitVec.smod 32).toNat = t := by decide
theorem sh_bit {m w : Nat} (hm : m < 65536) (hw : w < 16) : (nI m >>> (nI w &&& 31)) &&& 1 = nI (m / 2 ^ w % 2) := by
  have h3 : m / 2 ^ w ≤ m := Nat.div_le_self _ _
  rw [pk_shrN (by omega) _ w (shw w hw)]
  exact pk_andN (by omega) 1 (by decide)
theorem bt_y {m w : Nat} (hm : m < 65536) (hw : w < 16) : ((nI m >>> (nI w &&& 31)) &&& 1 = 1) ↔ bt1 m w = true := by
  rw [sh_bit hm hw]
  unfold bt1
  have : m / 2 ^ w % 2 < 2 := Nat.mod_lt _ (by decide)
  rw [show ((m / 2 ^ w % 2).beq 1 = true) = (m / 2 ^ w % 2 = 1) from Nat.beq_eq, show (1 : Int32) = nI 1 from rfl]
  constructor
  · intro h
    have h2 := congrArg Int32.toInt h
    rw [nI_toInt (by omega), nI_toInt (by omega)] at h2
    omega
  · intro h; rw [h]
theorem shl1 : ∀ b : Nat, b < 17 → ((1 : Int32) <<< (nI b &&& 31)) - 1 = nI (2 ^ b - 1) := by decide
theorem set_N {b : Nat} (hb : b ≤ 16) {x : Int32} (h0 : 0 ≤ x) (h1 : x ≤ (1 <<< (nI b &&& 31)) - 1) : ∃ m, m < 2 ^ b ∧ m < 65536 ∧ x = nI m := by
  have hp : 2 ^ b ≤ 2 ^ 16 := Nat.pow_le_pow_right (by decide) hb
  have h2 : 0 < 2 ^ b := Nat.pow_pos (by decide)
  rw [shl1 b (by omega)] at h1
  obtain ⟨m, hm, rfl⟩ := nI_of (x := x) (by grind)
  have := (nI_leI hm (by omega)).mp h1
  exact ⟨m, by omega, by omega, rfl⟩
theorem bt_hi {m b w : Nat} (h : m < 2 ^ b) (hw : b ≤ w) : bt1 m w = false := by
  have hp : 2 ^ b ≤ 2 ^ w := Nat.pow_le_pow_right (by decide) hw
  unfold bt1
  rw [Nat.div_eq_of_lt (by omega)]
  rfl
theorem wsU_hi {m b : Nat} (h : m < 2 ^ b) : ∀ i, wsU m (b + i) = wsU m b
  | 0 => rfl
  | i + 1 => by
    rw [← Nat.add_assoc, wsU_s, bt_hi h (by omega), if_neg (by decide), List.append_nil, wsU_hi h i]
theorem wsU16 {m b : Nat} (h : m < 2 ^ b) (hb : b ≤ 16) : wsU m 16 = wsU m b := by
  have := wsU_hi h (16 - b)
  rwa [show b + (16 - b) = 16 by omega] at this
def us (x k : Int32) : Int32 := (Int32.toUInt32 x >>> (Int32.toUInt32 k &&& Int32.toUInt32 31)).toInt32
def bc1 (x : Int32) : Int32 := x - (us x 1 &&& 1431655765)
def bc2 (x : Int32) : Int32 := (x &&& 858993459) + (us x 2 &&& 858993459)
def bc3 (x : Int32) : Int32 := (x + us x 4) &&& 252645135
def bc4 (x : Int32) : Int32 := x + us x 8
def bc5 (x : Int32) : Int32 := x + us x 16
def bcF (x : Int32) : Int32 := bc5 (bc4 (bc3 (bc2 (bc1 x)))) &&& 63
def bsm (m : Nat) : Nat := m % 2 + m / 2 % 2 + m / 4 % 2 + m / 8 % 2 + m / 16 % 2 + m / 32 % 2 + m / 64 % 2 + m / 128 % 2 + m / 256 % 2 + m / 512 % 2 + m / 1024 % 2 + m / 2048 % 2 + m / 4096 % 2 + m / 8192 % 2 + m / 16384 % 2 + m / 32768 % 2
theorem nI_and (a b : Nat) : nI a &&& nI b = nI (a &&& b) := by
  apply Int32.toBitVec_inj.1
  show BitVec.ofNat 32 a &&& BitVec.ofNat 32 b = BitVec.ofNat 32 (a &&& b)
  apply BitVec.eq_of_getLsbD_eq
  intro i hi
  simp [hi]
theorem us_k : ∀ k : Nat, k < 32 → ((Int32.toUInt32 (nI k) &&& Int32.toUInt32 31).toBitVec % 32).toNat = k := by decide
theorem us_N {m : Nat} (hm : m < 2 ^ 31) {k : Nat} (hk : k < 32) : us (nI m) (nI k) = nI (m / 2 ^ k) := by
  apply Int32.toBitVec_inj.1
  apply BitVec.eq_of_toNat_eq
  show (BitVec.ofNat 32 m >>> ((Int32.toUInt32 (nI k) &&& Int32.toUInt32 31).toBitVec % 32)).toNat = (BitVec.ofNat 32 (m / 2 ^ k)).toNat
  have h2 : m / 2 ^ k ≤ m := Nat.div_le_self _ _
  rw [BitVec.ushiftRight_eq', BitVec.toNat_ushiftRight, us_k k hk, BitVec.toNat_ofNat, BitVec.toNat_ofNat, Nat.shiftRight_eq_div_pow, Nat.mod_eq_of_lt (by omega), Nat.mod_eq_of_lt (by omega)]
def bn1 (x : Nat) : Nat := x - (x / 2 &&& 1431655765)
def bn2 (x : Nat) : Nat := (x &&& 858993459) + (x / 4 &&& 858993459)
def bn3 (x : Nat) : Nat := (x + x / 16) &&& 252645135
def bn4 (x : Nat) : Nat := x + x / 256
def bn5 (x : Nat) : Nat := x + x / 65536
def bnF (x : Nat) : Nat := bn5 (bn4 (bn3 (bn2 (bn1 x)))) &&& 63
theorem land_le (a b : Nat) : a &&& b ≤ a := Nat.and_le_left
theorem bc_N {m : Nat} (hm : m < 65536) : bcF (nI m) = nI (bnF m) := by
  have l1 : bn1 m ≤ m := Nat.sub_le _ _
  have l2 : bn2 (bn1 m) ≤ 2 * m := by
    have := land_le (bn1 m) 858993459
    have := land_le (bn1 m / 4) 858993459
    have : bn1 m / 4 ≤ bn1 m := Nat.div_le_self _ _
    unfold bn2; omega
  have l3 : bn3 (bn2 (bn1 m)) ≤ 4 * m := by
    have := land_le (bn2 (bn1 m) + bn2 (bn1 m) / 16) 252645135
    unfold bn3; omega
  have l4 : bn4 (bn3 (bn2 (bn1 m))) ≤ 8 * m := by unfold bn4; omega
  have e1 : bc1 (nI m) = nI (bn1 m) := by
    unfold bc1 bn1
    have := us_N (m := m) (by omega) (k := 1) (by decide)
    have h := land_le (m / 2) 1431655765
    rw [show (1 : Int32) = nI 1 from rfl, this, show (1431655765 : Int32) = nI 1431655765 from rfl, nI_and, nI_sub (by simp only [Nat.pow_one]; omega)]
  have e2 : bc2 (nI (bn1 m)) = nI (bn2 (bn1 m)) := by
    unfold bc2 bn2
    have := us_N (m := bn1 m) (by omega) (k := 2) (by decide)
    rw [show (2 : Int32) = nI 2 from rfl, this, show (858993459 : Int32) = nI 858993459 from rfl, nI_and, nI_and, nI_add]
  have e3 : bc3 (nI (bn2 (bn1 m))) = nI (bn3 (bn2 (bn1 m))) := by
    unfold bc3 bn3
    have := us_N (m := bn2 (bn1 m)) (by omega) (k := 4) (by decide)
    rw [show (4 : Int32) = nI 4 from rfl, this, show (252645135 : Int32) = nI 252645135 from rfl, nI_add, nI_and]
  have e4 : bc4 (nI (bn3 (bn2 (bn1 m)))) = nI (bn4 (bn3 (bn2 (bn1 m)))) := by
    unfold bc4
    have := us_N (m := bn3 (bn2 (bn1 m))) (by omega) (k := 8) (by decide)
    rw [show (8 : Int32) = nI 8 from rfl, this, nI_add]; rfl
  have e5 : bc5 (nI (bn4 (bn3 (bn2 (bn1 m))))) = nI (bn5 (bn4 (bn3 (bn2 (bn1 m))))) := by
    unfold bc5
    have := us_N (m := bn4 (bn3 (bn2 (bn1 m)))) (by omega) (k := 16) (by decide)
    rw [show (16 : Int32) = nI 16 from rfl, this, nI_add]; rfl
  unfold bcF bnF
  rw [e1, e2, e3, e4, e5, show (63 : Int32) = nI 63 from rfl, nI_and]
theorem land256 {b d : Nat} (hb : b < 256) (hd : d < 256) (a c : Nat) : (256 * a + b) &&& (256 * c + d) = 256 * (a &&& c) + (b &&& d) := by
  have h1 : ((256 * a + b) &&& (256 * c + d)) / 2 ^ 8 = a &&& c := by
    rw [Nat.and_div_two_pow, show (256 * a + b) / 2 ^ 8 = a by omega, show (256 * c + d) / 2 ^ 8 = c by omega]
  have h2 : ((256 * a + b) &&& (256 * c + d)) % 2 ^ 8 = b &&& d := by
    rw [Nat.and_mod_two_pow, show (256 * a + b) % 2 ^ 8 = b by omega, show (256 * c + d) % 2 ^ 8 = d by omega]
  omega
def B1 (j : Nat) : Nat := j - (j / 2 &&& 85)
def B2 (j : Nat) : Nat := (j &&& 51) + (j / 4 &&& 51)
def p8 (j : Nat) : Nat := j % 2 + j / 2 % 2 + j / 4 % 2 + j / 8 % 2 + j / 16 % 2 + j / 32 % 2 + j / 64 % 2 + j / 128 % 2
set_option maxRecDepth 100000 in
theorem tb1 : ∀ j : Nat, j < 256 → (j / 2 &&& 85) ≤ j / 2 ∧ (128 + j / 2) &&& 85 = j / 2 &&& 85 ∧ j / 2 &&& 5592405 = j / 2 &&& 85 := by decide +kernel
set_option maxRecDepth 100000 in
theorem tb2 : ∀ j : Nat, j < 256 → j &&& 3355443 = j &&& 51 ∧ j / 4 &&& 3355443 = j / 4 &&& 51 ∧ (64 + j / 4) &&& 51 = j / 4 &&& 51 ∧ (128 + j / 4) &&& 51 = j / 4 &&& 51 ∧ (192 + j / 4) &&& 51 = j / 4 &&& 51 := by decide +kernel
set_option maxRecDepth 100000 in
theorem tb3 : ∀ j : Nat, j < 256 → B2 (B1 j) ≤ 68 ∧ B2 (B1 j) % 16 ≤ 4 ∧ (B2 (B1 j) + B2 (B1 j) / 16) &&& 986895 = p8 j ∧ p8 j ≤ 8 ∧ ∀ q : Nat, q < 5 → (B2 (B1 j) + B2 (B1 j) / 16 + 16 * q) &&& 15 = p8 j := by decide +kernel
theorem bc_all {i j : Nat} (hi : i < 256) (hj : j < 256) : bnF (256 * i + j) = p8 i + p8 j := by
  obtain ⟨a1, a2, a3⟩ := tb1 i hi
  obtain ⟨b1, b2, b3⟩ := tb1 j hj
  have e1 : bn1 (256 * i + j) = 256 * B1 i + B1 j := by
    unfold bn1 B1
    rw [show (256 * i + j) / 2 = 256 * (i / 2) + (128 * (i % 2) + j / 2) by omega, show 1431655765 = 256 * 5592405 + 85 from rfl, land256 (by omega) (by decide), a3]
    rcases (show i % 2 = 0 ∨ i % 2 = 1 by omega) with h | h
    · rw [h, show 128 * 0 + j / 2 = j / 2 by omega]; omega
    · rw [h, show 128 * 1 + j / 2 = 128 + j / 2 by omega, b2]; omega
  have u1 : B1 i < 256 := by unfold B1; omega
  have v1 : B1 j < 256 := by unfold B1; omega
  obtain ⟨c1, c2, -⟩ := tb2 _ u1
  obtain ⟨d1, d2, d3, d4, d5⟩ := tb2 _ v1
  have e2 : bn2 (256 * B1 i + B1 j) = 256 * B2 (B1 i) + B2 (B1 j) := by
    unfold bn2 B2
    generalize B1 i = u at *
    generalize B1 j = v at *
    rw [show (256 * u + v) / 4 = 256 * (u / 4) + (64 * (u % 4) + v / 4) by omega, show 858993459 = 256 * 3355443 + 51 from rfl, land256 v1 (by decide), land256 (by omega) (by decide), c1, c2]
    have : (64 * (u % 4) + v / 4) &&& 51 = v / 4 &&& 51 := by
      rcases (show u % 4 = 0 ∨ u % 4 = 1 ∨ u % 4 = 2 ∨ u % 4 = 3 by omega) with h | h | h | h
      · rw [h, show 64 * 0 + v / 4 = v / 4 by omega]
      · rw [h]; exact d3
      · rw [h]; exact d4
      · rw [h]; exact d5
    rw [this]
    omega
  obtain ⟨f1, f2, f3, f4, -⟩ := tb3 i hi
  obtain ⟨g1, g2, -, g4, g5⟩ := tb3 j hj
  have e3 : bn3 (256 * B2 (B1 i) + B2 (B1 j)) = 256 * p8 i + p8 j := by
    unfold bn3
    have := g5 (B2 (B1 i) % 16) (by omega)
    generalize B2 (B1 i) = u at *
    generalize B2 (B1 j) = v at *
    rw [show 256 * u + v + (256 * u + v) / 16 = 256 * (u + u / 16) + (v + v / 16 + 16 * (u % 16)) by omega, show 252645135 = 256 * 986895 + 15 from rfl, land256 (by omega) (by decide), f3, this]
  unfold bnF
  rw [e1, e2, e3]
  unfold bn5 bn4
  rw [show 63 = 2 ^ 6 - 1 from rfl, Nat.and_two_pow_sub_one_eq_mod]
  clear e1 e2 e3 f1 f2 f3 g1 g2 g5 a1 a2 a3 b1 b2 b3 c1 c2 d1 d2 d3 d4 d5 u1 v1
  generalize p8 i = u at *
  generalize p8 j = v at *
  rw [show (256 * u + v) / 256 = u by omega, show (256 * u + v + u) / 65536 = 0 by omega]
  omega
theorem wsU_bsm (m : Nat) : (wsU m 16).length = bsm m := by
  have st : ∀ i, (wsU m (i + 1)).length = (wsU m i).length + m / 2 ^ i % 2 := fun i => by
    rw [wsU_s, List.length_append]
    have h2 : m / 2 ^ i % 2 < 2 := Nat.mod_lt _ (by decide)
    unfold bt1
    rcases (show m / 2 ^ i % 2 = 0 ∨ m / 2 ^ i % 2 = 1 by omega) with h | h
    · rw [h]; rfl
    · rw [h]; rfl
  have z : (wsU m 0).length = 0 := rfl
  rw [st, st, st, st, st, st, st, st, st, st, st, st, st, st, st, st, z]
  unfold bsm
  simp only [Nat.reducePow, Nat.div_one]
  omega
theorem bc_set {m : Nat} (hm : m < 65536) : bcF (nI m) = nI (wsU m 16).length := by
  rw [bc_N hm, wsU_bsm]
  congr 1
  have := bc_all (i := m / 256) (j := m % 256) (by omega) (by omega)
  rw [show 256 * (m / 256) + m % 256 = m by omega] at this
  rw [this]
  unfold p8 bsm
  rw [show m % 256 % 2 = m % 2 by omega, show m % 256 / 2 % 2 = m / 2 % 2 by omega, show m % 256 / 4 % 2 = m / 4 % 2 by omega, show m % 256 / 8 % 2 = m / 8 % 2 by omega, show m % 256 / 16 % 2 = m / 16 % 2 by omega, show m % 256 / 32 % 2 = m / 32 % 2 by omega, show m % 256 / 64 % 2 = m / 64 % 2 by omega, show m % 256 / 128 % 2 = m / 128 % 2 by omega, show m / 256 / 2 % 2 = m / 512 % 2 by omega, show m / 256 / 4 % 2 = m / 1024 % 2 by omega, show m / 256 / 8 % 2 = m / 2048 % 2 by omega, show m / 256 / 16 % 2 = m / 4096 % 2 by omega, show m / 256 / 32 % 2 = m / 8192 % 2 by omega, show m / 256 / 64 % 2 = m / 16384 % 2 by omega, show m / 256 / 128 % 2 = m / 32768 % 2 by omega]
  omega

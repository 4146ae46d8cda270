/-! 46.prices0: numbers of the reference's prices -/
theorem bmod64 {a : Int} (h1 : -9223372036854775808 ≤ a) (h2 : a < 9223372036854775808) : a.bmod (2 ^ 64) = a := Int.bmod_eq_of_le (by show -(((2 ^ 64 : Nat) : Int) / 2) ≤ a; omega) (by show a < (((2 ^ 64 : Nat) : Int) + 1) / 2; omega)
theorem l_rng (x : Int64) : -9223372036854775808 ≤ x.toInt ∧ x.toInt < 9223372036854775808 := ⟨Int64.le_toInt x, Int64.toInt_lt x⟩
theorem l_add {x y : Int64} (h1 : -9223372036854775808 ≤ x.toInt + y.toInt) (h2 : x.toInt + y.toInt < 9223372036854775808) : (x + y).toInt = x.toInt + y.toInt := by rw [Int64.toInt_add]; exact bmod64 h1 h2
theorem l_sub {x y : Int64} (h1 : -9223372036854775808 ≤ x.toInt - y.toInt) (h2 : x.toInt - y.toInt < 9223372036854775808) : (x - y).toInt = x.toInt - y.toInt := by rw [Int64.toInt_sub]; exact bmod64 h1 h2
theorem l_mul {x y : Int64} (h1 : -9223372036854775808 ≤ x.toInt * y.toInt) (h2 : x.toInt * y.toInt < 9223372036854775808) : (x * y).toInt = x.toInt * y.toInt := by rw [Int64.toInt_mul]; exact bmod64 h1 h2
theorem l_neg {x : Int64} (h : -9223372036854775808 < x.toInt) : (-x).toInt = -x.toInt := by rw [Int64.toInt_neg]; have := l_rng x; exact bmod64 (by omega) (by omega)
theorem l_inj {x y : Int64} (h : x.toInt = y.toInt) : x = y := Int64.toInt_inj.mp h
theorem l_shr (x y : Int64) (k : Nat) (h : (y.toBitVec.smod 64).toNat = k) : (x >>> y).toInt = x.toInt / (2 ^ k : Nat) := by
  show (x >>> y).toBitVec.toInt = _
  rw [Int64.toBitVec_shiftRight]
  show (x.toBitVec.sshiftRight (y.toBitVec.smod 64).toNat).toInt = _
  rw [h, BitVec.toInt_sshiftRight, Int.shiftRight_eq_div_pow]
  rfl
/-- the floor of a quotient -/
theorem flr_i {a b : Int64} (hb : 1 ≤ b.toInt) (hb2 : b.toInt < 4611686018427387904) : (flr a b).toInt = a.toInt / b.toInt := by
  have ha := l_rng a
  have hd : (a / b).toInt = a.toInt.tdiv b.toInt := by
    rw [Int64.toInt_div]
    have h3 : a.toInt.tdiv b.toInt ≤ max a.toInt 0 ∧ min a.toInt 0 ≤ a.toInt.tdiv b.toInt := by
      rcases Int.lt_or_le a.toInt 0 with h | h
      · have e : a.toInt.tdiv b.toInt = -((-a.toInt).tdiv b.toInt) := by rw [Int.neg_tdiv, Int.neg_neg]
        rw [e, Int.tdiv_eq_ediv_of_nonneg (by omega)]
        have h4 : 0 ≤ (-a.toInt) / b.toInt := Int.ediv_nonneg (by omega) (by omega)
        have h5 : (-a.toInt) / b.toInt ≤ -a.toInt := Int.ediv_le_self _ (by omega)
        omega
      · rw [Int.tdiv_eq_ediv_of_nonneg h]
        have h4 : 0 ≤ a.toInt / b.toInt := Int.ediv_nonneg (by omega) (by omega)
        have h5 : a.toInt / b.toInt ≤ a.toInt := Int.ediv_le_self _ (by omega)
        omega
    exact bmod64 (by omega) (by omega)
  have hm : a.toInt.tdiv b.toInt * b.toInt = a.toInt - a.toInt.tmod b.toInt := by
    have := Int.mul_tdiv_add_tmod a.toInt b.toInt
    rw [Int.mul_comm] at this; omega
  have hr1 : -b.toInt < a.toInt.tmod b.toInt := by
    rcases Int.lt_or_le a.toInt 0 with h | h
    · have e : a.toInt.tmod b.toInt = -((-a.toInt).tmod b.toInt) := by rw [Int.neg_tmod, Int.neg_neg]
      have := Int.tmod_lt_of_pos (-a.toInt) (show 0 < b.toInt by omega)
      omega
    · have := Int.tmod_nonneg b.toInt h; omega
  have hr2 : a.toInt.tmod b.toInt < b.toInt := Int.tmod_lt_of_pos _ (by omega)
  have hr3 : (0 ≤ a.toInt → 0 ≤ a.toInt.tmod b.toInt) := fun h => Int.tmod_nonneg _ h
  have hr4 : (a.toInt ≤ 0 → a.toInt.tmod b.toInt ≤ 0) := fun h => by
    have e : a.toInt.tmod b.toInt = -((-a.toInt).tmod b.toInt) := by rw [Int.neg_tmod, Int.neg_neg]
    have := Int.tmod_nonneg b.toInt (show 0 ≤ -a.toInt by omega)
    omega
  have hp : (a / b * b).toInt = a.toInt - a.toInt.tmod b.toInt := by
    rw [Int64.toInt_mul, hd, hm]
    refine bmod64 ?_ ?_
    · rcases Int.lt_or_le a.toInt 0 with h | h
      · have := hr4 (by omega); omega
      · omega
    · rcases Int.lt_or_le a.toInt 0 with h | h
      · omega
      · have := hr3 h; omega
  have hs : (a - a / b * b).toInt = a.toInt.tmod b.toInt := by
    rw [Int64.toInt_sub, hp]
    rw [show a.toInt - (a.toInt - a.toInt.tmod b.toInt) = a.toInt.tmod b.toInt by omega]
    exact bmod64 (by omega) (by omega)
  have key : ∀ q r : Int, q * b.toInt + r = a.toInt → 0 ≤ r → r < b.toInt → a.toInt / b.toInt = q := by
    intro q r h1 h2 h3
    rw [← h1, Int.add_comm, Int.add_mul_ediv_right _ _ (by omega), Int.ediv_eq_zero_of_lt h2 h3, Int.zero_add]
  unfold flr
  by_cases hc : a - a / b * b < 0
  · rw [if_pos hc]
    rw [Int64.lt_iff_toInt_lt, hs] at hc
    have hc : a.toInt.tmod b.toInt < 0 := hc
    have hlt : a.toInt < 0 := by rcases Int.lt_or_le a.toInt 0 with h | h; exact h; have := hr3 h; omega
    have hle : a.toInt.tdiv b.toInt ≤ 0 := by
      have e : a.toInt.tdiv b.toInt = -((-a.toInt).tdiv b.toInt) := by rw [Int.neg_tdiv, Int.neg_neg]
      rw [e, Int.tdiv_eq_ediv_of_nonneg (by omega)]
      have h4 : 0 ≤ (-a.toInt) / b.toInt := Int.ediv_nonneg (by omega) (by omega)
      omega
    have hge : a.toInt < a.toInt.tdiv b.toInt := by
      rcases Int.lt_or_le a.toInt (a.toInt.tdiv b.toInt) with h | h
      · exact h
      · have h9 : a.toInt.tdiv b.toInt * b.toInt ≤ a.toInt.tdiv b.toInt * 1 := Int.mul_le_mul_of_nonpos_left hle hb
        omega
    rw [Int64.toInt_sub, hd]
    show (a.toInt.tdiv b.toInt - 1).bmod (2 ^ 64) = _
    rw [bmod64 (by omega) (by omega)]
    refine (key _ (a.toInt.tmod b.toInt + b.toInt) ?_ (by omega) (by omega)).symm
    rw [Int.sub_mul, hm]; omega
  · rw [if_neg hc, hd]
    rw [Int64.lt_iff_toInt_lt, hs] at hc
    have hc : ¬ a.toInt.tmod b.toInt < 0 := hc
    exact (key _ (a.toInt.tmod b.toInt) (by rw [hm]; omega) (by omega) (by omega)).symm
theorem rnd_i {x : Int64} {b : Int32} (k : Nat) (hk : k < 20) (h1 : ((b + 1).toInt64 &&& 63).toBitVec.smod 64 = BitVec.ofNat 64 (k + 1)) (h2 : ((1 : Int64) <<< (b.toInt64 &&& 63)).toInt = (2 ^ k : Nat)) (hx : x.toInt.natAbs < 2 ^ 60) : (rndL x b).toInt = (2 * x.toInt + (2 ^ k : Nat)) / (2 ^ (k + 1) : Nat) := by
  have hp : (2 : Nat) ^ k < 2 ^ 20 := Nat.pow_lt_pow_right (by omega) hk
  have hp1 : 0 < (2 : Nat) ^ k := Nat.pow_pos (by omega)
  unfold rndL
  rw [l_shr _ _ (k + 1) (by rw [h1, BitVec.toNat_ofNat]; exact Nat.mod_eq_of_lt (by omega))]
  have e2 : (2 * x).toInt = 2 * x.toInt := l_mul (x := 2) (by show _ ≤ (2 : Int) * _; omega) (by show (2 : Int) * _ < _; omega)
  rw [l_add (by rw [e2, h2]; omega) (by rw [e2, h2]; omega), e2, h2]
/-- both ways of rounding -/
theorem flr_rnd {x b h : Int64} {c : Int32} (k : Nat) (hk : k < 20) (h1 : ((c + 1).toInt64 &&& 63).toBitVec.smod 64 = BitVec.ofNat 64 (k + 1)) (h2 : ((1 : Int64) <<< (c.toInt64 &&& 63)).toInt = (2 ^ k : Nat)) (hb : b.toInt = (2 ^ k : Nat)) (hh : 2 * h.toInt = (2 ^ k : Nat)) (hx : x.toInt.natAbs < 2 ^ 60) : flr (x + h) b = rndL x c := by
  have hp : (2 : Nat) ^ k < 2 ^ 20 := Nat.pow_lt_pow_right (by omega) hk
  have hp1 : 0 < (2 : Nat) ^ k := Nat.pow_pos (by omega)
  apply l_inj
  rw [flr_i (by rw [hb]; omega) (by rw [hb]; omega), rnd_i k hk h1 h2 hx, l_add (by omega) (by omega), hb]
  rw [show ((2 ^ (k + 1) : Nat) : Int) = 2 * (2 ^ k : Nat) by rw [Nat.pow_succ]; omega, show 2 * x.toInt + ((2 ^ k : Nat) : Int) = 2 * (x.toInt + h.toInt) by omega, Int.mul_ediv_mul_of_pos _ _ (by omega)]
theorem flr14 {x : Int64} (hx : x.toInt.natAbs < 2 ^ 60) : flr (x + 8192) 16384 = rndL x 14 := flr_rnd 14 (by decide) (by decide) (by decide) (by decide) (by decide) hx
theorem flr10 {x : Int64} (hx : x.toInt.natAbs < 2 ^ 60) : flr (x + 512) 1024 = rndL x 10 := flr_rnd 10 (by decide) (by decide) (by decide) (by decide) (by decide) hx
theorem flr3 {x : Int64} (hx : x.toInt.natAbs < 2 ^ 60) : flr (x + 4) 8 = rndL x 3 := flr_rnd 3 (by decide) (by decide) (by decide) (by decide) (by decide) hx
theorem flrG (x : Int64) : flr x 1024 = x >>> ((10 : Int32).toInt64 &&& 63) := by
  apply l_inj
  rw [flr_i (by decide) (by decide), l_shr _ _ 10 (by decide)]
  rfl
theorem flrS {x : Int64} {c : Int32} (k : Nat) (hk : k < 7) (hc : c = nI k) (hx : x.toInt.natAbs < 2 ^ 60) : flr (x * 2 + (1 : Int64) <<< (c.toInt64 &&& 63)) ((2 : Int64) <<< (c.toInt64 &&& 63)) = rndL x c := by
  subst hc
  have h : k = 0 ∨ k = 1 ∨ k = 2 ∨ k = 3 ∨ k = 4 ∨ k = 5 ∨ k = 6 := by omega
  have key : ∀ (k : Nat) (c : Int32), k < 7 → ((c + 1).toInt64 &&& 63).toBitVec.smod 64 = BitVec.ofNat 64 (k + 1) → ((1 : Int64) <<< (c.toInt64 &&& 63)).toInt = (2 ^ k : Nat) → ((2 : Int64) <<< (c.toInt64 &&& 63)).toInt = (2 ^ (k + 1) : Nat) → flr (x * 2 + (1 : Int64) <<< (c.toInt64 &&& 63)) ((2 : Int64) <<< (c.toInt64 &&& 63)) = rndL x c := by
    intro k c hk h1 h2 h3
    have hp : (2 : Nat) ^ k < 2 ^ 7 := Nat.pow_lt_pow_right (by omega) hk
    have hp1 : 0 < (2 : Nat) ^ k := Nat.pow_pos (by omega)
    have e3 : ((2 ^ (k + 1) : Nat) : Int) = 2 * (2 ^ k : Nat) := by rw [Nat.pow_succ]; omega
    have e2 : (x * 2).toInt = x.toInt * 2 := l_mul (y := 2) (by show _ ≤ _ * (2 : Int); omega) (by show _ * (2 : Int) < _; omega)
    apply l_inj
    rw [flr_i (by rw [h3]; omega) (by rw [h3]; omega), rnd_i k (by omega) h1 h2 hx, l_add (by rw [e2, h2]; omega) (by rw [e2, h2]; omega), h3, e2, h2, Int.mul_comm]
  rcases h with rfl | rfl | rfl | rfl | rfl | rfl | rfl
  · exact key 0 _ (by decide) (by decide) (by decide) (by decide)
  · exact key 1 _ (by decide) (by decide) (by decide) (by decide)
  · exact key 2 _ (by decide) (by decide) (by decide) (by decide)
  · exact key 3 _ (by decide) (by decide) (by decide) (by decide)
  · exact key 4 _ (by decide) (by decide) (by decide) (by decide)
  · exact key 5 _ (by decide) (by decide) (by decide) (by decide)
  · exact key 6 _ (by decide) (by decide) (by decide) (by decide)
theorem lt_l {x y : Int64} : x < y ↔ x.toInt < y.toInt := Int64.lt_iff_toInt_lt
theorem le_l {x y : Int64} : x ≤ y ↔ x.toInt ≤ y.toInt := Int64.le_iff_toInt_le
theorem pay1 {x w : Int64} (hx : x.toInt.natAbs < 2 ^ 60) (hw : w.toInt.natAbs < 2 ^ 60) : (if x - w < 0 then -(x - w) else 0) = mxL (w - x) 0 := by
  have e1 : (x - w).toInt = x.toInt - w.toInt := l_sub (by omega) (by omega)
  have e2 : (w - x).toInt = w.toInt - x.toInt := l_sub (by omega) (by omega)
  have e3 : -(x - w) = w - x := l_inj (by rw [l_neg (by omega), e1, e2]; omega)
  unfold mxL
  by_cases h : x - w < 0
  · rw [if_pos h, if_pos (by rw [lt_l] at h ⊢; rw [e1] at h; rw [e2]; have h : x.toInt - w.toInt < 0 := h; show (0 : Int) < _; omega), e3]
  · rw [if_neg h, if_neg (by rw [lt_l] at h ⊢; rw [e1] at h; rw [e2]; have h : ¬ x.toInt - w.toInt < 0 := h; show ¬ (0 : Int) < _; omega)]
theorem pay2 {x w : Int64} (hx : x.toInt.natAbs < 2 ^ 60) (hw : w.toInt.natAbs < 2 ^ 60) : x - w < 0 ↔ x < w := by
  have e1 : (x - w).toInt = x.toInt - w.toInt := l_sub (by omega) (by omega)
  rw [lt_l, lt_l, e1]
  show x.toInt - w.toInt < 0 ↔ _
  omega
theorem b_l (x : Int64) (h : 0 ≤ x.toInt) : x.toInt = (x.toBitVec.toNat : Int) := by
  have h1 : x.toInt = x.toBitVec.toInt := rfl
  rw [h1] at h ⊢
  rw [BitVec.toInt_eq_toNat_cond] at h ⊢
  split
  · rfl
  · rename_i h2; rw [if_neg h2] at h; have := x.toBitVec.isLt; omega
theorem and_l (x : Int64) (k : Nat) (hk : k < 63) (m : Int64) (hm : m.toBitVec = BitVec.ofNat 64 (2 ^ k - 1)) : (x &&& m).toInt = ((x.toBitVec.toNat % 2 ^ k : Nat) : Int) := by
  have hp : (2 : Nat) ^ k < 2 ^ 63 := Nat.pow_lt_pow_right (by omega) hk
  have hp1 : 0 < (2 : Nat) ^ k := Nat.pow_pos (by omega)
  have e : (x &&& m).toBitVec.toNat = x.toBitVec.toNat % 2 ^ k := by
    rw [Int64.toBitVec_and, hm, BitVec.toNat_and, BitVec.toNat_ofNat, Nat.mod_eq_of_lt (by omega), Nat.and_two_pow_sub_one_eq_mod]
  have h1 : (x &&& m).toInt = (x &&& m).toBitVec.toInt := rfl
  have h2 := Nat.mod_lt x.toBitVec.toNat hp1
  rw [h1, BitVec.toInt_eq_toNat_cond, e, if_pos (by omega)]
theorem dwN_r (x : Int64) : 0 ≤ (dwN x).toInt ∧ (dwN x).toInt < 2147483648 := by
  unfold dwN
  rw [and_l _ 31 (by decide) _ (by decide)]
  have := Nat.mod_lt (x * 1103515245 + 12345).toBitVec.toNat (show 0 < 2 ^ 31 by decide)
  omega
theorem div_l {x m : Int64} (h0 : 0 ≤ x.toInt) (hm : 0 < m.toInt) : (x / m).toInt = x.toInt / m.toInt := by
  rw [Int64.toInt_div, Int.tdiv_eq_ediv_of_nonneg h0]
  have h4 : 0 ≤ x.toInt / m.toInt := Int.ediv_nonneg (by omega) (by omega)
  have h5 : x.toInt / m.toInt ≤ x.toInt := Int.ediv_le_self _ (by omega)
  have := l_rng x
  exact bmod64 (by omega) (by omega)
theorem dw_e {z : Int64} (h0 : 0 ≤ z.toInt) (h1 : z.toInt < 2147483648) : z / 65536 - z / 65536 / 16 * 16 = (z >>> ((16 : Int32).toInt64 &&& 63)) &&& 15 := by
  have e1 : (z / 65536).toInt = z.toInt / 65536 := div_l h0 (by decide)
  have e2 : (z / 65536 / 16).toInt = z.toInt / 65536 / 16 := by
    rw [div_l (by rw [e1]; omega) (by decide), e1]; rfl
  have e3 : (z / 65536 / 16 * 16).toInt = z.toInt / 65536 / 16 * 16 := by
    rw [l_mul (by rw [e2]; show _ ≤ _ * (16 : Int); omega) (by rw [e2]; show _ * (16 : Int) < _; omega), e2]; rfl
  have e4 : (z >>> ((16 : Int32).toInt64 &&& 63)).toInt = z.toInt / 65536 := by
    rw [l_shr _ _ 16 (by decide)]; rfl
  apply l_inj
  rw [l_sub (by rw [e1, e3]; omega) (by rw [e1, e3]; omega), e1, e3, and_l _ 4 (by decide) _ (by decide)]
  have := b_l _ (show 0 ≤ (z >>> ((16 : Int32).toInt64 &&& 63)).toInt by rw [e4]; omega)
  rw [e4] at this
  omega
/-- an option's numbers are small -/
def bnO (s : QS) (o : Nat) : Prop := (oS s o).toInt.natAbs ≤ 1024000000 ∧ (oM s o).toInt.natAbs ≤ 1024000000 ∧ (q_wa s o).toInt.natAbs ≤ 102400000 ∧ ∃ c, 1 ≤ c ∧ c ≤ 15 ∧ q_ch s o = nI c
theorem oOut_n {s : QS} {o : Nat} {x : Int64} (h : q_pt s o 3 = none) : oOut s o x = false := by unfold oOut; rw [h]
theorem oOut_s {s : QS} {o k : Nat} {x : Int64} (h : q_pt s o 3 = some k) : oOut s o x = decide (¬ x < q_am s k) := by unfold oOut; rw [h]
theorem oP_b {s : QS} {o : Nat} (hb : bnO s o) {m : Int32} (hm : m.toInt.natAbs ≤ 20) : (oP s o m).toInt.natAbs ≤ 21504000000 := by
  obtain ⟨h1, h2, -⟩ := hb
  unfold oP
  have h3 : (m.toInt * (oM s o).toInt).natAbs ≤ 20 * 1024000000 := by rw [Int.natAbs_mul]; exact Nat.mul_le_mul hm h2
  have e1 : (m.toInt64 * oM s o).toInt = m.toInt * (oM s o).toInt := by
    rw [l_mul (by rw [Int32.toInt_toInt64]; omega) (by rw [Int32.toInt_toInt64]; omega), Int32.toInt_toInt64]
  rw [l_add (by rw [e1]; omega) (by rw [e1]; omega), e1]
  omega
theorem mx_b {x y : Int64} {B : Nat} (hx : x.toInt.natAbs ≤ B) (hy : y.toInt.natAbs ≤ B) : (mxL x y).toInt.natAbs ≤ B := by unfold mxL; split <;> assumption
theorem oPI_b {s : QS} {o : Nat} (hb : bnO s o) {x : Int64} (hx : x.toInt.natAbs ≤ 21504000000) : (oPI s o x).toInt.natAbs ≤ 23000000000 := by
  obtain ⟨-, -, h3, -⟩ := hb
  have e1 : (x - q_wa s o).toInt = x.toInt - (q_wa s o).toInt := l_sub (by omega) (by omega)
  have e2 : (q_wa s o - x).toInt = (q_wa s o).toInt - x.toInt := l_sub (by omega) (by omega)
  unfold oPI
  split
  · exact mx_b (by rw [e1]; omega) (by show Int.natAbs 0 ≤ _; omega)
  · split
    · exact mx_b (by rw [e2]; omega) (by show Int.natAbs 0 ≤ _; omega)
    · split
      · split
        · show Int.natAbs 0 ≤ _; omega
        · show Int.natAbs 102400 ≤ _; omega
      · rw [e1]; omega
theorem oPay_b {s : QS} {o : Nat} (hb : bnO s o) {x : Int64} (hx : x.toInt.natAbs ≤ 21504000000) : (oPay s o x).toInt.natAbs ≤ 23000000000 := by
  unfold oPay; split
  · show Int.natAbs 0 ≤ _; omega
  · exact oPI_b hb hx
theorem oHeld_b {s : QS} {o : Nat} (hb : bnO s o) {x v : Int64} (hx : x.toInt.natAbs ≤ 21504000000) (hv : v.toInt.natAbs ≤ 23000000000) : (oHeld s o x v).toInt.natAbs ≤ 23000000000 := by
  unfold oHeld; split
  · show Int.natAbs 0 ≤ _; omega
  · split
    · exact mx_b hv (oPI_b hb hx)
    · exact hv
theorem big_f {x : Int64} (h : ¬ bigL x = true) : x.toInt.natAbs ≤ 1024000000 := by
  unfold bigL at h
  rw [Bool.or_eq_true, decide_eq_true_eq, decide_eq_true_eq, lt_l, lt_l] at h
  have h : ¬ ((1024000000 : Int) < x.toInt ∨ x.toInt < -1024000000) := h
  omega
/-- TOO LARGE leaves its mark -/
def bdT (t : Int32) (v : Int64) : Int32 := if bigL v = true then 2 else t
theorem bdT_2 (v : Int64) : bdT 2 v = 2 := by unfold bdT; split <;> rfl
/-- the reference's row beside the class's -/
def Lst (N : Nat) (a : Option (Nat → Int64)) (t : Int32) (g : Nat → Int64) : Prop := (t = 0 ∧ a = some g ∧ ∀ j, j ≤ N → (g j).toInt.natAbs ≤ 23000000000) ∨ (t = 2 ∧ a = none)
theorem nI_dif {a b : Nat} (ha : a < 2 ^ 30) (hb : b < 2 ^ 30) : (nI a - nI b).toInt = (a : Int) - (b : Int) := by
  rw [Int32.toInt_sub, nI_toInt (by omega), nI_toInt (by omega)]
  exact Int.bmod_eq_of_le (by omega) (by omega)
theorem oP_l {s : QS} {o : Nat} (hb : bnO s o) {k T : Nat} (h : k ≤ T) (hT : T ≤ 20) : (oP s o (2 * nI k - nI T)).toInt.natAbs ≤ 21504000000 := oP_b hb (by
  rw [show (2 : Int32) = nI 2 from rfl, pk_mul, nI_dif (by omega) (by omega)]; omega)
theorem oP_n {s : QS} {o : Nat} (hb : bnO s o) {k T : Nat} (h : k ≤ 2 * T) (hT : T ≤ 20) : (oP s o (nI k - nI T)).toInt.natAbs ≤ 21504000000 := oP_b hb (by
  rw [nI_dif (by omega) (by omega)]; omega)
theorem ch16 : ∀ c, c < 16 → ((16 : Int32) - nI c).toInt64 = 16 - (nI c).toInt64 := by decide
theorem ch_i {c : Nat} (h : c ≤ 15) : (nI c).toInt64.toInt = c := by rw [Int32.toInt_toInt64, nI_toInt (by omega)]
theorem mulB {a b : Int} {A B : Nat} (ha : a.natAbs ≤ A) (hb : b.natAbs ≤ B) : (a * b).natAbs ≤ A * B := by rw [Int.natAbs_mul]; exact Nat.mul_le_mul ha hb
/-- a step back on the lattice -/
theorem lstp_e {s : QS} {o : Nat} (hb : bnO s o) {D a b : Int64} (hD : 0 ≤ D.toInt ∧ D.toInt ≤ 1024) (ha : a.toInt.natAbs ≤ 23000000000) (hc : b.toInt.natAbs ≤ 23000000000) : flr (D * ((q_ch s o).toInt64 * a + (16 - (q_ch s o).toInt64) * b) + 8192) 16384 = lstp s o D a b := by
  obtain ⟨-, -, -, c, h1, h2, e⟩ := hb
  unfold lstp
  rw [e, ch16 c (by omega)]
  have e1 : ((nI c).toInt64 * a).toInt = (c : Int) * a.toInt := by
    have := mulB (a := (c : Int)) (A := 15) (by omega) ha
    rw [l_mul (by rw [ch_i h2]; omega) (by rw [ch_i h2]; omega), ch_i h2]
  have e2 : ((16 : Int64) - (nI c).toInt64).toInt = 16 - (c : Int) := by
    rw [l_sub (by rw [ch_i h2]; show _ ≤ (16 : Int) - _; omega) (by rw [ch_i h2]; show (16 : Int) - _ < _; omega), ch_i h2]; rfl
  have h3 := mulB (a := (c : Int)) (A := 15) (by omega) ha
  have h4 := mulB (a := 16 - (c : Int)) (A := 15) (by omega) hc
  have e3 : ((16 - (nI c).toInt64) * b).toInt = (16 - (c : Int)) * b.toInt := by
    rw [l_mul (by rw [e2]; omega) (by rw [e2]; omega), e2]
  have e4 : ((nI c).toInt64 * a + (16 - (nI c).toInt64) * b).toInt = (c : Int) * a.toInt + (16 - (c : Int)) * b.toInt := by
    rw [l_add (by rw [e1, e3]; omega) (by rw [e1, e3]; omega), e1, e3]
  have h5 : ((c : Int) * a.toInt + (16 - (c : Int)) * b.toInt).natAbs ≤ 2 * (15 * 23000000000) := by omega
  have h6 := mulB (a := D.toInt) (A := 1024) (by omega) h5
  refine flr14 ?_
  rw [l_mul (by rw [e4]; omega) (by rw [e4]; omega), e4]
  omega
def latE (s : QS) (o : Nat) (D : Int64) (k : Nat) (x : Int64) (a : Option (Nat → Int64)) : Option (Nat → Int64) := match a with
  | none => none
  | some g => if bigL (lstp s o D (g (k + 1)) (g k)) = true then none else some (vp_updL g k (oHeld s o x (lstp s o D (g (k + 1)) (g k))))
theorem latE_s {s : QS} {o : Nat} {D : Int64} {k : Nat} {x : Int64} {g : Nat → Int64} : latE s o D k x (some g) = if bigL (lstp s o D (g (k + 1)) (g k)) = true then none else some (vp_updL g k (oHeld s o x (lstp s o D (g (k + 1)) (g k)))) := rfl
theorem Lst.lat {s : QS} {o N : Nat} (hb : bnO s o) {D : Int64} (hD : 0 ≤ D.toInt ∧ D.toInt ≤ 1024) {a : Option (Nat → Int64)} {t : Int32} {g : Nat → Int64} (h : Lst N a t g) {k : Nat} (hk : k + 1 ≤ N) {x : Int64} (hx : x.toInt.natAbs ≤ 21504000000) {v : Int64} (hv : v = flr (D * ((q_ch s o).toInt64 * g (k + 1) + (16 - (q_ch s o).toInt64) * g k) + 8192) 16384) :
    Lst N (latE s o D k x a) (bdT t v) (vp_updL g k (oHeld s o x v)) := by
  rcases h with ⟨rfl, rfl, hB⟩ | ⟨rfl, rfl⟩
  · have e := hv.trans (lstp_e hb hD (hB (k + 1) hk) (hB k (by omega)))
    subst e
    by_cases hg : bigL (lstp s o D (g (k + 1)) (g k)) = true
    · refine Or.inr ⟨by unfold bdT; rw [if_pos hg], ?_⟩
      rw [latE_s, if_pos hg]
    · refine Or.inl ⟨by unfold bdT; rw [if_neg hg], ?_, fun j hj => ?_⟩
      · rw [latE_s, if_neg hg]
      · by_cases hjk : j = k
        · subst hjk; rw [pk_uLs]; exact oHeld_b hb hx (by have := big_f hg; omega)
        · rw [pk_uLn hjk]; exact hB j hj
  · exact Or.inr ⟨bdT_2 _, rfl⟩
theorem lat0_b {s : QS} {o N : Nat} (hb : bnO s o) (hN : N ≤ 20) (hsp : q_sp s o = nI N) {f : Nat → Int64} : ∀ k, k ≤ N + 1 → ∀ j, j < k → (lat0 s o f k j).toInt.natAbs ≤ 23000000000
  | 0, _, j, h => absurd h (by omega)
  | k + 1, hk, j, h => by
    show (vp_updL _ k _ j).toInt.natAbs ≤ _
    by_cases hjk : j = k
    · subst hjk; rw [pk_uLs, hsp]; exact oPay_b hb (oP_l hb (by omega) hN)
    · rw [pk_uLn hjk]; exact lat0_b hb hN hsp k (by omega) j (by omega)
/-- where the lattice stands: i steps back, k cells of the next -/
def ltI (s : QS) (o : Nat) (D : Int64) (N : Nat) (f : Nat → Int64) (i k : Nat) : Option (Nat → Int64) := match lts s o D N f i with
  | none => none
  | some g => lsb s o D (nI (N - 1 - i)) g k
theorem ltI_0 {s : QS} {o : Nat} {D : Int64} {N : Nat} {f : Nat → Int64} {i : Nat} : ltI s o D N f i 0 = lts s o D N f i := by
  unfold ltI; cases lts s o D N f i <;> rfl
theorem ltI_s {s : QS} {o : Nat} {D : Int64} {N : Nat} {f : Nat → Int64} {i k : Nat} : ltI s o D N f i (k + 1) = latE s o D k (oP s o (2 * nI k - nI (N - 1 - i))) (ltI s o D N f i k) := by
  unfold ltI; cases lts s o D N f i <;> rfl
theorem ltI_e {s : QS} {o : Nat} {D : Int64} {N : Nat} {f : Nat → Int64} {i : Nat} : ltI s o D N f i (N - i) = lts s o D N f (i + 1) := rfl
/-! the net -/
theorem nstp_e {s : QS} {o : Nat} (hb : bnO s o) {D a h b : Int64} (hD : 0 ≤ D.toInt ∧ D.toInt ≤ 1024) (ha : a.toInt.natAbs ≤ 23000000000) (hh : h.toInt.natAbs ≤ 23000000000) (hc : b.toInt.natAbs ≤ 23000000000) : flr (D * (16 * h + (q_ch s o).toInt64 * (b - 2 * h + a)) + 8192) 16384 = nstp s o D a h b := by
  obtain ⟨-, -, -, c, h1, h2, e⟩ := hb
  unfold nstp
  rw [e]
  have e0 : (16 * h).toInt = 16 * h.toInt := l_mul (x := 16) (by show _ ≤ (16 : Int) * _; omega) (by show (16 : Int) * _ < _; omega)
  have e1 : (2 * h).toInt = 2 * h.toInt := l_mul (x := 2) (by show _ ≤ (2 : Int) * _; omega) (by show (2 : Int) * _ < _; omega)
  have e2 : (b - 2 * h).toInt = b.toInt - 2 * h.toInt := by rw [l_sub (by rw [e1]; omega) (by rw [e1]; omega), e1]
  have e3 : (b - 2 * h + a).toInt = b.toInt - 2 * h.toInt + a.toInt := by rw [l_add (by rw [e2]; omega) (by rw [e2]; omega), e2]
  have h3 := mulB (a := (c : Int)) (b := b.toInt - 2 * h.toInt + a.toInt) (A := 15) (B := 92000000000) (by omega) (by omega)
  have e4 : ((nI c).toInt64 * (b - 2 * h + a)).toInt = (c : Int) * (b.toInt - 2 * h.toInt + a.toInt) := by
    rw [l_mul (by rw [ch_i h2, e3]; omega) (by rw [ch_i h2, e3]; omega), ch_i h2, e3]
  have e5 : (16 * h + (nI c).toInt64 * (b - 2 * h + a)).toInt = 16 * h.toInt + (c : Int) * (b.toInt - 2 * h.toInt + a.toInt) := by
    rw [l_add (by rw [e0, e4]; omega) (by rw [e0, e4]; omega), e0, e4]
  have h5 : (16 * h.toInt + (c : Int) * (b.toInt - 2 * h.toInt + a.toInt)).natAbs ≤ 2 * (15 * 92000000000) := by omega
  have h6 := mulB (a := D.toInt) (A := 1024) (by omega) h5
  refine flr14 ?_
  rw [l_mul (by rw [e5]; omega) (by rw [e5]; omega), e5]
  omega
/-- fresh holds the class's new row from 1 to k -/
def Nst (M : Nat) (f : Nat → Int64) (k : Nat) (a : Option (Nat → Int64)) (t : Int32) (h : Nat → Int64) : Prop := (t = 0 ∧ (∀ j, j ≤ 2 * M → (f j).toInt.natAbs ≤ 23000000000) ∧ ∃ g, a = some g ∧ (∀ j, 1 ≤ j → j ≤ k → h j = g j) ∧ (∀ j, j ≤ 2 * M → (g j).toInt.natAbs ≤ 23000000000)) ∨ (t = 2 ∧ a = none)
/-- where the net stands -/
def ntI (s : QS) (o : Nat) (D : Int64) (M : Nat) (f0 : Nat → Int64) (i k : Nat) : Option (Nat → Int64) := match nts s o D M f0 i with
  | none => none
  | some g => nsb s o D g k
theorem ntI_0 {s : QS} {o : Nat} {D : Int64} {M : Nat} {f : Nat → Int64} {i : Nat} : ntI s o D M f i 0 = nts s o D M f i := by
  unfold ntI; cases nts s o D M f i <;> rfl
theorem ntI_e {s : QS} {o : Nat} {D : Int64} {M : Nat} {f : Nat → Int64} {i : Nat} : ntI s o D M f i (2 * M - 1) = nts s o D M f (i + 1) := rfl
theorem Nst.net {s : QS} {o M : Nat} (hb : bnO s o) {D : Int64} (hD : 0 ≤ D.toInt ∧ D.toInt ≤ 1024) {f0 f h : Nat → Int64} {i k : Nat} {t : Int32} (hf : nts s o D M f0 i = some f ∨ t = 2) (hS : Nst M f k (ntI s o D M f0 i k) t h) (hk : k + 2 ≤ 2 * M) {x : Int64} (hx : x = oP s o (nI (k + 1) - q_sz s o)) (hxb : x.toInt.natAbs ≤ 21504000000) {v : Int64} (hv : v = flr (D * (16 * f (k + 1) + (q_ch s o).toInt64 * (f (k + 2) - 2 * f (k + 1) + f k)) + 8192) 16384) :
    Nst M f (k + 1) (ntI s o D M f0 i (k + 1)) (bdT t v) (vp_updL h (k + 1) (oHeld s o x v)) := by
  rcases hS with ⟨rfl, hB, g, e, hg, hgB⟩ | ⟨rfl, e⟩
  · have hf : nts s o D M f0 i = some f := hf.elim id (fun h => absurd h (by decide))
    have e9 := hv.trans (nstp_e hb hD (hB k (by omega)) (hB (k + 1) (by omega)) (hB (k + 2) (by omega)))
    subst e9
    unfold ntI at e ⊢
    rw [hf] at e ⊢
    have e : nsb s o D f k = some g := e
    have e1 : nsb s o D f (k + 1) = (if bigL (nstp s o D (f k) (f (k + 1)) (f (k + 2))) = true then none else some (vp_updL g (k + 1) (oHeld s o (oP s o (nI (k + 1) - q_sz s o)) (nstp s o D (f k) (f (k + 1)) (f (k + 2)))))) := by
      show (match nsb s o D f k with | none => none | some g => _) = _
      rw [e]
    by_cases hg2 : bigL (nstp s o D (f k) (f (k + 1)) (f (k + 2))) = true
    · exact Or.inr ⟨by unfold bdT; rw [if_pos hg2], by show nsb s o D f (k + 1) = _; rw [e1, if_pos hg2]⟩
    · refine Or.inl ⟨by unfold bdT; rw [if_neg hg2], hB, _, by show nsb s o D f (k + 1) = _; rw [e1, if_neg hg2], fun j h1 h2 => ?_, fun j hj => ?_⟩
      · by_cases hjk : j = k + 1
        · subst hjk; rw [pk_uLs, pk_uLs, hx]
        · rw [pk_uLn hjk, pk_uLn hjk]; exact hg j h1 (by omega)
      · by_cases hjk : j = k + 1
        · subst hjk; rw [pk_uLs, ← hx]; exact oHeld_b hb hxb (by have := big_f hg2; omega)
        · rw [pk_uLn hjk]; exact hgB j hj
  · refine Or.inr ⟨bdT_2 _, ?_⟩
    unfold ntI at e ⊢
    cases hn : nts s o D M f0 i with
    | none => rfl
    | some g =>
      rw [hn] at e
      exact nsb_none (show nsb s o D g k = none from e) 1
theorem nsb_0 {s : QS} {o : Nat} {D : Int64} {f : Nat → Int64} : ∀ {k : Nat} {g : Nat → Int64}, nsb s o D f k = some g → g 0 = f 0
  | 0, g, h => by cases h; rfl
  | k + 1, g, h => by
    have h : (match nsb s o D f k with | none => none | some g => if bigL (nstp s o D (f k) (f (k + 1)) (f (k + 2))) = true then none else some (vp_updL g (k + 1) (oHeld s o (oP s o (nI (k + 1) - q_sz s o)) (nstp s o D (f k) (f (k + 1)) (f (k + 2)))))) = some g := h
    cases hg : nsb s o D f k with
    | none => rw [hg] at h; cases h
    | some g0 =>
      rw [hg] at h
      dsimp only at h
      split at h
      · cases h
      · cases h
        rw [pk_uLn (by omega)]
        exact nsb_0 hg
/-- the new row copied from 1 to k -/
def cpyR (f h : Nat → Int64) (k : Nat) : Nat → Int64 := fun j => if 1 ≤ j ∧ j ≤ k then h j else f j
theorem cpyR_0 (f h : Nat → Int64) : cpyR f h 0 = f := funext fun j => if_neg (by omega)
theorem cpyR_s (f h : Nat → Int64) (k : Nat) : vp_updL (cpyR f h k) (k + 1) (h (k + 1)) = cpyR f h (k + 1) := funext fun j => by
  by_cases hj : j = k + 1
  · subst hj; rw [pk_uLs]; exact (if_pos ⟨by omega, by omega⟩).symm
  · rw [pk_uLn hj]; unfold cpyR
    by_cases h2 : 1 ≤ j ∧ j ≤ k
    · rw [if_pos h2, if_pos ⟨h2.1, by omega⟩]
    · rw [if_neg h2, if_neg (fun h => h2 ⟨h.1, by omega⟩)]
theorem Nst.done {s : QS} {o M : Nat} {D : Int64} {f0 f h : Nat → Int64} {i : Nat} {t : Int32} (hM : 1 ≤ M) (hf : nts s o D M f0 i = some f ∨ t = 2) (hS : Nst M f (2 * M - 1) (ntI s o D M f0 i (2 * M - 1)) t h) : Lst (2 * M) (nts s o D M f0 (i + 1)) t (cpyR f h (2 * M - 1)) := by
  rw [ntI_e] at hS
  rcases hS with ⟨rfl, hB, g, e, hg, hgB⟩ | ⟨rfl, e⟩
  · have hf : nts s o D M f0 i = some f := hf.elim id (fun h => absurd h (by decide))
    have e2 : nsb s o D f (2 * M - 1) = some g := by
      have : nts s o D M f0 (i + 1) = (match nts s o D M f0 i with | none => none | some g => nsb s o D g (2 * M - 1)) := rfl
      rw [this, hf] at e; exact e
    have e3 : cpyR f h (2 * M - 1) = g := funext fun j => by
      unfold cpyR
      by_cases hj : 1 ≤ j ∧ j ≤ 2 * M - 1
      · rw [if_pos hj]; exact hg j hj.1 hj.2
      · rw [if_neg hj]
        by_cases h0 : j = 0
        · subst h0; exact (nsb_0 e2).symm
        · exact (nsb_get e2 j (by omega)).symm
    rw [e3]
    exact Or.inl ⟨rfl, e, hgB⟩
  · exact Or.inr ⟨rfl, e⟩
theorem net0_b {s : QS} {o M : Nat} (hb : bnO s o) (hM : M ≤ 20) (hsz : q_sz s o = nI M) {f : Nat → Int64} : ∀ k, k ≤ 2 * M + 1 → ∀ j, j < k → (net0 s o f k j).toInt.natAbs ≤ 23000000000
  | 0, _, j, h => absurd h (by omega)
  | k + 1, hk, j, h => by
    show (vp_updL _ k _ j).toInt.natAbs ≤ _
    by_cases hjk : j = k
    · subst hjk; rw [pk_uLs, hsz]; exact oPay_b hb (oP_n hb (by omega) hM)
    · rw [pk_uLn hjk]; exact net0_b hb hM hsz k (by omega) j (by omega)
/-! the paths -/
theorem pthD_r {d : Int64} : ∀ k, 0 ≤ (pthD d (k + 1)).toInt ∧ (pthD d (k + 1)).toInt < 2147483648 := fun k => dwN_r _
theorem pthP_b {s : QS} {o : Nat} (hb : bnO s o) {d : Int64} (k : Nat) (hk : k ≤ 20) : (pthP s o d k).toInt.natAbs ≤ k * 1024000000 + 1024000000 := by
  induction k with
  | zero =>
    have h := hb.1
    have e : pthP s o d 0 = oS s o := rfl
    rw [e]; omega
  | succ k ih =>
    have ih := ih (by omega)
    have h2 := hb.2.1
    have e0 : pthP s o d (k + 1) = pthP s o d k + (if dwU (pthD d (k + 1)) (q_ch s o) = true then oM s o else -(oM s o)) := rfl
    rw [e0]
    split
    · rw [l_add (by omega) (by omega)]; omega
    · have e : (-(oM s o)).toInt = -(oM s o).toInt := l_neg (by omega)
      rw [l_add (by rw [e]; omega) (by rw [e]; omega), e]; omega
theorem pSum_b {s : QS} {o N : Nat} (hb : bnO s o) (hN : N ≤ 20) : ∀ k, k ≤ 64 → (pSum s o N k).toInt.natAbs ≤ k * 23000000000
  | 0, _ => by show Int.natAbs 0 ≤ _; omega
  | k + 1, hk => by
    have ih := pSum_b hb hN k (by omega)
    have h2 : (pEnd s o N (pDk N k)).toInt.natAbs ≤ 23000000000 := by
      unfold pEnd; split
      · show Int.natAbs 0 ≤ _; omega
      · exact oPI_b hb (by have := pthP_b hb (d := pDk N k) N hN; omega)
    show (pSum s o N k + _).toInt.natAbs ≤ _
    rw [l_add (by omega) (by omega)]; omega
/-- the mean, then the steps back -/
def Pst (a : Option Int64) (t : Int32) (y : Int64) : Prop := (t = 0 ∧ a = some y ∧ y.toInt.natAbs ≤ 1024000000) ∨ (t = 2 ∧ a = none)
theorem Pst_0 {s : QS} {o Z : Nat} {D x : Int64} (hZ : Z < 7) (hsz : q_sz s o = nI Z) (hx : x.toInt.natAbs < 2 ^ 60) {v : Int64} (hv : v = flr (x * 2 + (1 : Int64) <<< ((q_sz s o).toInt64 &&& 63)) ((2 : Int64) <<< ((q_sz s o).toInt64 &&& 63))) : Pst (pW s o D x 0) (bdT 0 v) v := by
  rw [flrS Z hZ hsz hx] at hv
  subst hv
  have e : pW s o D x 0 = (if bigL (rndL x (q_sz s o)) = true then none else some (rndL x (q_sz s o))) := rfl
  rw [e]
  by_cases hg : bigL (rndL x (q_sz s o)) = true
  · exact Or.inr ⟨by unfold bdT; rw [if_pos hg], if_pos hg⟩
  · exact Or.inl ⟨by unfold bdT; rw [if_neg hg], if_neg hg, big_f hg⟩
theorem Pst_s {s : QS} {o : Nat} {D x : Int64} (hD : 0 ≤ D.toInt ∧ D.toInt ≤ 1024) {k : Nat} {t : Int32} {y : Int64} (h : Pst (pW s o D x k) t y) {v : Int64} (hv : v = flr (D * y + 512) 1024) : Pst (pW s o D x (k + 1)) (bdT t v) v := by
  have e : pW s o D x (k + 1) = (match pW s o D x k with | none => none | some w => if bigL (rndL (D * w) 10) = true then none else some (rndL (D * w) 10)) := rfl
  rw [e]
  rcases h with ⟨rfl, h1, h2⟩ | ⟨rfl, h1⟩
  · rw [h1]
    have h6 := mulB (a := D.toInt) (A := 1024) (by omega) h2
    rw [flr10 (by rw [l_mul (by omega) (by omega)]; omega)] at hv
    subst hv
    by_cases hg : bigL (rndL (D * y) 10) = true
    · exact Or.inr ⟨by unfold bdT; rw [if_pos hg], if_pos hg⟩
    · exact Or.inl ⟨by unfold bdT; rw [if_neg hg], if_neg hg, big_f hg⟩
  · rw [h1]; exact Or.inr ⟨bdT_2 _, rfl⟩
theorem dwU_e {s : QS} {o : Nat} {d : Int64} (k : Nat) : (pthD d (k + 1) / 65536 - pthD d (k + 1) / 65536 / 16 * 16 < (q_ch s o).toInt64) ↔ dwU (pthD d (k + 1)) (q_ch s o) = true := by
  obtain ⟨h0, h1⟩ := pthD_r (d := d) k
  rw [dw_e h0 h1]; unfold dwU; rw [decide_eq_true_eq]

/-! 28.fp: the script's doubles, an int times 0.125 -/
/-- a's value is (-1)^s * m * 2^x, rounded -/
def DV (s : Bool) (m : Nat) (x : Int) (a : UInt64) : Prop := FP.Core.val64 a = FP.Core.roundRatio FP.Core.b64 s m 1 x
theorem DV.ne {s : Bool} {m : Nat} {x : Int} {a : UInt64} (h : DV s m x a) : FP.Core.val64 a ≠ .nan := by rw [h]; exact FP.Core.roundRatio_ne_nan _ _ _ _ _
theorem DV.fin {s : Bool} {m : Nat} {x : Int} {a : UInt64} (h : DV s m x a) (hm : m < 2 ^ 53) (h1 : -1074 ≤ x) (h2 : x ≤ 971) : ∃ c q, FP.Core.val64 a = .fin s c q ∧ -1074 ≤ q ∧ c * 2 ^ (q + 1074).toNat = m * 2 ^ (x + 1074).toNat := by
  obtain ⟨c, q, e1, e2⟩ := FP.Core.round_exact FP.Core.good_b64 s (c := m) (q := x) hm h1 h2
  have e1' : FP.Core.val64 a = .fin s c q := h.trans e1
  have hf := FP.Core.val64_fits a
  rw [e1'] at hf
  exact ⟨c, q, e1', hf.2.1, e2⟩
theorem DV.congr {s : Bool} {m n : Nat} {x y : Int} {a : UInt64} (h : DV s m x a) (e : m * 2 ^ (x - y).toNat = n * 2 ^ (y - x).toNat) : DV s n y a := by
  unfold DV at *
  rw [h]
  exact FP.Core.roundRatio_congr (by decide) (by decide) (by rw [Nat.mul_one, Nat.mul_one]; exact e)
theorem DV.mul {s t : Bool} {m n : Nat} {x y : Int} {a b : UInt64} (ha : DV s m x a) (hb : DV t n y b) (hm : m < 2 ^ 53) (hn : n < 2 ^ 53) (h1 : -1074 ≤ x) (h2 : x ≤ 971) (h3 : -1074 ≤ y) (h4 : y ≤ 971) : DV (s != t) (m * n) (x + y) (FP.dmul a b) := by
  obtain ⟨c, q, a1, a2, a3⟩ := ha.fin hm h1 h2
  obtain ⟨d, r, b1, b2, b3⟩ := hb.fin hn h3 h4
  unfold DV
  rw [FP.Core.val64_dmul, a1, b1]
  show FP.Core.roundRatio FP.Core.b64 (s != t) (c * d) 1 (q + r) = _
  refine FP.Core.roundRatio_congr (by decide) (by decide) ?_
  rw [Nat.mul_one, Nat.mul_one]
  obtain ⟨Q, hQ⟩ : ∃ Q : Nat, q = (Q : Int) - 1074 := ⟨(q + 1074).toNat, by omega⟩
  obtain ⟨R, hR⟩ : ∃ R : Nat, r = (R : Int) - 1074 := ⟨(r + 1074).toNat, by omega⟩
  obtain ⟨X, hX⟩ : ∃ X : Nat, x = (X : Int) - 1074 := ⟨(x + 1074).toNat, by omega⟩
  obtain ⟨Y, hY⟩ : ∃ Y : Nat, y = (Y : Int) - 1074 := ⟨(y + 1074).toNat, by omega⟩
  subst hQ hR hX hY
  rw [show ((Q : Int) - 1074 + 1074).toNat = Q by omega, show ((X : Int) - 1074 + 1074).toNat = X by omega] at a3
  rw [show ((R : Int) - 1074 + 1074).toNat = R by omega, show ((Y : Int) - 1074 + 1074).toNat = Y by omega] at b3
  have e : c * d * 2 ^ (Q + R) = m * n * 2 ^ (X + Y) := by
    rw [Nat.pow_add, Nat.pow_add, Nat.mul_mul_mul_comm, Nat.mul_mul_mul_comm m, a3, b3]
  rcases Nat.le_total (X + Y) (Q + R) with hle | hle
  · obtain ⟨k, hk⟩ := Nat.exists_eq_add_of_le hle
    rw [show ((Q : Int) - 1074 + ((R : Int) - 1074) - ((X : Int) - 1074 + ((Y : Int) - 1074))).toNat = k by omega, show ((X : Int) - 1074 + ((Y : Int) - 1074) - ((Q : Int) - 1074 + ((R : Int) - 1074))).toNat = 0 by omega, Nat.pow_zero, Nat.mul_one]
    rw [hk, Nat.pow_add, Nat.mul_comm (2 ^ (X + Y)), ← Nat.mul_assoc] at e
    exact Nat.eq_of_mul_eq_mul_right (Nat.two_pow_pos _) e
  · obtain ⟨k, hk⟩ := Nat.exists_eq_add_of_le hle
    rw [show ((Q : Int) - 1074 + ((R : Int) - 1074) - ((X : Int) - 1074 + ((Y : Int) - 1074))).toNat = 0 by omega, show ((X : Int) - 1074 + ((Y : Int) - 1074) - ((Q : Int) - 1074 + ((R : Int) - 1074))).toNat = k by omega, Nat.pow_zero, Nat.mul_one]
    rw [hk, Nat.pow_add 2 (Q + R) k, Nat.mul_comm (2 ^ (Q + R)) (2 ^ k), ← Nat.mul_assoc (m * n)] at e
    exact Nat.eq_of_mul_eq_mul_right (Nat.two_pow_pos _) e
theorem DV.l2d (v : Int64) : DV (decide (v.toInt < 0)) v.toInt.natAbs 0 (FP.l2d v) := by
  unfold DV; rw [FP.Core.val64_l2d]; rfl
theorem DV.inj {s : Bool} {m : Nat} {x : Int} {a b : UInt64} (ha : DV s m x a) (hb : DV s m x b) : a = b := FP.Core.val64_inj ha.ne (ha.trans hb.symm)
theorem DV.zval {s : Bool} {m : Nat} {x : Int} {a : UInt64} (h : DV s m x a) (hm : m < 2 ^ 53) (h1 : -1074 ≤ x) (h2 : x ≤ 971) : FP.Core.zval FP.Core.b64 (FP.Core.val64 a) = FP.Core.signed s (m * 2 ^ (x + 1074).toNat) := by
  obtain ⟨c, q, e1, e2, e3⟩ := h.fin hm h1 h2
  rw [e1]
  show FP.Core.signed s (c * 2 ^ (q - FP.Core.b64.qmin).toNat) = _
  rw [FP.Core.qmin_b64, show (q - (-1074 : Int)) = q + 1074 by omega, e3]
/-- the script's double -/
def e8 (i : Int32) : UInt64 := FP.dmul (FP.i2d i) 4593671619917905920
theorem dv_125 : DV false 1 (-3) 4593671619917905920 := by unfold DV; decide +kernel
theorem dv_8 : DV false 1 3 4620693217682128896 := by unfold DV; decide +kernel
theorem dv_1024 : DV false 1 10 4652218415073722368 := by unfold DV; decide +kernel
theorem bx_f (s : Bool) : (s != false) = s := by cases s <;> rfl
theorem i_abs (i : Int32) : i.toInt64.toInt.natAbs < 2 ^ 32 := by
  rw [Int32.toInt_toInt64]
  have := FP.Core.int32_abs i
  omega
theorem dv_e8 (i : Int32) : DV (decide (i.toInt64.toInt < 0)) i.toInt64.toInt.natAbs (-3) (e8 i) := by
  have hi := i_abs i
  have h := (DV.l2d i.toInt64).mul dv_125 (by omega) (by decide) (by decide) (by decide) (by decide) (by decide)
  rw [bx_f, Nat.mul_one] at h
  have e : FP.i2d i = FP.l2d i.toInt64 := FP.Core.i2d_l2d i
  unfold e8; rw [e]; exact h
theorem e8_8 (i : Int32) : FP.dmul (e8 i) 4620693217682128896 = FP.l2d i.toInt64 := by
  have hi := i_abs i
  have h := (dv_e8 i).mul dv_8 (by omega) (by decide) (by decide) (by decide) (by decide) (by decide)
  rw [bx_f, Nat.mul_one] at h
  exact h.inj (DV.l2d _)
theorem e8_sm (i : Int32) : FP.Core.Small53 i.toInt64 := by have := i_abs i; unfold FP.Core.Small53; omega
theorem m128 (i : Int32) : (128 * i.toInt64).toInt = 128 * i.toInt64.toInt := by
  have hi := i_abs i
  rw [FP.Core.int64_mul (by rw [show (128 : Int64).toInt = 128 from rfl]; omega) (by rw [show (128 : Int64).toInt = 128 from rfl]; omega)]
  rfl
theorem e8_1024 (i : Int32) : FP.dmul (e8 i) 4652218415073722368 = FP.l2d (128 * i.toInt64) := by
  have hi := i_abs i
  have h := (dv_e8 i).mul dv_1024 (by omega) (by decide) (by decide) (by decide) (by decide) (by decide)
  rw [bx_f, Nat.mul_one] at h
  have h2 := DV.l2d (128 * i.toInt64)
  rw [m128] at h2
  have e1 : decide (128 * i.toInt64.toInt < 0) = decide (i.toInt64.toInt < 0) := by
    by_cases c : i.toInt64.toInt < 0
    · rw [decide_eq_true c, decide_eq_true (by omega)]
    · rw [decide_eq_false c, decide_eq_false (by omega)]
  rw [e1] at h2
  refine h.inj (h2.congr ?_)
  rw [show ((0 : Int) - (-3 + 10)).toNat = 0 by decide, show ((-3 : Int) + 10 - 0).toNat = 7 by decide, Nat.pow_zero, Nat.mul_one]
  omega
theorem sg_int (v : Int) (k : Nat) : FP.Core.signed (decide (v < 0)) (v.natAbs * k) = v * (k : Int) := by
  unfold FP.Core.signed
  by_cases c : v < 0
  · rw [decide_eq_true c]
    have e : (v.natAbs : Int) = -v := by omega
    show -((v.natAbs * k : Nat) : Int) = _
    rw [Int.natCast_mul, e, Int.neg_mul, Int.neg_neg]
  · rw [decide_eq_false c]
    have e : (v.natAbs : Int) = v := by omega
    show ((v.natAbs * k : Nat) : Int) = _
    rw [Int.natCast_mul, e]
/-- a script's double against a whole number -/
theorem e8_cmp (i : Int32) (k : Int64) (hk : k.toInt.natAbs < 2 ^ 50) : FP.dcmp (e8 i) (FP.l2d k) = some (compare i.toInt (8 * k.toInt)) := by
  have hi := i_abs i
  refine (FP.Core.dcmp_zval (dv_e8 i).ne (DV.l2d k).ne).trans ?_
  rw [(dv_e8 i).zval (by omega) (by decide) (by decide), (DV.l2d k).zval (by omega) (by decide) (by decide)]
  rw [show ((-3 : Int) + 1074).toNat = 1071 by decide, show ((0 : Int) + 1074).toNat = 1074 by decide, sg_int, sg_int, Int32.toInt_toInt64]
  congr 1
  have e : ((2 ^ 1074 : Nat) : Int) = 8 * ((2 ^ 1071 : Nat) : Int) := by rw [show 1074 = 3 + 1071 by rfl, Nat.pow_add, Int.natCast_mul]; rfl
  have hp : (0 : Int) < ((2 ^ 1071 : Nat) : Int) := Int.natCast_pos.mpr (Nat.two_pow_pos _)
  rw [e, ← Int.mul_assoc, Int.mul_comm k.toInt 8]
  generalize ((2 ^ 1071 : Nat) : Int) = P at hp ⊢
  exact FP.Core.compare_congr (Int.mul_lt_mul_right hp) ⟨fun h => Int.eq_of_mul_eq_mul_right (by omega) h, fun h => by rw [h]⟩
theorem n64_of {r : UInt64} (h : FP.Core.val64 r ≠ .nan) : vf_n64 r := by
  have h1 := (FP.Core.ne_nan r).mp h
  unfold vf_n64
  rw [UInt64.le_iff_toNat_le, FP.Core.mask_toNat]
  exact h1
theorem e8_n (i : Int32) : vf_n64 (e8 i) := n64_of (dv_e8 i).ne
theorem l2d_n (v : Int64) : vf_n64 (FP.l2d v) := n64_of (DV.l2d v).ne
theorem num_n (v : Int64) : vf_n64 (FP.ddiv (FP.l2d v) 4652218415073722368) := by
  refine n64_of ((FP.Core.notNaN_iff _).mp (FP.Core.not_true (FP.Core.ddiv_nan_iff _ _) ?_))
  rintro (h | h | ⟨s, t, h, -⟩ | ⟨-, h⟩)
  · exact (DV.l2d v).ne h
  · exact dv_1024.ne h
  · exact (FP.Core.l2d_fin v).ne_inf s h
  · obtain ⟨s, q, h⟩ := h
    have : FP.Core.val64 4652218415073722368 = .fin false (2 ^ 52) (-42) := by decide +kernel
    rw [this] at h; cases h

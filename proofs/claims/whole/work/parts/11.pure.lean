/-! 11.pure: small pure rows, the words of each throw -/
theorem at_Q_147 : ∀ w ∈ vx_atS R_Q 147 "java/lang/IllegalArgumentException" ["java/lang/RuntimeException", "java/lang/Exception"], w ∈ GW ∨ w ∈ EW := by
  intro w hw
  have h := List.all_eq_true.mp (show (vx_atS R_Q 147 "java/lang/IllegalArgumentException" ["java/lang/RuntimeException", "java/lang/Exception"]).all (fun w => decide (w ∈ lw_tbl) && (goodWord w || ewOk w)) = true by decide +kernel) w hw
  simp only [Bool.and_eq_true, Bool.or_eq_true, decide_eq_true_eq] at h
  exact h.2.imp (fun g => List.mem_filter.mpr ⟨h.1, g⟩) (fun g => List.mem_filter.mpr ⟨h.1, g⟩)
theorem at_Q_157 : ∀ w ∈ vx_atS R_Q 157 "java/lang/IllegalStateException" ["java/lang/RuntimeException", "java/lang/Exception"], w ∈ GW ∨ w ∈ EW := by
  intro w hw
  have h := List.all_eq_true.mp (show (vx_atS R_Q 157 "java/lang/IllegalStateException" ["java/lang/RuntimeException", "java/lang/Exception"]).all (fun w => decide (w ∈ lw_tbl) && (goodWord w || ewOk w)) = true by decide +kernel) w hw
  simp only [Bool.and_eq_true, Bool.or_eq_true, decide_eq_true_eq] at h
  exact h.2.imp (fun g => List.mem_filter.mpr ⟨h.1, g⟩) (fun g => List.mem_filter.mpr ⟨h.1, g⟩)
theorem at_Q_264 : ∀ w ∈ vx_atS R_Q 264 "java/lang/UnsupportedOperationException" ["java/lang/RuntimeException", "java/lang/Exception"], w ∈ GW ∨ w ∈ EW := by
  intro w hw
  have h := List.all_eq_true.mp (show (vx_atS R_Q 264 "java/lang/UnsupportedOperationException" ["java/lang/RuntimeException", "java/lang/Exception"]).all (fun w => decide (w ∈ lw_tbl) && (goodWord w || ewOk w)) = true by decide +kernel) w hw
  simp only [Bool.and_eq_true, Bool.or_eq_true, decide_eq_true_eq] at h
  exact h.2.imp (fun g => List.mem_filter.mpr ⟨h.1, g⟩) (fun g => List.mem_filter.mpr ⟨h.1, g⟩)
theorem at_Q_267 : ∀ w ∈ vx_atS R_Q 267 "java/lang/ArithmeticException" ["java/lang/RuntimeException", "java/lang/Exception"], w ∈ GW ∨ w ∈ EW := by
  intro w hw
  have h := List.all_eq_true.mp (show (vx_atS R_Q 267 "java/lang/ArithmeticException" ["java/lang/RuntimeException", "java/lang/Exception"]).all (fun w => decide (w ∈ lw_tbl) && (goodWord w || ewOk w)) = true by decide +kernel) w hw
  simp only [Bool.and_eq_true, Bool.or_eq_true, decide_eq_true_eq] at h
  exact h.2.imp (fun g => List.mem_filter.mpr ⟨h.1, g⟩) (fun g => List.mem_filter.mpr ⟨h.1, g⟩)
theorem at_Op_62 : ∀ w ∈ vx_atS R_Op 62 "java/lang/ArithmeticException" ["java/lang/RuntimeException", "java/lang/Exception"], w ∈ GW ∨ w ∈ EW := by
  intro w hw
  have h := List.all_eq_true.mp (show (vx_atS R_Op 62 "java/lang/ArithmeticException" ["java/lang/RuntimeException", "java/lang/Exception"]).all (fun w => decide (w ∈ lw_tbl) && (goodWord w || ewOk w)) = true by decide +kernel) w hw
  simp only [Bool.and_eq_true, Bool.or_eq_true, decide_eq_true_eq] at h
  exact h.2.imp (fun g => List.mem_filter.mpr ⟨h.1, g⟩) (fun g => List.mem_filter.mpr ⟨h.1, g⟩)
theorem at_Pa_19 : ∀ w ∈ vx_atS R_Pa 19 "java/lang/UnsupportedOperationException" ["java/lang/RuntimeException", "java/lang/Exception"], w ∈ GW ∨ w ∈ EW := by
  intro w hw
  have h := List.all_eq_true.mp (show (vx_atS R_Pa 19 "java/lang/UnsupportedOperationException" ["java/lang/RuntimeException", "java/lang/Exception"]).all (fun w => decide (w ∈ lw_tbl) && (goodWord w || ewOk w)) = true by decide +kernel) w hw
  simp only [Bool.and_eq_true, Bool.or_eq_true, decide_eq_true_eq] at h
  exact h.2.imp (fun g => List.mem_filter.mpr ⟨h.1, g⟩) (fun g => List.mem_filter.mpr ⟨h.1, g⟩)
theorem at_Ne_25 : ∀ w ∈ vx_atS R_Ne 25 "java/lang/ArithmeticException" ["java/lang/RuntimeException", "java/lang/Exception"], w ∈ GW ∨ w ∈ EW := by
  intro w hw
  have h := List.all_eq_true.mp (show (vx_atS R_Ne 25 "java/lang/ArithmeticException" ["java/lang/RuntimeException", "java/lang/Exception"]).all (fun w => decide (w ∈ lw_tbl) && (goodWord w || ewOk w)) = true by decide +kernel) w hw
  simp only [Bool.and_eq_true, Bool.or_eq_true, decide_eq_true_eq] at h
  exact h.2.imp (fun g => List.mem_filter.mpr ⟨h.1, g⟩) (fun g => List.mem_filter.mpr ⟨h.1, g⟩)
theorem i_nlt {x y : Int32} : ¬ x < y ↔ y ≤ x := by simp only [Int32.lt_iff_toInt_lt, Int32.le_iff_toInt_le]; omega
theorem i_nle {x y : Int32} : ¬ x ≤ y ↔ y < x := by simp only [Int32.lt_iff_toInt_lt, Int32.le_iff_toInt_le]; omega
/-- too large -/
def bigL (x : Int64) : Bool := decide (1024000000 < x) || decide (x < -1024000000)
/-- a node's number -/
def isN (n : Nat) (k : Int32) : Bool := decide (¬ k < 0) && decide (k < nI n)
theorem isN_t {n : Nat} {k : Int32} (h : isN n k = true) (hn : n ≤ 16) : ∃ j, j < n ∧ k = nI j := by
  simp only [isN, Bool.and_eq_true, decide_eq_true_eq] at h
  obtain ⟨j, hj, rfl⟩ := nI_of h.1
  exact ⟨j, (nI_ltI hj (by omega)).mp h.2, rfl⟩
theorem isN_f {n : Nat} {k : Int32} (h : isN n k = false) (hn : n ≤ 16) : ∀ j, j < n → k ≠ nI j := by
  intro j hj e
  subst e
  have : isN n (nI j) = true := by
    simp only [isN, Bool.and_eq_true, decide_eq_true_eq]
    exact ⟨nI_pos (by omega), nI_lt hj (by omega)⟩
  rw [this] at h
  cases h
theorem isN_nI {n j : Nat} (h : j < n) (hn : n ≤ 16) : isN n (nI j) = true := by
  simp only [isN, Bool.and_eq_true, decide_eq_true_eq]
  exact ⟨nI_pos (by omega), nI_lt h (by omega)⟩
def bitI (j : Nat) : Int32 := (1 : Int32) <<< (nI j &&& 31)
/-- ROUNDED, as the class works it out -/
def rndL (x : Int64) (b : Int32) : Int64 := (2 * x + (1 : Int64) <<< (b.toInt64 &&& 63)) >>> ((b + 1).toInt64 &&& 63)

/-! 17.optpure: an option's numbers -/
def mxL (x y : Int64) : Int64 := if y < x then x else y
theorem sw_out3 {x : Int32} (h0 : ¬ x = 0) (h1 : ¬ x = 1) (h2 : ¬ x = 2) : x.toInt < 0 ∨ 2 < x.toInt := by
  have a0 : x.toInt ≠ 0 := fun h => h0 (Int32.toInt_inj.mp (h.trans (by decide)))
  have a1 : x.toInt ≠ 1 := fun h => h1 (Int32.toInt_inj.mp (h.trans (by decide)))
  have a2 : x.toInt ≠ 2 := fun h => h2 (Int32.toInt_inj.mp (h.trans (by decide)))
  omega
theorem sw_out4 {x : Int32} (h0 : ¬ x = 0) (h1 : ¬ x = 1) (h2 : ¬ x = 2) (h3 : ¬ x = 3) : x.toInt < 0 ∨ 3 < x.toInt := by
  have a3 : x.toInt ≠ 3 := fun h => h3 (Int32.toInt_inj.mp (h.trans (by decide)))
  have := sw_out3 h0 h1 h2
  omega
theorem sw_out6 {x : Int32} (h0 : ¬ x = 0) (h1 : ¬ x = 1) (h2 : ¬ x = 2) (h3 : ¬ x = 3) (h4 : ¬ x = 4) (h5 : ¬ x = 5) : x.toInt < 0 ∨ 5 < x.toInt := by
  have a4 : x.toInt ≠ 4 := fun h => h4 (Int32.toInt_inj.mp (h.trans (by decide)))
  have a5 : x.toInt ≠ 5 := fun h => h5 (Int32.toInt_inj.mp (h.trans (by decide)))
  have := sw_out4 h0 h1 h2 h3
  omega
/-- spot, move -/
def oS (s : QS) (o : Nat) : Int64 := q_am s ((q_pt s o 0).getD 0)
def oM (s : QS) (o : Nat) : Int64 := q_am s ((q_pt s o 1).getD 0)
def oP (s : QS) (o : Nat) (m : Int32) : Int64 := oS s o + m.toInt64 * oM s o
/-- the price is out -/
def oOut (s : QS) (o : Nat) (x : Int64) : Bool := match q_pt s o 3 with
  | none => false
  | some k => decide (¬ x < q_am s k)
/-- the payoff of a price that isn't out -/
def oPI (s : QS) (o : Nat) (x : Int64) : Int64 := if q_kd s o = 0 then mxL (x - q_wa s o) 0 else if q_kd s o = 1 then mxL (q_wa s o - x) 0 else if q_kd s o = 2 then (if x < q_wa s o then 0 else 102400) else x - q_wa s o
def oPay (s : QS) (o : Nat) (x : Int64) : Int64 := if oOut s o x = true then 0 else oPI s o x
def oHeld (s : QS) (o : Nat) (x v : Int64) : Int64 := if oOut s o x = true then 0 else if q_us s o = true then mxL v (oPI s o x) else v
/-- what the rate takes of 1024 -/
def oTak (s : QS) (o : Nat) : Int64 := match q_pt s o 2 with
  | none => 0
  | some k => q_am s k >>> ((10 : Int32).toInt64 &&& 63)
theorem opt_p {s : QS} (h : okQ s) {o : Nat} (ho : o < q_n s) (h3 : q_so s o = 3) : (q_pt s o 0).getD 0 < q_n s ∧ (q_pt s o 1).getD 0 < q_n s := by
  obtain ⟨-, h2, -⟩ := h.2 o ho
  obtain ⟨x, hx, hl⟩ := h2 0 (by omega) (by omega)
  obtain ⟨y, hy, hm⟩ := h2 1 (by omega) (by omega)
  rw [hx, hy]; exact ⟨hl, hm⟩
theorem opt_k {s : QS} (h : okQ s) {o : Nat} (ho : o < q_n s) {k x : Nat} (hx : q_pt s o k = some x) : x < q_n s := (h.2 o ho).2.2.2.2.1 k x hx

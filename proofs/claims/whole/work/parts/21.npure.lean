/-! 21.npure: the net's and the paths' numbers -/
def net0 (s : QS) (o : Nat) (f : Nat → Int64) : Nat → (Nat → Int64)
  | 0 => f
  | k + 1 => vp_updL (net0 s o f k) k (oPay s o (oP s o (nI k - q_sz s o)))
def nstp (s : QS) (o : Nat) (D a h b : Int64) : Int64 := rndL (D * (16 * h + (q_ch s o).toInt64 * (b - 2 * h + a))) 14
def nsb (s : QS) (o : Nat) (D : Int64) (f : Nat → Int64) : Nat → Option (Nat → Int64)
  | 0 => some f
  | k + 1 => match nsb s o D f k with
    | none => none
    | some g => if bigL (nstp s o D (f k) (f (k + 1)) (f (k + 2))) = true then none else some (vp_updL g (k + 1) (oHeld s o (oP s o (nI (k + 1) - q_sz s o)) (nstp s o D (f k) (f (k + 1)) (f (k + 2)))))
theorem nsb_none {s : QS} {o : Nat} {D : Int64} {f : Nat → Int64} {k : Nat} (h : nsb s o D f k = none) : ∀ d, nsb s o D f (k + d) = none
  | 0 => h
  | d + 1 => by show (match nsb s o D f (k + d) with | none => none | some g => _) = none; rw [nsb_none h d]
theorem nsb_get {s : QS} {o : Nat} {D : Int64} {f : Nat → Int64} : ∀ {k : Nat} {g : Nat → Int64}, nsb s o D f k = some g → ∀ j, k < j → g j = f j
  | 0, g, h, j, _ => by cases h; rfl
  | k + 1, g, h, j, hj => by
    have h : (match nsb s o D f k with | none => none | some g => if bigL (nstp s o D (f k) (f (k + 1)) (f (k + 2))) = true then none else some (vp_updL g (k + 1) (oHeld s o (oP s o (nI (k + 1) - q_sz s o)) (nstp s o D (f k) (f (k + 1)) (f (k + 2)))))) = some g := h
    cases hg : nsb s o D f k with
    | none => rw [hg] at h; cases h
    | some g0 =>
      rw [hg] at h
      dsimp only at h
      split at h
      · cases h
      · cases h
        rw [pk_uLn (by omega)]
        exact nsb_get hg j (by omega)
def nts (s : QS) (o : Nat) (D : Int64) (M : Nat) (f : Nat → Int64) : Nat → Option (Nat → Int64)
  | 0 => some f
  | i + 1 => match nts s o D M f i with
    | none => none
    | some g => nsb s o D g (2 * M - 1)
theorem nts_none {s : QS} {o : Nat} {D : Int64} {M : Nat} {f : Nat → Int64} {k : Nat} (h : nts s o D M f k = none) : ∀ d, nts s o D M f (k + d) = none
  | 0 => h
  | d + 1 => by show (match nts s o D M f (k + d) with | none => none | some g => _) = none; rw [nts_none h d]
def netV (s : QS) (o : Nat) (D : Int64) (M N : Nat) (f : Nat → Int64) : Option Int64 := (nts s o D M (net0 s o f (2 * M + 1)) N).map (fun g => g M)
/-- the stream -/
def dwN (x : Int64) : Int64 := (x * 1103515245 + 12345) &&& 2147483647
def dwU (x : Int64) (c : Int32) : Bool := decide (((x >>> ((16 : Int32).toInt64 &&& 63)) &&& 15) < c.toInt64)
def pthD (d : Int64) : Nat → Int64
  | 0 => d
  | k + 1 => dwN (pthD d k)
def pthP (s : QS) (o : Nat) (d : Int64) : Nat → Int64
  | 0 => oS s o
  | k + 1 => pthP s o d k + (if dwU (pthD d (k + 1)) (q_ch s o) = true then oM s o else -(oM s o))
def pthB (s : QS) (o : Nat) (d : Int64) : Nat → Bool
  | 0 => oOut s o (oS s o)
  | k + 1 => pthB s o d k || oOut s o (pthP s o d (k + 1))
def pEnd (s : QS) (o : Nat) (N : Nat) (d : Int64) : Int64 := if pthB s o d N = true then 0 else oPI s o (pthP s o d N)
def pDk (N : Nat) : Nat → Int64
  | 0 => 12345
  | k + 1 => pthD (pDk N k) N
def pSum (s : QS) (o : Nat) (N : Nat) : Nat → Int64
  | 0 => 0
  | k + 1 => pSum s o N k + pEnd s o N (pDk N k)
def pW (s : QS) (o : Nat) (D : Int64) (x : Int64) : Nat → Option Int64
  | 0 => if bigL (rndL x (q_sz s o)) = true then none else some (rndL x (q_sz s o))
  | i + 1 => match pW s o D x i with
    | none => none
    | some w => if bigL (rndL (D * w) 10) = true then none else some (rndL (D * w) 10)
theorem pW_none {s : QS} {o : Nat} {D x : Int64} {k : Nat} (h : pW s o D x k = none) : ∀ d, pW s o D x (k + d) = none
  | 0 => h
  | d + 1 => by show (match pW s o D x (k + d) with | none => none | some g => _) = none; rw [pW_none h d]
def pthV (s : QS) (o : Nat) (D : Int64) (Z N : Nat) : Option Int64 := pW s o D (pSum s o N (2 ^ Z)) N

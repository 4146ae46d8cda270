/-! 24.askpure: asking, as mathematics; what a row held before doesn't matter -/
def eqO (m : Nat) (f g : Nat → Int64) : Prop := ∀ j, j ≤ m → f j = g j
theorem eqO.up {m : Nat} {f g : Nat → Int64} (h : eqO m f g) (k : Nat) (x : Int64) : eqO m (vp_updL f k x) (vp_updL g k x) := fun j hj => by
  unfold vp_updL; split
  · rfl
  · exact h j hj
theorem lat0_ext {s : QS} {o : Nat} {f g : Nat → Int64} : ∀ k, ∀ j, j < k → lat0 s o f k j = lat0 s o g k j
  | 0, j, h => absurd h (by omega)
  | k + 1, j, h => by
    show vp_updL _ k _ j = vp_updL _ k _ j
    by_cases hj : j = k
    · subst hj; rw [pk_uLs, pk_uLs]
    · rw [pk_uLn hj, pk_uLn hj]; exact lat0_ext k j (by omega)
theorem net0_ext {s : QS} {o : Nat} {f g : Nat → Int64} : ∀ k, ∀ j, j < k → net0 s o f k j = net0 s o g k j
  | 0, j, h => absurd h (by omega)
  | k + 1, j, h => by
    show vp_updL _ k _ j = vp_updL _ k _ j
    by_cases hj : j = k
    · subst hj; rw [pk_uLs, pk_uLs]
    · rw [pk_uLn hj, pk_uLn hj]; exact net0_ext k j (by omega)
/-- both none, or both some and alike up to m -/
def eqM (m : Nat) (a b : Option (Nat → Int64)) : Prop := (a = none ∧ b = none) ∨ ∃ f g, a = some f ∧ b = some g ∧ eqO m f g
theorem lsb_ext {s : QS} {o : Nat} {D : Int64} {t : Int32} {m : Nat} {f g : Nat → Int64} (h : eqO m f g) : ∀ k, k ≤ m → eqM m (lsb s o D t f k) (lsb s o D t g k)
  | 0, _ => Or.inr ⟨f, g, rfl, rfl, h⟩
  | k + 1, hk => by
    have e : ∀ (f : Nat → Int64), lsb s o D t f (k + 1) = (match lsb s o D t f k with | none => none | some g => if bigL (lstp s o D (g (k + 1)) (g k)) = true then none else some (vp_updL g k (oHeld s o (oP s o (2 * nI k - t)) (lstp s o D (g (k + 1)) (g k))))) := fun _ => rfl
    rw [e f, e g]
    rcases lsb_ext h k (by omega) with ⟨h1, h2⟩ | ⟨f1, g1, h1, h2, h3⟩
    · rw [h1, h2]; exact Or.inl ⟨rfl, rfl⟩
    · rw [h1, h2]
      dsimp only
      rw [h3 (k + 1) hk, h3 k (by omega)]
      split
      · exact Or.inl ⟨rfl, rfl⟩
      · exact Or.inr ⟨_, _, rfl, rfl, h3.up _ _⟩
theorem lts_ext {s : QS} {o : Nat} {D : Int64} {N : Nat} {f g : Nat → Int64} (h : eqO N f g) : ∀ i, i ≤ N → eqM N (lts s o D N f i) (lts s o D N g i)
  | 0, _ => Or.inr ⟨f, g, rfl, rfl, h⟩
  | i + 1, hi => by
    have e : ∀ (f : Nat → Int64), lts s o D N f (i + 1) = (match lts s o D N f i with | none => none | some g => lsb s o D (nI (N - 1 - i)) g (N - i)) := fun _ => rfl
    rw [e f, e g]
    rcases lts_ext h i (by omega) with ⟨h1, h2⟩ | ⟨f1, g1, h1, h2, h3⟩
    · rw [h1, h2]; exact Or.inl ⟨rfl, rfl⟩
    · rw [h1, h2]; exact lsb_ext h3 _ (by omega)
theorem latV_ext (s : QS) (o : Nat) (D : Int64) (N : Nat) (f g : Nat → Int64) : latV s o D N f = latV s o D N g := by
  unfold latV
  rcases lts_ext (s := s) (o := o) (D := D) (N := N) (f := lat0 s o f (N + 1)) (g := lat0 s o g (N + 1)) (fun j hj => lat0_ext (N + 1) j (by omega)) N (Nat.le_refl _) with ⟨h1, h2⟩ | ⟨f1, g1, h1, h2, h3⟩
  · rw [h1, h2]
  · rw [h1, h2]; exact congrArg some (h3 0 (by omega))
theorem nsb_ext {s : QS} {o : Nat} {D : Int64} {m : Nat} {f g : Nat → Int64} (h : eqO m f g) : ∀ k, k + 1 ≤ m → eqM m (nsb s o D f k) (nsb s o D g k)
  | 0, _ => Or.inr ⟨f, g, rfl, rfl, h⟩
  | k + 1, hk => by
    have e : ∀ (f : Nat → Int64), nsb s o D f (k + 1) = (match nsb s o D f k with | none => none | some g => if bigL (nstp s o D (f k) (f (k + 1)) (f (k + 2))) = true then none else some (vp_updL g (k + 1) (oHeld s o (oP s o (nI (k + 1) - q_sz s o)) (nstp s o D (f k) (f (k + 1)) (f (k + 2)))))) := fun _ => rfl
    rw [e f, e g, h k (by omega), h (k + 1) (by omega), h (k + 2) (by omega)]
    rcases nsb_ext h k (by omega) with ⟨h1, h2⟩ | ⟨f1, g1, h1, h2, h3⟩
    · rw [h1, h2]; exact Or.inl ⟨rfl, rfl⟩
    · rw [h1, h2]
      dsimp only
      split
      · exact Or.inl ⟨rfl, rfl⟩
      · exact Or.inr ⟨_, _, rfl, rfl, h3.up _ _⟩
theorem nts_ext {s : QS} {o : Nat} {D : Int64} {M : Nat} (hM : 1 ≤ M) {f g : Nat → Int64} (h : eqO (2 * M) f g) : ∀ i, eqM (2 * M) (nts s o D M f i) (nts s o D M g i)
  | 0 => Or.inr ⟨f, g, rfl, rfl, h⟩
  | i + 1 => by
    have e : ∀ (f : Nat → Int64), nts s o D M f (i + 1) = (match nts s o D M f i with | none => none | some g => nsb s o D g (2 * M - 1)) := fun _ => rfl
    rw [e f, e g]
    rcases nts_ext hM h i with ⟨h1, h2⟩ | ⟨f1, g1, h1, h2, h3⟩
    · rw [h1, h2]; exact Or.inl ⟨rfl, rfl⟩
    · rw [h1, h2]; exact nsb_ext h3 _ (by omega)
theorem netV_ext (s : QS) (o : Nat) (D : Int64) (M N : Nat) (hM : 1 ≤ M) (f g : Nat → Int64) : netV s o D M N f = netV s o D M N g := by
  unfold netV
  rcases nts_ext (s := s) (o := o) (D := D) hM (f := net0 s o f (2 * M + 1)) (g := net0 s o g (2 * M + 1)) (fun j hj => net0_ext (2 * M + 1) j (by omega)) N with ⟨h1, h2⟩ | ⟨f1, g1, h1, h2, h3⟩
  · rw [h1, h2]
  · rw [h1, h2]; exact congrArg some (h3 M (by omega))
/-- STEPS, SIZE as numbers -/
def spN (s : QS) (o : Nat) : Nat := (q_sp s o).toNatClampNeg
def szN (s : QS) (o : Nat) : Nat := (q_sz s o).toNatClampNeg
/-- an option's fixed numbers are in their ranges -/
def invO (s : QS) (o : Nat) : Prop := q_sp s o = nI (spN s o) ∧ 1 ≤ spN s o ∧ spN s o ≤ 20 ∧ q_sz s o = nI (szN s o) ∧ (q_en s o = 1 → szN s o < 7) ∧ (q_en s o = 2 → 1 ≤ szN s o ∧ szN s o ≤ 20)
/-- the price by the option's engine -/
def oPrice (s : QS) (o : Nat) (D : Int64) : Option Int64 := if q_en s o = 0 then latV s o D (spN s o) (fun _ => 0) else if q_en s o = 1 then pthV s o D (szN s o) (spN s o) else netV s o D (szN s o) (spN s o) (fun _ => 0)
/-- an option WORKED OUT: 0 and the value, or 2 (ArithmeticException), 3 (UnsupportedOperationException) -/
def oWork (s : QS) (o : Nat) : Nat × Int64 := if q_en s o = 1 ∧ q_us s o = true then (3, 0) else if q_en s o = 2 ∧ ¬ q_ch s o ≤ 8 then (2, 0) else if ¬ 0 < oM s o then (2, 0) else if oTak s o < 0 ∨ 1024 < oTak s o then (2, 0) else match oPrice s o (1024 - oTak s o) with
  | none => (2, 0)
  | some v => (0, v)
def wkV (s : QS) (j : Nat) : Nat × Int64 := if q_so s j = 0 then (0, q_am s j) else if q_so s j = 1 then (if bigL (rndL (q_wa s j * q_am s (cp s j 0) + q_wb s j * q_am s (cp s j 1)) 3) = true then (2, 0) else (0, rndL (q_wa s j * q_am s (cp s j 0) + q_wb s j * q_am s (cp s j 1)) 3)) else if q_so s j = 2 then (0, mxL (q_am s (cp s j 0)) (q_am s (cp s j 1))) else oWork s j
/-- with the last look at TOO LARGE -/
def wkA (s : QS) (j : Nat) : Nat × Int64 := if (wkV s j).1 = 0 then (if bigL (wkV s j).2 = true then (2, 0) else (0, (wkV s j).2)) else ((wkV s j).1, 0)
def exN (c : Nat) : String := if c = 3 then "java/lang/UnsupportedOperationException" else "java/lang/ArithmeticException"
/-- node j's parts are asked, by f, in their order -/
def askP (f : QS → Nat → Nat × QS) (j : Nat) (s : QS) : Nat → Nat × QS
  | 0 => (0, s)
  | k + 1 => if (askP f j s k).1 = 0 then f (askP f j s k).2 (cp (askP f j s k).2 j k) else askP f j s k
/-- node j, all its parts valid, is WORKED OUT -/
def askW (s : QS) (j : Nat) : Nat × QS := if (wkA s j).1 = 0 then (0, qS_wk (qS_tw (qS_va (qS_am s (va_up (q_am s) j (wkA s j).2)) (va_up (q_va s) j true)) (va_up (q_tw s) j (q_tw s j + 1))) (q_wk s + 1)) else ((wkA s j).1, s)
def askF : Nat → QS → Nat → Nat × QS
  | 0, s, _ => (0, s)
  | d + 1, s, j => if q_va s j = true then (0, s) else if (askP (askF d) j s (np s j)).1 = 0 then askW (askP (askF d) j s (np s j)).2 j else askP (askF d) j s (np s j)
/-- what asking leaves as it was -/
def akK (s s' : QS) : Prop := q_n s' = q_n s ∧ q_so s' = q_so s ∧ q_fr s' = q_fr s ∧ q_mi s' = q_mi s ∧ q_pt s' = q_pt s ∧ q_wa s' = q_wa s ∧ q_wb s' = q_wb s ∧ q_kd s' = q_kd s ∧ q_sp s' = q_sp s ∧ q_ch s' = q_ch s ∧ q_us s' = q_us s ∧ q_en s' = q_en s ∧ q_sz s' = q_sz s ∧ q_tl s' = q_tl s ∧ q_fl s' = q_fl s
theorem akK.rf {s : QS} : akK s s := ⟨rfl, rfl, rfl, rfl, rfl, rfl, rfl, rfl, rfl, rfl, rfl, rfl, rfl, rfl, rfl⟩
theorem akK.tr {s s' s'' : QS} (h : akK s s') (h' : akK s' s'') : akK s s'' := by
  obtain ⟨a1, a2, a3, a4, a5, a6, a7, a8, a9, a10, a11, a12, a13, a14, a15⟩ := h
  obtain ⟨b1, b2, b3, b4, b5, b6, b7, b8, b9, b10, b11, b12, b13, b14, b15⟩ := h'
  exact ⟨b1.trans a1, b2.trans a2, b3.trans a3, b4.trans a4, b5.trans a5, b6.trans a6, b7.trans a7, b8.trans a8, b9.trans a9, b10.trans a10, b11.trans a11, b12.trans a12, b13.trans a13, b14.trans a14, b15.trans a15⟩
theorem ak_np {s s' : QS} (h : akK s s') (j : Nat) : np s' j = np s j := by unfold np; rw [h.2.1, h.2.2.2.2.1]
theorem ak_cp {s s' : QS} (h : akK s s') (j k : Nat) : cp s' j k = cp s j k := by unfold cp; rw [h.2.2.2.2.1]
theorem ak_inv {s s' : QS} (h : akK s s') (j : Nat) (hi : invO s j) : invO s' j := by
  obtain ⟨a1, a2, a3, a4, a5, a6, a7, a8, a9, a10, a11, a12, a13, a14, a15⟩ := h
  unfold invO spN szN at *; rw [a9, a12, a13]; exact hi
theorem askP_K {f : QS → Nat → Nat × QS} (hf : ∀ s i, akK s (f s i).2) {j : Nat} {s : QS} : ∀ k, akK s (askP f j s k).2
  | 0 => akK.rf
  | k + 1 => by
    show akK s (if _ then _ else _ : Nat × QS).2
    split
    · exact (askP_K hf k).tr (hf _ _)
    · exact askP_K hf k
theorem askW_K {s : QS} {j : Nat} : akK s (askW s j).2 := by
  unfold askW; split
  · exact ⟨rfl, rfl, rfl, rfl, rfl, rfl, rfl, rfl, rfl, rfl, rfl, rfl, rfl, rfl, rfl⟩
  · exact akK.rf
theorem askF_K : ∀ (d : Nat) (s : QS) (j : Nat), akK s (askF d s j).2
  | 0, _, _ => akK.rf
  | d + 1, s, j => by
    show akK s (if _ then _ else if _ then _ else _ : Nat × QS).2
    split
    · exact akK.rf
    · split
      · exact (askP_K (fun s i => askF_K d s i) _).tr askW_K
      · exact askP_K (fun s i => askF_K d s i) _
/-- ranks: a part's is below -/
def rkd (s : QS) (r : Nat → Nat) : Prop := ∀ i, i < q_n s → ∀ k, k < np s i → r (cp s i k) < r i
theorem ak_rkd {s s' : QS} (h : akK s s') {r : Nat → Nat} (hr : rkd s r) : rkd s' r := fun i hi k hk => by
  rw [ak_cp h]; exact hr i (by rw [← h.1]; exact hi) k (by rw [← ak_np h]; exact hk)
/-- the rows and the stream may turn -/
def zK (z z' : ZS) : Prop := z_ra z' = z_ra z ∧ z_rv z' = z_rv z ∧ z_pr z' = z_pr z
theorem zK.rf {z : ZS} : zK z z := ⟨rfl, rfl, rfl⟩
theorem zK.tr {z z' z'' : ZS} (h : zK z z') (h' : zK z' z'') : zK z z'' := ⟨h'.1.trans h.1, h'.2.1.trans h.2.1, h'.2.2.trans h.2.2⟩

/-! 13.loops: loops that count, and loops with a measure; parts' numbers -/
section KLoops
variable {p : Program} {l : Launch} {e : Env} {R : Room} {st : State} {m : MethodId} {args : Array Value} {below : List Frame} {meth : Method} {c : Code} {H : Heap} {locs : List Loc} {cells slots : Nat} {Q : State → Prop} {pc : Nat}
/-- k goes up to N; nothing of the heap turns -/
theorem k_cnt (N : Nat) (J : Nat → Array Slot → Prop) {k0 : Nat} (h0 : k0 ≤ N) {ls0 : Array Slot} (hi : J k0 ls0)
    (hend : ∀ ls, J N ls → W p l e R st m args below meth c H locs cells slots Q (F0 m pc ls []))
    (hstep : ∀ k ls, k < N → J k ls → (∀ ls', J (k + 1) ls' → W p l e R st m args below meth c H locs cells slots Q (F0 m pc ls' [])) → W p l e R st m args below meth c H locs cells slots Q (F0 m pc ls [])) : W p l e R st m args below meth c H locs cells slots Q (F0 m pc ls0 []) := by
  have key : ∀ (d k : Nat) (ls : Array Slot), k + d = N → J k ls → W p l e R st m args below meth c H locs cells slots Q (F0 m pc ls []) := by
    intro d
    induction d with
    | zero => intro k ls hk hJ; have : k = N := by omega
              subst this; exact hend ls hJ
    | succ d ih => intro k ls hk hJ; exact hstep k ls (by omega) hJ (fun ls' h' => ih (k + 1) ls' (by omega) h')
  exact key (N - k0) k0 ls0 (by omega) hi
/-- the same over a heap that turns -/
theorem k_cntH (N : Nat) (J : Nat → Array Slot → Heap → List Loc → Prop) {k0 : Nat} (h0 : k0 ≤ N) {ls0 : Array Slot} (hi : J k0 ls0 H locs)
    (hend : ∀ ls H locs, J N ls H locs → W p l e R st m args below meth c H locs cells slots Q (F0 m pc ls []))
    (hstep : ∀ k ls H locs, k < N → J k ls H locs → (∀ ls' H' locs', J (k + 1) ls' H' locs' → W p l e R st m args below meth c H' locs' cells slots Q (F0 m pc ls' [])) → W p l e R st m args below meth c H locs cells slots Q (F0 m pc ls [])) : W p l e R st m args below meth c H locs cells slots Q (F0 m pc ls0 []) := by
  have key : ∀ (d k : Nat) (ls : Array Slot) (H : Heap) (locs : List Loc), k + d = N → J k ls H locs → W p l e R st m args below meth c H locs cells slots Q (F0 m pc ls []) := by
    intro d
    induction d with
    | zero => intro k ls H locs hk hJ; have : k = N := by omega
              subst this; exact hend ls H locs hJ
    | succ d ih => intro k ls H locs hk hJ; exact hstep k ls H locs (by omega) hJ (fun ls' H' locs' h' => ih (k + 1) ls' H' locs' (by omega) h')
  exact key (N - k0) k0 ls0 H locs (by omega) hi
/-- a loop with a measure -/
theorem k_whl {σ : Type} (μ : σ → Nat) (J : σ → Array Slot → Heap → List Loc → Prop) {x0 : σ} {ls0 : Array Slot} (hi : J x0 ls0 H locs)
    (hstep : ∀ x ls H locs, J x ls H locs → (∀ x' ls' H' locs', μ x' < μ x → J x' ls' H' locs' → W p l e R st m args below meth c H' locs' cells slots Q (F0 m pc ls' [])) → W p l e R st m args below meth c H locs cells slots Q (F0 m pc ls [])) : W p l e R st m args below meth c H locs cells slots Q (F0 m pc ls0 []) := by
  have key : ∀ (d : Nat) (x : σ) (ls : Array Slot) (H : Heap) (locs : List Loc), μ x < d → J x ls H locs → W p l e R st m args below meth c H locs cells slots Q (F0 m pc ls []) := by
    intro d
    induction d with
    | zero => intro x ls H locs hk; omega
    | succ d ih => intro x ls H locs hk hJ; exact hstep x ls H locs hJ (fun x' ls' H' locs' hx h' => ih x' ls' H' locs' (by omega) h')
  exact key (μ x0 + 1) x0 ls0 H locs (by omega) hi
end KLoops
theorem np_le {s : QS} (h : okQ s) {j : Nat} (hj : j < q_n s) : np s j ≤ 4 := by unfold np; split <;> split <;> split <;> omega
theorem cp_lt {s : QS} (h : okQ s) {j k : Nat} (hj : j < q_n s) (hk : k < np s j) : cp s j k < q_n s := by
  obtain ⟨h1, h2, h3, h4, h5, -⟩ := h.2 j hj
  have g : ∀ i x, q_pt s j i = some x → (q_pt s j i).getD 0 < q_n s := fun i x hx => by rw [hx]; exact h5 i x hx
  unfold cp
  by_cases h0 : q_so s j = 0
  · unfold np at hk; rw [if_pos h0, h3 h0 2, h3 h0 3] at hk; simp at hk
  · split
    · rename_i hk2
      obtain ⟨x, hx, hl⟩ := h2 k hk2 h0
      rw [hx]; exact hl
    · split
      · cases hq : q_pt s j 2 with
        | some x => exact h5 2 x hq
        | none =>
          show (q_pt s j 3).getD 0 < q_n s
          cases hq3 : q_pt s j 3 with
          | some x => exact h5 3 x hq3
          | none => unfold np at hk; rw [if_neg h0, hq, hq3] at hk; simp at hk; omega
      · cases hq3 : q_pt s j 3 with
        | some x => exact h5 3 x hq3
        | none =>
          unfold np at hk; rw [if_neg h0, hq3] at hk
          cases hq : q_pt s j 2 with
          | some x => rw [hq] at hk; simp at hk; omega
          | none => rw [hq] at hk; simp at hk; omega
/-- the bits of node j's parts -/
def pb (s : QS) (j : Nat) : Nat → Int32
  | 0 => 0
  | k + 1 => pb s j k ||| bitI (cp s j k)
def pbits (s : QS) (j : Nat) : Int32 := pb s j (np s j)
/-- one round over the nodes, then all rounds -/
def ibs (s : QS) (b : Int32) : Nat → Int32
  | 0 => b
  | i + 1 => if ibs s b i &&& bitI i = 0 then ibs s b i else ibs s b i ||| pbits s i
def obs (s : QS) (b : Int32) : Nat → Int32
  | 0 => b
  | r + 1 => ibs s (obs s b r) (q_n s)
def ubits (s : QS) (j : Nat) : Int32 := obs s (pbits s j) (q_n s)
/-- node a USES node b, as the class finds it -/
def usesC (s : QS) (a b : Nat) : Bool := decide (¬ ubits s a &&& bitI b = 0)
theorem sel_bit : ∀ t, t < 4 → Cond.selects (ndC t) y_Nd_bit y_Nd_bit ∈ GW := by
  intro t ht
  have h5 : t = 0 ∨ t = 1 ∨ t = 2 ∨ t = 3 := by omega
  rcases h5 with h | h | h | h <;> subst h
  · exact gw_496
  · exact gw_493
  · exact gw_494
  · exact gw_495
theorem sel_partBits : ∀ t, t < 4 → Cond.selects (ndC t) y_Nd_partBits y_Nd_partBits ∈ GW := by
  intro t ht
  have h5 : t = 0 ∨ t = 1 ∨ t = 2 ∨ t = 3 := by omega
  rcases h5 with h | h | h | h <;> subst h
  · exact gw_488
  · exact gw_485
  · exact gw_486
  · exact gw_487
theorem sel_remember : ∀ t, t < 4 → Cond.selects (ndC t) y_Nd_remember y_Nd_remember ∈ GW := by
  intro t ht
  have h5 : t = 0 ∨ t = 1 ∨ t = 2 ∨ t = 3 := by omega
  rcases h5 with h | h | h | h <;> subst h
  · exact gw_743
  · exact gw_740
  · exact gw_741
  · exact gw_742
theorem sel_restore : ∀ t, t < 4 → Cond.selects (ndC t) y_Nd_restore y_Nd_restore ∈ GW := by
  intro t ht
  have h5 : t = 0 ∨ t = 1 ∨ t = 2 ∨ t = 3 := by omega
  rcases h5 with h | h | h | h <;> subst h
  · exact gw_759
  · exact gw_756
  · exact gw_757
  · exact gw_758

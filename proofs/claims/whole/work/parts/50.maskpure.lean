/-! 50.maskpure: asking part by part, as the reference goes -/
theorem k_goal {p : Program} {l : Launch} {e : Env} {R : Room} {st : State} {m : MethodId} {args : Array Value} {below : List Frame} {meth : Method} {c : Code} {H : Heap} {locs : List Loc} {cells slots : Nat} {Q : State → Prop} {g : JFrame}
    (kk : ∀ (Wt : Nat → Array Slot → Heap → List Loc → Prop), (∀ pc ls H locs, Wt pc ls H locs ↔ W p l e R st m args below meth c H locs cells slots Q (F0 m pc ls [])) → W p l e R st m args below meth c H locs cells slots Q g) : W p l e R st m args below meth c H locs cells slots Q g := kk _ (fun _ _ _ _ => Iff.rfl)
def askS (f : QS → Nat → Nat × QS) (j : Nat) (s : QS) : Nat → Nat × QS
  | 0 => (0, s)
  | k + 1 => if (askS f j s k).1 = 0 then (match q_pt s j k with | none => askS f j s k | some x => f (askS f j s k).2 x) else askS f j s k
theorem askS_n {f : QS → Nat → Nat × QS} {j : Nat} {s : QS} {k : Nat} (h : q_pt s j k = none) : askS f j s (k + 1) = askS f j s k := by
  show (if _ then (match q_pt s j k with | none => askS f j s k | some x => f (askS f j s k).2 x) else _) = _
  rw [h]; split <;> rfl
theorem askS_s {f : QS → Nat → Nat × QS} {j : Nat} {s : QS} {k x : Nat} (h : q_pt s j k = some x) : askS f j s (k + 1) = if (askS f j s k).1 = 0 then f (askS f j s k).2 x else askS f j s k := by
  show (if _ then (match q_pt s j k with | none => askS f j s k | some x => f (askS f j s k).2 x) else _) = _
  rw [h]
theorem askS_K {f : QS → Nat → Nat × QS} (hf : ∀ s i, akK s (f s i).2) {j : Nat} {s : QS} : ∀ k, akK s (askS f j s k).2
  | 0 => akK.rf
  | k + 1 => by
    rcases h : q_pt s j k with _ | x
    · rw [askS_n h]; exact askS_K hf k
    · rw [askS_s h]
      split
      · exact (askS_K hf k).tr (hf _ _)
      · exact askS_K hf k
theorem askS_stop {f : QS → Nat → Nat × QS} {j : Nat} {s : QS} {k : Nat} (h : (askS f j s k).1 ≠ 0) : ∀ d, askS f j s (k + d) = askS f j s k
  | 0 => rfl
  | d + 1 => by
    rw [← Nat.add_assoc]
    rcases hq : q_pt s j (k + d) with _ | x
    · rw [askS_n hq, askS_stop h d]
    · rw [askS_s hq, askS_stop h d, if_neg h]
theorem askP_c {f : QS → Nat → Nat × QS} (hf : ∀ s i, akK s (f s i).2) {j : Nat} {s : QS} (k x : Nat) (hx : cp s j k = x) : askP f j s (k + 1) = if (askP f j s k).1 = 0 then f (askP f j s k).2 x else askP f j s k := by
  show (if _ then f _ (cp (askP f j s k).2 j k) else _) = _
  rw [ak_cp (askP_K hf k), hx]
theorem askS_P {f : QS → Nat → Nat × QS} (hf : ∀ s i, akK s (f s i).2) {j : Nat} {s : QS} (ho : okQ s) (hj : j < q_n s) (h0 : q_so s j ≠ 0) : askS f j s 4 = askP f j s (np s j) := by
  obtain ⟨-, b2, -⟩ := ho.2 j hj
  obtain ⟨x0, e0, -⟩ := b2 0 (by omega) h0
  obtain ⟨x1, e1, -⟩ := b2 1 (by omega) h0
  have c0 : cp s j 0 = x0 := by unfold cp; rw [if_pos (by decide), e0]; rfl
  have c1 : cp s j 1 = x1 := by unfold cp; rw [if_pos (by decide), e1]; rfl
  have h2 : askS f j s 2 = askP f j s 2 := by
    rw [askS_s e1, askP_c hf 1 x1 c1, askS_s e0, askP_c hf 0 x0 c0]; rfl
  rcases e2 : q_pt s j 2 with _ | x2
  · rcases e3 : q_pt s j 3 with _ | x3
    · have hn : np s j = 2 := by unfold np; rw [if_neg h0, e2, e3]; rfl
      rw [hn, askS_n e3, askS_n e2, h2]
    · have hn : np s j = 3 := by unfold np; rw [if_neg h0, e2, e3]; rfl
      have c2 : cp s j 2 = x3 := by unfold cp; rw [if_neg (by decide), if_pos rfl, e2, e3]; rfl
      rw [hn, askS_s e3, askS_n e2, askP_c hf 2 x3 c2, h2]
  · have c2 : cp s j 2 = x2 := by unfold cp; rw [if_neg (by decide), if_pos rfl, e2]
    have h3 : askS f j s 3 = askP f j s 3 := by rw [askS_s e2, askP_c hf 2 x2 c2, h2]
    rcases e3 : q_pt s j 3 with _ | x3
    · have hn : np s j = 3 := by unfold np; rw [if_neg h0, e2, e3]; rfl
      rw [hn, askS_n e3, h3]
    · have hn : np s j = 4 := by unfold np; rw [if_neg h0, e2, e3]; rfl
      have c3 : cp s j 3 = x3 := by unfold cp; rw [if_neg (by decide), if_neg (by decide), e3]; rfl
      rw [hn, askS_s e3, askP_c hf 3 x3 c3, h3]
theorem askF_s (d : Nat) (s : QS) (j : Nat) : askF (d + 1) s j = if q_va s j = true then (0, s) else if (askP (askF d) j s (np s j)).1 = 0 then askW (askP (askF d) j s (np s j)).2 j else askP (askF d) j s (np s j) := rfl
/-- askW's state -/
def awQ (s : QS) (j : Nat) (v : Int64) : QS := qS_wk (qS_tw (qS_va (qS_am s (va_up (q_am s) j v)) (va_up (q_va s) j true)) (va_up (q_tw s) j (q_tw s j + 1))) (q_wk s + 1)
theorem askW_0 {s : QS} {j : Nat} (h : (wkA s j).1 = 0) : askW s j = (0, awQ s j (wkA s j).2) := by unfold askW awQ; rw [if_pos h]
theorem askW_x {s : QS} {j : Nat} (h : (wkA s j).1 ≠ 0) : askW s j = ((wkA s j).1, s) := by unfold askW; rw [if_neg h]
theorem aw_am (s : QS) (j : Nat) (v : Int64) : q_am (awQ s j v) = va_up (q_am s) j v := by simp only [awQ, qS_wk, qS_tw, qS_va, qS_am, q_am]
theorem aw_va (s : QS) (j : Nat) (v : Int64) : q_va (awQ s j v) = va_up (q_va s) j true := by simp only [awQ, qS_wk, qS_tw, qS_va, qS_am, q_va]
theorem aw_wa (s : QS) (j : Nat) (v : Int64) : q_wa (awQ s j v) = q_wa s := by simp only [awQ, qS_wk, qS_tw, qS_va, qS_am, q_wa]
theorem aw_wb (s : QS) (j : Nat) (v : Int64) : q_wb (awQ s j v) = q_wb s := by simp only [awQ, qS_wk, qS_tw, qS_va, qS_am, q_wb]
theorem aw_so (s : QS) (j : Nat) (v : Int64) : q_so (awQ s j v) = q_so s := by simp only [awQ, qS_wk, qS_tw, qS_va, qS_am, q_so]
theorem aw_ch (s : QS) (j : Nat) (v : Int64) : q_ch (awQ s j v) = q_ch s := by simp only [awQ, qS_wk, qS_tw, qS_va, qS_am, q_ch]
theorem aw_n (s : QS) (j : Nat) (v : Int64) : q_n (awQ s j v) = q_n s := by simp only [awQ, qS_wk, qS_tw, qS_va, qS_am, q_n]
theorem aw_eq (s : QS) (j : Nat) (v : Int64) : qS_wk (qS_tw (qS_va (qS_am s (va_up (q_am s) j v)) (va_up (q_va (qS_am s (va_up (q_am s) j v))) j true)) (va_up (q_tw (qS_va (qS_am s (va_up (q_am s) j v)) (va_up (q_va (qS_am s (va_up (q_am s) j v))) j true))) j (q_tw (qS_va (qS_am s (va_up (q_am s) j v)) (va_up (q_va (qS_am s (va_up (q_am s) j v))) j true)) j + 1))) (q_wk (qS_tw (qS_va (qS_am s (va_up (q_am s) j v)) (va_up (q_va (qS_am s (va_up (q_am s) j v))) j true)) (va_up (q_tw (qS_va (qS_am s (va_up (q_am s) j v)) (va_up (q_va (qS_am s (va_up (q_am s) j v))) j true))) j (q_tw (qS_va (qS_am s (va_up (q_am s) j v)) (va_up (q_va (qS_am s (va_up (q_am s) j v))) j true)) j + 1))) + 1) = awQ s j v := by
  simp only [awQ, qS_wk, qS_tw, qS_va, qS_am, q_am, q_va, q_tw, q_wk]
theorem askF_ind {P : QS → Prop} (hW : ∀ s j, P s → P (askW s j).2) : ∀ d s j, P s → P (askF d s j).2
  | 0, s, j, h => h
  | d + 1, s, j, h => by
    have hP : ∀ k, P (askP (askF d) j s k).2 := by
      intro k
      induction k with
      | zero => exact h
      | succ k ih =>
        show P (if _ then _ else _ : Nat × QS).2
        split
        · exact askF_ind hW d _ _ ih
        · exact ih
    rw [askF_s]
    split
    · exact h
    · split
      · exact hW _ _ (hP _)
      · exact hP _
theorem askS_ind {P : QS → Prop} (hW : ∀ s j, P s → P (askW s j).2) {d : Nat} {s : QS} {j : Nat} (h : P s) : ∀ k, P (askS (askF d) j s k).2
  | 0 => h
  | k + 1 => by
    rcases hq : q_pt s j k with _ | x
    · rw [askS_n hq]; exact askS_ind hW h k
    · rw [askS_s hq]
      split
      · exact askF_ind hW d _ _ (askS_ind hW h k)
      · exact askS_ind hW h k
theorem wkA_b {s : QS} {j : Nat} (h : (wkA s j).1 = 0) : (wkA s j).2.toInt.natAbs ≤ 1024000000 := by
  unfold wkA at h ⊢
  split
  · rename_i h1
    rw [if_pos h1] at h
    split
    · show Int.natAbs 0 ≤ _; omega
    · rename_i h2; exact big_f h2
  · show Int.natAbs 0 ≤ _; omega
theorem bnd_W (s : QS) (j : Nat) (h : bnd s) : bnd (askW s j).2 := by
  by_cases h0 : (wkA s j).1 = 0
  · rw [askW_0 h0]
    show bnd (awQ s j (wkA s j).2)
    intro i hi
    rw [aw_n] at hi
    obtain ⟨h1, h2, h3, h4⟩ := h i hi
    rw [aw_am, aw_wa, aw_wb, aw_so, aw_ch]
    refine ⟨?_, h2, h3, h4⟩
    by_cases hij : i = j
    · subst hij; rw [va_up_self]; exact wkA_b h0
    · rw [va_up_ne _ _ hij]; exact h1
  · rw [askW_x h0]; exact h
/-- quotes are valid -/
def qv (s : QS) : Prop := ∀ j, j < q_n s → q_so s j = 0 → q_va s j = true
theorem qv_W (s : QS) (j : Nat) (h : qv s) : qv (askW s j).2 := by
  by_cases h0 : (wkA s j).1 = 0
  · rw [askW_0 h0]
    show qv (awQ s j (wkA s j).2)
    intro i hi h2
    rw [aw_n] at hi
    rw [aw_so] at h2
    rw [aw_va]
    by_cases hij : i = j
    · subst hij; rw [va_up_self]
    · rw [va_up_ne _ _ hij]; exact h i hi h2
  · rw [askW_x h0]; exact h
theorem ak_ok {s s' : QS} (h : akK s s') (ho : okQ s) : okQ s' := by
  obtain ⟨a1, a2, a3, a4, a5, a6, a7, a8, a9, a10, a11, a12, a13, a14, a15⟩ := h
  unfold okQ at ho ⊢
  rw [a1, a2, a5, a12]; exact ho
/-- what asking goes by -/
def aI (r : Nat → Nat) (s : QS) : Prop := okQ s ∧ rkd s r ∧ allI s ∧ bnd s ∧ qv s
theorem aI.F {r : Nat → Nat} {s : QS} (h : aI r s) (d j : Nat) : aI r (askF d s j).2 := ⟨ak_ok (askF_K d s j) h.1, ak_rkd (askF_K d s j) h.2.1, ak_all (askF_K d s j) h.2.2.1, askF_ind bnd_W d s j h.2.2.2.1, askF_ind qv_W d s j h.2.2.2.2⟩
theorem aI.S {r : Nat → Nat} {s : QS} (h : aI r s) (d j k : Nat) : aI r (askS (askF d) j s k).2 := ⟨ak_ok (askS_K (askF_K d) k) h.1, ak_rkd (askS_K (askF_K d) k) h.2.1, ak_all (askS_K (askF_K d) k) h.2.2.1, askS_ind bnd_W h.2.2.2.1 k, askS_ind qv_W h.2.2.2.2 k⟩
/-- asking a node leaves the marks of those above it -/
theorem ask_va {r : Nat → Nat} : ∀ (d : Nat) (s : QS) (j : Nat), rkd s r → j < q_n s → okQ s → ∀ i, r j < r i → q_va (askF d s j).2 i = q_va s i
  | 0, _, _, _, _, _, _, _ => rfl
  | d + 1, s, j, hr, hj, ho, i, hi => by
    have hP : ∀ k, k ≤ np s j → q_va (askP (askF d) j s k).2 i = q_va s i := by
      intro k
      induction k with
      | zero => intro _; rfl
      | succ k ih =>
        intro hk
        have hK : akK s (askP (askF d) j s k).2 := askP_K (askF_K d) k
        rw [askP_c (askF_K d) k (cp s j k) rfl]
        split
        · rw [ask_va d _ _ (ak_rkd hK hr) (by rw [hK.1]; exact cp_lt ho hj (by omega)) (ak_ok hK ho) i (Nat.lt_trans (hr j hj k (by omega)) hi)]
          exact ih (by omega)
        · exact ih (by omega)
    rw [askF_s]
    split
    · rfl
    · split
      · have h9 := hP (np s j) (Nat.le_refl _)
        by_cases h0 : (wkA (askP (askF d) j s (np s j)).2 j).1 = 0
        · rw [askW_0 h0]
          show q_va (awQ _ j _) i = _
          rw [aw_va, va_up_ne _ _ (fun e => by rw [e] at hi; omega)]; exact h9
        · rw [askW_x h0]; exact h9
      · exact hP _ (Nat.le_refl _)
theorem askS_va {r : Nat → Nat} {d : Nat} {s : QS} {j : Nat} (hr : rkd s r) (hj : j < q_n s) (ho : okQ s) : ∀ k, k ≤ 4 → q_va (askS (askF d) j s k).2 j = q_va s j
  | 0, _ => rfl
  | k + 1, hk => by
    have ih := askS_va (d := d) hr hj ho k (by omega)
    have hK : akK s (askS (askF d) j s k).2 := askS_K (askF_K d) k
    rcases hq : q_pt s j k with _ | x
    · rw [askS_n hq]; exact ih
    · rw [askS_s hq]
      split
      · obtain ⟨k', hk', e⟩ := (cp_ed ho hj x).mpr ⟨k, by omega, hq⟩
        have hlt := hr j hj k' hk'
        rw [e] at hlt
        rw [ask_va d _ x (ak_rkd hK hr) (by rw [hK.1]; exact (ho.2 j hj).2.2.2.2.1 k x hq) (ak_ok hK ho) j hlt]
        exact ih
      · exact ih
/-- the reference's marks: below the depth dp its stack stays -/
def mA (M M' : MS) (dp : Nat) : Prop := (∀ i, i < dp → m_li M' i = m_li M i ∧ m_ne M' i = m_ne M i) ∧ m_oh M' = m_oh M ∧ m_ov M' = m_ov M ∧ m_th M' = m_th M
theorem mA.rf {M : MS} {dp : Nat} : mA M M dp := ⟨fun _ _ => ⟨rfl, rfl⟩, rfl, rfl, rfl⟩
theorem mA.tr {M M' M'' : MS} {dp : Nat} (h : mA M M' dp) (h' : mA M' M'' dp) : mA M M'' dp := ⟨fun i hi => ⟨(h'.1 i hi).1.trans (h.1 i hi).1, (h'.1 i hi).2.trans (h.1 i hi).2⟩, h'.2.1.trans h.2.1, h'.2.2.1.trans h.2.2.1, h'.2.2.2.trans h.2.2.2⟩
theorem mA.dn {M M' : MS} {a b : Nat} (h : mA M M' a) (hb : b ≤ a) : mA M M' b := ⟨fun i hi => h.1 i (by omega), h.2⟩
theorem mK.a {M M' : MS} {dp : Nat} (h : mK M M') : mA M M' dp := ⟨fun i _ => ⟨by rw [h.1], by rw [h.2.1]⟩, h.2.2⟩
theorem mA_ne (M : MS) {dp i : Nat} (h : dp ≤ i) (x : Int32) : mA M (mS_ne M (va_up (m_ne M) i x)) dp := ⟨fun k hk => ⟨rfl, va_up_ne _ _ (by omega)⟩, rfl, rfl, rfl⟩
theorem mA_li (M : MS) {dp i : Nat} (h : dp ≤ i) (x : Int32) : mA M (mS_li M (va_up (m_li M) i x)) dp := ⟨fun k hk => ⟨va_up_ne _ _ (by omega), rfl⟩, rfl, rfl, rfl⟩
theorem wk_T {s : QS} {j : Nat} (h0 : q_so s j ≠ 0) {t : Int32} {r : Int64} (h : wkR (rsV s j) t r) : bdT t r = nI (wkA s j).1 ∧ ((wkA s j).1 = 0 → r = (wkA s j).2) := by
  obtain ⟨h1, h2⟩ := h
  rw [wkA_r h0]
  have hc : (rsV s j).1 = 0 ∨ (rsV s j).1 = 2 ∨ ((rsV s j).1 = 3 ∧ (rsV s j).2 = 0) := by
    unfold rsV
    split
    · exact Or.inl rfl
    · split
      · exact Or.inl rfl
      · unfold oWork
        repeat' split
        all_goals first | exact Or.inl rfl | exact Or.inr (Or.inl rfl) | exact Or.inr (Or.inr ⟨rfl, rfl⟩)
  rcases hc with hc | hc | ⟨hc, hc2⟩
  · have e := h2 (by rw [hc]; decide)
    rw [if_pos hc, h1, hc, ← e]
    unfold bdT
    by_cases hb : bigL r = true
    · rw [if_pos hb, if_pos hb]; exact ⟨rfl, fun h => absurd h (by decide : (2 : Nat) ≠ 0)⟩
    · rw [if_neg hb, if_neg hb]; exact ⟨rfl, fun _ => rfl⟩
  · rw [if_neg (by rw [hc]; decide), h1, hc]
    exact ⟨bdT_2 r, fun h => absurd h (by decide : (2 : Nat) ≠ 0)⟩
  · have e := h2 (by rw [hc]; decide)
    rw [if_neg (by rw [hc]; decide), h1, hc, e, hc2]
    exact ⟨by decide, fun h => absurd h (by decide : (3 : Nat) ≠ 0)⟩

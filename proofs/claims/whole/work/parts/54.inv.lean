/-! 54.inv: what every state keeps to, and that every call keeps it -/
theorem tlQ_so (s : QS) (va mi : Nat → Bool) (t : Int32) : q_so (tlQ s va mi t) = q_so s := by simp only [tlQ, qS_tl, qS_mi, qS_va, q_so]
theorem tlQ_am (s : QS) (va mi : Nat → Bool) (t : Int32) : q_am (tlQ s va mi t) = q_am s := by simp only [tlQ, qS_tl, qS_mi, qS_va, q_am]
theorem tlQ_tw (s : QS) (va mi : Nat → Bool) (t : Int32) : q_tw (tlQ s va mi t) = q_tw s := by simp only [tlQ, qS_tl, qS_mi, qS_va, q_tw]
theorem tlQ_wa (s : QS) (va mi : Nat → Bool) (t : Int32) : q_wa (tlQ s va mi t) = q_wa s := by simp only [tlQ, qS_tl, qS_mi, qS_va, q_wa]
theorem tlQ_wb (s : QS) (va mi : Nat → Bool) (t : Int32) : q_wb (tlQ s va mi t) = q_wb s := by simp only [tlQ, qS_tl, qS_mi, qS_va, q_wb]
theorem tlQ_kd (s : QS) (va mi : Nat → Bool) (t : Int32) : q_kd (tlQ s va mi t) = q_kd s := by simp only [tlQ, qS_tl, qS_mi, qS_va, q_kd]
theorem tlQ_sp (s : QS) (va mi : Nat → Bool) (t : Int32) : q_sp (tlQ s va mi t) = q_sp s := by simp only [tlQ, qS_tl, qS_mi, qS_va, q_sp]
theorem tlQ_ch (s : QS) (va mi : Nat → Bool) (t : Int32) : q_ch (tlQ s va mi t) = q_ch s := by simp only [tlQ, qS_tl, qS_mi, qS_va, q_ch]
theorem tlQ_us (s : QS) (va mi : Nat → Bool) (t : Int32) : q_us (tlQ s va mi t) = q_us s := by simp only [tlQ, qS_tl, qS_mi, qS_va, q_us]
theorem tlQ_en (s : QS) (va mi : Nat → Bool) (t : Int32) : q_en (tlQ s va mi t) = q_en s := by simp only [tlQ, qS_tl, qS_mi, qS_va, q_en]
theorem tlQ_sz (s : QS) (va mi : Nat → Bool) (t : Int32) : q_sz (tlQ s va mi t) = q_sz s := by simp only [tlQ, qS_tl, qS_mi, qS_va, q_sz]
/-- the terms of the nodes stay -/
def stat (s s' : QS) : Prop := q_n s' = q_n s ∧ q_so s' = q_so s ∧ q_pt s' = q_pt s ∧ q_wa s' = q_wa s ∧ q_wb s' = q_wb s ∧ q_kd s' = q_kd s ∧ q_sp s' = q_sp s ∧ q_ch s' = q_ch s ∧ q_us s' = q_us s ∧ q_en s' = q_en s ∧ q_sz s' = q_sz s
def bw (s : QS) : Prop := ∀ j, j < q_n s → (q_wa s j).toInt.natAbs ≤ 102400000 ∧ (q_so s j = 1 → (q_wa s j).toInt.natAbs ≤ 128 ∧ (q_wb s j).toInt.natAbs ≤ 128) ∧ (q_so s j = 3 → ∃ c, 1 ≤ c ∧ c ≤ 15 ∧ q_ch s j = nI c)
def ba (s : QS) : Prop := ∀ j, j < q_n s → (q_am s j).toInt.natAbs ≤ 1024000000
def zS (s : QS) : Prop := ∀ j, q_n s ≤ j → q_wa s j = 0 ∧ q_wb s j = 0 ∧ q_kd s j = 0 ∧ q_sp s j = 0 ∧ q_us s j = false ∧ q_en s j = 0 ∧ q_sz s j = 0
def zD (s : QS) : Prop := ∀ j, q_n s ≤ j → q_am s j = 0 ∧ q_fr s j = false ∧ q_mi s j = false ∧ q_tw s j = 0
def acy (s : QS) : Prop := ∀ x, x < q_n s → ¬ lst s x x
def mfz (s : QS) : Prop := ∀ y, y < q_n s → q_mi s y = true → q_fr s y = true
def iA (s : QS) : Prop := okQ s ∧ allI s ∧ acy s ∧ bw s ∧ zS s
def iB (s : QS) : Prop := fv s ∧ mfz s ∧ qv s ∧ ba s ∧ bq s ∧ zD s
def inv (s : QS) : Prop := iA s ∧ iB s
theorem inv.blk {s : QS} (h : inv s) : blk s := fun j hj => by
  obtain ⟨a1, a2, a3, a4, a5, a6, a7⟩ := h.1.2.2.2.2 j hj
  obtain ⟨b1, b2, b3, b4⟩ := h.2.2.2.2.2.2 j hj
  exact ⟨b1, b2, b3, b4, a1, a2, a3, a4, a5, a6, a7⟩
theorem inv.bnd {s : QS} (h : inv s) : bnd s := fun j hj => by
  obtain ⟨h1, h2, h3⟩ := h.1.2.2.2.1 j hj
  exact ⟨h.2.2.2.2.1 j hj, h1, h2, h3⟩
theorem ed_st {s s' : QS} (h : q_pt s' = q_pt s) (x y : Nat) : ed s' x y = ed s x y := by unfold ed; rw [h]
theorem lst_st {s s' : QS} (h : q_pt s' = q_pt s) (hn : q_n s' = q_n s) (x y : Nat) : lst s' x y = lst s x y := by unfold lst ed; rw [h, hn]
theorem iA.st {s s' : QS} (h : iA s) (e : stat s s') : iA s' := by
  obtain ⟨e1, e2, e3, e4, e5, e6, e7, e8, e9, e10, e11⟩ := e
  obtain ⟨h1, h2, h3, h4, h5⟩ := h
  refine ⟨?_, ?_, ?_, ?_, ?_⟩
  · unfold okQ at h1 ⊢; rw [e1, e2, e3, e10]; exact h1
  · intro i hi h3
    rw [e1] at hi; rw [e2] at h3
    have := h2 i hi h3
    unfold invO spN szN at this ⊢; rw [e7, e10, e11]; exact this
  · intro x hx; rw [e1] at hx; rw [lst_st e3 e1]; exact h3 x hx
  · unfold bw at h4 ⊢; rw [e1, e2, e4, e5, e8]; exact h4
  · unfold zS at h5 ⊢; rw [e1, e4, e5, e6, e7, e9, e10, e11]; exact h5
theorem lst.base {s : QS} {x y : Nat} (h : ed s x y) : lst s x y := fun C c1 _ => c1 y h
theorem lst.step {s : QS} {x y z : Nat} (h : lst s x y) (hy : y < q_n s) (e : ed s y z) : lst s x z := fun C c1 c2 => c2 y z hy (h C c1 c2) e
theorem lst.trans {s : QS} {x y z : Nat} (h : lst s x y) (hy : y < q_n s) (h' : lst s y z) : lst s x z := fun C c1 c2 => h' C (fun w e => c2 y w hy (h C c1 c2) e) c2
theorem vc_lt {f g : Nat → Bool} {n y : Nat} (h : ∀ i, f i = true → g i = true) (hy : y < n) (h1 : f y = false) (h2 : g y = true) : vc f n < vc g n := by
  have h3 := vc_off (f := g) hy h2
  have h4 : vc f n ≤ vc (va_up g y false) n := vc_mono (fun i _ hi => by
    by_cases hiy : i = y
    · subst hiy; rw [h1] at hi; cases hi
    · rw [va_up_ne _ _ hiy]; exact h i hi)
  omega
theorem rnk_of {s : QS} (ho : okQ s) (ha : acy s) : rnk s := by
  refine ⟨fun x => vc (fun y => decide (y < q_n s) && usesC s x y) (q_n s), fun i hi k hk => ?_, fun j hj => ?_⟩
  · have hed : ed s i (cp s i k) := (cp_ed ho hi _).mp ⟨k, hk, rfl⟩
    have hc := cp_lt ho hi hk
    refine vc_lt (y := cp s i k) (fun z hz => ?_) hc ?_ ?_
    · rw [Bool.and_eq_true, decide_eq_true_eq] at hz ⊢
      exact ⟨hz.1, (usesC_lst ho hi hz.1).mpr ((lst.base hed).trans hc ((usesC_lst ho hc hz.1).mp hz.2))⟩
    · rw [decide_eq_true hc, Bool.true_and]
      rcases h : usesC s (cp s i k) (cp s i k) with _ | _
      · rfl
      · exact absurd ((usesC_lst ho hc hc).mp h) (ha _ hc)
    · rw [decide_eq_true hc, Bool.true_and]; exact (usesC_lst ho hi hc).mpr (lst.base hed)
  · have h1 := vc_le (fun y => decide (y < q_n s) && usesC s j y) (q_n s)
    have h2 := ho.1
    show vc _ _ < 17
    omega
theorem inv.rnk {s : QS} (h : inv s) : rnk s := rnk_of h.1.1 h.1.2.2.1
theorem inv.aI {s : QS} (h : inv s) : ∃ r, aI r s ∧ ∀ j, j < q_n s → r j < 17 := by
  obtain ⟨r, h1, h2⟩ := h.rnk
  exact ⟨r, ⟨h.1.1, h1, h.1.2.1, h.bnd, h.2.2.2.1⟩, h2⟩
theorem tlQ_st (s : QS) (va mi : Nat → Bool) (t : Int32) : stat s (tlQ s va mi t) := ⟨tlQ_n _ _ _ _, tlQ_so _ _ _ _, tlQ_pt _ _ _ _, tlQ_wa _ _ _ _, tlQ_wb _ _ _ _, tlQ_kd _ _ _ _, tlQ_sp _ _ _ _, tlQ_ch _ _ _ _, tlQ_us _ _ _ _, tlQ_en _ _ _ _, tlQ_sz _ _ _ _⟩
/-- telling keeps it -/
theorem Sp.inv {s s' : QS} {I : Nat → Prop} (h : Sp s I s') (hi : inv s) (hs : ∀ y, y < q_n s → I y → q_so s y ≠ 0) : inv s' := by
  have hfv := h.fv hi.2.1
  obtain ⟨T, mi, a1, a2, a3, a4, a5, rfl⟩ := h
  refine ⟨hi.1.st (tlQ_st _ _ _ _), hfv, ?_, ?_, ?_, ?_, ?_⟩
  · intro y hy h1
    rw [tlQ_n] at hy; rw [tlQ_mi] at h1; rw [tlQ_fr]
    rcases (a5 y).mp h1 with h2 | h2
    · exact hi.2.2.1 y hy h2
    · exact h2.2.1
  · intro y hy h0
    rw [tlQ_n] at hy; rw [tlQ_so] at h0; rw [tlQ_va, hi.2.2.2.1 y hy h0]
    rcases hT : T y with _ | _
    · rfl
    · exact absurd h0 (a4 (fun y => q_so s y ≠ 0) (fun y g1 g2 _ => hs y g1 g2) (fun x y _ g1 g2 _ => ed_so hi.1.1 g1 g2) y hT)
  · intro y hy; rw [tlQ_n] at hy; rw [tlQ_am]; exact hi.2.2.2.2.1 y hy
  · intro y hy h0; rw [tlQ_n] at hy; rw [tlQ_so] at h0; rw [tlQ_am]; exact hi.2.2.2.2.2.1 y hy h0
  · intro y hy
    rw [tlQ_n] at hy
    obtain ⟨b1, b2, b3, b4⟩ := hi.2.2.2.2.2.2 y hy
    rw [tlQ_am, tlQ_fr, tlQ_mi, tlQ_tw]
    refine ⟨b1, b2, ?_, b4⟩
    rcases hm : mi y with _ | _
    · rfl
    · rcases (a5 y).mp hm with h2 | h2
      · rw [b3] at h2; cases h2
      · omega
theorem inv_tell {s : QS} (hi : inv s) {j : Nat} (hj : j < q_n s) (h0 : q_so s j ≠ 0) : inv (tellF 17 s j) := (sp_tellF 17 s j hi.1.1 (vc_17 hi.1.1.1) hj).inv hi (fun y _ h => by rw [h]; exact h0)
theorem inv_tellU {s : QS} (hi : inv s) {j : Nat} (hj : j < q_n s) : inv (tellU (tellF 17) j s (q_n s)) := (sp_tellU (sp_tellF 17) hi.1.1 (vc_17 hi.1.1.1) hj (q_n s) (Nat.le_refl _)).inv hi (fun y hy h => ed_so hi.1.1 hy h.2)
/-- asking keeps it -/
theorem ask_ind {P : QS → Prop} (hW : ∀ s j, j < q_n s → P s → P (askW s j).2) : ∀ d s j, okQ s → j < q_n s → P s → P (askF d s j).2
  | 0, s, j, _, _, h => h
  | d + 1, s, j, ho, hj, h => by
    have hP : ∀ k, k ≤ np s j → P (askP (askF d) j s k).2 := by
      intro k
      induction k with
      | zero => intro _; exact h
      | succ k ih =>
        intro hk
        have hK : akK s (askP (askF d) j s k).2 := askP_K (askF_K d) k
        rw [askP_c (askF_K d) k (cp s j k) rfl]
        split
        · exact ask_ind hW d _ _ (ak_ok hK ho) (by rw [hK.1]; exact cp_lt ho hj (by omega)) (ih (by omega))
        · exact ih (by omega)
    rw [askF_s]
    split
    · exact h
    · split
      · refine hW _ _ ?_ (hP _ (Nat.le_refl _))
        have hK : akK s (askP (askF d) j s (np s j)).2 := askP_K (askF_K d) _
        rw [hK.1]; exact hj
      · exact hP _ (Nat.le_refl _)
theorem aw_fr (s : QS) (j : Nat) (v : Int64) : q_fr (awQ s j v) = q_fr s := by simp only [awQ, qS_wk, qS_tw, qS_va, qS_am, q_fr]
theorem aw_mi (s : QS) (j : Nat) (v : Int64) : q_mi (awQ s j v) = q_mi s := by simp only [awQ, qS_wk, qS_tw, qS_va, qS_am, q_mi]
theorem aw_tw (s : QS) (j : Nat) (v : Int64) : q_tw (awQ s j v) = va_up (q_tw s) j (q_tw s j + 1) := by simp only [awQ, qS_wk, qS_tw, qS_va, qS_am, q_tw]
theorem ak_st {s s' : QS} (h : akK s s') : stat s s' := by
  obtain ⟨a1, a2, a3, a4, a5, a6, a7, a8, a9, a10, a11, a12, a13, a14, a15⟩ := h
  exact ⟨a1, a2, a5, a6, a7, a8, a9, a10, a11, a12, a13⟩
theorem fv_W (s : QS) (j : Nat) (h : fv s) : fv (askW s j).2 := by
  by_cases h0 : (wkA s j).1 = 0
  · rw [askW_0 h0]
    show fv (awQ s j (wkA s j).2)
    intro i hi h2
    rw [aw_n] at hi
    rw [aw_fr] at h2
    rw [aw_va]
    by_cases hij : i = j
    · subst hij; rw [va_up_self]
    · rw [va_up_ne _ _ hij]; exact h i hi h2
  · rw [askW_x h0]; exact h
theorem zD_W (s : QS) (j : Nat) (hj : j < q_n s) (h : zD s) : zD (askW s j).2 := by
  by_cases h0 : (wkA s j).1 = 0
  · rw [askW_0 h0]
    show zD (awQ s j (wkA s j).2)
    intro i hi
    rw [aw_n] at hi
    rw [aw_am, aw_fr, aw_mi, aw_tw, va_up_ne _ _ (by omega), va_up_ne _ _ (by omega)]
    exact h i hi
  · rw [askW_x h0]; exact h
theorem ba_of {s : QS} (h : bnd s) : ba s := fun j hj => (h j hj).1
theorem inv_ask {s : QS} (hi : inv s) {j : Nat} (hj : j < q_n s) (d : Nat) : inv (askF d s j).2 := by
  have hK := askF_K d s j
  refine ⟨hi.1.st (ak_st hK), askF_ind fv_W d s j hi.2.1, ?_, askF_ind qv_W d s j hi.2.2.2.1, ba_of (askF_ind bnd_W d s j hi.bnd), askF_ind bq_W d s j hi.2.2.2.2.2.1, ask_ind zD_W d s j hi.1.1 hj hi.2.2.2.2.2.2⟩
  obtain ⟨a1, a2, a3, a4, -⟩ := hK
  unfold mfz; rw [a1, a3, a4]; exact hi.2.2.1
/-- two states that differ in nothing that matters -/
def sameD (s s' : QS) : Prop := stat s s' ∧ q_am s' = q_am s ∧ q_va s' = q_va s ∧ q_fr s' = q_fr s ∧ q_mi s' = q_mi s ∧ q_tw s' = q_tw s
theorem inv.same {s s' : QS} (hi : inv s) (h : sameD s s') : inv s' := by
  obtain ⟨h1, e2, e3, e4, e5, e6⟩ := h
  obtain ⟨hA, b1, b2, b3, b4, b5, b6⟩ := hi
  have hn := h1.1
  have hs := h1.2.1
  refine ⟨hA.st h1, ?_, ?_, ?_, ?_, ?_, ?_⟩
  · unfold fv at b1 ⊢; rw [hn, e3, e4]; exact b1
  · unfold mfz at b2 ⊢; rw [hn, e4, e5]; exact b2
  · unfold qv at b3 ⊢; rw [hn, hs, e3]; exact b3
  · unfold ba at b4 ⊢; rw [hn, e2]; exact b4
  · unfold bq at b5 ⊢; rw [hn, hs, e2]; exact b5
  · unfold zD at b6 ⊢; rw [hn, e2, e4, e5, e6]; exact b6
theorem inv_fl {s : QS} (hi : inv s) : inv (qFl s) := hi.same ⟨⟨by simp only [qFl, qS_fl, q_n], by simp only [qFl, qS_fl, q_so], by simp only [qFl, qS_fl, q_pt], by simp only [qFl, qS_fl, q_wa], by simp only [qFl, qS_fl, q_wb], by simp only [qFl, qS_fl, q_kd], by simp only [qFl, qS_fl, q_sp], by simp only [qFl, qS_fl, q_ch], by simp only [qFl, qS_fl, q_us], by simp only [qFl, qS_fl, q_en], by simp only [qFl, qS_fl, q_sz]⟩, by simp only [qFl, qS_fl, q_am], by simp only [qFl, qS_fl, q_va], by simp only [qFl, qS_fl, q_fr], by simp only [qFl, qS_fl, q_mi], by simp only [qFl, qS_fl, q_tw]⟩
theorem bm_st (S B : QS) (h : stat S B) : stat S (bmR S B) := by
  obtain ⟨e1, e2, e3, e4, e5, e6, e7, e8, e9, e10, e11⟩ := h
  have g : stat B (bmR S B) := ⟨by simp only [bmR, qS_va, qS_am, q_n], by simp only [bmR, qS_va, qS_am, q_so], by simp only [bmR, qS_va, qS_am, q_pt], by simp only [bmR, qS_va, qS_am, q_wa], by simp only [bmR, qS_va, qS_am, q_wb], by simp only [bmR, qS_va, qS_am, q_kd], by simp only [bmR, qS_va, qS_am, q_sp], by simp only [bmR, qS_va, qS_am, q_ch], by simp only [bmR, qS_va, qS_am, q_us], by simp only [bmR, qS_va, qS_am, q_en], by simp only [bmR, qS_va, qS_am, q_sz]⟩
  obtain ⟨f1, f2, f3, f4, f5, f6, f7, f8, f9, f10, f11⟩ := g
  exact ⟨f1.trans e1, f2.trans e2, f3.trans e3, f4.trans e4, f5.trans e5, f6.trans e6, f7.trans e7, f8.trans e8, f9.trans e9, f10.trans e10, f11.trans e11⟩
theorem bmR_am (S B : QS) : q_am (bmR S B) = fun i => if i < q_n S then q_am S i else q_am B i := by simp only [bmR, qS_va, qS_am, q_am]
theorem bmR_va (S B : QS) : q_va (bmR S B) = fun i => if i < q_n S then q_va S i else q_va B i := by simp only [bmR, qS_va, qS_am, q_va]
theorem bmR_fr (S B : QS) : q_fr (bmR S B) = q_fr B := by simp only [bmR, qS_va, qS_am, q_fr]
theorem bmR_mi (S B : QS) : q_mi (bmR S B) = q_mi B := by simp only [bmR, qS_va, qS_am, q_mi]
theorem bmR_tw (S B : QS) : q_tw (bmR S B) = q_tw B := by simp only [bmR, qS_va, qS_am, q_tw]
theorem inv_bmR {S B : QS} (hi : inv S) (hK : akK S B) (hz : zD B) : inv (bmR S B) := by
  obtain ⟨hA, b1, b2, b3, b4, b5, b6⟩ := hi
  have hst := bm_st S B (ak_st hK)
  have hn := hst.1
  have hs := hst.2.1
  obtain ⟨a1, a2, a3, a4, -⟩ := hK
  refine ⟨hA.st hst, ?_, ?_, ?_, ?_, ?_, ?_⟩
  · intro y hy h1
    rw [hn] at hy; rw [bmR_fr, a3] at h1
    rw [bmR_va]; show (if y < q_n S then _ else _) = _; rw [if_pos hy]; exact b1 y hy h1
  · intro y hy h1
    rw [hn] at hy; rw [bmR_mi, a4] at h1
    rw [bmR_fr, a3]; exact b2 y hy h1
  · intro y hy h1
    rw [hn] at hy; rw [hs] at h1
    rw [bmR_va]; show (if y < q_n S then _ else _) = _; rw [if_pos hy]; exact b3 y hy h1
  · intro y hy
    rw [hn] at hy
    rw [bmR_am]; show (if y < q_n S then q_am S y else q_am B y).toInt.natAbs ≤ _; rw [if_pos hy]; exact b4 y hy
  · intro y hy h1
    rw [hn] at hy; rw [hs] at h1
    rw [bmR_am]; show (if y < q_n S then q_am S y else q_am B y).toInt.natAbs ≤ _; rw [if_pos hy]; exact b5 y hy h1
  · intro y hy
    rw [hn] at hy
    obtain ⟨c1, c2, c3, c4⟩ := hz y (by rw [a1]; exact hy)
    rw [bmR_am, bmR_fr, bmR_mi, bmR_tw]
    refine ⟨?_, c2, c3, c4⟩
    show (if y < q_n S then q_am S y else q_am B y) = 0
    rw [if_neg (by omega)]; exact c1
theorem zD_K {s s' : QS} (hK : akK s s') (ha : ∀ j, q_n s ≤ j → q_am s' j = q_am s j) (ht : q_tw s' = q_tw s) (h : zD s) : zD s' := by
  obtain ⟨a1, a2, a3, a4, -⟩ := hK
  intro j hj
  rw [a1] at hj
  rw [ha j hj, a3, a4, ht]; exact h j hj
theorem tw_St (j : Nat) (s : QS) : ∀ k, q_tw (qSt j s k) = q_tw s
  | 0 => rfl
  | k + 1 => by
    rw [St_s]
    split
    · exact tw_St j s k
    · split
      · rw [show q_tw (qS_va (qSt j s k) (va_up (q_va (qSt j s k)) k false)) = q_tw (qSt j s k) by simp only [qS_va, q_tw]]; exact tw_St j s k
      · exact tw_St j s k
theorem zD_bm {s : QS} (h : zD s) {q : Nat} (hq : q < q_n s) (m : Int64) : zD (bmA s q m) := by
  refine zD_K (bmA_K s q m) (fun j hj => ?_) ?_ h
  · unfold bmA
    rw [am_St, show q_am (qS_am s (va_up (q_am s) q (q_am s q + m))) = va_up (q_am s) q (q_am s q + m) by simp only [qS_am, q_am], va_up_ne _ _ (by omega)]
  · unfold bmA
    rw [tw_St]; simp only [qS_am, q_tw]
theorem wN_ind {α : Type} {P : QS → Prop} {s : QS} {k : Int32} {d : α} {f : Nat → Nat × α × QS} (h16 : q_n s ≤ 16) (h0 : P s) (hf : ∀ j, j < q_n s → P (f j).2.2) : P (wN s k d f).2.2 := by
  unfold wN
  split
  · rename_i h
    obtain ⟨j, hj, rfl⟩ := isN_t h h16
    rw [kN_nI (by omega)]
    exact hf j hj
  · exact h0
theorem inv_pValue {s : QS} (hi : inv s) (k : Int32) : inv (pValue s k).2.2 := by
  unfold pValue
  refine wN_ind hi.1.1.1 hi (fun j hj => ?_)
  have h1 := inv_ask hi hj 17
  split
  · exact h1
  · exact inv_fl h1
theorem inv_pBump {s : QS} (hi : inv s) (k q i : Int32) : inv (pBump s k q i).2.2 := by
  unfold pBump
  refine wN_ind hi.1.1.1 hi (fun j hj => ?_)
  refine wN_ind hi.1.1.1 hi (fun g hg => ?_)
  have h1 := inv_ask hi hj 17
  have hK1 := askF_K 17 s j
  have hKB := bmA_K (askF 17 s j).2 g (128 * i.toInt64)
  have hjB : j < q_n (bmA (askF 17 s j).2 g (128 * i.toInt64)) := by rw [hKB.1, hK1.1]; exact hj
  have h2 : inv (bmR (askF 17 s j).2 (askF 17 (bmA (askF 17 s j).2 g (128 * i.toInt64)) j).2) := inv_bmR h1 (hKB.tr (askF_K 17 _ j)) (ask_ind zD_W 17 _ j (ak_ok hKB h1.1.1) hjB (zD_bm h1.2.2.2.2.2.2 (by rw [hK1.1]; exact hg) _))
  split
  · exact hi
  · split
    · exact hi
    · split
      · split
        · exact h2
        · exact inv_fl h2
      · exact inv_fl h1
theorem ad_so (s : QS) (t : Nat) (am : Int64) (pa pb : Option Nat) (wa wb : Int64) (kd sp : Int32) : q_so (addQ s t am pa pb wa wb kd sp) = va_up (q_so s) (q_n s) t := rfl
theorem ad_am (s : QS) (t : Nat) (am : Int64) (pa pb : Option Nat) (wa wb : Int64) (kd sp : Int32) : q_am (addQ s t am pa pb wa wb kd sp) = va_up (q_am s) (q_n s) am := rfl
theorem ad_va (s : QS) (t : Nat) (am : Int64) (pa pb : Option Nat) (wa wb : Int64) (kd sp : Int32) : q_va (addQ s t am pa pb wa wb kd sp) = va_up (q_va s) (q_n s) (decide (t = 0)) := rfl
theorem ad_fr (s : QS) (t : Nat) (am : Int64) (pa pb : Option Nat) (wa wb : Int64) (kd sp : Int32) : q_fr (addQ s t am pa pb wa wb kd sp) = va_up (q_fr s) (q_n s) false := rfl
theorem ad_mi (s : QS) (t : Nat) (am : Int64) (pa pb : Option Nat) (wa wb : Int64) (kd sp : Int32) : q_mi (addQ s t am pa pb wa wb kd sp) = va_up (q_mi s) (q_n s) false := rfl
theorem ad_tw (s : QS) (t : Nat) (am : Int64) (pa pb : Option Nat) (wa wb : Int64) (kd sp : Int32) : q_tw (addQ s t am pa pb wa wb kd sp) = va_up (q_tw s) (q_n s) 0 := rfl
theorem ad_pt (s : QS) (t : Nat) (am : Int64) (pa pb : Option Nat) (wa wb : Int64) (kd sp : Int32) : q_pt (addQ s t am pa pb wa wb kd sp) = va_up (q_pt s) (q_n s) (fun k => if k = 0 then pa else if k = 1 then pb else none) := rfl
theorem ad_wa (s : QS) (t : Nat) (am : Int64) (pa pb : Option Nat) (wa wb : Int64) (kd sp : Int32) : q_wa (addQ s t am pa pb wa wb kd sp) = va_up (q_wa s) (q_n s) wa := rfl
theorem ad_wb (s : QS) (t : Nat) (am : Int64) (pa pb : Option Nat) (wa wb : Int64) (kd sp : Int32) : q_wb (addQ s t am pa pb wa wb kd sp) = va_up (q_wb s) (q_n s) wb := rfl
theorem ad_kd (s : QS) (t : Nat) (am : Int64) (pa pb : Option Nat) (wa wb : Int64) (kd sp : Int32) : q_kd (addQ s t am pa pb wa wb kd sp) = va_up (q_kd s) (q_n s) kd := rfl
theorem ad_sp (s : QS) (t : Nat) (am : Int64) (pa pb : Option Nat) (wa wb : Int64) (kd sp : Int32) : q_sp (addQ s t am pa pb wa wb kd sp) = va_up (q_sp s) (q_n s) sp := rfl
theorem ad_ch (s : QS) (t : Nat) (am : Int64) (pa pb : Option Nat) (wa wb : Int64) (kd sp : Int32) : q_ch (addQ s t am pa pb wa wb kd sp) = va_up (q_ch s) (q_n s) 8 := rfl
theorem ad_us (s : QS) (t : Nat) (am : Int64) (pa pb : Option Nat) (wa wb : Int64) (kd sp : Int32) : q_us (addQ s t am pa pb wa wb kd sp) = va_up (q_us s) (q_n s) false := rfl
theorem ad_en (s : QS) (t : Nat) (am : Int64) (pa pb : Option Nat) (wa wb : Int64) (kd sp : Int32) : q_en (addQ s t am pa pb wa wb kd sp) = va_up (q_en s) (q_n s) 0 := rfl
theorem ad_sz (s : QS) (t : Nat) (am : Int64) (pa pb : Option Nat) (wa wb : Int64) (kd sp : Int32) : q_sz (addQ s t am pa pb wa wb kd sp) = va_up (q_sz s) (q_n s) 0 := rfl
theorem ad_n (s : QS) (t : Nat) (am : Int64) (pa pb : Option Nat) (wa wb : Int64) (kd sp : Int32) : q_n (addQ s t am pa pb wa wb kd sp) = q_n s + 1 := rfl
theorem inv_add {s : QS} (hi : inv s) (hn : q_n s < 16) {t : Nat} {am : Int64} {pa pb : Option Nat} {wa wb : Int64} {kd sp : Int32} (ht : t < 4) (hp0 : t = 0 → pa = none ∧ pb = none) (hp1 : t ≠ 0 → ∃ i j, pa = some i ∧ pb = some j ∧ i < q_n s ∧ j < q_n s) (ham : am.toInt.natAbs ≤ 102400000) (hwa : wa.toInt.natAbs ≤ 102400000) (hw1 : t = 1 → wa.toInt.natAbs ≤ 128 ∧ wb.toInt.natAbs ≤ 128) (hsp : t = 3 → ∃ N, 1 ≤ N ∧ N ≤ 20 ∧ sp = nI N) : inv (addQ s t am pa pb wa wb kd sp) := by
  obtain ⟨⟨a1, a2, a3, a4, a5⟩, b1, b2, b3, b4, b5, b6⟩ := hi
  have hpt : ∀ k x, (if k = 0 then pa else if k = 1 then pb else none) = some x → x < q_n s := by
    intro k x h
    by_cases ht0 : t = 0
    · obtain ⟨e1, e2⟩ := hp0 ht0
      rw [e1, e2] at h
      split at h
      · cases h
      · split at h <;> cases h
    · obtain ⟨i, j, e1, e2, g1, g2⟩ := hp1 ht0
      rw [e1, e2] at h
      split at h
      · cases h; exact g1
      · split at h
        · cases h; exact g2
        · cases h
  have edo : ∀ x y, x ≠ q_n s → (ed (addQ s t am pa pb wa wb kd sp) x y ↔ ed s x y) := fun x y hx => by unfold ed; rw [ad_pt, va_up_ne _ _ hx]
  have edn : ∀ y, ed (addQ s t am pa pb wa wb kd sp) (q_n s) y → y < q_n s := fun y ⟨k, _, e⟩ => by rw [ad_pt, va_up_self] at e; exact hpt k y e
  refine ⟨⟨?_, ?_, ?_, ?_, ?_⟩, ?_, ?_, ?_, ?_, ?_, ?_⟩
  · refine ⟨hn, fun j hj => ?_⟩
    rw [ad_n] at hj
    rw [ad_so, ad_pt, ad_en, ad_n]
    by_cases hjn : j = q_n s
    · subst hjn
      rw [va_up_self, va_up_self, va_up_self]
      refine ⟨ht, fun k hk h0 => ?_, fun h0 k => ?_, fun _ => ⟨rfl, rfl⟩, fun k x h => by have := hpt k x h; omega, by omega⟩
      · obtain ⟨i, j, e1, e2, g1, g2⟩ := hp1 h0
        have : k = 0 ∨ k = 1 := by omega
        rcases this with rfl | rfl
        · exact ⟨i, e1, by omega⟩
        · exact ⟨j, e2, by omega⟩
      · obtain ⟨e1, e2⟩ := hp0 h0
        rw [e1, e2]
        show (if k = 0 then none else if k = 1 then none else none) = none
        split
        · rfl
        · split <;> rfl
    · rw [va_up_ne _ _ hjn, va_up_ne _ _ hjn, va_up_ne _ _ hjn]
      obtain ⟨c1, c2, c3, c4, c5, c6⟩ := a1.2 j (by omega)
      exact ⟨c1, fun k hk h0 => by obtain ⟨x, h1, h2⟩ := c2 k hk h0; exact ⟨x, h1, by omega⟩, c3, c4, fun k x h => by have := c5 k x h; omega, c6⟩
  · intro j hj h3
    rw [ad_n] at hj; rw [ad_so] at h3
    unfold invO spN szN
    rw [ad_sp, ad_sz, ad_en]
    by_cases hjn : j = q_n s
    · subst hjn
      rw [va_up_self] at h3
      rw [va_up_self, va_up_self, va_up_self]
      obtain ⟨N, g1, g2, e⟩ := hsp h3
      rw [e, nI_clamp (by omega)]
      exact ⟨rfl, g1, g2, rfl, fun h => absurd h (by decide), fun h => absurd h (by decide)⟩
    · rw [va_up_ne _ _ hjn] at h3
      rw [va_up_ne _ _ hjn, va_up_ne _ _ hjn, va_up_ne _ _ hjn]
      exact a2 j (by omega) h3
  · intro x hx hl
    rw [ad_n] at hx
    have hcl : ∀ x y, x < q_n s → ed (addQ s t am pa pb wa wb kd sp) x y → y < q_n s ∧ ed s x y := fun x y h1 h2 => ⟨ed_lt a1 h1 ((edo x y (by omega)).mp h2), (edo x y (by omega)).mp h2⟩
    by_cases hxn : x = q_n s
    · subst hxn
      have := hl (fun y => y < q_n s) edn (fun x y _ h1 h2 => (hcl x y h1 h2).1)
      omega
    · have := hl (fun y => y < q_n s ∧ lst s x y) (fun y h => ⟨(hcl x y (by omega) h).1, lst.base (hcl x y (by omega) h).2⟩) (fun z y _ h1 h2 => ⟨(hcl z y h1.1 h2).1, h1.2.step h1.1 (hcl z y h1.1 h2).2⟩)
      exact a3 x (by omega) this.2
  · intro j hj
    rw [ad_n] at hj
    rw [ad_wa, ad_wb, ad_so, ad_ch]
    by_cases hjn : j = q_n s
    · subst hjn
      rw [va_up_self, va_up_self, va_up_self, va_up_self]
      exact ⟨hwa, hw1, fun _ => ⟨8, by decide, by decide, rfl⟩⟩
    · rw [va_up_ne _ _ hjn, va_up_ne _ _ hjn, va_up_ne _ _ hjn, va_up_ne _ _ hjn]; exact a4 j (by omega)
  · intro j hj
    rw [ad_n] at hj
    rw [ad_wa, ad_wb, ad_kd, ad_sp, ad_us, ad_en, ad_sz, va_up_ne _ _ (by omega), va_up_ne _ _ (by omega), va_up_ne _ _ (by omega), va_up_ne _ _ (by omega), va_up_ne _ _ (by omega), va_up_ne _ _ (by omega), va_up_ne _ _ (by omega)]
    exact a5 j (by omega)
  · intro j hj h
    rw [ad_n] at hj; rw [ad_fr] at h; rw [ad_va]
    by_cases hjn : j = q_n s
    · subst hjn; rw [va_up_self] at h; cases h
    · rw [va_up_ne _ _ hjn] at h ⊢; exact b1 j (by omega) h
  · intro j hj h
    rw [ad_n] at hj; rw [ad_mi] at h; rw [ad_fr]
    by_cases hjn : j = q_n s
    · subst hjn; rw [va_up_self] at h; cases h
    · rw [va_up_ne _ _ hjn] at h ⊢; exact b2 j (by omega) h
  · intro j hj h
    rw [ad_n] at hj; rw [ad_so] at h; rw [ad_va]
    by_cases hjn : j = q_n s
    · subst hjn; rw [va_up_self] at h ⊢; exact decide_eq_true h
    · rw [va_up_ne _ _ hjn] at h ⊢; exact b3 j (by omega) h
  · intro j hj
    rw [ad_n] at hj; rw [ad_am]
    by_cases hjn : j = q_n s
    · subst hjn; rw [va_up_self]; omega
    · rw [va_up_ne _ _ hjn]; exact b4 j (by omega)
  · intro j hj h
    rw [ad_n] at hj; rw [ad_so] at h; rw [ad_am]
    by_cases hjn : j = q_n s
    · subst hjn; rw [va_up_self]; exact ham
    · rw [va_up_ne _ _ hjn] at h ⊢; exact b5 j (by omega) h
  · intro j hj
    rw [ad_n] at hj
    rw [ad_am, ad_fr, ad_mi, ad_tw, va_up_ne _ _ (by omega), va_up_ne _ _ (by omega), va_up_ne _ _ (by omega), va_up_ne _ _ (by omega)]
    exact b6 j (by omega)
theorem inE_b {i : Int32} {k : Int} (h : ¬ inE i k = false) : -(8 * k) ≤ i.toInt ∧ i.toInt ≤ 8 * k := by
  rcases h2 : inE i k with _ | _
  · exact absurd h2 h
  · unfold inE at h2; rw [Bool.and_eq_true, decide_eq_true_eq, decide_eq_true_eq] at h2; exact h2
theorem e_128 {i : Int32} (h : ¬ inE i 100000 = false) : (128 * i.toInt64).toInt.natAbs ≤ 102400000 := by
  have h1 := inE_b h
  have h9 := Int32.toInt_toInt64 i
  rw [m128]; omega
theorem e_16 {i : Int32} (h : ¬ inE i 16 = false) : i.toInt64.toInt.natAbs ≤ 128 := by
  have h1 := inE_b h
  rw [Int32.toInt_toInt64]; omega
theorem inR_n {x a b : Int32} (h : ¬ inR x a b = false) (ha : 0 ≤ a.toInt) : ∃ N : Nat, x = nI N ∧ a.toInt ≤ N ∧ (N : Int) ≤ b.toInt := by
  unfold inR at h
  have h2 : ¬ x < a ∧ x ≤ b := by
    rcases h1 : decide (¬ x < a) with _ | _
    · rw [h1] at h; exact absurd rfl h
    · rcases h2 : decide (x ≤ b) with _ | _
      · rw [h1, h2] at h; exact absurd rfl h
      · exact ⟨of_decide_eq_true h1, of_decide_eq_true h2⟩
  have h3 : a.toInt ≤ x.toInt := by have := h2.1; rw [Int32.lt_iff_toInt_lt] at this; omega
  have h4 : x.toInt ≤ b.toInt := by have := h2.2; rw [Int32.le_iff_toInt_le] at this; exact this
  have h5 : ¬ x < 0 := fun h => by rw [Int32.lt_iff_toInt_lt] at h; have h : x.toInt < 0 := h; omega
  have hb : b.toInt < 2147483648 := Int32.toInt_lt b
  refine ⟨x.toInt.toNat, Int32.toInt_inj.mp ?_, by omega, by omega⟩
  rw [nI_toInt (by omega)]; omega
theorem room_inv {s s' : QS} (hi : inv s) (h : q_n s < 16 → inv s') : inv (room s s').2.2 := by
  unfold room; split
  · rename_i hn; exact h hn
  · exact hi
theorem inv_pQuote {s : QS} (hi : inv s) (i : Int32) : inv (pQuote s i).2.2 := by
  unfold pQuote; split
  · exact hi
  · rename_i h
    exact room_inv hi (fun hn => inv_add hi hn (by decide) (fun _ => ⟨rfl, rfl⟩) (fun h => absurd rfl h) (e_128 h) (by decide) (fun h => absurd h (by decide)) (fun h => absurd h (by decide)))
theorem inv_pBlend {s : QS} (hi : inv s) (a b x y : Int32) : inv (pBlend s a b x y).2.2 := by
  unfold pBlend
  refine wN_ind hi.1.1.1 hi (fun i hi' => ?_)
  refine wN_ind hi.1.1.1 hi (fun j hj => ?_)
  split
  · exact hi
  · rename_i h
    split
    · exact hi
    · rename_i h'
      exact room_inv hi (fun hn => inv_add hi hn (by decide) (fun h => absurd h (by decide)) (fun _ => ⟨i, j, rfl, rfl, hi', hj⟩) (by decide) (by have := e_16 h; omega) (fun _ => ⟨e_16 h, e_16 h'⟩) (fun h => absurd h (by decide)))
theorem inv_pGreater {s : QS} (hi : inv s) (a b : Int32) : inv (pGreater s a b).2.2 := by
  unfold pGreater
  refine wN_ind hi.1.1.1 hi (fun i hi' => ?_)
  refine wN_ind hi.1.1.1 hi (fun j hj => ?_)
  exact room_inv hi (fun hn => inv_add hi hn (by decide) (fun h => absurd h (by decide)) (fun _ => ⟨i, j, rfl, rfl, hi', hj⟩) (by decide) (by decide) (fun h => absurd h (by decide)) (fun h => absurd h (by decide)))
theorem inv_pOption {s : QS} (hi : inv s) (a b kd x sp : Int32) : inv (pOption s a b kd x sp).2.2 := by
  unfold pOption
  refine wN_ind hi.1.1.1 hi (fun i hi' => ?_)
  refine wN_ind hi.1.1.1 hi (fun j hj => ?_)
  split
  · exact hi
  · split
    · exact hi
    · rename_i h1
      split
      · exact hi
      · rename_i h2
        obtain ⟨N, e, g1, g2⟩ := inR_n h2 (by decide)
        have g1 : (1 : Int) ≤ N := g1
        have g2 : (N : Int) ≤ 20 := g2
        exact room_inv hi (fun hn => inv_add hi hn (by decide) (fun h => absurd h (by decide)) (fun _ => ⟨i, j, rfl, rfl, hi', hj⟩) (by decide) (e_128 h1) (fun h => absurd h (by decide)) (fun _ => ⟨N, by omega, by omega, e⟩))
theorem inv_q0 : inv q0 := by
  have hn : ∀ {P : Prop} {j : Nat}, j < q_n q0 → P := fun h => absurd h (Nat.not_lt_zero _)
  refine ⟨⟨⟨Nat.zero_le _, fun j hj => hn hj⟩, fun j hj => hn hj, fun j hj => hn hj, fun j hj => hn hj, fun j _ => ⟨rfl, rfl, rfl, rfl, rfl, rfl, rfl⟩⟩, fun j hj => hn hj, fun j hj => hn hj, fun j hj => hn hj, fun j hj => hn hj, fun j hj => hn hj, fun j _ => ⟨rfl, rfl, rfl, rfl⟩⟩

/-! 55.inv2: terms, engine, set, freeze keep what every state keeps to -/
theorem trm_am (s : QS) (j : Nat) (ra kn : Option Nat) (ch : Int32) (am : Bool) : q_am (trmQ s j ra ch am kn) = q_am s := by simp only [trmQ, ptQ, qS_us, qS_ch, qS_pt, q_am]
theorem trm_mi (s : QS) (j : Nat) (ra kn : Option Nat) (ch : Int32) (am : Bool) : q_mi (trmQ s j ra ch am kn) = q_mi s := by simp only [trmQ, ptQ, qS_us, qS_ch, qS_pt, q_mi]
theorem trm_tw (s : QS) (j : Nat) (ra kn : Option Nat) (ch : Int32) (am : Bool) : q_tw (trmQ s j ra ch am kn) = q_tw s := by simp only [trmQ, ptQ, qS_us, qS_ch, qS_pt, q_tw]
theorem trm_wa (s : QS) (j : Nat) (ra kn : Option Nat) (ch : Int32) (am : Bool) : q_wa (trmQ s j ra ch am kn) = q_wa s := by simp only [trmQ, ptQ, qS_us, qS_ch, qS_pt, q_wa]
theorem trm_wb (s : QS) (j : Nat) (ra kn : Option Nat) (ch : Int32) (am : Bool) : q_wb (trmQ s j ra ch am kn) = q_wb s := by simp only [trmQ, ptQ, qS_us, qS_ch, qS_pt, q_wb]
theorem trm_kd (s : QS) (j : Nat) (ra kn : Option Nat) (ch : Int32) (am : Bool) : q_kd (trmQ s j ra ch am kn) = q_kd s := by simp only [trmQ, ptQ, qS_us, qS_ch, qS_pt, q_kd]
theorem trm_sp (s : QS) (j : Nat) (ra kn : Option Nat) (ch : Int32) (am : Bool) : q_sp (trmQ s j ra ch am kn) = q_sp s := by simp only [trmQ, ptQ, qS_us, qS_ch, qS_pt, q_sp]
theorem trm_en (s : QS) (j : Nat) (ra kn : Option Nat) (ch : Int32) (am : Bool) : q_en (trmQ s j ra ch am kn) = q_en s := by simp only [trmQ, ptQ, qS_us, qS_ch, qS_pt, q_en]
theorem trm_sz (s : QS) (j : Nat) (ra kn : Option Nat) (ch : Int32) (am : Bool) : q_sz (trmQ s j ra ch am kn) = q_sz s := by simp only [trmQ, ptQ, qS_us, qS_ch, qS_pt, q_sz]
theorem trm_ch (s : QS) (j : Nat) (ra kn : Option Nat) (ch : Int32) (am : Bool) : q_ch (trmQ s j ra ch am kn) = va_up (q_ch s) j ch := by simp only [trmQ, ptQ, qS_us, qS_ch, qS_pt, q_ch]
theorem trm_us (s : QS) (j : Nat) (ra kn : Option Nat) (ch : Int32) (am : Bool) : q_us (trmQ s j ra ch am kn) = va_up (q_us s) j am := by simp only [trmQ, ptQ, qS_us, qS_ch, qS_pt, q_us]
theorem trm_pt (s : QS) (j : Nat) (ra kn : Option Nat) (ch : Int32) (am : Bool) : q_pt (trmQ s j ra ch am kn) = va_up (q_pt s) j (fun k => if k = 2 then ra else if k = 3 then kn else q_pt s j k) := by simp only [trmQ, ptQ, qS_us, qS_ch, qS_pt, q_pt]
theorem eng_am (s : QS) (j k : Nat) (sz : Int32) : q_am (engQ s j k sz) = q_am s := by simp only [engQ, qS_sz, qS_en, q_am]
theorem eng_mi (s : QS) (j k : Nat) (sz : Int32) : q_mi (engQ s j k sz) = q_mi s := by simp only [engQ, qS_sz, qS_en, q_mi]
theorem eng_tw (s : QS) (j k : Nat) (sz : Int32) : q_tw (engQ s j k sz) = q_tw s := by simp only [engQ, qS_sz, qS_en, q_tw]
theorem eng_wa (s : QS) (j k : Nat) (sz : Int32) : q_wa (engQ s j k sz) = q_wa s := by simp only [engQ, qS_sz, qS_en, q_wa]
theorem eng_wb (s : QS) (j k : Nat) (sz : Int32) : q_wb (engQ s j k sz) = q_wb s := by simp only [engQ, qS_sz, qS_en, q_wb]
theorem eng_kd (s : QS) (j k : Nat) (sz : Int32) : q_kd (engQ s j k sz) = q_kd s := by simp only [engQ, qS_sz, qS_en, q_kd]
theorem eng_sp (s : QS) (j k : Nat) (sz : Int32) : q_sp (engQ s j k sz) = q_sp s := by simp only [engQ, qS_sz, qS_en, q_sp]
theorem eng_ch (s : QS) (j k : Nat) (sz : Int32) : q_ch (engQ s j k sz) = q_ch s := by simp only [engQ, qS_sz, qS_en, q_ch]
theorem eng_us (s : QS) (j k : Nat) (sz : Int32) : q_us (engQ s j k sz) = q_us s := by simp only [engQ, qS_sz, qS_en, q_us]
theorem eng_sz (s : QS) (j k : Nat) (sz : Int32) : q_sz (engQ s j k sz) = va_up (q_sz s) j sz := by simp only [engQ, qS_sz, qS_en, q_sz]
theorem badP_x {s : QS} {j : Nat} {k : Int32} (h : badP s j k = false) (h16 : q_n s ≤ 16) : ∀ x, prt k = some x → x < q_n s ∧ x ≠ j ∧ usesC s x j = false := by
  intro x hx
  unfold badP at h
  by_cases h1 : k = -1
  · unfold prt at hx; rw [if_pos h1] at hx; cases hx
  · rw [decide_eq_true h1, Bool.true_and, Bool.or_eq_false_iff, Bool.or_eq_false_iff] at h
    unfold prt at hx; rw [if_neg h1] at hx
    cases hx
    refine ⟨(badP_pI (s := s) (j := j) (k := k) (by unfold badP; rw [decide_eq_true h1, Bool.true_and, h.1.1, h.1.2, h.2]; rfl) h16).2 (kN k) (by unfold prt; rw [if_neg h1]), of_decide_eq_false h.1.2, h.2⟩
theorem acy_trm {s : QS} (ho : okQ s) (ha : acy s) {j : Nat} (hj : j < q_n s) {ra kn : Option Nat} (hra : ∀ x, ra = some x → x < q_n s ∧ x ≠ j ∧ usesC s x j = false) (hkn : ∀ x, kn = some x → x < q_n s ∧ x ≠ j ∧ usesC s x j = false) {ch : Int32} {am : Bool} : acy (trmQ s j ra ch am kn) := by
  have hno : ∀ x, (ra = some x ∨ kn = some x) → x < q_n s ∧ x ≠ j ∧ ¬ lst s x j := by
    intro x h
    have h2 : x < q_n s ∧ x ≠ j ∧ usesC s x j = false := h.elim (hra x) (hkn x)
    exact ⟨h2.1, h2.2.1, fun g => by have := (usesC_lst ho h2.1 hj).mpr g; rw [h2.2.2] at this; cases this⟩
  have hed : ∀ x y, ed (trmQ s j ra ch am kn) x y → ed s x y ∨ (x = j ∧ (ra = some y ∨ kn = some y)) := by
    rintro x y ⟨k, hk, e⟩
    rw [trm_pt] at e
    by_cases hx : x = j
    · subst hx
      rw [va_up_self] at e
      by_cases h2 : k = 2
      · subst h2; exact Or.inr ⟨rfl, Or.inl e⟩
      · by_cases h3 : k = 3
        · subst h3; exact Or.inr ⟨rfl, Or.inr e⟩
        · rw [if_neg h2, if_neg h3] at e; exact Or.inl ⟨k, hk, e⟩
    · rw [va_up_ne _ _ hx] at e; exact Or.inl ⟨k, hk, e⟩
  intro x hx hl
  rw [trm_n] at hx
  have key := hl (fun y => y < q_n s ∧ (lst s x y ∨ ((x = j ∨ lst s x j) ∧ ∃ z, (ra = some z ∨ kn = some z) ∧ (y = z ∨ lst s z y))))
    (fun y h => by
      rcases hed x y h with g | ⟨g0, g⟩
      · exact ⟨ed_lt ho hx g, Or.inl (lst.base g)⟩
      · exact ⟨(hno y g).1, Or.inr ⟨Or.inl g0, y, g, Or.inl rfl⟩⟩)
    (fun a y ha' h1 h2 => by
      obtain ⟨g1, g2⟩ := h1
      rcases hed a y h2 with h | ⟨rfl, h⟩
      · refine ⟨ed_lt ho g1 h, ?_⟩
        rcases g2 with g2 | ⟨g2, z, g3, g4⟩
        · exact Or.inl (g2.step g1 h)
        · refine Or.inr ⟨g2, z, g3, Or.inr ?_⟩
          rcases g4 with g4 | g4
          · subst g4; exact lst.base h
          · exact g4.step g1 h
      · refine ⟨(hno y h).1, Or.inr ⟨?_, y, h, Or.inl rfl⟩⟩
        rcases g2 with g2 | ⟨g2, z, g3, g4⟩
        · exact Or.inr g2
        · rcases g4 with g4 | g4
          · exact absurd g4.symm (hno z g3).2.1
          · exact absurd g4 (hno z g3).2.2)
  obtain ⟨-, key⟩ := key
  rcases key with h | ⟨h1, z, h2, h3⟩
  · exact ha x hx h
  · obtain ⟨z1, z2, z3⟩ := hno z h2
    rcases h1 with h1 | h1
    · subst h1
      rcases h3 with h3 | h3
      · exact z2 h3.symm
      · exact z3 h3
    · rcases h3 with h3 | h3
      · subst h3; exact z3 h1
      · exact z3 (h3.trans hx h1)
theorem inv_trm {s : QS} (hi : inv s) {j : Nat} (hj : j < q_n s) (h3 : q_so s j = 3) {ra kn : Option Nat} (hra : ∀ x, ra = some x → x < q_n s ∧ x ≠ j ∧ usesC s x j = false) (hkn : ∀ x, kn = some x → x < q_n s ∧ x ≠ j ∧ usesC s x j = false) {ch : Int32} (hch : ∃ c, 1 ≤ c ∧ c ≤ 15 ∧ ch = nI c) {am : Bool} : inv (trmQ s j ra ch am kn) := by
  obtain ⟨⟨a1, a2, a3, a4, a5⟩, b1, b2, b3, b4, b5, b6⟩ := hi
  refine ⟨⟨trm_ok (ptQ_ok a1 h3 (fun x h => (hra x h).1) (fun x h => (hkn x h).1)), ?_, acy_trm a1 a3 hj hra hkn, ?_, ?_⟩, trm_fv b1, ?_, ?_, ?_, ?_, ?_⟩
  · intro i hi h
    rw [trm_n] at hi; rw [trm_so] at h
    unfold invO spN szN; rw [trm_sp, trm_sz, trm_en]; exact a2 i hi h
  · intro i hi
    rw [trm_n] at hi
    obtain ⟨c1, c2, c3⟩ := a4 i hi
    rw [trm_wa, trm_wb, trm_so, trm_ch]
    refine ⟨c1, c2, fun h => ?_⟩
    by_cases hij : i = j
    · subst hij; rw [va_up_self]; exact hch
    · rw [va_up_ne _ _ hij]; exact c3 h
  · intro i hi
    rw [trm_n] at hi
    rw [trm_wa, trm_wb, trm_kd, trm_sp, trm_us, trm_en, trm_sz, va_up_ne _ _ (by omega)]; exact a5 i hi
  · unfold mfz at b2 ⊢; rw [trm_n, trm_mi, trm_fr]; exact b2
  · unfold qv at b3 ⊢; rw [trm_n, trm_so, trm_va]; exact b3
  · unfold ba at b4 ⊢; rw [trm_n, trm_am]; exact b4
  · unfold bq at b5 ⊢; rw [trm_n, trm_so, trm_am]; exact b5
  · unfold zD at b6 ⊢; rw [trm_n, trm_am, trm_fr, trm_mi, trm_tw]; exact b6
theorem inv_eng {s : QS} (hi : inv s) {j k : Nat} (hj : j < q_n s) (hk : k < 3) {sz : Int32} {Z : Nat} (hZ : sz = nI Z) (hZ0 : Z < 100) (h1 : k = 1 → Z < 7) (h2 : k = 2 → 1 ≤ Z ∧ Z ≤ 20) : inv (engQ s j k sz) := by
  obtain ⟨⟨a1, a2, a3, a4, a5⟩, b1, b2, b3, b4, b5, b6⟩ := hi
  refine ⟨⟨eng_ok a1 hk, ?_, ?_, ?_, ?_⟩, eng_fv b1, ?_, ?_, ?_, ?_, ?_⟩
  · intro i hi h
    rw [eng_n] at hi; rw [eng_so] at h
    have h9 := a2 i hi h
    unfold invO spN szN at h9 ⊢
    rw [eng_sp, eng_sz, eng_en]
    by_cases hij : i = j
    · subst hij
      rw [va_up_self, va_up_self, hZ, nI_clamp (by omega)]
      exact ⟨h9.1, h9.2.1, h9.2.2.1, rfl, h1, h2⟩
    · rw [va_up_ne _ _ hij, va_up_ne _ _ hij]; exact h9
  · intro x hx; rw [eng_n] at hx; rw [lst_st (eng_pt s j k sz) (eng_n s j k sz)]; exact a3 x hx
  · unfold bw at a4 ⊢; rw [eng_n, eng_so, eng_wa, eng_wb, eng_ch]; exact a4
  · intro i hi
    rw [eng_n] at hi
    rw [eng_wa, eng_wb, eng_kd, eng_sp, eng_us, eng_en, eng_sz, va_up_ne _ _ (by omega), va_up_ne _ _ (by omega)]; exact a5 i hi
  · unfold mfz at b2 ⊢; rw [eng_n, eng_mi, eng_fr]; exact b2
  · unfold qv at b3 ⊢; rw [eng_n, eng_so, eng_va]; exact b3
  · unfold ba at b4 ⊢; rw [eng_n, eng_am]; exact b4
  · unfold bq at b5 ⊢; rw [eng_n, eng_so, eng_am]; exact b5
  · unfold zD at b6 ⊢; rw [eng_n, eng_am, eng_fr, eng_mi, eng_tw]; exact b6
theorem inv_pTerms {s : QS} (hi : inv s) (o ra ch : Int32) (am : Bool) (kn : Int32) : inv (pTerms s o ra ch am kn).2.2 := by
  unfold pTerms
  refine wN_ind hi.1.1.1 hi (fun j hj => ?_)
  split
  · exact hi
  · rename_i h3
    have h3 : q_so s j = 3 := Decidable.of_not_not h3
    split
    · exact hi
    · rename_i h1
      split
      · exact hi
      · rename_i h2
        split
        · exact hi
        · rename_i h4
          split
          · exact hi
          · obtain ⟨c, e, g1, g2⟩ := inR_n h4 (by decide)
            have g1 : (1 : Int) ≤ c := g1
            have g2 : (c : Int) ≤ 15 := g2
            have hb : ∀ k, ¬ badP s j k = true → badP s j k = false := fun k h => by rcases h9 : badP s j k with _ | _; rfl; exact absurd h9 h
            refine inv_tell (inv_trm hi hj h3 (badP_x (hb ra h1) hi.1.1.1) (badP_x (hb kn h2) hi.1.1.1) ⟨c, by omega, by omega, e⟩) ?_ ?_
            · rw [trm_n]; exact hj
            · rw [trm_so]; omega
theorem inv_pEngine {s : QS} (hi : inv s) (o g sz : Int32) : inv (pEngine s o g sz).2.2 := by
  unfold pEngine
  refine wN_ind hi.1.1.1 hi (fun j hj => ?_)
  split
  · exact hi
  · rename_i h3
    have h3 : q_so s j = 3 := Decidable.of_not_not h3
    split
    · exact hi
    · rename_i h1
      split
      · exact hi
      · rename_i h2
        split
        · exact hi
        · obtain ⟨k, ek, k1, k2⟩ := inR_n h1 (by decide)
          have k2 : (k : Int) ≤ 2 := k2
          have hk : k = 0 ∨ k = 1 ∨ k = 2 := by omega
          have hl : 0 ≤ (leastS g).toInt := by unfold leastS; split <;> decide
          obtain ⟨Z, ez, z1, z2⟩ := inR_n h2 hl
          rw [ek, kN_nI (by omega)]
          rw [ek] at z1 z2
          refine inv_tell (inv_eng hi hj (by omega) ez ?_ ?_ ?_) ?_ ?_
          · have : (mostS (nI k)).toInt ≤ 20 := by rcases hk with rfl | rfl | rfl <;> decide
            omega
          · rintro rfl
            have : (mostS (nI 1)).toInt = 6 := by decide
            omega
          · rintro rfl
            have h5 : (leastS (nI 2)).toInt = 1 := by decide
            have h6 : (mostS (nI 2)).toInt = 20 := by decide
            omega
          · rw [eng_n]; exact hj
          · rw [eng_so]; omega
theorem inv_am {s : QS} (hi : inv s) {j : Nat} (hj : j < q_n s) {v : Int64} (hv : v.toInt.natAbs ≤ 102400000) : inv (qS_am s (va_up (q_am s) j v)) := by
  obtain ⟨hA, b1, b2, b3, b4, b5, b6⟩ := hi
  have e : q_am (qS_am s (va_up (q_am s) j v)) = va_up (q_am s) j v := by simp only [qS_am, q_am]
  refine ⟨hA.st ⟨by simp only [qS_am, q_n], by simp only [qS_am, q_so], by simp only [qS_am, q_pt], by simp only [qS_am, q_wa], by simp only [qS_am, q_wb], by simp only [qS_am, q_kd], by simp only [qS_am, q_sp], by simp only [qS_am, q_ch], by simp only [qS_am, q_us], by simp only [qS_am, q_en], by simp only [qS_am, q_sz]⟩, b1, b2, b3, ?_, ?_, ?_⟩
  · intro i hi
    have hi : i < q_n s := hi
    rw [e]
    by_cases hij : i = j
    · subst hij; rw [va_up_self]; omega
    · rw [va_up_ne _ _ hij]; exact b4 i hi
  · intro i hi h
    have hi : i < q_n s := hi
    have h : q_so s i = 0 := h
    rw [e]
    by_cases hij : i = j
    · subst hij; rw [va_up_self]; exact hv
    · rw [va_up_ne _ _ hij]; exact b5 i hi h
  · intro i hi
    have hi : q_n s ≤ i := hi
    rw [e, va_up_ne _ _ (by omega)]; exact b6 i hi
theorem inv_pSet {s : QS} (hi : inv s) (k i : Int32) : inv (pSet s k i).2.2 := by
  unfold pSet
  refine wN_ind hi.1.1.1 hi (fun j hj => ?_)
  split
  · exact hi
  · split
    · exact hi
    · rename_i h
      split
      · exact hi
      · exact inv_tellU (s := qS_am s (va_up (q_am s) j (128 * i.toInt64))) (inv_am hi hj (e_128 h)) hj
theorem inv_fr {s : QS} (hi : inv s) {j : Nat} (hj : j < q_n s) {on : Bool} (hon : on = true → q_va s j = true) (hoff : on = false → q_mi s j = false) : inv (qS_fr s (va_up (q_fr s) j on)) := by
  obtain ⟨hA, b1, b2, b3, b4, b5, b6⟩ := hi
  have e : q_fr (qS_fr s (va_up (q_fr s) j on)) = va_up (q_fr s) j on := by simp only [qS_fr, q_fr]
  refine ⟨hA.st ⟨by simp only [qS_fr, q_n], by simp only [qS_fr, q_so], by simp only [qS_fr, q_pt], by simp only [qS_fr, q_wa], by simp only [qS_fr, q_wb], by simp only [qS_fr, q_kd], by simp only [qS_fr, q_sp], by simp only [qS_fr, q_ch], by simp only [qS_fr, q_us], by simp only [qS_fr, q_en], by simp only [qS_fr, q_sz]⟩, ?_, ?_, b3, b4, b5, ?_⟩
  · intro i hi h
    have hi : i < q_n s := hi
    show q_va s i = true
    rw [e] at h
    by_cases hij : i = j
    · subst hij; rw [va_up_self] at h; exact hon h
    · rw [va_up_ne _ _ hij] at h; exact b1 i hi h
  · intro i hi h
    have hi : i < q_n s := hi
    have g9 : q_mi s i = true := h
    rw [e]
    by_cases hij : i = j
    · rw [hij, va_up_self]
      rcases ho : on with _ | _
      · rw [hij, hoff ho] at g9; cases g9
      · rfl
    · rw [va_up_ne _ _ hij]; exact b2 i hi g9
  · intro i hi
    have hi : q_n s ≤ i := hi
    obtain ⟨c1, c2, c3, c4⟩ := b6 i hi
    rw [e, va_up_ne _ _ (by omega)]
    exact ⟨c1, c2, c3, c4⟩
theorem inv_mi {s : QS} (hi : inv s) {j : Nat} : inv (qS_mi s (va_up (q_mi s) j false)) := by
  obtain ⟨hA, b1, b2, b3, b4, b5, b6⟩ := hi
  have e : q_mi (qS_mi s (va_up (q_mi s) j false)) = va_up (q_mi s) j false := by simp only [qS_mi, q_mi]
  have hle : ∀ i, va_up (q_mi s) j false i = true → q_mi s i = true := fun i h => by
    by_cases hij : i = j
    · subst hij; rw [va_up_self] at h; cases h
    · rw [va_up_ne _ _ hij] at h; exact h
  refine ⟨hA.st ⟨by simp only [qS_mi, q_n], by simp only [qS_mi, q_so], by simp only [qS_mi, q_pt], by simp only [qS_mi, q_wa], by simp only [qS_mi, q_wb], by simp only [qS_mi, q_kd], by simp only [qS_mi, q_sp], by simp only [qS_mi, q_ch], by simp only [qS_mi, q_us], by simp only [qS_mi, q_en], by simp only [qS_mi, q_sz]⟩, b1, ?_, b3, b4, b5, ?_⟩
  · intro i hi h
    have hi : i < q_n s := hi
    rw [e] at h
    exact b2 i hi (hle i h)
  · intro i hi
    have hi : q_n s ≤ i := hi
    obtain ⟨c1, c2, c3, c4⟩ := b6 i hi
    refine ⟨c1, c2, ?_, c4⟩
    rw [e]
    rcases h : va_up (q_mi s) j false i with _ | _
    · rfl
    · rw [hle i h] at c3; cases c3
theorem fr_mi (s : QS) (f g : Nat → Bool) : qS_mi (qS_fr s f) g = qS_fr (qS_mi s g) f := by simp only [qS_mi, qS_fr]
theorem inv_pFreeze {s : QS} (hi : inv s) (k : Int32) (on : Bool) : inv (pFreeze s k on).2.2 := by
  unfold pFreeze
  refine wN_ind hi.1.1.1 hi (fun j hj => ?_)
  split
  · exact hi
  · rename_i h0
    split
    · split
      · rename_i hv; exact inv_fr hi hj (fun _ => hv) (fun h => by cases h)
      · exact hi
    · split
      · rename_i hm
        have h1 := inv_mi (j := j) hi
        have h2 : inv (qS_fr (qS_mi s (va_up (q_mi s) j false)) (va_up (q_fr (qS_mi s (va_up (q_mi s) j false))) j false)) := inv_fr h1 hj (fun h => by cases h) (fun _ => by rw [show q_mi (qS_mi s (va_up (q_mi s) j false)) = va_up (q_mi s) j false by simp only [qS_mi, q_mi], va_up_self])
        rw [show q_fr (qS_mi s (va_up (q_mi s) j false)) = q_fr s by simp only [qS_mi, q_fr], ← fr_mi] at h2
        exact inv_tell h2 hj h0
      · rename_i hm
        exact inv_fr hi hj (fun h => by cases h) (fun _ => by rcases h : q_mi s j with _ | _; rfl; exact absurd h hm)

/-! 45.mset: contracts of terms, engine, set, freeze -/
theorem inL1 {li : Nat → Int32} {j N : Nat} (hN : N ≤ 16) (hj : j < N) : LG (va_up li 0 (nI j)) 1 N ∧ ∀ z, z < N → (inL (va_up li 0 (nI j)) 1 z ↔ z = j) := by
  have h0 : LG li 0 N := ⟨fun i hi => absurd hi (by omega), fun i j hi => absurd hi (by omega)⟩
  have hn : ¬ inL li 0 j := fun ⟨i, hi, _⟩ => absurd hi (by omega)
  obtain ⟨h1, h2⟩ := h0.push hN hj hn
  exact ⟨h1, fun z hz => (h2 z hz).trans ⟨fun h => h.elim (fun ⟨i, hi, _⟩ => absurd hi (by omega)) id, Or.inr⟩⟩
theorem tell1 {s s' : QS} (ho : okQ s) {li : Nat → Int32} {j : Nat} (hj : j < q_n s) (h : Sp s (inL (va_up li 0 (nI j)) 1) s') : s' = tellF 17 s j := tell_eq ho hj (h.cg (inL1 ho.1 hj).2)
theorem badP_pI {s : QS} {j : Nat} {k : Int32} (h : badP s j k = false) (h16 : q_n s ≤ 16) : pI (prt k) = k ∧ ∀ x, prt k = some x → x < q_n s := by
  unfold badP at h
  by_cases h1 : k = -1
  · subst h1
    exact ⟨by unfold prt; rw [if_pos rfl]; rfl, fun x hx => by unfold prt at hx; rw [if_pos rfl] at hx; cases hx⟩
  · rw [decide_eq_true h1, Bool.true_and, Bool.or_eq_false_iff, Bool.or_eq_false_iff] at h
    have h2 : isN (q_n s) k = true := by rcases h9 : isN (q_n s) k with _ | _; (rw [h9] at h; exact absurd h.1.1 (by decide)); rfl
    obtain ⟨i, hi, rfl⟩ := isN_t h2 h16
    have e : prt (nI i) = some i := by unfold prt; rw [if_neg h1, kN_nI (by omega)]
    rw [e]
    exact ⟨rfl, fun x hx => by cases hx; exact hi⟩
theorem mpt_up {f : Nat → Int32} {g : Nat → Nat → Option Nat} {n : Nat} (h : ∀ i k, i < n → k < 4 → f (4 * i + k) = pI (g i k)) {j c : Nat} (hc : c < 4) {v : Int32} {q : Option Nat} (hv : pI q = v) : ∀ i k, i < n → k < 4 → va_up f (4 * j + c) v (4 * i + k) = pI (va_up g j (fun k => if k = c then q else g j k) i k) := by
  intro i k hi hk
  by_cases hij : i = j
  · subst hij
    rw [va_up_self]
    by_cases hkc : k = c
    · subst hkc; rw [va_up_self, if_pos rfl, hv]
    · rw [va_up_ne _ _ (by omega), if_neg hkc]; exact h i k hi hk
  · rw [va_up_ne _ _ hij, va_up_ne _ _ (by omega)]; exact h i k hi hk
def ptA (s : QS) (j c : Nat) (q : Option Nat) : QS := qS_pt s (va_up (q_pt s) j (fun k => if k = c then q else q_pt s j k))
theorem ptA_2 (s : QS) (j : Nat) (ra kn : Option Nat) : ptA (ptA s j 2 ra) j 3 kn = ptQ s j ra kn := by
  unfold ptA ptQ
  show qS_pt s (va_up (va_up (q_pt s) j _) j _) = _
  rw [va_up_up]
  congr 1
  congr 1
  funext k
  show (if k = 3 then kn else va_up (q_pt s) j _ j k) = _
  rw [va_up_self]
  by_cases h : k = 2
  · subst h; rfl
  · rw [if_neg h, if_neg h]
theorem trm_eq (s : QS) (j : Nat) (ra kn : Option Nat) (ch : Int32) (am : Bool) : qS_us (qS_ch (ptQ s j ra kn) (va_up (q_ch (ptQ s j ra kn)) j ch)) (va_up (q_us (qS_ch (ptQ s j ra kn) (va_up (q_ch (ptQ s j ra kn)) j ch))) j am) = trmQ s j ra ch am kn := by
  simp only [trmQ, ptQ, qS_us, qS_ch, qS_pt, q_ch, q_us]
theorem trm_n (s : QS) (j : Nat) (ra kn : Option Nat) (ch : Int32) (am : Bool) : q_n (trmQ s j ra ch am kn) = q_n s := by simp only [trmQ, ptQ, qS_us, qS_ch, qS_pt, q_n]
theorem trm_so (s : QS) (j : Nat) (ra kn : Option Nat) (ch : Int32) (am : Bool) : q_so (trmQ s j ra ch am kn) = q_so s := by simp only [trmQ, ptQ, qS_us, qS_ch, qS_pt, q_so]
theorem trm_va (s : QS) (j : Nat) (ra kn : Option Nat) (ch : Int32) (am : Bool) : q_va (trmQ s j ra ch am kn) = q_va s := by simp only [trmQ, ptQ, qS_us, qS_ch, qS_pt, q_va]
theorem trm_fr (s : QS) (j : Nat) (ra kn : Option Nat) (ch : Int32) (am : Bool) : q_fr (trmQ s j ra ch am kn) = q_fr s := by simp only [trmQ, ptQ, qS_us, qS_ch, qS_pt, q_fr]
theorem trm_ok {s : QS} {j : Nat} {ra kn : Option Nat} {ch : Int32} {am : Bool} (h : okQ (ptQ s j ra kn)) : okQ (trmQ s j ra ch am kn) := by
  have e1 : q_n (trmQ s j ra ch am kn) = q_n (ptQ s j ra kn) := by simp only [trmQ, qS_us, qS_ch, q_n]
  have e2 : q_so (trmQ s j ra ch am kn) = q_so (ptQ s j ra kn) := by simp only [trmQ, qS_us, qS_ch, q_so]
  have e3 : q_pt (trmQ s j ra ch am kn) = q_pt (ptQ s j ra kn) := by simp only [trmQ, qS_us, qS_ch, q_pt]
  have e4 : q_en (trmQ s j ra ch am kn) = q_en (ptQ s j ra kn) := by simp only [trmQ, qS_us, qS_ch, q_en]
  unfold okQ at h ⊢
  rw [e1, e2, e3, e4]; exact h
theorem trm_fv {s : QS} {j : Nat} {ra kn : Option Nat} {ch : Int32} {am : Bool} (h : fv s) : fv (trmQ s j ra ch am kn) := by
  unfold fv at h ⊢
  rw [trm_n, trm_va, trm_fr]; exact h
theorem eng_eq (s : QS) (j k : Nat) (sz : Int32) : qS_sz (qS_en s (va_up (q_en s) j k)) (va_up (q_sz (qS_en s (va_up (q_en s) j k))) j sz) = engQ s j k sz := by
  simp only [engQ, qS_sz, qS_en, q_en, q_sz]
theorem eng_n (s : QS) (j k : Nat) (sz : Int32) : q_n (engQ s j k sz) = q_n s := by simp only [engQ, qS_sz, qS_en, q_n]
theorem eng_so (s : QS) (j k : Nat) (sz : Int32) : q_so (engQ s j k sz) = q_so s := by simp only [engQ, qS_sz, qS_en, q_so]
theorem eng_pt (s : QS) (j k : Nat) (sz : Int32) : q_pt (engQ s j k sz) = q_pt s := by simp only [engQ, qS_sz, qS_en, q_pt]
theorem eng_va (s : QS) (j k : Nat) (sz : Int32) : q_va (engQ s j k sz) = q_va s := by simp only [engQ, qS_sz, qS_en, q_va]
theorem eng_fr (s : QS) (j k : Nat) (sz : Int32) : q_fr (engQ s j k sz) = q_fr s := by simp only [engQ, qS_sz, qS_en, q_fr]
theorem eng_en (s : QS) (j k : Nat) (sz : Int32) : q_en (engQ s j k sz) = va_up (q_en s) j k := by simp only [engQ, qS_sz, qS_en, q_en]
theorem eng_fv {s : QS} {j k : Nat} {sz : Int32} (h : fv s) : fv (engQ s j k sz) := by
  unfold fv at h ⊢
  rw [eng_n, eng_va, eng_fr]; exact h
theorem noO_t {s : QS} {k : Int32} (h : (isN (q_n s) k && decide (q_so s (kN k) = 3)) = true) (h16 : q_n s ≤ 16) : ∃ j, j < q_n s ∧ k = nI j ∧ q_so s j = 3 := by
  rw [Bool.and_eq_true, decide_eq_true_eq] at h
  obtain ⟨j, hj, rfl⟩ := isN_t h.1 h16
  rw [kN_nI (by omega)] at h
  exact ⟨j, hj, rfl, h.2⟩
theorem noO_f {α : Type} {s : QS} {k : Int32} (h : (isN (q_n s) k && decide (q_so s (kN k) = 3)) = false) (h16 : q_n s ≤ 16) {d : α} {f : Nat → Nat × α × QS} (hf : ∀ j, q_so s j ≠ 3 → f j = (1, d, s)) : wN s k d f = (1, d, s) := by
  unfold wN
  rcases h1 : isN (q_n s) k with _ | _
  · rfl
  · rw [h1, Bool.true_and, decide_eq_false_iff_not] at h
    exact hf _ h
set_option maxHeartbeats 4000000 in
set_option maxRecDepth 100000 in
theorem c_M_terms (l : Launch) (G : GT) (A : Nat → Prop) (lm : Nat → Nat) (s : QS) (m : MS) (u : WT) (hR : rM G lm s m u) (hok : okQ s) (hfv : fv s) (o ra ch : Int32) (am : Bool) (kn : Int32) : Kt l y_M_terms b_M_terms 6 none 2 50 0 0 0 0 0 0 G A u [.ref (lm 0), .int o, .int ra, .int ch, .int (bI am), .int kn] (KQ G A (Rv (fun u' => ∃ m', m_th m' = nI (pTerms s o ra ch am kn).1 ∧ rM G lm (pTerms s o ra ch am kn).2.2 m' u' ∧ fM lm u u'))) (NX) := by
  refine k_of (by decide) (Nat.le_of_ble_eq_true rfl) (fun p e st mt below meth c ls hx hb hr hlocks hml htab hname hown ht hw hl => ?_)
  have hl : lv_has ls 6 [(0, .ref (lm 0)), (1, .int o), (2, .int ra), (3, .int ch), (4, .int (bI am)), (5, .int kn)] := hl
  have hw : Mk G A lm s m u u st st.heap [] := ⟨hw, hR, fM.rf⟩
  refine lv_aload_n hx hb d_M_terms_0 rfl (lv_at hl 0 rfl) ?_
  refine lv_aload_n hx hb d_M_terms_1 rfl (lv_at hl 0 rfl) ?_
  refine lv_iload_n hx hb d_M_terms_2 rfl (lv_at hl 1 rfl) ?_
  refine kc_i (kr_V 1 (C := "QuoteGraphModel") (As := [.int o]) (rest := [.ref (lm 0)]) (c_M_noOption l G A lm s m u hR (fun j hj => (hok.2 j hj).1) o) hx hb hml hown ht hw.1 gw_936 gw_938 gw_26 gw_47 gw_939 ⟨⟨by decide, by decide⟩, by decide +kernel⟩ ⟨by first | decide | (dsimp only; omega), by first | decide | (dsimp only; omega)⟩ (kr_M hw) rfl hl.1 rfl (lv_room (Nat.le_of_ble_eq_true rfl)) d_M_terms_3 ⟨by first | decide | (dsimp only; omega), by first | decide | (dsimp only; omega)⟩) hw.1 (fun _ _ _ _ _ _ h => h.elim) (fun r1 u1 H1 locs1 hp1 hw1 => ?_)
  obtain ⟨er1, hq1⟩ := hp1
  replace hq1 := hq1.symm; subst hq1
  subst er1
  have hw : Mk G A lm s m u u st H1 locs1 := ⟨hw1, hw.2⟩
  refine lv_if_ne (tgt := 39) hx hb d_M_terms_6 (by decide) (fun c2 => ?_) (fun c2 => ?_)
  · have hN : (isN (q_n s) o && decide (q_so s (kN o) = 3)) = false := by have h := (bI_ne _).mp c2; rcases h2 : (isN (q_n s) o && decide (q_so s (kN o) = 3)) with _ | _; rfl; rw [h2] at h; cases h
    refine lv_iconst (v := 1) hx hb d_M_terms_39 (by decide) ?_
    refine lv_goto (tgt := 57) hx hb d_M_terms_40 (by decide) ?_
    refine mp_thrown (1 : Int32) hx hb ht hown hw gw_822 d_M_terms_57 (fun H3 locs3 u3 hw => ?_)
    refine lv_aload_n hx hb d_M_terms_60 rfl (lv_at hl 0 rfl) ?_
    refine mg 25 (by decide) hx hb ht hown hw gw_822 rfl rfl d_M_terms_61 ?_
    refine lv_if_eq (tgt := 68) hx hb d_M_terms_64 (by decide) (fun c9 => ?_) (fun c9 => ?_)
    · exact absurd (show (1 : Int32) = 0 from c9) (by decide)
    · exact kt_v hx hb hr hlocks hw.1 d_M_terms_67 (by unfold pTerms; rw [noO_f hN hR.2.2.2 (fun j hj => if_pos hj)]; exact ⟨_, rfl, hw.2.1, hw.2.2⟩) (by first | decide | (dsimp only; omega)) (by first | decide | (dsimp only; omega))
  · have hNj : (isN (q_n s) o && decide (q_so s (kN o) = 3)) = true := by have h := (bI_eq _).mp c2; rcases h2 : (isN (q_n s) o && decide (q_so s (kN o) = 3)) with _ | _; (rw [h2] at h; cases h); rfl
    obtain ⟨j, hj, rfl, h3j⟩ := noO_t hNj hR.2.2.2
    refine lv_aload_n hx hb d_M_terms_9 rfl (lv_at hl 0 rfl) ?_
    refine lv_iload_n hx hb d_M_terms_10 rfl (lv_at hl 1 rfl) ?_
    refine lv_iload_n hx hb d_M_terms_11 rfl (lv_at hl 2 rfl) ?_
    refine kc_i (kr_V 2 (C := "QuoteGraphModel") (As := [.int (nI j), .int ra]) (rest := [.ref (lm 0)]) (c_M_badPart l G A lm s m u hR hok j hj ra) hx hb hml hown ht hw.1 gw_940 gw_942 gw_27 gw_47 gw_943 ⟨⟨by decide, by decide⟩, by decide +kernel⟩ ⟨by first | decide | (dsimp only; omega), by first | decide | (dsimp only; omega)⟩ (kr_M hw) rfl hl.1 rfl (lv_room (Nat.le_of_ble_eq_true rfl)) d_M_terms_12 ⟨by first | decide | (dsimp only; omega), by first | decide | (dsimp only; omega)⟩) hw.1 (fun _ _ _ _ _ _ h => h.elim) (fun r4 u4 H4 locs4 hp4 hw4 => ?_)
    obtain ⟨er4, hq4⟩ := hp4
    replace hq4 := hq4.symm; subst hq4
    subst er4
    have hw : Mk G A lm s m u u st H4 locs4 := ⟨hw4, hw.2⟩
    refine lv_if_ne (tgt := 39) hx hb d_M_terms_15 (by decide) (fun c5 => ?_) (fun c5 => ?_)
    · have hBra : badP s j ra = true := (bI_ne _).mp c5
      refine lv_iconst (v := 1) hx hb d_M_terms_39 (by decide) ?_
      refine lv_goto (tgt := 57) hx hb d_M_terms_40 (by decide) ?_
      refine mp_thrown (1 : Int32) hx hb ht hown hw gw_822 d_M_terms_57 (fun H6 locs6 u6 hw => ?_)
      refine lv_aload_n hx hb d_M_terms_60 rfl (lv_at hl 0 rfl) ?_
      refine mg 25 (by decide) hx hb ht hown hw gw_822 rfl rfl d_M_terms_61 ?_
      refine lv_if_eq (tgt := 68) hx hb d_M_terms_64 (by decide) (fun c9 => ?_) (fun c9 => ?_)
      · exact absurd (show (1 : Int32) = 0 from c9) (by decide)
      · exact kt_v hx hb hr hlocks hw.1 d_M_terms_67 (by unfold pTerms; rw [wN_t hj hR.2.2.2, if_neg (fun h => h h3j), if_pos hBra]; exact ⟨_, rfl, hw.2.1, hw.2.2⟩) (by first | decide | (dsimp only; omega)) (by first | decide | (dsimp only; omega))
    · have hGra : badP s j ra = false := (bI_eq _).mp c5
      refine lv_iload_n hx hb d_M_terms_18 rfl (lv_at hl 3 rfl) ?_
      refine lv_iconst (v := 1) hx hb d_M_terms_19 (by decide) ?_
      refine lv_icmp_lt (tgt := 39) hx hb d_M_terms_20 (by decide) (fun c7 => ?_) (fun c7 => ?_)
      · have hch : inR ch 1 15 = false := inR_f (Or.inl c7)
        refine lv_iconst (v := 1) hx hb d_M_terms_39 (by decide) ?_
        refine lv_goto (tgt := 57) hx hb d_M_terms_40 (by decide) ?_
        refine mp_thrown (1 : Int32) hx hb ht hown hw gw_822 d_M_terms_57 (fun H8 locs8 u8 hw => ?_)
        refine lv_aload_n hx hb d_M_terms_60 rfl (lv_at hl 0 rfl) ?_
        refine mg 25 (by decide) hx hb ht hown hw gw_822 rfl rfl d_M_terms_61 ?_
        refine lv_if_eq (tgt := 68) hx hb d_M_terms_64 (by decide) (fun c9 => ?_) (fun c9 => ?_)
        · exact absurd (show (1 : Int32) = 0 from c9) (by decide)
        · exact kt_v hx hb hr hlocks hw.1 d_M_terms_67 (by unfold pTerms; rw [wN_t hj hR.2.2.2, if_neg (fun h => h h3j), if_neg (by rw [hGra]; decide), if_pos hch, ite_self]; exact ⟨_, rfl, hw.2.1, hw.2.2⟩) (by first | decide | (dsimp only; omega)) (by first | decide | (dsimp only; omega))
      · refine lv_iload_n hx hb d_M_terms_23 rfl (lv_at hl 3 rfl) ?_
        refine lv_bipush (v := 15) hx hb d_M_terms_24 (by decide) ?_
        refine lv_icmp_gt (tgt := 39) hx hb d_M_terms_26 (by decide) (fun c9 => ?_) (fun c9 => ?_)
        · have hch : inR ch 1 15 = false := inR_f (Or.inr (by first | exact c9 | exact i_nle.mp c9))
          refine lv_iconst (v := 1) hx hb d_M_terms_39 (by decide) ?_
          refine lv_goto (tgt := 57) hx hb d_M_terms_40 (by decide) ?_
          refine mp_thrown (1 : Int32) hx hb ht hown hw gw_822 d_M_terms_57 (fun H10 locs10 u10 hw => ?_)
          refine lv_aload_n hx hb d_M_terms_60 rfl (lv_at hl 0 rfl) ?_
          refine mg 25 (by decide) hx hb ht hown hw gw_822 rfl rfl d_M_terms_61 ?_
          refine lv_if_eq (tgt := 68) hx hb d_M_terms_64 (by decide) (fun c9 => ?_) (fun c9 => ?_)
          · exact absurd (show (1 : Int32) = 0 from c9) (by decide)
          · exact kt_v hx hb hr hlocks hw.1 d_M_terms_67 (by unfold pTerms; rw [wN_t hj hR.2.2.2, if_neg (fun h => h h3j), if_neg (by rw [hGra]; decide), if_pos hch, ite_self]; exact ⟨_, rfl, hw.2.1, hw.2.2⟩) (by first | decide | (dsimp only; omega)) (by first | decide | (dsimp only; omega))
        · have hch : inR ch 1 15 = true := inR_t (by first | exact c7 | exact i_nlt.mpr c7) (by first | exact c9 | exact i_nlt.mp c9)
          refine lv_aload_n hx hb d_M_terms_29 rfl (lv_at hl 0 rfl) ?_
          refine lv_iload_n hx hb d_M_terms_30 rfl (lv_at hl 1 rfl) ?_
          refine lv_iload hx hb d_M_terms_31 (lv_at hl 5 rfl) ?_
          refine kc_i (kr_V 2 (C := "QuoteGraphModel") (As := [.int (nI j), .int kn]) (rest := [.ref (lm 0)]) (c_M_badPart l G A lm s m u hR hok j hj kn) hx hb hml hown ht hw.1 gw_940 gw_942 gw_27 gw_47 gw_943 ⟨⟨by decide, by decide⟩, by decide +kernel⟩ ⟨by first | decide | (dsimp only; omega), by first | decide | (dsimp only; omega)⟩ (kr_M hw) rfl hl.1 rfl (lv_room (Nat.le_of_ble_eq_true rfl)) d_M_terms_33 ⟨by first | decide | (dsimp only; omega), by first | decide | (dsimp only; omega)⟩) hw.1 (fun _ _ _ _ _ _ h => h.elim) (fun r11 u11 H11 locs11 hp11 hw11 => ?_)
          obtain ⟨er11, hq11⟩ := hp11
          replace hq11 := hq11.symm; subst hq11
          subst er11
          have hw : Mk G A lm s m u u st H11 locs11 := ⟨hw11, hw.2⟩
          refine lv_if_eq (tgt := 43) hx hb d_M_terms_36 (by decide) (fun c12 => ?_) (fun c12 => ?_)
          · have hGkn : badP s j kn = false := (bI_eq _).mp c12
            refine lv_aload_n hx hb d_M_terms_43 rfl (lv_at hl 0 rfl) ?_
            refine mg 4 (by decide) hx hb ht hown hw gw_801 rfl rfl d_M_terms_44 ?_
            refine lv_iload_n hx hb d_M_terms_47 rfl (lv_at hl 1 rfl) ?_
            refine ma_frozen (j := j) rfl (by have := hR.2.2.2; omega) hx hb hw d_M_terms_48 ?_
            refine lv_if_eq (tgt := 56) hx hb d_M_terms_49 (by decide) (fun c13 => ?_) (fun c13 => ?_)
            · have hf0 : q_fr s j = false := (bI_eq _).mp c13
              refine lv_iconst (v := 0) hx hb d_M_terms_56 (by decide) ?_
              refine mp_thrown (0 : Int32) hx hb ht hown hw gw_822 d_M_terms_57 (fun H14 locs14 u14 hw => ?_)
              refine lv_aload_n hx hb d_M_terms_60 rfl (lv_at hl 0 rfl) ?_
              refine mg 25 (by decide) hx hb ht hown hw gw_822 rfl rfl d_M_terms_61 ?_
              refine lv_if_eq (tgt := 68) hx hb d_M_terms_64 (by decide) (fun c9 => ?_) (fun c9 => ?_)
              · obtain ⟨e2a, e2b⟩ := badP_pI hGra hR.2.2.2
                obtain ⟨e3a, e3b⟩ := badP_pI hGkn hR.2.2.2
                have hs0 : q_so (trmQ s j (prt ra) ch am (prt kn)) j ≠ 0 := by rw [trm_so]; omega
                have hok2 : okQ (trmQ s j (prt ra) ch am (prt kn)) := trm_ok (ptQ_ok hok h3j e2b e3b)
                refine lv_aload_n hx hb d_M_terms_68 rfl (lv_at hl 0 rfl) ?_
                refine mg 1 (by decide) hx hb ht hown hw gw_798 rfl rfl d_M_terms_69 ?_
                refine lv_iload_n hx hb d_M_terms_72 rfl (lv_at hl 1 rfl) ?_
                refine lv_iconst (v := 4) hx hb d_M_terms_73 (by decide) ?_
                refine lv_imul hx hb d_M_terms_74 ?_
                refine lv_iconst (v := 2) hx hb d_M_terms_75 (by decide) ?_
                refine lv_iadd hx hb d_M_terms_76 ?_
                refine lv_iload_n hx hb d_M_terms_77 rfl (lv_at hl 2 rfl) ?_
                refine mp_part (j := (4 * j + 2)) ra (s' := (ptA s j 2 (prt ra))) rfl (mpt_up hw.2.1.2.2.1 (by decide) e2a) (mul4 _ 2) (by have := hR.2.2.2; omega) hx hb hw d_M_terms_78 (fun H15 locs15 u15 hw => ?_)
                refine lv_aload_n hx hb d_M_terms_79 rfl (lv_at hl 0 rfl) ?_
                refine mg 1 (by decide) hx hb ht hown hw gw_798 rfl rfl d_M_terms_80 ?_
                refine lv_iload_n hx hb d_M_terms_83 rfl (lv_at hl 1 rfl) ?_
                refine lv_iconst (v := 4) hx hb d_M_terms_84 (by decide) ?_
                refine lv_imul hx hb d_M_terms_85 ?_
                refine lv_iconst (v := 3) hx hb d_M_terms_86 (by decide) ?_
                refine lv_iadd hx hb d_M_terms_87 ?_
                refine lv_iload hx hb d_M_terms_88 (lv_at hl 5 rfl) ?_
                refine mp_part (j := (4 * j + 3)) kn (s' := (ptA (ptA s j 2 (prt ra)) j 3 (prt kn))) rfl (mpt_up hw.2.1.2.2.1 (by decide) e3a) (mul4 _ 3) (by have := hR.2.2.2; omega) hx hb hw d_M_terms_90 (fun H16 locs16 u16 hw => ?_)
                rw [ptA_2] at hw
                refine lv_aload_n hx hb d_M_terms_91 rfl (lv_at hl 0 rfl) ?_
                refine mg 11 (by decide) hx hb ht hown hw gw_808 rfl rfl d_M_terms_92 ?_
                refine lv_iload_n hx hb d_M_terms_95 rfl (lv_at hl 1 rfl) ?_
                refine lv_iload_n hx hb d_M_terms_96 rfl (lv_at hl 3 rfl) ?_
                refine mp_chance (j := j) ch rfl (by have := hR.2.2.2; omega) hx hb hw d_M_terms_97 (fun H17 locs17 u17 hw => ?_)
                refine lv_aload_n hx hb d_M_terms_98 rfl (lv_at hl 0 rfl) ?_
                refine mg 12 (by decide) hx hb ht hown hw gw_809 rfl rfl d_M_terms_99 ?_
                refine lv_iload_n hx hb d_M_terms_102 rfl (lv_at hl 1 rfl) ?_
                refine lv_iload hx hb d_M_terms_103 (lv_at hl 4 rfl) ?_
                refine mp_american (j := j) am rfl (by have := hR.2.2.2; omega) hx hb hw d_M_terms_105 (fun H18 locs18 u18 hw => ?_)
                rw [trm_eq] at hw
                refine lv_aload_n hx hb d_M_terms_106 rfl (lv_at hl 0 rfl) ?_
                refine mg 15 (by decide) hx hb ht hown hw gw_812 rfl rfl d_M_terms_107 ?_
                refine lv_iconst (v := 0) hx hb d_M_terms_110 (by decide) ?_
                refine lv_iload_n hx hb d_M_terms_111 rfl (lv_at hl 1 rfl) ?_
                refine mp_list (j := 0) (nI j) rfl (by decide) hx hb hw d_M_terms_112 (fun H19 locs19 u19 hw => ?_)
                refine lv_aload_n hx hb d_M_terms_113 rfl (lv_at hl 0 rfl) ?_
                refine lv_iconst (v := 1) hx hb d_M_terms_114 (by decide) ?_
                refine kc_v (kr_V 1 (C := "QuoteGraphModel") (As := [.int (1 : Int32)]) (rest := []) (c_M_tell l G A lm (trmQ s j (prt ra) ch am (prt kn)) (mS_li (mS_pt (mS_pt (mS_th m (0 : Int32)) (va_up (m_pt (mS_th m (0 : Int32))) (4 * j + 2) ra)) (va_up (m_pt (mS_pt (mS_th m (0 : Int32)) (va_up (m_pt (mS_th m (0 : Int32))) (4 * j + 2) ra))) (4 * j + 3) kn)) (va_up (m_li (mS_pt (mS_pt (mS_th m (0 : Int32)) (va_up (m_pt (mS_th m (0 : Int32))) (4 * j + 2) ra)) (va_up (m_pt (mS_pt (mS_th m (0 : Int32)) (va_up (m_pt (mS_th m (0 : Int32))) (4 * j + 2) ra))) (4 * j + 3) kn))) 0 (nI j))) u19 hw.2.1 hok2 1 (by rw [trm_n]; exact (inL1 hR.2.2.2 hj).1) (fun y hy h => by rw [trm_n] at hy; have e := ((inL1 hR.2.2.2 hj).2 y hy).mp h; rw [e]; exact hs0) (trm_fv hfv)) hx hb hml hown ht hw.1 gw_948 gw_950 gw_29 gw_47 gw_951 ⟨⟨by decide, by decide⟩, by decide +kernel⟩ ⟨by first | decide | (dsimp only; omega), by first | decide | (dsimp only; omega)⟩ (kr_M hw) rfl hl.1 rfl (lv_room (Nat.le_of_ble_eq_true rfl)) d_M_terms_115 ⟨by first | decide | (dsimp only; omega), by first | decide | (dsimp only; omega)⟩) hw.1 (fun _ _ _ _ _ _ h => h.elim) (fun u20 H20 locs20 hp20 hw20 => ?_)
                obtain ⟨s8, li8, hS8, hr8, hf8⟩ := hp20
                have e8 := tell1 hok2 (by rw [trm_n]; exact hj) hS8
                subst e8
                have hw : Mk G A lm (tellF 17 (trmQ s j (prt ra) ch am (prt kn)) j) (mS_li (mS_li (mS_pt (mS_pt (mS_th m (0 : Int32)) (va_up (m_pt (mS_th m (0 : Int32))) (4 * j + 2) ra)) (va_up (m_pt (mS_pt (mS_th m (0 : Int32)) (va_up (m_pt (mS_th m (0 : Int32))) (4 * j + 2) ra))) (4 * j + 3) kn)) (va_up (m_li (mS_pt (mS_pt (mS_th m (0 : Int32)) (va_up (m_pt (mS_th m (0 : Int32))) (4 * j + 2) ra)) (va_up (m_pt (mS_pt (mS_th m (0 : Int32)) (va_up (m_pt (mS_th m (0 : Int32))) (4 * j + 2) ra))) (4 * j + 3) kn))) 0 (nI j))) li8) u u20 st H20 locs20 := ⟨hw20, hr8, hw.2.2.tr hf8⟩
                exact kt_v hx hb hr hlocks hw.1 d_M_terms_118 (by unfold pTerms; rw [wN_t hj hR.2.2.2, if_neg (fun h => h h3j), if_neg (by rw [hGra]; decide), if_neg (by rw [hGkn]; decide), if_neg (by rw [hch]; decide), if_neg (by rw [hf0]; decide)]; exact ⟨_, rfl, hw.2.1, hw.2.2⟩) (by first | decide | (dsimp only; omega)) (by first | decide | (dsimp only; omega))
              · exact absurd rfl c9
            · have hf0 : q_fr s j = true := (bI_ne _).mp c13
              refine lv_iconst (v := 2) hx hb d_M_terms_52 (by decide) ?_
              refine lv_goto (tgt := 57) hx hb d_M_terms_53 (by decide) ?_
              refine mp_thrown (2 : Int32) hx hb ht hown hw gw_822 d_M_terms_57 (fun H21 locs21 u21 hw => ?_)
              refine lv_aload_n hx hb d_M_terms_60 rfl (lv_at hl 0 rfl) ?_
              refine mg 25 (by decide) hx hb ht hown hw gw_822 rfl rfl d_M_terms_61 ?_
              refine lv_if_eq (tgt := 68) hx hb d_M_terms_64 (by decide) (fun c9 => ?_) (fun c9 => ?_)
              · exact absurd (show (2 : Int32) = 0 from c9) (by decide)
              · exact kt_v hx hb hr hlocks hw.1 d_M_terms_67 (by unfold pTerms; rw [wN_t hj hR.2.2.2, if_neg (fun h => h h3j), if_neg (by rw [hGra]; decide), if_neg (by rw [hGkn]; decide), if_neg (by rw [hch]; decide), if_pos hf0]; exact ⟨_, rfl, hw.2.1, hw.2.2⟩) (by first | decide | (dsimp only; omega)) (by first | decide | (dsimp only; omega))
          · have hBkn : badP s j kn = true := (bI_ne _).mp c12
            refine lv_iconst (v := 1) hx hb d_M_terms_39 (by decide) ?_
            refine lv_goto (tgt := 57) hx hb d_M_terms_40 (by decide) ?_
            refine mp_thrown (1 : Int32) hx hb ht hown hw gw_822 d_M_terms_57 (fun H22 locs22 u22 hw => ?_)
            refine lv_aload_n hx hb d_M_terms_60 rfl (lv_at hl 0 rfl) ?_
            refine mg 25 (by decide) hx hb ht hown hw gw_822 rfl rfl d_M_terms_61 ?_
            refine lv_if_eq (tgt := 68) hx hb d_M_terms_64 (by decide) (fun c9 => ?_) (fun c9 => ?_)
            · exact absurd (show (1 : Int32) = 0 from c9) (by decide)
            · exact kt_v hx hb hr hlocks hw.1 d_M_terms_67 (by unfold pTerms; rw [wN_t hj hR.2.2.2, if_neg (fun h => h h3j), if_neg (by rw [hGra]; decide), if_pos hBkn]; exact ⟨_, rfl, hw.2.1, hw.2.2⟩) (by first | decide | (dsimp only; omega)) (by first | decide | (dsimp only; omega))
def finE (e sz : Int32) : Bool := inR e 0 2 && inR sz (leastS e) (mostS e)
theorem finE_0 {sz : Int32} : finE 0 sz = decide (sz = 0) := by
  unfold finE
  rw [show inR 0 0 2 = true by decide, Bool.true_and, show leastS 0 = 0 by decide, show mostS 0 = 0 by decide]
  by_cases h : sz = 0
  · subst h; decide
  · rw [decide_eq_false h]
    refine inR_f ?_
    rcases Int.lt_or_gt_of_ne (a := sz.toInt) (b := 0) (fun e => h (Int32.toInt_inj.mp (e.trans (by decide)))) with h1 | h1
    · exact Or.inl (Int32.lt_iff_toInt_lt.mpr h1)
    · exact Or.inr (Int32.lt_iff_toInt_lt.mpr h1)
theorem finE_1 {sz : Int32} : finE 1 sz = inR sz 0 6 := by
  unfold finE
  rw [show inR 1 0 2 = true by decide, Bool.true_and, show leastS 1 = 0 by decide, show mostS 1 = 6 by decide]
theorem finE_2 {sz : Int32} : finE 2 sz = inR sz 1 20 := by
  unfold finE
  rw [show inR 2 0 2 = true by decide, Bool.true_and, show leastS 2 = 1 by decide, show mostS 2 = 20 by decide]
theorem finE_o {e sz : Int32} (h0 : ¬ e = 0) (h1 : ¬ e = 1) (h2 : ¬ e = 2) : finE e sz = false := by
  unfold finE
  rw [show inR e 0 2 = false from inR_f (by rcases sw_out3 h0 h1 h2 with h | h; exact Or.inl (Int32.lt_iff_toInt_lt.mpr h); exact Or.inr (Int32.lt_iff_toInt_lt.mpr h)), Bool.false_and]
theorem finE_if {α : Type} {e sz : Int32} (h : finE e sz = false) {a b : α} : (if inR e 0 2 = false then a else if inR sz (leastS e) (mostS e) = false then a else b) = a := by
  unfold finE at h; rw [Bool.and_eq_false_iff] at h
  rcases h with h | h
  · rw [if_pos h]
  · rw [if_pos h, ite_self]
theorem finE_t {e sz : Int32} (h : finE e sz = true) : ∃ k, k < 3 ∧ e = nI k := by
  by_cases h0 : e = 0
  · exact ⟨0, by omega, h0⟩
  · by_cases h1 : e = 1
    · exact ⟨1, by omega, h1⟩
    · by_cases h2 : e = 2
      · exact ⟨2, by omega, h2⟩
      · rw [finE_o h0 h1 h2] at h; cases h
theorem eng_ok {s : QS} (h : okQ s) {j k : Nat} {sz : Int32} (hk : k < 3) : okQ (engQ s j k sz) := by
  unfold okQ
  rw [eng_n, eng_so, eng_pt, eng_en]
  refine ⟨h.1, fun i hi => ?_⟩
  obtain ⟨b1, b2, b3, b4, b5, b6⟩ := h.2 i hi
  refine ⟨b1, b2, b3, b4, b5, ?_⟩
  by_cases hij : i = j
  · subst hij; rw [va_up_self]; exact hk
  · rw [va_up_ne _ _ hij]; exact b6
set_option maxHeartbeats 4000000 in
set_option maxRecDepth 100000 in
theorem c_M_engine (l : Launch) (G : GT) (A : Nat → Prop) (lm : Nat → Nat) (s : QS) (m : MS) (u : WT) (hR : rM G lm s m u) (hok : okQ s) (hfv : fv s) (o g0 sz : Int32) : Kt l y_M_engine b_M_engine 5 none 2 50 0 0 0 0 0 0 G A u [.ref (lm 0), .int o, .int g0, .int sz] (KQ G A (Rv (fun u' => ∃ m', m_th m' = nI (pEngine s o g0 sz).1 ∧ rM G lm (pEngine s o g0 sz).2.2 m' u' ∧ fM lm u u'))) (NX) := by
  refine k_of (by decide) (Nat.le_of_ble_eq_true rfl) (fun p e st mt below meth c ls hx hb hr hlocks hml htab hname hown ht hw hl => ?_)
  have hl : lv_has ls 5 [(0, .ref (lm 0)), (1, .int o), (2, .int g0), (3, .int sz)] := hl
  have hw : Mk G A lm s m u u st st.heap [] := ⟨hw, hR, fM.rf⟩
  refine lv_iload_n hx hb d_M_engine_0 rfl (lv_at hl 2 rfl) ?_
  refine lv_if_ne (tgt := 8) hx hb d_M_engine_1 (by decide) (fun c1 => ?_) (fun c1 => ?_)
  · refine lv_iload_n hx hb d_M_engine_8 rfl (lv_at hl 2 rfl) ?_
    refine lv_iconst (v := 1) hx hb d_M_engine_9 (by decide) ?_
    refine lv_icmp_ne (tgt := 23) hx hb d_M_engine_10 (by decide) (fun c2 => ?_) (fun c2 => ?_)
    · refine lv_iload_n hx hb d_M_engine_23 rfl (lv_at hl 2 rfl) ?_
      refine lv_iconst (v := 2) hx hb d_M_engine_24 (by decide) ?_
      refine lv_icmp_ne (tgt := 43) hx hb d_M_engine_25 (by decide) (fun c3 => ?_) (fun c3 => ?_)
      · refine lv_iconst (v := 0) hx hb d_M_engine_43 (by decide) ?_
        have hfn : finE g0 sz = false := finE_o c1 c2 c3
        refine lv_istore (lv' := [(4, .int (0 : Int32)), (0, .ref (lm 0)), (1, .int o), (2, .int g0), (3, .int sz)]) hx hb d_M_engine_44 hl (by decide) rfl (fun ls hl => ?_)
        refine lv_aload_n hx hb d_M_engine_46 rfl (lv_at hl 1 rfl) ?_
        refine lv_aload_n hx hb d_M_engine_47 rfl (lv_at hl 1 rfl) ?_
        refine lv_iload_n hx hb d_M_engine_48 rfl (lv_at hl 2 rfl) ?_
        refine kc_i (kr_V 1 (C := "QuoteGraphModel") (As := [.int o]) (rest := [.ref (lm 0)]) (c_M_noOption l G A lm s m u hR (fun j hj => (hok.2 j hj).1) o) hx hb hml hown ht hw.1 gw_936 gw_938 gw_26 gw_47 gw_939 ⟨⟨by decide, by decide⟩, by decide +kernel⟩ ⟨by first | decide | (dsimp only; omega), by first | decide | (dsimp only; omega)⟩ (kr_M hw) rfl hl.1 rfl (lv_room (Nat.le_of_ble_eq_true rfl)) d_M_engine_49 ⟨by first | decide | (dsimp only; omega), by first | decide | (dsimp only; omega)⟩) hw.1 (fun _ _ _ _ _ _ h => h.elim) (fun r4 u4 H4 locs4 hp4 hw4 => ?_)
        obtain ⟨er4, hq4⟩ := hp4
        replace hq4 := hq4.symm; subst hq4
        subst er4
        have hw : Mk G A lm s m u u st H4 locs4 := ⟨hw4, hw.2⟩
        refine lv_if_ne (tgt := 60) hx hb d_M_engine_52 (by decide) (fun c5 => ?_) (fun c5 => ?_)
        · have hN : (isN (q_n s) o && decide (q_so s (kN o) = 3)) = false := by have h := (bI_ne _).mp c5; rcases h2 : (isN (q_n s) o && decide (q_so s (kN o) = 3)) with _ | _; rfl; rw [h2] at h; cases h
          refine lv_iconst (v := 1) hx hb d_M_engine_60 (by decide) ?_
          refine lv_goto (tgt := 78) hx hb d_M_engine_61 (by decide) ?_
          refine mp_thrown (1 : Int32) hx hb ht hown hw gw_822 d_M_engine_78 (fun H6 locs6 u6 hw => ?_)
          refine lv_aload_n hx hb d_M_engine_81 rfl (lv_at hl 1 rfl) ?_
          refine mg 25 (by decide) hx hb ht hown hw gw_822 rfl rfl d_M_engine_82 ?_
          refine lv_if_eq (tgt := 89) hx hb d_M_engine_85 (by decide) (fun c9 => ?_) (fun c9 => ?_)
          · exact absurd (show (1 : Int32) = 0 from c9) (by decide)
          · exact kt_v hx hb hr hlocks hw.1 d_M_engine_88 (by unfold pEngine; rw [noO_f hN hR.2.2.2 (fun j hj => if_pos hj)]; exact ⟨_, rfl, hw.2.1, hw.2.2⟩) (by first | decide | (dsimp only; omega)) (by first | decide | (dsimp only; omega))
        · have hNj : (isN (q_n s) o && decide (q_so s (kN o) = 3)) = true := by have h := (bI_eq _).mp c5; rcases h2 : (isN (q_n s) o && decide (q_so s (kN o) = 3)) with _ | _; (rw [h2] at h; cases h); rfl
          obtain ⟨j, hj, rfl, h3j⟩ := noO_t hNj hR.2.2.2
          refine lv_iload hx hb d_M_engine_55 (lv_at hl 0 rfl) ?_
          refine lv_if_ne (tgt := 64) hx hb d_M_engine_57 (by decide) (fun c7 => ?_) (fun c7 => ?_)
          · exact absurd rfl c7
          · refine lv_iconst (v := 1) hx hb d_M_engine_60 (by decide) ?_
            refine lv_goto (tgt := 78) hx hb d_M_engine_61 (by decide) ?_
            refine mp_thrown (1 : Int32) hx hb ht hown hw gw_822 d_M_engine_78 (fun H8 locs8 u8 hw => ?_)
            refine lv_aload_n hx hb d_M_engine_81 rfl (lv_at hl 1 rfl) ?_
            refine mg 25 (by decide) hx hb ht hown hw gw_822 rfl rfl d_M_engine_82 ?_
            refine lv_if_eq (tgt := 89) hx hb d_M_engine_85 (by decide) (fun c9 => ?_) (fun c9 => ?_)
            · exact absurd (show (1 : Int32) = 0 from c9) (by decide)
            · exact kt_v hx hb hr hlocks hw.1 d_M_engine_88 (by unfold pEngine; rw [wN_t hj hR.2.2.2, if_neg (fun h => h h3j), finE_if hfn]; exact ⟨_, rfl, hw.2.1, hw.2.2⟩) (by first | decide | (dsimp only; omega)) (by first | decide | (dsimp only; omega))
      · refine lv_iload_n hx hb d_M_engine_28 rfl (lv_at hl 3 rfl) ?_
        refine lv_iconst (v := 1) hx hb d_M_engine_29 (by decide) ?_
        refine lv_icmp_lt (tgt := 43) hx hb d_M_engine_30 (by decide) (fun c9 => ?_) (fun c9 => ?_)
        · refine lv_iconst (v := 0) hx hb d_M_engine_43 (by decide) ?_
          have hfn : finE g0 sz = false := by rw [show g0 = 2 from c3, finE_2]; exact inR_f (Or.inl c9)
          refine lv_istore (lv' := [(4, .int (0 : Int32)), (0, .ref (lm 0)), (1, .int o), (2, .int g0), (3, .int sz)]) hx hb d_M_engine_44 hl (by decide) rfl (fun ls hl => ?_)
          refine lv_aload_n hx hb d_M_engine_46 rfl (lv_at hl 1 rfl) ?_
          refine lv_aload_n hx hb d_M_engine_47 rfl (lv_at hl 1 rfl) ?_
          refine lv_iload_n hx hb d_M_engine_48 rfl (lv_at hl 2 rfl) ?_
          refine kc_i (kr_V 1 (C := "QuoteGraphModel") (As := [.int o]) (rest := [.ref (lm 0)]) (c_M_noOption l G A lm s m u hR (fun j hj => (hok.2 j hj).1) o) hx hb hml hown ht hw.1 gw_936 gw_938 gw_26 gw_47 gw_939 ⟨⟨by decide, by decide⟩, by decide +kernel⟩ ⟨by first | decide | (dsimp only; omega), by first | decide | (dsimp only; omega)⟩ (kr_M hw) rfl hl.1 rfl (lv_room (Nat.le_of_ble_eq_true rfl)) d_M_engine_49 ⟨by first | decide | (dsimp only; omega), by first | decide | (dsimp only; omega)⟩) hw.1 (fun _ _ _ _ _ _ h => h.elim) (fun r10 u10 H10 locs10 hp10 hw10 => ?_)
          obtain ⟨er10, hq10⟩ := hp10
          replace hq10 := hq10.symm; subst hq10
          subst er10
          have hw : Mk G A lm s m u u st H10 locs10 := ⟨hw10, hw.2⟩
          refine lv_if_ne (tgt := 60) hx hb d_M_engine_52 (by decide) (fun c11 => ?_) (fun c11 => ?_)
          · have hN : (isN (q_n s) o && decide (q_so s (kN o) = 3)) = false := by have h := (bI_ne _).mp c11; rcases h2 : (isN (q_n s) o && decide (q_so s (kN o) = 3)) with _ | _; rfl; rw [h2] at h; cases h
            refine lv_iconst (v := 1) hx hb d_M_engine_60 (by decide) ?_
            refine lv_goto (tgt := 78) hx hb d_M_engine_61 (by decide) ?_
            refine mp_thrown (1 : Int32) hx hb ht hown hw gw_822 d_M_engine_78 (fun H12 locs12 u12 hw => ?_)
            refine lv_aload_n hx hb d_M_engine_81 rfl (lv_at hl 1 rfl) ?_
            refine mg 25 (by decide) hx hb ht hown hw gw_822 rfl rfl d_M_engine_82 ?_
            refine lv_if_eq (tgt := 89) hx hb d_M_engine_85 (by decide) (fun c9 => ?_) (fun c9 => ?_)
            · exact absurd (show (1 : Int32) = 0 from c9) (by decide)
            · exact kt_v hx hb hr hlocks hw.1 d_M_engine_88 (by unfold pEngine; rw [noO_f hN hR.2.2.2 (fun j hj => if_pos hj)]; exact ⟨_, rfl, hw.2.1, hw.2.2⟩) (by first | decide | (dsimp only; omega)) (by first | decide | (dsimp only; omega))
          · have hNj : (isN (q_n s) o && decide (q_so s (kN o) = 3)) = true := by have h := (bI_eq _).mp c11; rcases h2 : (isN (q_n s) o && decide (q_so s (kN o) = 3)) with _ | _; (rw [h2] at h; cases h); rfl
            obtain ⟨j, hj, rfl, h3j⟩ := noO_t hNj hR.2.2.2
            refine lv_iload hx hb d_M_engine_55 (lv_at hl 0 rfl) ?_
            refine lv_if_ne (tgt := 64) hx hb d_M_engine_57 (by decide) (fun c13 => ?_) (fun c13 => ?_)
            · exact absurd rfl c13
            · refine lv_iconst (v := 1) hx hb d_M_engine_60 (by decide) ?_
              refine lv_goto (tgt := 78) hx hb d_M_engine_61 (by decide) ?_
              refine mp_thrown (1 : Int32) hx hb ht hown hw gw_822 d_M_engine_78 (fun H14 locs14 u14 hw => ?_)
              refine lv_aload_n hx hb d_M_engine_81 rfl (lv_at hl 1 rfl) ?_
              refine mg 25 (by decide) hx hb ht hown hw gw_822 rfl rfl d_M_engine_82 ?_
              refine lv_if_eq (tgt := 89) hx hb d_M_engine_85 (by decide) (fun c9 => ?_) (fun c9 => ?_)
              · exact absurd (show (1 : Int32) = 0 from c9) (by decide)
              · exact kt_v hx hb hr hlocks hw.1 d_M_engine_88 (by unfold pEngine; rw [wN_t hj hR.2.2.2, if_neg (fun h => h h3j), finE_if hfn]; exact ⟨_, rfl, hw.2.1, hw.2.2⟩) (by first | decide | (dsimp only; omega)) (by first | decide | (dsimp only; omega))
        · refine lv_iload_n hx hb d_M_engine_33 rfl (lv_at hl 3 rfl) ?_
          refine lv_bipush (v := 20) hx hb d_M_engine_34 (by decide) ?_
          refine lv_icmp_gt (tgt := 43) hx hb d_M_engine_36 (by decide) (fun c15 => ?_) (fun c15 => ?_)
          · refine lv_iconst (v := 0) hx hb d_M_engine_43 (by decide) ?_
            have hfn : finE g0 sz = false := by rw [show g0 = 2 from c3, finE_2]; exact inR_f (Or.inr (by first | exact c15 | exact i_nle.mp c15))
            refine lv_istore (lv' := [(4, .int (0 : Int32)), (0, .ref (lm 0)), (1, .int o), (2, .int g0), (3, .int sz)]) hx hb d_M_engine_44 hl (by decide) rfl (fun ls hl => ?_)
            refine lv_aload_n hx hb d_M_engine_46 rfl (lv_at hl 1 rfl) ?_
            refine lv_aload_n hx hb d_M_engine_47 rfl (lv_at hl 1 rfl) ?_
            refine lv_iload_n hx hb d_M_engine_48 rfl (lv_at hl 2 rfl) ?_
            refine kc_i (kr_V 1 (C := "QuoteGraphModel") (As := [.int o]) (rest := [.ref (lm 0)]) (c_M_noOption l G A lm s m u hR (fun j hj => (hok.2 j hj).1) o) hx hb hml hown ht hw.1 gw_936 gw_938 gw_26 gw_47 gw_939 ⟨⟨by decide, by decide⟩, by decide +kernel⟩ ⟨by first | decide | (dsimp only; omega), by first | decide | (dsimp only; omega)⟩ (kr_M hw) rfl hl.1 rfl (lv_room (Nat.le_of_ble_eq_true rfl)) d_M_engine_49 ⟨by first | decide | (dsimp only; omega), by first | decide | (dsimp only; omega)⟩) hw.1 (fun _ _ _ _ _ _ h => h.elim) (fun r16 u16 H16 locs16 hp16 hw16 => ?_)
            obtain ⟨er16, hq16⟩ := hp16
            replace hq16 := hq16.symm; subst hq16
            subst er16
            have hw : Mk G A lm s m u u st H16 locs16 := ⟨hw16, hw.2⟩
            refine lv_if_ne (tgt := 60) hx hb d_M_engine_52 (by decide) (fun c17 => ?_) (fun c17 => ?_)
            · have hN : (isN (q_n s) o && decide (q_so s (kN o) = 3)) = false := by have h := (bI_ne _).mp c17; rcases h2 : (isN (q_n s) o && decide (q_so s (kN o) = 3)) with _ | _; rfl; rw [h2] at h; cases h
              refine lv_iconst (v := 1) hx hb d_M_engine_60 (by decide) ?_
              refine lv_goto (tgt := 78) hx hb d_M_engine_61 (by decide) ?_
              refine mp_thrown (1 : Int32) hx hb ht hown hw gw_822 d_M_engine_78 (fun H18 locs18 u18 hw => ?_)
              refine lv_aload_n hx hb d_M_engine_81 rfl (lv_at hl 1 rfl) ?_
              refine mg 25 (by decide) hx hb ht hown hw gw_822 rfl rfl d_M_engine_82 ?_
              refine lv_if_eq (tgt := 89) hx hb d_M_engine_85 (by decide) (fun c9 => ?_) (fun c9 => ?_)
              · exact absurd (show (1 : Int32) = 0 from c9) (by decide)
              · exact kt_v hx hb hr hlocks hw.1 d_M_engine_88 (by unfold pEngine; rw [noO_f hN hR.2.2.2 (fun j hj => if_pos hj)]; exact ⟨_, rfl, hw.2.1, hw.2.2⟩) (by first | decide | (dsimp only; omega)) (by first | decide | (dsimp only; omega))
            · have hNj : (isN (q_n s) o && decide (q_so s (kN o) = 3)) = true := by have h := (bI_eq _).mp c17; rcases h2 : (isN (q_n s) o && decide (q_so s (kN o) = 3)) with _ | _; (rw [h2] at h; cases h); rfl
              obtain ⟨j, hj, rfl, h3j⟩ := noO_t hNj hR.2.2.2
              refine lv_iload hx hb d_M_engine_55 (lv_at hl 0 rfl) ?_
              refine lv_if_ne (tgt := 64) hx hb d_M_engine_57 (by decide) (fun c19 => ?_) (fun c19 => ?_)
              · exact absurd rfl c19
              · refine lv_iconst (v := 1) hx hb d_M_engine_60 (by decide) ?_
                refine lv_goto (tgt := 78) hx hb d_M_engine_61 (by decide) ?_
                refine mp_thrown (1 : Int32) hx hb ht hown hw gw_822 d_M_engine_78 (fun H20 locs20 u20 hw => ?_)
                refine lv_aload_n hx hb d_M_engine_81 rfl (lv_at hl 1 rfl) ?_
                refine mg 25 (by decide) hx hb ht hown hw gw_822 rfl rfl d_M_engine_82 ?_
                refine lv_if_eq (tgt := 89) hx hb d_M_engine_85 (by decide) (fun c9 => ?_) (fun c9 => ?_)
                · exact absurd (show (1 : Int32) = 0 from c9) (by decide)
                · exact kt_v hx hb hr hlocks hw.1 d_M_engine_88 (by unfold pEngine; rw [wN_t hj hR.2.2.2, if_neg (fun h => h h3j), finE_if hfn]; exact ⟨_, rfl, hw.2.1, hw.2.2⟩) (by first | decide | (dsimp only; omega)) (by first | decide | (dsimp only; omega))
          · refine lv_iconst (v := 1) hx hb d_M_engine_39 (by decide) ?_
            refine lv_goto (tgt := 44) hx hb d_M_engine_40 (by decide) ?_
            have hfn : finE g0 sz = true := by rw [show g0 = 2 from c3, finE_2]; exact inR_t (by first | exact c9 | exact i_nlt.mpr c9) (by first | exact c15 | exact i_nlt.mp c15)
            refine lv_istore (lv' := [(4, .int (1 : Int32)), (0, .ref (lm 0)), (1, .int o), (2, .int g0), (3, .int sz)]) hx hb d_M_engine_44 hl (by decide) rfl (fun ls hl => ?_)
            refine lv_aload_n hx hb d_M_engine_46 rfl (lv_at hl 1 rfl) ?_
            refine lv_aload_n hx hb d_M_engine_47 rfl (lv_at hl 1 rfl) ?_
            refine lv_iload_n hx hb d_M_engine_48 rfl (lv_at hl 2 rfl) ?_
            refine kc_i (kr_V 1 (C := "QuoteGraphModel") (As := [.int o]) (rest := [.ref (lm 0)]) (c_M_noOption l G A lm s m u hR (fun j hj => (hok.2 j hj).1) o) hx hb hml hown ht hw.1 gw_936 gw_938 gw_26 gw_47 gw_939 ⟨⟨by decide, by decide⟩, by decide +kernel⟩ ⟨by first | decide | (dsimp only; omega), by first | decide | (dsimp only; omega)⟩ (kr_M hw) rfl hl.1 rfl (lv_room (Nat.le_of_ble_eq_true rfl)) d_M_engine_49 ⟨by first | decide | (dsimp only; omega), by first | decide | (dsimp only; omega)⟩) hw.1 (fun _ _ _ _ _ _ h => h.elim) (fun r21 u21 H21 locs21 hp21 hw21 => ?_)
            obtain ⟨er21, hq21⟩ := hp21
            replace hq21 := hq21.symm; subst hq21
            subst er21
            have hw : Mk G A lm s m u u st H21 locs21 := ⟨hw21, hw.2⟩
            refine lv_if_ne (tgt := 60) hx hb d_M_engine_52 (by decide) (fun c22 => ?_) (fun c22 => ?_)
            · have hN : (isN (q_n s) o && decide (q_so s (kN o) = 3)) = false := by have h := (bI_ne _).mp c22; rcases h2 : (isN (q_n s) o && decide (q_so s (kN o) = 3)) with _ | _; rfl; rw [h2] at h; cases h
              refine lv_iconst (v := 1) hx hb d_M_engine_60 (by decide) ?_
              refine lv_goto (tgt := 78) hx hb d_M_engine_61 (by decide) ?_
              refine mp_thrown (1 : Int32) hx hb ht hown hw gw_822 d_M_engine_78 (fun H23 locs23 u23 hw => ?_)
              refine lv_aload_n hx hb d_M_engine_81 rfl (lv_at hl 1 rfl) ?_
              refine mg 25 (by decide) hx hb ht hown hw gw_822 rfl rfl d_M_engine_82 ?_
              refine lv_if_eq (tgt := 89) hx hb d_M_engine_85 (by decide) (fun c9 => ?_) (fun c9 => ?_)
              · exact absurd (show (1 : Int32) = 0 from c9) (by decide)
              · exact kt_v hx hb hr hlocks hw.1 d_M_engine_88 (by unfold pEngine; rw [noO_f hN hR.2.2.2 (fun j hj => if_pos hj)]; exact ⟨_, rfl, hw.2.1, hw.2.2⟩) (by first | decide | (dsimp only; omega)) (by first | decide | (dsimp only; omega))
            · have hNj : (isN (q_n s) o && decide (q_so s (kN o) = 3)) = true := by have h := (bI_eq _).mp c22; rcases h2 : (isN (q_n s) o && decide (q_so s (kN o) = 3)) with _ | _; (rw [h2] at h; cases h); rfl
              obtain ⟨j, hj, rfl, h3j⟩ := noO_t hNj hR.2.2.2
              refine lv_iload hx hb d_M_engine_55 (lv_at hl 0 rfl) ?_
              refine lv_if_ne (tgt := 64) hx hb d_M_engine_57 (by decide) (fun c24 => ?_) (fun c24 => ?_)
              · have hfn2 : inR g0 0 2 = true ∧ inR sz (leastS g0) (mostS g0) = true := by unfold finE at hfn; rw [Bool.and_eq_true] at hfn; exact hfn
                refine lv_aload_n hx hb d_M_engine_64 rfl (lv_at hl 1 rfl) ?_
                refine mg 4 (by decide) hx hb ht hown hw gw_801 rfl rfl d_M_engine_65 ?_
                refine lv_iload_n hx hb d_M_engine_68 rfl (lv_at hl 2 rfl) ?_
                refine ma_frozen (j := j) rfl (by have := hR.2.2.2; omega) hx hb hw d_M_engine_69 ?_
                refine lv_if_eq (tgt := 77) hx hb d_M_engine_70 (by decide) (fun c25 => ?_) (fun c25 => ?_)
                · have hf0 : q_fr s j = false := (bI_eq _).mp c25
                  refine lv_iconst (v := 0) hx hb d_M_engine_77 (by decide) ?_
                  refine mp_thrown (0 : Int32) hx hb ht hown hw gw_822 d_M_engine_78 (fun H26 locs26 u26 hw => ?_)
                  refine lv_aload_n hx hb d_M_engine_81 rfl (lv_at hl 1 rfl) ?_
                  refine mg 25 (by decide) hx hb ht hown hw gw_822 rfl rfl d_M_engine_82 ?_
                  refine lv_if_eq (tgt := 89) hx hb d_M_engine_85 (by decide) (fun c9 => ?_) (fun c9 => ?_)
                  · obtain ⟨k9, hk9, ek9⟩ := finE_t hfn
                    subst ek9
                    have hs0 : q_so (engQ s j k9 sz) j ≠ 0 := by rw [eng_so]; omega
                    have hok2 : okQ (engQ s j k9 sz) := eng_ok hok hk9
                    refine lv_aload_n hx hb d_M_engine_89 rfl (lv_at hl 1 rfl) ?_
                    refine mg 13 (by decide) hx hb ht hown hw gw_810 rfl rfl d_M_engine_90 ?_
                    refine lv_iload_n hx hb d_M_engine_93 rfl (lv_at hl 2 rfl) ?_
                    refine lv_iload_n hx hb d_M_engine_94 rfl (lv_at hl 3 rfl) ?_
                    refine mp_engine (j := j) k9 rfl (by have := hR.2.2.2; omega) hx hb hw d_M_engine_95 (fun H27 locs27 u27 hw => ?_)
                    refine lv_aload_n hx hb d_M_engine_96 rfl (lv_at hl 1 rfl) ?_
                    refine mg 14 (by decide) hx hb ht hown hw gw_811 rfl rfl d_M_engine_97 ?_
                    refine lv_iload_n hx hb d_M_engine_100 rfl (lv_at hl 2 rfl) ?_
                    refine lv_iload_n hx hb d_M_engine_101 rfl (lv_at hl 4 rfl) ?_
                    refine mp_size (j := j) sz rfl (by have := hR.2.2.2; omega) hx hb hw d_M_engine_102 (fun H28 locs28 u28 hw => ?_)
                    rw [eng_eq] at hw
                    refine lv_aload_n hx hb d_M_engine_103 rfl (lv_at hl 1 rfl) ?_
                    refine mg 15 (by decide) hx hb ht hown hw gw_812 rfl rfl d_M_engine_104 ?_
                    refine lv_iconst (v := 0) hx hb d_M_engine_107 (by decide) ?_
                    refine lv_iload_n hx hb d_M_engine_108 rfl (lv_at hl 2 rfl) ?_
                    refine mp_list (j := 0) (nI j) rfl (by decide) hx hb hw d_M_engine_109 (fun H29 locs29 u29 hw => ?_)
                    refine lv_aload_n hx hb d_M_engine_110 rfl (lv_at hl 1 rfl) ?_
                    refine lv_iconst (v := 1) hx hb d_M_engine_111 (by decide) ?_
                    refine kc_v (kr_V 1 (C := "QuoteGraphModel") (As := [.int (1 : Int32)]) (rest := []) (c_M_tell l G A lm (engQ s j k9 sz) (mS_li (mS_th m (0 : Int32)) (va_up (m_li (mS_th m (0 : Int32))) 0 (nI j))) u29 hw.2.1 hok2 1 (by rw [eng_n]; exact (inL1 hR.2.2.2 hj).1) (fun y hy h => by rw [eng_n] at hy; have e := ((inL1 hR.2.2.2 hj).2 y hy).mp h; rw [e]; exact hs0) (eng_fv hfv)) hx hb hml hown ht hw.1 gw_948 gw_950 gw_29 gw_47 gw_951 ⟨⟨by decide, by decide⟩, by decide +kernel⟩ ⟨by first | decide | (dsimp only; omega), by first | decide | (dsimp only; omega)⟩ (kr_M hw) rfl hl.1 rfl (lv_room (Nat.le_of_ble_eq_true rfl)) d_M_engine_112 ⟨by first | decide | (dsimp only; omega), by first | decide | (dsimp only; omega)⟩) hw.1 (fun _ _ _ _ _ _ h => h.elim) (fun u30 H30 locs30 hp30 hw30 => ?_)
                    obtain ⟨s8, li8, hS8, hr8, hf8⟩ := hp30
                    have e8 := tell1 hok2 (by rw [eng_n]; exact hj) hS8
                    subst e8
                    have hw : Mk G A lm (tellF 17 (engQ s j k9 sz) j) (mS_li (mS_li (mS_th m (0 : Int32)) (va_up (m_li (mS_th m (0 : Int32))) 0 (nI j))) li8) u u30 st H30 locs30 := ⟨hw30, hr8, hw.2.2.tr hf8⟩
                    exact kt_v hx hb hr hlocks hw.1 d_M_engine_115 (by unfold pEngine; rw [wN_t hj hR.2.2.2, if_neg (fun h => h h3j), if_neg (by rw [hfn2.1]; decide), if_neg (by rw [hfn2.2]; decide), if_neg (by rw [hf0]; decide), kN_nI (by omega)]; exact ⟨_, rfl, hw.2.1, hw.2.2⟩) (by first | decide | (dsimp only; omega)) (by first | decide | (dsimp only; omega))
                  · exact absurd rfl c9
                · have hf0 : q_fr s j = true := (bI_ne _).mp c25
                  refine lv_iconst (v := 2) hx hb d_M_engine_73 (by decide) ?_
                  refine lv_goto (tgt := 78) hx hb d_M_engine_74 (by decide) ?_
                  refine mp_thrown (2 : Int32) hx hb ht hown hw gw_822 d_M_engine_78 (fun H31 locs31 u31 hw => ?_)
                  refine lv_aload_n hx hb d_M_engine_81 rfl (lv_at hl 1 rfl) ?_
                  refine mg 25 (by decide) hx hb ht hown hw gw_822 rfl rfl d_M_engine_82 ?_
                  refine lv_if_eq (tgt := 89) hx hb d_M_engine_85 (by decide) (fun c9 => ?_) (fun c9 => ?_)
                  · exact absurd (show (2 : Int32) = 0 from c9) (by decide)
                  · exact kt_v hx hb hr hlocks hw.1 d_M_engine_88 (by unfold pEngine; rw [wN_t hj hR.2.2.2, if_neg (fun h => h h3j), if_neg (by rw [hfn2.1]; decide), if_neg (by rw [hfn2.2]; decide), if_pos hf0]; exact ⟨_, rfl, hw.2.1, hw.2.2⟩) (by first | decide | (dsimp only; omega)) (by first | decide | (dsimp only; omega))
              · exact absurd (show (1 : Int32) = 0 from c24) (by decide)
    · refine lv_iload_n hx hb d_M_engine_13 rfl (lv_at hl 3 rfl) ?_
      refine lv_if_lt (tgt := 23) hx hb d_M_engine_14 (by decide) (fun c32 => ?_) (fun c32 => ?_)
      · refine lv_iload_n hx hb d_M_engine_23 rfl (lv_at hl 2 rfl) ?_
        refine lv_iconst (v := 2) hx hb d_M_engine_24 (by decide) ?_
        refine lv_icmp_ne (tgt := 43) hx hb d_M_engine_25 (by decide) (fun c33 => ?_) (fun c33 => ?_)
        · refine lv_iconst (v := 0) hx hb d_M_engine_43 (by decide) ?_
          have hfn : finE g0 sz = false := by rw [show g0 = 1 from c2, finE_1]; exact inR_f (Or.inl c32)
          refine lv_istore (lv' := [(4, .int (0 : Int32)), (0, .ref (lm 0)), (1, .int o), (2, .int g0), (3, .int sz)]) hx hb d_M_engine_44 hl (by decide) rfl (fun ls hl => ?_)
          refine lv_aload_n hx hb d_M_engine_46 rfl (lv_at hl 1 rfl) ?_
          refine lv_aload_n hx hb d_M_engine_47 rfl (lv_at hl 1 rfl) ?_
          refine lv_iload_n hx hb d_M_engine_48 rfl (lv_at hl 2 rfl) ?_
          refine kc_i (kr_V 1 (C := "QuoteGraphModel") (As := [.int o]) (rest := [.ref (lm 0)]) (c_M_noOption l G A lm s m u hR (fun j hj => (hok.2 j hj).1) o) hx hb hml hown ht hw.1 gw_936 gw_938 gw_26 gw_47 gw_939 ⟨⟨by decide, by decide⟩, by decide +kernel⟩ ⟨by first | decide | (dsimp only; omega), by first | decide | (dsimp only; omega)⟩ (kr_M hw) rfl hl.1 rfl (lv_room (Nat.le_of_ble_eq_true rfl)) d_M_engine_49 ⟨by first | decide | (dsimp only; omega), by first | decide | (dsimp only; omega)⟩) hw.1 (fun _ _ _ _ _ _ h => h.elim) (fun r34 u34 H34 locs34 hp34 hw34 => ?_)
          obtain ⟨er34, hq34⟩ := hp34
          replace hq34 := hq34.symm; subst hq34
          subst er34
          have hw : Mk G A lm s m u u st H34 locs34 := ⟨hw34, hw.2⟩
          refine lv_if_ne (tgt := 60) hx hb d_M_engine_52 (by decide) (fun c35 => ?_) (fun c35 => ?_)
          · have hN : (isN (q_n s) o && decide (q_so s (kN o) = 3)) = false := by have h := (bI_ne _).mp c35; rcases h2 : (isN (q_n s) o && decide (q_so s (kN o) = 3)) with _ | _; rfl; rw [h2] at h; cases h
            refine lv_iconst (v := 1) hx hb d_M_engine_60 (by decide) ?_
            refine lv_goto (tgt := 78) hx hb d_M_engine_61 (by decide) ?_
            refine mp_thrown (1 : Int32) hx hb ht hown hw gw_822 d_M_engine_78 (fun H36 locs36 u36 hw => ?_)
            refine lv_aload_n hx hb d_M_engine_81 rfl (lv_at hl 1 rfl) ?_
            refine mg 25 (by decide) hx hb ht hown hw gw_822 rfl rfl d_M_engine_82 ?_
            refine lv_if_eq (tgt := 89) hx hb d_M_engine_85 (by decide) (fun c9 => ?_) (fun c9 => ?_)
            · exact absurd (show (1 : Int32) = 0 from c9) (by decide)
            · exact kt_v hx hb hr hlocks hw.1 d_M_engine_88 (by unfold pEngine; rw [noO_f hN hR.2.2.2 (fun j hj => if_pos hj)]; exact ⟨_, rfl, hw.2.1, hw.2.2⟩) (by first | decide | (dsimp only; omega)) (by first | decide | (dsimp only; omega))
          · have hNj : (isN (q_n s) o && decide (q_so s (kN o) = 3)) = true := by have h := (bI_eq _).mp c35; rcases h2 : (isN (q_n s) o && decide (q_so s (kN o) = 3)) with _ | _; (rw [h2] at h; cases h); rfl
            obtain ⟨j, hj, rfl, h3j⟩ := noO_t hNj hR.2.2.2
            refine lv_iload hx hb d_M_engine_55 (lv_at hl 0 rfl) ?_
            refine lv_if_ne (tgt := 64) hx hb d_M_engine_57 (by decide) (fun c37 => ?_) (fun c37 => ?_)
            · exact absurd rfl c37
            · refine lv_iconst (v := 1) hx hb d_M_engine_60 (by decide) ?_
              refine lv_goto (tgt := 78) hx hb d_M_engine_61 (by decide) ?_
              refine mp_thrown (1 : Int32) hx hb ht hown hw gw_822 d_M_engine_78 (fun H38 locs38 u38 hw => ?_)
              refine lv_aload_n hx hb d_M_engine_81 rfl (lv_at hl 1 rfl) ?_
              refine mg 25 (by decide) hx hb ht hown hw gw_822 rfl rfl d_M_engine_82 ?_
              refine lv_if_eq (tgt := 89) hx hb d_M_engine_85 (by decide) (fun c9 => ?_) (fun c9 => ?_)
              · exact absurd (show (1 : Int32) = 0 from c9) (by decide)
              · exact kt_v hx hb hr hlocks hw.1 d_M_engine_88 (by unfold pEngine; rw [wN_t hj hR.2.2.2, if_neg (fun h => h h3j), finE_if hfn]; exact ⟨_, rfl, hw.2.1, hw.2.2⟩) (by first | decide | (dsimp only; omega)) (by first | decide | (dsimp only; omega))
        · exact absurd ((show g0 = 1 from c2).symm.trans c33) (by decide)
      · refine lv_iload_n hx hb d_M_engine_17 rfl (lv_at hl 3 rfl) ?_
        refine lv_bipush (v := 6) hx hb d_M_engine_18 (by decide) ?_
        refine lv_icmp_le (tgt := 39) hx hb d_M_engine_20 (by decide) (fun c39 => ?_) (fun c39 => ?_)
        · refine lv_iconst (v := 1) hx hb d_M_engine_39 (by decide) ?_
          refine lv_goto (tgt := 44) hx hb d_M_engine_40 (by decide) ?_
          have hfn : finE g0 sz = true := by rw [show g0 = 1 from c2, finE_1]; exact inR_t (by first | exact c32 | exact i_nlt.mpr c32) (by first | exact c39 | exact i_nlt.mp c39)
          refine lv_istore (lv' := [(4, .int (1 : Int32)), (0, .ref (lm 0)), (1, .int o), (2, .int g0), (3, .int sz)]) hx hb d_M_engine_44 hl (by decide) rfl (fun ls hl => ?_)
          refine lv_aload_n hx hb d_M_engine_46 rfl (lv_at hl 1 rfl) ?_
          refine lv_aload_n hx hb d_M_engine_47 rfl (lv_at hl 1 rfl) ?_
          refine lv_iload_n hx hb d_M_engine_48 rfl (lv_at hl 2 rfl) ?_
          refine kc_i (kr_V 1 (C := "QuoteGraphModel") (As := [.int o]) (rest := [.ref (lm 0)]) (c_M_noOption l G A lm s m u hR (fun j hj => (hok.2 j hj).1) o) hx hb hml hown ht hw.1 gw_936 gw_938 gw_26 gw_47 gw_939 ⟨⟨by decide, by decide⟩, by decide +kernel⟩ ⟨by first | decide | (dsimp only; omega), by first | decide | (dsimp only; omega)⟩ (kr_M hw) rfl hl.1 rfl (lv_room (Nat.le_of_ble_eq_true rfl)) d_M_engine_49 ⟨by first | decide | (dsimp only; omega), by first | decide | (dsimp only; omega)⟩) hw.1 (fun _ _ _ _ _ _ h => h.elim) (fun r40 u40 H40 locs40 hp40 hw40 => ?_)
          obtain ⟨er40, hq40⟩ := hp40
          replace hq40 := hq40.symm; subst hq40
          subst er40
          have hw : Mk G A lm s m u u st H40 locs40 := ⟨hw40, hw.2⟩
          refine lv_if_ne (tgt := 60) hx hb d_M_engine_52 (by decide) (fun c41 => ?_) (fun c41 => ?_)
          · have hN : (isN (q_n s) o && decide (q_so s (kN o) = 3)) = false := by have h := (bI_ne _).mp c41; rcases h2 : (isN (q_n s) o && decide (q_so s (kN o) = 3)) with _ | _; rfl; rw [h2] at h; cases h
            refine lv_iconst (v := 1) hx hb d_M_engine_60 (by decide) ?_
            refine lv_goto (tgt := 78) hx hb d_M_engine_61 (by decide) ?_
            refine mp_thrown (1 : Int32) hx hb ht hown hw gw_822 d_M_engine_78 (fun H42 locs42 u42 hw => ?_)
            refine lv_aload_n hx hb d_M_engine_81 rfl (lv_at hl 1 rfl) ?_
            refine mg 25 (by decide) hx hb ht hown hw gw_822 rfl rfl d_M_engine_82 ?_
            refine lv_if_eq (tgt := 89) hx hb d_M_engine_85 (by decide) (fun c9 => ?_) (fun c9 => ?_)
            · exact absurd (show (1 : Int32) = 0 from c9) (by decide)
            · exact kt_v hx hb hr hlocks hw.1 d_M_engine_88 (by unfold pEngine; rw [noO_f hN hR.2.2.2 (fun j hj => if_pos hj)]; exact ⟨_, rfl, hw.2.1, hw.2.2⟩) (by first | decide | (dsimp only; omega)) (by first | decide | (dsimp only; omega))
          · have hNj : (isN (q_n s) o && decide (q_so s (kN o) = 3)) = true := by have h := (bI_eq _).mp c41; rcases h2 : (isN (q_n s) o && decide (q_so s (kN o) = 3)) with _ | _; (rw [h2] at h; cases h); rfl
            obtain ⟨j, hj, rfl, h3j⟩ := noO_t hNj hR.2.2.2
            refine lv_iload hx hb d_M_engine_55 (lv_at hl 0 rfl) ?_
            refine lv_if_ne (tgt := 64) hx hb d_M_engine_57 (by decide) (fun c43 => ?_) (fun c43 => ?_)
            · have hfn2 : inR g0 0 2 = true ∧ inR sz (leastS g0) (mostS g0) = true := by unfold finE at hfn; rw [Bool.and_eq_true] at hfn; exact hfn
              refine lv_aload_n hx hb d_M_engine_64 rfl (lv_at hl 1 rfl) ?_
              refine mg 4 (by decide) hx hb ht hown hw gw_801 rfl rfl d_M_engine_65 ?_
              refine lv_iload_n hx hb d_M_engine_68 rfl (lv_at hl 2 rfl) ?_
              refine ma_frozen (j := j) rfl (by have := hR.2.2.2; omega) hx hb hw d_M_engine_69 ?_
              refine lv_if_eq (tgt := 77) hx hb d_M_engine_70 (by decide) (fun c44 => ?_) (fun c44 => ?_)
              · have hf0 : q_fr s j = false := (bI_eq _).mp c44
                refine lv_iconst (v := 0) hx hb d_M_engine_77 (by decide) ?_
                refine mp_thrown (0 : Int32) hx hb ht hown hw gw_822 d_M_engine_78 (fun H45 locs45 u45 hw => ?_)
                refine lv_aload_n hx hb d_M_engine_81 rfl (lv_at hl 1 rfl) ?_
                refine mg 25 (by decide) hx hb ht hown hw gw_822 rfl rfl d_M_engine_82 ?_
                refine lv_if_eq (tgt := 89) hx hb d_M_engine_85 (by decide) (fun c9 => ?_) (fun c9 => ?_)
                · obtain ⟨k9, hk9, ek9⟩ := finE_t hfn
                  subst ek9
                  have hs0 : q_so (engQ s j k9 sz) j ≠ 0 := by rw [eng_so]; omega
                  have hok2 : okQ (engQ s j k9 sz) := eng_ok hok hk9
                  refine lv_aload_n hx hb d_M_engine_89 rfl (lv_at hl 1 rfl) ?_
                  refine mg 13 (by decide) hx hb ht hown hw gw_810 rfl rfl d_M_engine_90 ?_
                  refine lv_iload_n hx hb d_M_engine_93 rfl (lv_at hl 2 rfl) ?_
                  refine lv_iload_n hx hb d_M_engine_94 rfl (lv_at hl 3 rfl) ?_
                  refine mp_engine (j := j) k9 rfl (by have := hR.2.2.2; omega) hx hb hw d_M_engine_95 (fun H46 locs46 u46 hw => ?_)
                  refine lv_aload_n hx hb d_M_engine_96 rfl (lv_at hl 1 rfl) ?_
                  refine mg 14 (by decide) hx hb ht hown hw gw_811 rfl rfl d_M_engine_97 ?_
                  refine lv_iload_n hx hb d_M_engine_100 rfl (lv_at hl 2 rfl) ?_
                  refine lv_iload_n hx hb d_M_engine_101 rfl (lv_at hl 4 rfl) ?_
                  refine mp_size (j := j) sz rfl (by have := hR.2.2.2; omega) hx hb hw d_M_engine_102 (fun H47 locs47 u47 hw => ?_)
                  rw [eng_eq] at hw
                  refine lv_aload_n hx hb d_M_engine_103 rfl (lv_at hl 1 rfl) ?_
                  refine mg 15 (by decide) hx hb ht hown hw gw_812 rfl rfl d_M_engine_104 ?_
                  refine lv_iconst (v := 0) hx hb d_M_engine_107 (by decide) ?_
                  refine lv_iload_n hx hb d_M_engine_108 rfl (lv_at hl 2 rfl) ?_
                  refine mp_list (j := 0) (nI j) rfl (by decide) hx hb hw d_M_engine_109 (fun H48 locs48 u48 hw => ?_)
                  refine lv_aload_n hx hb d_M_engine_110 rfl (lv_at hl 1 rfl) ?_
                  refine lv_iconst (v := 1) hx hb d_M_engine_111 (by decide) ?_
                  refine kc_v (kr_V 1 (C := "QuoteGraphModel") (As := [.int (1 : Int32)]) (rest := []) (c_M_tell l G A lm (engQ s j k9 sz) (mS_li (mS_th m (0 : Int32)) (va_up (m_li (mS_th m (0 : Int32))) 0 (nI j))) u48 hw.2.1 hok2 1 (by rw [eng_n]; exact (inL1 hR.2.2.2 hj).1) (fun y hy h => by rw [eng_n] at hy; have e := ((inL1 hR.2.2.2 hj).2 y hy).mp h; rw [e]; exact hs0) (eng_fv hfv)) hx hb hml hown ht hw.1 gw_948 gw_950 gw_29 gw_47 gw_951 ⟨⟨by decide, by decide⟩, by decide +kernel⟩ ⟨by first | decide | (dsimp only; omega), by first | decide | (dsimp only; omega)⟩ (kr_M hw) rfl hl.1 rfl (lv_room (Nat.le_of_ble_eq_true rfl)) d_M_engine_112 ⟨by first | decide | (dsimp only; omega), by first | decide | (dsimp only; omega)⟩) hw.1 (fun _ _ _ _ _ _ h => h.elim) (fun u49 H49 locs49 hp49 hw49 => ?_)
                  obtain ⟨s8, li8, hS8, hr8, hf8⟩ := hp49
                  have e8 := tell1 hok2 (by rw [eng_n]; exact hj) hS8
                  subst e8
                  have hw : Mk G A lm (tellF 17 (engQ s j k9 sz) j) (mS_li (mS_li (mS_th m (0 : Int32)) (va_up (m_li (mS_th m (0 : Int32))) 0 (nI j))) li8) u u49 st H49 locs49 := ⟨hw49, hr8, hw.2.2.tr hf8⟩
                  exact kt_v hx hb hr hlocks hw.1 d_M_engine_115 (by unfold pEngine; rw [wN_t hj hR.2.2.2, if_neg (fun h => h h3j), if_neg (by rw [hfn2.1]; decide), if_neg (by rw [hfn2.2]; decide), if_neg (by rw [hf0]; decide), kN_nI (by omega)]; exact ⟨_, rfl, hw.2.1, hw.2.2⟩) (by first | decide | (dsimp only; omega)) (by first | decide | (dsimp only; omega))
                · exact absurd rfl c9
              · have hf0 : q_fr s j = true := (bI_ne _).mp c44
                refine lv_iconst (v := 2) hx hb d_M_engine_73 (by decide) ?_
                refine lv_goto (tgt := 78) hx hb d_M_engine_74 (by decide) ?_
                refine mp_thrown (2 : Int32) hx hb ht hown hw gw_822 d_M_engine_78 (fun H50 locs50 u50 hw => ?_)
                refine lv_aload_n hx hb d_M_engine_81 rfl (lv_at hl 1 rfl) ?_
                refine mg 25 (by decide) hx hb ht hown hw gw_822 rfl rfl d_M_engine_82 ?_
                refine lv_if_eq (tgt := 89) hx hb d_M_engine_85 (by decide) (fun c9 => ?_) (fun c9 => ?_)
                · exact absurd (show (2 : Int32) = 0 from c9) (by decide)
                · exact kt_v hx hb hr hlocks hw.1 d_M_engine_88 (by unfold pEngine; rw [wN_t hj hR.2.2.2, if_neg (fun h => h h3j), if_neg (by rw [hfn2.1]; decide), if_neg (by rw [hfn2.2]; decide), if_pos hf0]; exact ⟨_, rfl, hw.2.1, hw.2.2⟩) (by first | decide | (dsimp only; omega)) (by first | decide | (dsimp only; omega))
            · exact absurd (show (1 : Int32) = 0 from c43) (by decide)
        · refine lv_iload_n hx hb d_M_engine_23 rfl (lv_at hl 2 rfl) ?_
          refine lv_iconst (v := 2) hx hb d_M_engine_24 (by decide) ?_
          refine lv_icmp_ne (tgt := 43) hx hb d_M_engine_25 (by decide) (fun c51 => ?_) (fun c51 => ?_)
          · refine lv_iconst (v := 0) hx hb d_M_engine_43 (by decide) ?_
            have hfn : finE g0 sz = false := by rw [show g0 = 1 from c2, finE_1]; exact inR_f (Or.inr (by first | exact c39 | exact i_nle.mp c39))
            refine lv_istore (lv' := [(4, .int (0 : Int32)), (0, .ref (lm 0)), (1, .int o), (2, .int g0), (3, .int sz)]) hx hb d_M_engine_44 hl (by decide) rfl (fun ls hl => ?_)
            refine lv_aload_n hx hb d_M_engine_46 rfl (lv_at hl 1 rfl) ?_
            refine lv_aload_n hx hb d_M_engine_47 rfl (lv_at hl 1 rfl) ?_
            refine lv_iload_n hx hb d_M_engine_48 rfl (lv_at hl 2 rfl) ?_
            refine kc_i (kr_V 1 (C := "QuoteGraphModel") (As := [.int o]) (rest := [.ref (lm 0)]) (c_M_noOption l G A lm s m u hR (fun j hj => (hok.2 j hj).1) o) hx hb hml hown ht hw.1 gw_936 gw_938 gw_26 gw_47 gw_939 ⟨⟨by decide, by decide⟩, by decide +kernel⟩ ⟨by first | decide | (dsimp only; omega), by first | decide | (dsimp only; omega)⟩ (kr_M hw) rfl hl.1 rfl (lv_room (Nat.le_of_ble_eq_true rfl)) d_M_engine_49 ⟨by first | decide | (dsimp only; omega), by first | decide | (dsimp only; omega)⟩) hw.1 (fun _ _ _ _ _ _ h => h.elim) (fun r52 u52 H52 locs52 hp52 hw52 => ?_)
            obtain ⟨er52, hq52⟩ := hp52
            replace hq52 := hq52.symm; subst hq52
            subst er52
            have hw : Mk G A lm s m u u st H52 locs52 := ⟨hw52, hw.2⟩
            refine lv_if_ne (tgt := 60) hx hb d_M_engine_52 (by decide) (fun c53 => ?_) (fun c53 => ?_)
            · have hN : (isN (q_n s) o && decide (q_so s (kN o) = 3)) = false := by have h := (bI_ne _).mp c53; rcases h2 : (isN (q_n s) o && decide (q_so s (kN o) = 3)) with _ | _; rfl; rw [h2] at h; cases h
              refine lv_iconst (v := 1) hx hb d_M_engine_60 (by decide) ?_
              refine lv_goto (tgt := 78) hx hb d_M_engine_61 (by decide) ?_
              refine mp_thrown (1 : Int32) hx hb ht hown hw gw_822 d_M_engine_78 (fun H54 locs54 u54 hw => ?_)
              refine lv_aload_n hx hb d_M_engine_81 rfl (lv_at hl 1 rfl) ?_
              refine mg 25 (by decide) hx hb ht hown hw gw_822 rfl rfl d_M_engine_82 ?_
              refine lv_if_eq (tgt := 89) hx hb d_M_engine_85 (by decide) (fun c9 => ?_) (fun c9 => ?_)
              · exact absurd (show (1 : Int32) = 0 from c9) (by decide)
              · exact kt_v hx hb hr hlocks hw.1 d_M_engine_88 (by unfold pEngine; rw [noO_f hN hR.2.2.2 (fun j hj => if_pos hj)]; exact ⟨_, rfl, hw.2.1, hw.2.2⟩) (by first | decide | (dsimp only; omega)) (by first | decide | (dsimp only; omega))
            · have hNj : (isN (q_n s) o && decide (q_so s (kN o) = 3)) = true := by have h := (bI_eq _).mp c53; rcases h2 : (isN (q_n s) o && decide (q_so s (kN o) = 3)) with _ | _; (rw [h2] at h; cases h); rfl
              obtain ⟨j, hj, rfl, h3j⟩ := noO_t hNj hR.2.2.2
              refine lv_iload hx hb d_M_engine_55 (lv_at hl 0 rfl) ?_
              refine lv_if_ne (tgt := 64) hx hb d_M_engine_57 (by decide) (fun c55 => ?_) (fun c55 => ?_)
              · exact absurd rfl c55
              · refine lv_iconst (v := 1) hx hb d_M_engine_60 (by decide) ?_
                refine lv_goto (tgt := 78) hx hb d_M_engine_61 (by decide) ?_
                refine mp_thrown (1 : Int32) hx hb ht hown hw gw_822 d_M_engine_78 (fun H56 locs56 u56 hw => ?_)
                refine lv_aload_n hx hb d_M_engine_81 rfl (lv_at hl 1 rfl) ?_
                refine mg 25 (by decide) hx hb ht hown hw gw_822 rfl rfl d_M_engine_82 ?_
                refine lv_if_eq (tgt := 89) hx hb d_M_engine_85 (by decide) (fun c9 => ?_) (fun c9 => ?_)
                · exact absurd (show (1 : Int32) = 0 from c9) (by decide)
                · exact kt_v hx hb hr hlocks hw.1 d_M_engine_88 (by unfold pEngine; rw [wN_t hj hR.2.2.2, if_neg (fun h => h h3j), finE_if hfn]; exact ⟨_, rfl, hw.2.1, hw.2.2⟩) (by first | decide | (dsimp only; omega)) (by first | decide | (dsimp only; omega))
          · exact absurd ((show g0 = 1 from c2).symm.trans c51) (by decide)
  · refine lv_iload_n hx hb d_M_engine_4 rfl (lv_at hl 3 rfl) ?_
    refine lv_if_eq (tgt := 39) hx hb d_M_engine_5 (by decide) (fun c57 => ?_) (fun c57 => ?_)
    · refine lv_iconst (v := 1) hx hb d_M_engine_39 (by decide) ?_
      refine lv_goto (tgt := 44) hx hb d_M_engine_40 (by decide) ?_
      have hfn : finE g0 sz = true := by rw [show g0 = 0 from c1, finE_0]; exact decide_eq_true c57
      refine lv_istore (lv' := [(4, .int (1 : Int32)), (0, .ref (lm 0)), (1, .int o), (2, .int g0), (3, .int sz)]) hx hb d_M_engine_44 hl (by decide) rfl (fun ls hl => ?_)
      refine lv_aload_n hx hb d_M_engine_46 rfl (lv_at hl 1 rfl) ?_
      refine lv_aload_n hx hb d_M_engine_47 rfl (lv_at hl 1 rfl) ?_
      refine lv_iload_n hx hb d_M_engine_48 rfl (lv_at hl 2 rfl) ?_
      refine kc_i (kr_V 1 (C := "QuoteGraphModel") (As := [.int o]) (rest := [.ref (lm 0)]) (c_M_noOption l G A lm s m u hR (fun j hj => (hok.2 j hj).1) o) hx hb hml hown ht hw.1 gw_936 gw_938 gw_26 gw_47 gw_939 ⟨⟨by decide, by decide⟩, by decide +kernel⟩ ⟨by first | decide | (dsimp only; omega), by first | decide | (dsimp only; omega)⟩ (kr_M hw) rfl hl.1 rfl (lv_room (Nat.le_of_ble_eq_true rfl)) d_M_engine_49 ⟨by first | decide | (dsimp only; omega), by first | decide | (dsimp only; omega)⟩) hw.1 (fun _ _ _ _ _ _ h => h.elim) (fun r58 u58 H58 locs58 hp58 hw58 => ?_)
      obtain ⟨er58, hq58⟩ := hp58
      replace hq58 := hq58.symm; subst hq58
      subst er58
      have hw : Mk G A lm s m u u st H58 locs58 := ⟨hw58, hw.2⟩
      refine lv_if_ne (tgt := 60) hx hb d_M_engine_52 (by decide) (fun c59 => ?_) (fun c59 => ?_)
      · have hN : (isN (q_n s) o && decide (q_so s (kN o) = 3)) = false := by have h := (bI_ne _).mp c59; rcases h2 : (isN (q_n s) o && decide (q_so s (kN o) = 3)) with _ | _; rfl; rw [h2] at h; cases h
        refine lv_iconst (v := 1) hx hb d_M_engine_60 (by decide) ?_
        refine lv_goto (tgt := 78) hx hb d_M_engine_61 (by decide) ?_
        refine mp_thrown (1 : Int32) hx hb ht hown hw gw_822 d_M_engine_78 (fun H60 locs60 u60 hw => ?_)
        refine lv_aload_n hx hb d_M_engine_81 rfl (lv_at hl 1 rfl) ?_
        refine mg 25 (by decide) hx hb ht hown hw gw_822 rfl rfl d_M_engine_82 ?_
        refine lv_if_eq (tgt := 89) hx hb d_M_engine_85 (by decide) (fun c9 => ?_) (fun c9 => ?_)
        · exact absurd (show (1 : Int32) = 0 from c9) (by decide)
        · exact kt_v hx hb hr hlocks hw.1 d_M_engine_88 (by unfold pEngine; rw [noO_f hN hR.2.2.2 (fun j hj => if_pos hj)]; exact ⟨_, rfl, hw.2.1, hw.2.2⟩) (by first | decide | (dsimp only; omega)) (by first | decide | (dsimp only; omega))
      · have hNj : (isN (q_n s) o && decide (q_so s (kN o) = 3)) = true := by have h := (bI_eq _).mp c59; rcases h2 : (isN (q_n s) o && decide (q_so s (kN o) = 3)) with _ | _; (rw [h2] at h; cases h); rfl
        obtain ⟨j, hj, rfl, h3j⟩ := noO_t hNj hR.2.2.2
        refine lv_iload hx hb d_M_engine_55 (lv_at hl 0 rfl) ?_
        refine lv_if_ne (tgt := 64) hx hb d_M_engine_57 (by decide) (fun c61 => ?_) (fun c61 => ?_)
        · have hfn2 : inR g0 0 2 = true ∧ inR sz (leastS g0) (mostS g0) = true := by unfold finE at hfn; rw [Bool.and_eq_true] at hfn; exact hfn
          refine lv_aload_n hx hb d_M_engine_64 rfl (lv_at hl 1 rfl) ?_
          refine mg 4 (by decide) hx hb ht hown hw gw_801 rfl rfl d_M_engine_65 ?_
          refine lv_iload_n hx hb d_M_engine_68 rfl (lv_at hl 2 rfl) ?_
          refine ma_frozen (j := j) rfl (by have := hR.2.2.2; omega) hx hb hw d_M_engine_69 ?_
          refine lv_if_eq (tgt := 77) hx hb d_M_engine_70 (by decide) (fun c62 => ?_) (fun c62 => ?_)
          · have hf0 : q_fr s j = false := (bI_eq _).mp c62
            refine lv_iconst (v := 0) hx hb d_M_engine_77 (by decide) ?_
            refine mp_thrown (0 : Int32) hx hb ht hown hw gw_822 d_M_engine_78 (fun H63 locs63 u63 hw => ?_)
            refine lv_aload_n hx hb d_M_engine_81 rfl (lv_at hl 1 rfl) ?_
            refine mg 25 (by decide) hx hb ht hown hw gw_822 rfl rfl d_M_engine_82 ?_
            refine lv_if_eq (tgt := 89) hx hb d_M_engine_85 (by decide) (fun c9 => ?_) (fun c9 => ?_)
            · obtain ⟨k9, hk9, ek9⟩ := finE_t hfn
              subst ek9
              have hs0 : q_so (engQ s j k9 sz) j ≠ 0 := by rw [eng_so]; omega
              have hok2 : okQ (engQ s j k9 sz) := eng_ok hok hk9
              refine lv_aload_n hx hb d_M_engine_89 rfl (lv_at hl 1 rfl) ?_
              refine mg 13 (by decide) hx hb ht hown hw gw_810 rfl rfl d_M_engine_90 ?_
              refine lv_iload_n hx hb d_M_engine_93 rfl (lv_at hl 2 rfl) ?_
              refine lv_iload_n hx hb d_M_engine_94 rfl (lv_at hl 3 rfl) ?_
              refine mp_engine (j := j) k9 rfl (by have := hR.2.2.2; omega) hx hb hw d_M_engine_95 (fun H64 locs64 u64 hw => ?_)
              refine lv_aload_n hx hb d_M_engine_96 rfl (lv_at hl 1 rfl) ?_
              refine mg 14 (by decide) hx hb ht hown hw gw_811 rfl rfl d_M_engine_97 ?_
              refine lv_iload_n hx hb d_M_engine_100 rfl (lv_at hl 2 rfl) ?_
              refine lv_iload_n hx hb d_M_engine_101 rfl (lv_at hl 4 rfl) ?_
              refine mp_size (j := j) sz rfl (by have := hR.2.2.2; omega) hx hb hw d_M_engine_102 (fun H65 locs65 u65 hw => ?_)
              rw [eng_eq] at hw
              refine lv_aload_n hx hb d_M_engine_103 rfl (lv_at hl 1 rfl) ?_
              refine mg 15 (by decide) hx hb ht hown hw gw_812 rfl rfl d_M_engine_104 ?_
              refine lv_iconst (v := 0) hx hb d_M_engine_107 (by decide) ?_
              refine lv_iload_n hx hb d_M_engine_108 rfl (lv_at hl 2 rfl) ?_
              refine mp_list (j := 0) (nI j) rfl (by decide) hx hb hw d_M_engine_109 (fun H66 locs66 u66 hw => ?_)
              refine lv_aload_n hx hb d_M_engine_110 rfl (lv_at hl 1 rfl) ?_
              refine lv_iconst (v := 1) hx hb d_M_engine_111 (by decide) ?_
              refine kc_v (kr_V 1 (C := "QuoteGraphModel") (As := [.int (1 : Int32)]) (rest := []) (c_M_tell l G A lm (engQ s j k9 sz) (mS_li (mS_th m (0 : Int32)) (va_up (m_li (mS_th m (0 : Int32))) 0 (nI j))) u66 hw.2.1 hok2 1 (by rw [eng_n]; exact (inL1 hR.2.2.2 hj).1) (fun y hy h => by rw [eng_n] at hy; have e := ((inL1 hR.2.2.2 hj).2 y hy).mp h; rw [e]; exact hs0) (eng_fv hfv)) hx hb hml hown ht hw.1 gw_948 gw_950 gw_29 gw_47 gw_951 ⟨⟨by decide, by decide⟩, by decide +kernel⟩ ⟨by first | decide | (dsimp only; omega), by first | decide | (dsimp only; omega)⟩ (kr_M hw) rfl hl.1 rfl (lv_room (Nat.le_of_ble_eq_true rfl)) d_M_engine_112 ⟨by first | decide | (dsimp only; omega), by first | decide | (dsimp only; omega)⟩) hw.1 (fun _ _ _ _ _ _ h => h.elim) (fun u67 H67 locs67 hp67 hw67 => ?_)
              obtain ⟨s8, li8, hS8, hr8, hf8⟩ := hp67
              have e8 := tell1 hok2 (by rw [eng_n]; exact hj) hS8
              subst e8
              have hw : Mk G A lm (tellF 17 (engQ s j k9 sz) j) (mS_li (mS_li (mS_th m (0 : Int32)) (va_up (m_li (mS_th m (0 : Int32))) 0 (nI j))) li8) u u67 st H67 locs67 := ⟨hw67, hr8, hw.2.2.tr hf8⟩
              exact kt_v hx hb hr hlocks hw.1 d_M_engine_115 (by unfold pEngine; rw [wN_t hj hR.2.2.2, if_neg (fun h => h h3j), if_neg (by rw [hfn2.1]; decide), if_neg (by rw [hfn2.2]; decide), if_neg (by rw [hf0]; decide), kN_nI (by omega)]; exact ⟨_, rfl, hw.2.1, hw.2.2⟩) (by first | decide | (dsimp only; omega)) (by first | decide | (dsimp only; omega))
            · exact absurd rfl c9
          · have hf0 : q_fr s j = true := (bI_ne _).mp c62
            refine lv_iconst (v := 2) hx hb d_M_engine_73 (by decide) ?_
            refine lv_goto (tgt := 78) hx hb d_M_engine_74 (by decide) ?_
            refine mp_thrown (2 : Int32) hx hb ht hown hw gw_822 d_M_engine_78 (fun H68 locs68 u68 hw => ?_)
            refine lv_aload_n hx hb d_M_engine_81 rfl (lv_at hl 1 rfl) ?_
            refine mg 25 (by decide) hx hb ht hown hw gw_822 rfl rfl d_M_engine_82 ?_
            refine lv_if_eq (tgt := 89) hx hb d_M_engine_85 (by decide) (fun c9 => ?_) (fun c9 => ?_)
            · exact absurd (show (2 : Int32) = 0 from c9) (by decide)
            · exact kt_v hx hb hr hlocks hw.1 d_M_engine_88 (by unfold pEngine; rw [wN_t hj hR.2.2.2, if_neg (fun h => h h3j), if_neg (by rw [hfn2.1]; decide), if_neg (by rw [hfn2.2]; decide), if_pos hf0]; exact ⟨_, rfl, hw.2.1, hw.2.2⟩) (by first | decide | (dsimp only; omega)) (by first | decide | (dsimp only; omega))
        · exact absurd (show (1 : Int32) = 0 from c61) (by decide)
    · refine lv_iload_n hx hb d_M_engine_8 rfl (lv_at hl 2 rfl) ?_
      refine lv_iconst (v := 1) hx hb d_M_engine_9 (by decide) ?_
      refine lv_icmp_ne (tgt := 23) hx hb d_M_engine_10 (by decide) (fun c69 => ?_) (fun c69 => ?_)
      · refine lv_iload_n hx hb d_M_engine_23 rfl (lv_at hl 2 rfl) ?_
        refine lv_iconst (v := 2) hx hb d_M_engine_24 (by decide) ?_
        refine lv_icmp_ne (tgt := 43) hx hb d_M_engine_25 (by decide) (fun c70 => ?_) (fun c70 => ?_)
        · refine lv_iconst (v := 0) hx hb d_M_engine_43 (by decide) ?_
          have hfn : finE g0 sz = false := by rw [show g0 = 0 from c1, finE_0]; exact decide_eq_false c57
          refine lv_istore (lv' := [(4, .int (0 : Int32)), (0, .ref (lm 0)), (1, .int o), (2, .int g0), (3, .int sz)]) hx hb d_M_engine_44 hl (by decide) rfl (fun ls hl => ?_)
          refine lv_aload_n hx hb d_M_engine_46 rfl (lv_at hl 1 rfl) ?_
          refine lv_aload_n hx hb d_M_engine_47 rfl (lv_at hl 1 rfl) ?_
          refine lv_iload_n hx hb d_M_engine_48 rfl (lv_at hl 2 rfl) ?_
          refine kc_i (kr_V 1 (C := "QuoteGraphModel") (As := [.int o]) (rest := [.ref (lm 0)]) (c_M_noOption l G A lm s m u hR (fun j hj => (hok.2 j hj).1) o) hx hb hml hown ht hw.1 gw_936 gw_938 gw_26 gw_47 gw_939 ⟨⟨by decide, by decide⟩, by decide +kernel⟩ ⟨by first | decide | (dsimp only; omega), by first | decide | (dsimp only; omega)⟩ (kr_M hw) rfl hl.1 rfl (lv_room (Nat.le_of_ble_eq_true rfl)) d_M_engine_49 ⟨by first | decide | (dsimp only; omega), by first | decide | (dsimp only; omega)⟩) hw.1 (fun _ _ _ _ _ _ h => h.elim) (fun r71 u71 H71 locs71 hp71 hw71 => ?_)
          obtain ⟨er71, hq71⟩ := hp71
          replace hq71 := hq71.symm; subst hq71
          subst er71
          have hw : Mk G A lm s m u u st H71 locs71 := ⟨hw71, hw.2⟩
          refine lv_if_ne (tgt := 60) hx hb d_M_engine_52 (by decide) (fun c72 => ?_) (fun c72 => ?_)
          · have hN : (isN (q_n s) o && decide (q_so s (kN o) = 3)) = false := by have h := (bI_ne _).mp c72; rcases h2 : (isN (q_n s) o && decide (q_so s (kN o) = 3)) with _ | _; rfl; rw [h2] at h; cases h
            refine lv_iconst (v := 1) hx hb d_M_engine_60 (by decide) ?_
            refine lv_goto (tgt := 78) hx hb d_M_engine_61 (by decide) ?_
            refine mp_thrown (1 : Int32) hx hb ht hown hw gw_822 d_M_engine_78 (fun H73 locs73 u73 hw => ?_)
            refine lv_aload_n hx hb d_M_engine_81 rfl (lv_at hl 1 rfl) ?_
            refine mg 25 (by decide) hx hb ht hown hw gw_822 rfl rfl d_M_engine_82 ?_
            refine lv_if_eq (tgt := 89) hx hb d_M_engine_85 (by decide) (fun c9 => ?_) (fun c9 => ?_)
            · exact absurd (show (1 : Int32) = 0 from c9) (by decide)
            · exact kt_v hx hb hr hlocks hw.1 d_M_engine_88 (by unfold pEngine; rw [noO_f hN hR.2.2.2 (fun j hj => if_pos hj)]; exact ⟨_, rfl, hw.2.1, hw.2.2⟩) (by first | decide | (dsimp only; omega)) (by first | decide | (dsimp only; omega))
          · have hNj : (isN (q_n s) o && decide (q_so s (kN o) = 3)) = true := by have h := (bI_eq _).mp c72; rcases h2 : (isN (q_n s) o && decide (q_so s (kN o) = 3)) with _ | _; (rw [h2] at h; cases h); rfl
            obtain ⟨j, hj, rfl, h3j⟩ := noO_t hNj hR.2.2.2
            refine lv_iload hx hb d_M_engine_55 (lv_at hl 0 rfl) ?_
            refine lv_if_ne (tgt := 64) hx hb d_M_engine_57 (by decide) (fun c74 => ?_) (fun c74 => ?_)
            · exact absurd rfl c74
            · refine lv_iconst (v := 1) hx hb d_M_engine_60 (by decide) ?_
              refine lv_goto (tgt := 78) hx hb d_M_engine_61 (by decide) ?_
              refine mp_thrown (1 : Int32) hx hb ht hown hw gw_822 d_M_engine_78 (fun H75 locs75 u75 hw => ?_)
              refine lv_aload_n hx hb d_M_engine_81 rfl (lv_at hl 1 rfl) ?_
              refine mg 25 (by decide) hx hb ht hown hw gw_822 rfl rfl d_M_engine_82 ?_
              refine lv_if_eq (tgt := 89) hx hb d_M_engine_85 (by decide) (fun c9 => ?_) (fun c9 => ?_)
              · exact absurd (show (1 : Int32) = 0 from c9) (by decide)
              · exact kt_v hx hb hr hlocks hw.1 d_M_engine_88 (by unfold pEngine; rw [wN_t hj hR.2.2.2, if_neg (fun h => h h3j), finE_if hfn]; exact ⟨_, rfl, hw.2.1, hw.2.2⟩) (by first | decide | (dsimp only; omega)) (by first | decide | (dsimp only; omega))
        · exact absurd ((show g0 = 0 from c1).symm.trans c70) (by decide)
      · exact absurd ((show g0 = 0 from c1).symm.trans c69) (by decide)
set_option maxHeartbeats 4000000 in
set_option maxRecDepth 100000 in
theorem c_M_set (l : Launch) (G : GT) (A : Nat → Prop) (lm : Nat → Nat) (s : QS) (m : MS) (u : WT) (hR : rM G lm s m u) (hok : okQ s) (hfv : fv s) (k i : Int32) : Kt l y_M_set b_M_set 7 (some .int) 2 50 0 0 0 0 0 0 G A u [.ref (lm 0), .int k, .double (e8 i)] (KQ G A (Ri (fun r u' => r = (pSet s k i).2.1 ∧ ∃ m', m_th m' = nI (pSet s k i).1 ∧ rM G lm (pSet s k i).2.2 m' u' ∧ fM lm u u'))) (NX) := by
  refine k_of (by decide) (Nat.le_of_ble_eq_true rfl) (fun p e st mt below meth c ls hx hb hr hlocks hml htab hname hown ht hw hl => ?_)
  have hl : lv_has ls 7 [(0, .ref (lm 0)), (1, .int k), (2, .double (e8 i))] := hl
  have hw : Mk G A lm s m u u st st.heap [] := ⟨hw, hR, fM.rf⟩
  refine lv_aload_n hx hb d_M_set_0 rfl (lv_at hl 0 rfl) ?_
  refine lv_aload_n hx hb d_M_set_1 rfl (lv_at hl 0 rfl) ?_
  refine lv_iload_n hx hb d_M_set_2 rfl (lv_at hl 1 rfl) ?_
  refine kc_i (kr_V 1 (C := "QuoteGraphModel") (As := [.int k]) (rest := [.ref (lm 0)]) (c_M_no l G A lm s m u hR k) hx hb hml hown ht hw.1 gw_919 gw_921 gw_25 gw_47 gw_922 ⟨⟨by decide, by decide⟩, by decide +kernel⟩ ⟨by first | decide | (dsimp only; omega), by first | decide | (dsimp only; omega)⟩ (kr_M hw) rfl hl.1 rfl (lv_room (Nat.le_of_ble_eq_true rfl)) d_M_set_3 ⟨by first | decide | (dsimp only; omega), by first | decide | (dsimp only; omega)⟩) hw.1 (fun _ _ _ _ _ _ h => h.elim) (fun r1 u1 H1 locs1 hp1 hw1 => ?_)
  obtain ⟨er1, hq1⟩ := hp1
  replace hq1 := hq1.symm; subst hq1
  subst er1
  have hw : Mk G A lm s m u u st H1 locs1 := ⟨hw1, hw.2⟩
  refine lv_if_ne (tgt := 29) hx hb d_M_set_6 (by decide) (fun c2 => ?_) (fun c2 => ?_)
  · have hN : isN (q_n s) k = false := by have h := (bI_ne _).mp c2; rcases h2 : isN (q_n s) k with _ | _; rfl; rw [h2] at h; cases h
    refine lv_iconst (v := 1) hx hb d_M_set_29 (by decide) ?_
    refine lv_goto (tgt := 34) hx hb d_M_set_30 (by decide) ?_
    refine mp_thrown (1 : Int32) hx hb ht hown hw gw_822 d_M_set_34 (fun H3 locs3 u3 hw => ?_)
    refine lv_aload_n hx hb d_M_set_37 rfl (lv_at hl 0 rfl) ?_
    refine mg 25 (by decide) hx hb ht hown hw gw_822 rfl rfl d_M_set_38 ?_
    refine lv_if_eq (tgt := 46) hx hb d_M_set_41 (by decide) (fun c9 => ?_) (fun c9 => ?_)
    · exact absurd (show (1 : Int32) = 0 from c9) (by decide)
    · refine lv_iconst (v := 0) hx hb d_M_set_44 (by decide) ?_
      exact kt_i hx hb hr hlocks hw.1 d_M_set_45 (by unfold pSet; rw [wN_f hN]; exact ⟨rfl, _, rfl, hw.2.1, hw.2.2⟩) (by first | decide | (dsimp only; omega)) (by first | decide | (dsimp only; omega))
  · have hNj : isN (q_n s) k = true := by have h := (bI_eq _).mp c2; rcases h2 : isN (q_n s) k with _ | _; (rw [h2] at h; cases h); rfl
    obtain ⟨j, hj, rfl⟩ := isN_t hNj hR.2.2.2
    refine lv_aload_n hx hb d_M_set_9 rfl (lv_at hl 0 rfl) ?_
    refine mg 0 (by decide) hx hb ht hown hw gw_797 rfl rfl d_M_set_10 ?_
    refine lv_iload_n hx hb d_M_set_13 rfl (lv_at hl 1 rfl) ?_
    refine ma_sort (j := j) rfl (by have := hR.2.2.2; omega) hx hb hw d_M_set_14 ?_
    refine lv_if_ne (tgt := 29) hx hb d_M_set_15 (by decide) (fun c4 => ?_) (fun c4 => ?_)
    · have h0 : q_so s j ≠ 0 := fun h => c4 (by rw [h]; rfl)
      refine lv_iconst (v := 1) hx hb d_M_set_29 (by decide) ?_
      refine lv_goto (tgt := 34) hx hb d_M_set_30 (by decide) ?_
      refine mp_thrown (1 : Int32) hx hb ht hown hw gw_822 d_M_set_34 (fun H5 locs5 u5 hw => ?_)
      refine lv_aload_n hx hb d_M_set_37 rfl (lv_at hl 0 rfl) ?_
      refine mg 25 (by decide) hx hb ht hown hw gw_822 rfl rfl d_M_set_38 ?_
      refine lv_if_eq (tgt := 46) hx hb d_M_set_41 (by decide) (fun c9 => ?_) (fun c9 => ?_)
      · exact absurd (show (1 : Int32) = 0 from c9) (by decide)
      · refine lv_iconst (v := 0) hx hb d_M_set_44 (by decide) ?_
        exact kt_i hx hb hr hlocks hw.1 d_M_set_45 (by unfold pSet; rw [wN_t hj hR.2.2.2, if_pos h0]; exact ⟨rfl, _, rfl, hw.2.1, hw.2.2⟩) (by first | decide | (dsimp only; omega)) (by first | decide | (dsimp only; omega))
    · have h0 : q_so s j = 0 := nI_inj9 (b := 0) c4 (by have := (hok.2 j hj).1; omega)
      refine lv_aload_n hx hb d_M_set_18 rfl (lv_at hl 0 rfl) ?_
      refine lv_dload_n hx hb d_M_set_19 rfl (lv_at hl 2 rfl) ?_
      refine lv_ldc2d (v := 4681608360884174848) hx hb hown (ht _ gw_904) d_M_set_20 ?_
      refine kc_i (kr_V 2 (C := "QuoteGraphModel") (As := [.double (e8 i), .double (4681608360884174848 : UInt64)]) (rest := [.ref (lm 0)]) (c_M_far l G A u (lm 0) i 100000 4681608360884174848 (by decide +kernel) (by decide +kernel) (by decide) (by decide)) hx hb hml hown ht hw.1 gw_905 gw_907 gw_23 gw_47 gw_908 ⟨⟨by decide, by decide⟩, by decide +kernel⟩ ⟨by first | decide | (dsimp only; omega), by first | decide | (dsimp only; omega)⟩ (kr_M hw) rfl hl.1 rfl (lv_room (Nat.le_of_ble_eq_true rfl)) d_M_set_23 ⟨by first | decide | (dsimp only; omega), by first | decide | (dsimp only; omega)⟩) hw.1 (fun _ _ _ _ _ _ h => h.elim) (fun r6 u6 H6 locs6 hp6 hw6 => ?_)
      replace hp6 : _ = bI (!inE i 100000) ∧ _ := hp6
      obtain ⟨er6, hq6⟩ := hp6
      replace hq6 := hq6.symm; subst hq6
      subst er6
      have hw : Mk G A lm s m u u st H6 locs6 := ⟨hw6, hw.2⟩
      refine lv_if_eq (tgt := 33) hx hb d_M_set_26 (by decide) (fun c7 => ?_) (fun c7 => ?_)
      · have hEi : inE i 100000 = true := by have h := (bI_eq _).mp c7; rcases h2 : inE i 100000 with _ | _; (rw [h2] at h; cases h); rfl
        refine lv_iconst (v := 0) hx hb d_M_set_33 (by decide) ?_
        refine mp_thrown (0 : Int32) hx hb ht hown hw gw_822 d_M_set_34 (fun H8 locs8 u8 hw => ?_)
        refine lv_aload_n hx hb d_M_set_37 rfl (lv_at hl 0 rfl) ?_
        refine mg 25 (by decide) hx hb ht hown hw gw_822 rfl rfl d_M_set_38 ?_
        refine lv_if_eq (tgt := 46) hx hb d_M_set_41 (by decide) (fun c9 => ?_) (fun c9 => ?_)
        · refine lv_dload_n hx hb d_M_set_46 rfl (lv_at hl 2 rfl) ?_
          refine lv_ldc2d (v := 4652218415073722368) hx hb hown (ht _ gw_914) d_M_set_47 ?_
          refine lv_dmul hx hb d_M_set_50 (by rw [e8_1024]; exact l2d_n _) ?_
          rw [e8_1024]
          refine lv_d2l hx hb d_M_set_51 ?_
          rw [e8_dl]
          refine lv_lstore (lv' := [(4, .long (128 * i.toInt64)), (0, .ref (lm 0)), (1, .int (nI j)), (2, .double (e8 i))]) hx hb d_M_set_52 hl (by decide) rfl (fun ls hl => ?_)
          refine lv_aload_n hx hb d_M_set_54 rfl (lv_at hl 1 rfl) ?_
          refine mg 22 (by decide) hx hb ht hown hw gw_819 rfl rfl d_M_set_55 ?_
          refine lv_istore (lv' := [(6, .int (q_tl s)), (4, .long (128 * i.toInt64)), (0, .ref (lm 0)), (1, .int (nI j)), (2, .double (e8 i))]) hx hb d_M_set_58 hl (by decide) rfl (fun ls hl => ?_)
          refine lv_lload hx hb d_M_set_60 (lv_at hl 1 rfl) ?_
          refine lv_aload_n hx hb d_M_set_62 rfl (lv_at hl 2 rfl) ?_
          refine mg 2 (by decide) hx hb ht hown hw gw_799 rfl rfl d_M_set_63 ?_
          refine lv_iload_n hx hb d_M_set_66 rfl (lv_at hl 3 rfl) ?_
          refine ma_held (j := j) rfl (by have := hR.2.2.2; omega) hx hb hw d_M_set_67 ?_
          refine W.lcmp hx hb d_M_set_68 ?_
          refine lv_if_eq (tgt := 90) hx hb d_M_set_69 (by decide) (fun c9 => ?_) (fun c9 => ?_)
          · have e7 : 128 * i.toInt64 = q_am s j := (lg_cmp_eq _ _).mp c9
            refine lv_aload_n hx hb d_M_set_90 rfl (lv_at hl 2 rfl) ?_
            refine mg 22 (by decide) hx hb ht hown hw gw_819 rfl rfl d_M_set_91 ?_
            refine lv_iload hx hb d_M_set_94 (lv_at hl 0 rfl) ?_
            refine lv_isub hx hb d_M_set_96 ?_
            exact kt_i hx hb hr hlocks hw.1 d_M_set_97 (by unfold pSet; rw [wN_t hj hR.2.2.2, if_neg (fun h => h h0), if_neg (by rw [hEi]; decide), if_pos e7]; exact ⟨rfl, _, rfl, hw.2.1, hw.2.2⟩) (by first | decide | (dsimp only; omega)) (by first | decide | (dsimp only; omega))
          · have e7 : ¬ 128 * i.toInt64 = q_am s j := fun h => c9 ((lg_cmp_eq _ _).mpr h)
            refine lv_aload_n hx hb d_M_set_72 rfl (lv_at hl 2 rfl) ?_
            refine mg 2 (by decide) hx hb ht hown hw gw_799 rfl rfl d_M_set_73 ?_
            refine lv_iload_n hx hb d_M_set_76 rfl (lv_at hl 3 rfl) ?_
            refine lv_lload hx hb d_M_set_77 (lv_at hl 1 rfl) ?_
            refine mp_held (j := j) (128 * i.toInt64) rfl (by have := hR.2.2.2; omega) hx hb hw d_M_set_79 (fun H10 locs10 u10 hw => ?_)
            refine lv_aload_n hx hb d_M_set_80 rfl (lv_at hl 2 rfl) ?_
            refine lv_aload_n hx hb d_M_set_81 rfl (lv_at hl 2 rfl) ?_
            refine lv_iload_n hx hb d_M_set_82 rfl (lv_at hl 3 rfl) ?_
            refine lv_iconst (v := 0) hx hb d_M_set_83 (by decide) ?_
            have hok2 : okQ (qS_am s (va_up (q_am s) j (128 * i.toInt64))) := hok
            refine kc_i (kr_V 2 (C := "QuoteGraphModel") (As := [.int (nI j), .int (0 : Int32)]) (rest := [.ref (lm 0)]) (c_M_users l G A lm (qS_am s (va_up (q_am s) j (128 * i.toInt64))) (mS_th m (0 : Int32)) u10 hw.2.1 hok2 j 0 hj ⟨fun i hi => absurd hi (by omega), fun i j hi => absurd hi (by omega)⟩) hx hb hml hown ht hw.1 gw_952 gw_954 gw_30 gw_47 gw_955 ⟨⟨by decide, by decide⟩, by decide +kernel⟩ ⟨by first | decide | (dsimp only; omega), by first | decide | (dsimp only; omega)⟩ (kr_M hw) rfl hl.1 rfl (lv_room (Nat.le_of_ble_eq_true rfl)) d_M_set_84 ⟨by first | decide | (dsimp only; omega), by first | decide | (dsimp only; omega)⟩) hw.1 (fun _ _ _ _ _ _ h => h.elim) (fun r11 u11 H11 locs11 hp11 hw11 => ?_)
            obtain ⟨li8, m8, er8, hG8, hI8, hr8, hfr8⟩ := hp11
            subst er8
            have hI7 : ∀ y, y < q_n s → (inL li8 m8 y ↔ ed (qS_am s (va_up (q_am s) j (128 * i.toInt64))) y j) := fun y hy => (hI8 y hy).trans ⟨fun h => h.elim (fun ⟨i, hi, _⟩ => absurd hi (by omega)) id, Or.inr⟩
            have hw : Mk G A lm (qS_am s (va_up (q_am s) j (128 * i.toInt64))) (mS_li (mS_th m (0 : Int32)) li8) u u11 st H11 locs11 := ⟨hw11, hr8, hw.2.2.tr hfr8⟩
            refine kc_v (kr_V 1 (C := "QuoteGraphModel") (As := [.int (nI m8)]) (rest := []) (c_M_tell l G A lm (qS_am s (va_up (q_am s) j (128 * i.toInt64))) (mS_li (mS_th m (0 : Int32)) li8) u11 hw.2.1 hok2 m8 hG8 (fun y hy h => ed_so hok2 hy ((hI7 y hy).mp h)) (show fv (qS_am s (va_up (q_am s) j (128 * i.toInt64))) from hfv)) hx hb hml hown ht hw.1 gw_948 gw_950 gw_29 gw_47 gw_951 ⟨⟨by decide, by decide⟩, by decide +kernel⟩ ⟨by first | decide | (dsimp only; omega), by first | decide | (dsimp only; omega)⟩ (kr_M hw) rfl hl.1 rfl (lv_room (Nat.le_of_ble_eq_true rfl)) d_M_set_87 ⟨by first | decide | (dsimp only; omega), by first | decide | (dsimp only; omega)⟩) hw.1 (fun _ _ _ _ _ _ h => h.elim) (fun u12 H12 locs12 hp12 hw12 => ?_)
            obtain ⟨s8, li7, hS8, hr8, hf8⟩ := hp12
            have e8 : s8 = (tellU (tellF 17) j (qS_am s (va_up (q_am s) j (128 * i.toInt64))) (q_n s)) := tellU_eq hok2 hj (hS8.cg hI7)
            subst e8
            have hw : Mk G A lm (tellU (tellF 17) j (qS_am s (va_up (q_am s) j (128 * i.toInt64))) (q_n s)) (mS_li (mS_li (mS_th m (0 : Int32)) li8) li7) u u12 st H12 locs12 := ⟨hw12, hr8, hw.2.2.tr hf8⟩
            refine lv_aload_n hx hb d_M_set_90 rfl (lv_at hl 2 rfl) ?_
            refine mg 22 (by decide) hx hb ht hown hw gw_819 rfl rfl d_M_set_91 ?_
            refine lv_iload hx hb d_M_set_94 (lv_at hl 0 rfl) ?_
            refine lv_isub hx hb d_M_set_96 ?_
            exact kt_i hx hb hr hlocks hw.1 d_M_set_97 (by unfold pSet; rw [wN_t hj hR.2.2.2, if_neg (fun h => h h0), if_neg (by rw [hEi]; decide), if_neg e7]; exact ⟨rfl, _, rfl, hw.2.1, hw.2.2⟩) (by first | decide | (dsimp only; omega)) (by first | decide | (dsimp only; omega))
        · exact absurd rfl c9
      · have hFi : inE i 100000 = false := by have h := (bI_ne _).mp c7; rcases h2 : inE i 100000 with _ | _; rfl; rw [h2] at h; cases h
        refine lv_iconst (v := 1) hx hb d_M_set_29 (by decide) ?_
        refine lv_goto (tgt := 34) hx hb d_M_set_30 (by decide) ?_
        refine mp_thrown (1 : Int32) hx hb ht hown hw gw_822 d_M_set_34 (fun H13 locs13 u13 hw => ?_)
        refine lv_aload_n hx hb d_M_set_37 rfl (lv_at hl 0 rfl) ?_
        refine mg 25 (by decide) hx hb ht hown hw gw_822 rfl rfl d_M_set_38 ?_
        refine lv_if_eq (tgt := 46) hx hb d_M_set_41 (by decide) (fun c9 => ?_) (fun c9 => ?_)
        · exact absurd (show (1 : Int32) = 0 from c9) (by decide)
        · refine lv_iconst (v := 0) hx hb d_M_set_44 (by decide) ?_
          exact kt_i hx hb hr hlocks hw.1 d_M_set_45 (by unfold pSet; rw [wN_t hj hR.2.2.2, if_neg (fun h => h h0), if_pos hFi]; exact ⟨rfl, _, rfl, hw.2.1, hw.2.2⟩) (by first | decide | (dsimp only; omega)) (by first | decide | (dsimp only; omega))
theorem fv_un {s : QS} {j : Nat} {f : Nat → Bool} (h : fv s) : fv (qS_mi (qS_fr s (va_up (q_fr s) j false)) f) := by
  intro y hy h1
  refine h y hy ?_
  have h1 : va_up (q_fr s) j false y = true := h1
  by_cases hyj : y = j
  · subst hyj; rw [va_up_self] at h1; cases h1
  · rw [va_up_ne _ _ hyj] at h1; exact h1
set_option maxHeartbeats 4000000 in
set_option maxRecDepth 100000 in
theorem c_M_freeze (l : Launch) (G : GT) (A : Nat → Prop) (lm : Nat → Nat) (s : QS) (m : MS) (u : WT) (hR : rM G lm s m u) (hok : okQ s) (hfv : fv s) (hmf : ∀ y, y < q_n s → q_mi s y = true → q_fr s y = true) (k : Int32) (on : Bool) : Kt l y_M_freeze b_M_freeze 3 none 2 50 0 0 0 0 0 0 G A u [.ref (lm 0), .int k, .int (bI on)] (KQ G A (Rv (fun u' => ∃ m', m_th m' = nI (pFreeze s k on).1 ∧ rM G lm (pFreeze s k on).2.2 m' u' ∧ fM lm u u'))) (NX) := by
  refine k_of (by decide) (Nat.le_of_ble_eq_true rfl) (fun p e st mt below meth c ls hx hb hr hlocks hml htab hname hown ht hw hl => ?_)
  have hl : lv_has ls 3 [(0, .ref (lm 0)), (1, .int k), (2, .int (bI on))] := hl
  have hw : Mk G A lm s m u u st st.heap [] := ⟨hw, hR, fM.rf⟩
  have hnm : ∀ {y : Nat}, y < q_n s → q_fr s y = false → q_mi s y = false := fun {y} hy h => by rcases h2 : q_mi s y with _ | _; rfl; rw [hmf y hy h2] at h; cases h
  refine lv_aload_n hx hb d_M_freeze_0 rfl (lv_at hl 0 rfl) ?_
  refine lv_aload_n hx hb d_M_freeze_1 rfl (lv_at hl 0 rfl) ?_
  refine lv_iload_n hx hb d_M_freeze_2 rfl (lv_at hl 1 rfl) ?_
  refine kc_i (kr_V 1 (C := "QuoteGraphModel") (As := [.int k]) (rest := [.ref (lm 0)]) (c_M_no l G A lm s m u hR k) hx hb hml hown ht hw.1 gw_919 gw_921 gw_25 gw_47 gw_922 ⟨⟨by decide, by decide⟩, by decide +kernel⟩ ⟨by first | decide | (dsimp only; omega), by first | decide | (dsimp only; omega)⟩ (kr_M hw) rfl hl.1 rfl (lv_room (Nat.le_of_ble_eq_true rfl)) d_M_freeze_3 ⟨by first | decide | (dsimp only; omega), by first | decide | (dsimp only; omega)⟩) hw.1 (fun _ _ _ _ _ _ h => h.elim) (fun r1 u1 H1 locs1 hp1 hw1 => ?_)
  obtain ⟨er1, hq1⟩ := hp1
  replace hq1 := hq1.symm; subst hq1
  subst er1
  have hw : Mk G A lm s m u u st H1 locs1 := ⟨hw1, hw.2⟩
  refine lv_if_ne (tgt := 18) hx hb d_M_freeze_6 (by decide) (fun c2 => ?_) (fun c2 => ?_)
  · have hN : isN (q_n s) k = false := by have h := (bI_ne _).mp c2; rcases h2 : isN (q_n s) k with _ | _; rfl; rw [h2] at h; cases h
    refine lv_iconst (v := 1) hx hb d_M_freeze_18 (by decide) ?_
    refine lv_goto (tgt := 40) hx hb d_M_freeze_19 (by decide) ?_
    refine mp_thrown (1 : Int32) hx hb ht hown hw gw_822 d_M_freeze_40 (fun H3 locs3 u3 hw => ?_)
    refine lv_aload_n hx hb d_M_freeze_43 rfl (lv_at hl 0 rfl) ?_
    refine mg 25 (by decide) hx hb ht hown hw gw_822 rfl rfl d_M_freeze_44 ?_
    refine lv_if_ne (tgt := 60) hx hb d_M_freeze_47 (by decide) (fun c9 => ?_) (fun c9 => ?_)
    · exact kt_v hx hb hr hlocks hw.1 d_M_freeze_60 (by unfold pFreeze; rw [wN_f hN]; exact ⟨_, rfl, hw.2.1, hw.2.2⟩) (by first | decide | (dsimp only; omega)) (by first | decide | (dsimp only; omega))
    · exact absurd (show (1 : Int32) = 0 from c9) (by decide)
  · have hNj : isN (q_n s) k = true := by have h := (bI_eq _).mp c2; rcases h2 : isN (q_n s) k with _ | _; (rw [h2] at h; cases h); rfl
    obtain ⟨j, hj, rfl⟩ := isN_t hNj hR.2.2.2
    refine lv_aload_n hx hb d_M_freeze_9 rfl (lv_at hl 0 rfl) ?_
    refine mg 0 (by decide) hx hb ht hown hw gw_797 rfl rfl d_M_freeze_10 ?_
    refine lv_iload_n hx hb d_M_freeze_13 rfl (lv_at hl 1 rfl) ?_
    refine ma_sort (j := j) rfl (by have := hR.2.2.2; omega) hx hb hw d_M_freeze_14 ?_
    refine lv_if_ne (tgt := 22) hx hb d_M_freeze_15 (by decide) (fun c4 => ?_) (fun c4 => ?_)
    · have h0 : q_so s j ≠ 0 := fun h => c4 (by rw [h]; rfl)
      refine lv_iload_n hx hb d_M_freeze_22 rfl (lv_at hl 2 rfl) ?_
      refine lv_if_eq (tgt := 39) hx hb d_M_freeze_23 (by decide) (fun c5 => ?_) (fun c5 => ?_)
      · have hon : on = false := (bI_eq _).mp c5
        subst hon
        refine lv_iconst (v := 0) hx hb d_M_freeze_39 (by decide) ?_
        refine mp_thrown (0 : Int32) hx hb ht hown hw gw_822 d_M_freeze_40 (fun H6 locs6 u6 hw => ?_)
        refine lv_aload_n hx hb d_M_freeze_43 rfl (lv_at hl 0 rfl) ?_
        refine mg 25 (by decide) hx hb ht hown hw gw_822 rfl rfl d_M_freeze_44 ?_
        refine lv_if_ne (tgt := 60) hx hb d_M_freeze_47 (by decide) (fun c9 => ?_) (fun c9 => ?_)
        · exact absurd rfl c9
        · refine lv_aload_n hx hb d_M_freeze_50 rfl (lv_at hl 0 rfl) ?_
          refine mg 4 (by decide) hx hb ht hown hw gw_801 rfl rfl d_M_freeze_51 ?_
          refine lv_iload_n hx hb d_M_freeze_54 rfl (lv_at hl 1 rfl) ?_
          refine ma_frozen (j := j) rfl (by have := hR.2.2.2; omega) hx hb hw d_M_freeze_55 ?_
          refine lv_iload_n hx hb d_M_freeze_56 rfl (lv_at hl 2 rfl) ?_
          rcases hf0 : q_fr s j with _ | _
          · refine lv_icmp_ne (tgt := 61) hx hb d_M_freeze_57 (by decide) (fun c9 => ?_) (fun c9 => ?_)
            · exact absurd rfl c9
            · exact kt_v hx hb hr hlocks hw.1 d_M_freeze_60 (by unfold pFreeze; rw [wN_t hj hR.2.2.2, if_neg h0, if_neg (by decide), if_neg (by rw [hnm hj hf0]; decide), va_up_same hf0]; exact ⟨_, rfl, hw.2.1, hw.2.2⟩) (by first | decide | (dsimp only; omega)) (by first | decide | (dsimp only; omega))
          · refine lv_icmp_ne (tgt := 61) hx hb d_M_freeze_57 (by decide) (fun c9 => ?_) (fun c9 => ?_)
            · refine lv_aload_n hx hb d_M_freeze_61 rfl (lv_at hl 0 rfl) ?_
              refine mg 4 (by decide) hx hb ht hown hw gw_801 rfl rfl d_M_freeze_62 ?_
              refine lv_iload_n hx hb d_M_freeze_65 rfl (lv_at hl 1 rfl) ?_
              refine lv_iload_n hx hb d_M_freeze_66 rfl (lv_at hl 2 rfl) ?_
              refine mp_frozen (j := j) false rfl (by have := hR.2.2.2; omega) hx hb hw d_M_freeze_67 (fun H7 locs7 u7 hw => ?_)
              refine lv_iload_n hx hb d_M_freeze_68 rfl (lv_at hl 2 rfl) ?_
              refine lv_if_ne (tgt := 81) hx hb d_M_freeze_69 (by decide) (fun c8 => ?_) (fun c8 => ?_)
              · exact absurd rfl c8
              · refine lv_aload_n hx hb d_M_freeze_72 rfl (lv_at hl 0 rfl) ?_
                refine mg 5 (by decide) hx hb ht hown hw gw_802 rfl rfl d_M_freeze_73 ?_
                refine lv_iload_n hx hb d_M_freeze_76 rfl (lv_at hl 1 rfl) ?_
                refine ma_missed (j := j) rfl (by have := hR.2.2.2; omega) hx hb hw d_M_freeze_77 ?_
                refine lv_if_ne (tgt := 82) hx hb d_M_freeze_78 (by decide) (fun c8 => ?_) (fun c8 => ?_)
                · have hm0 : q_mi s j = true := (bI_ne _).mp c8
                  refine lv_aload_n hx hb d_M_freeze_82 rfl (lv_at hl 0 rfl) ?_
                  refine mg 5 (by decide) hx hb ht hown hw gw_802 rfl rfl d_M_freeze_83 ?_
                  refine lv_iload_n hx hb d_M_freeze_86 rfl (lv_at hl 1 rfl) ?_
                  refine lv_iconst (v := 0) hx hb d_M_freeze_87 (by decide) ?_
                  refine mp_missed (j := j) false rfl (by have := hR.2.2.2; omega) hx hb hw d_M_freeze_88 (fun H9 locs9 u9 hw => ?_)
                  refine lv_aload_n hx hb d_M_freeze_89 rfl (lv_at hl 0 rfl) ?_
                  refine mg 15 (by decide) hx hb ht hown hw gw_812 rfl rfl d_M_freeze_90 ?_
                  refine lv_iconst (v := 0) hx hb d_M_freeze_93 (by decide) ?_
                  refine lv_iload_n hx hb d_M_freeze_94 rfl (lv_at hl 1 rfl) ?_
                  refine mp_list (j := 0) (nI j) rfl (by decide) hx hb hw d_M_freeze_95 (fun H10 locs10 u10 hw => ?_)
                  refine lv_aload_n hx hb d_M_freeze_96 rfl (lv_at hl 0 rfl) ?_
                  refine lv_iconst (v := 1) hx hb d_M_freeze_97 (by decide) ?_
                  have hok2 : okQ (qS_mi (qS_fr s (va_up (q_fr s) j false)) (va_up (q_mi s) j false)) := hok
                  have hs0 : q_so (qS_mi (qS_fr s (va_up (q_fr s) j false)) (va_up (q_mi s) j false)) j ≠ 0 := h0
                  refine kc_v (kr_V 1 (C := "QuoteGraphModel") (As := [.int (1 : Int32)]) (rest := []) (c_M_tell l G A lm (qS_mi (qS_fr s (va_up (q_fr s) j false)) (va_up (q_mi s) j false)) (mS_li (mS_th m (0 : Int32)) (va_up (m_li (mS_th m (0 : Int32))) 0 (nI j))) u10 hw.2.1 hok2 1 (by rw [(show q_n (qS_mi (qS_fr s (va_up (q_fr s) j false)) (va_up (q_mi s) j false)) = q_n s from rfl)]; exact (inL1 hR.2.2.2 hj).1) (fun y hy h => by rw [(show q_n (qS_mi (qS_fr s (va_up (q_fr s) j false)) (va_up (q_mi s) j false)) = q_n s from rfl)] at hy; have e := ((inL1 hR.2.2.2 hj).2 y hy).mp h; rw [e]; exact hs0) (fv_un hfv)) hx hb hml hown ht hw.1 gw_948 gw_950 gw_29 gw_47 gw_951 ⟨⟨by decide, by decide⟩, by decide +kernel⟩ ⟨by first | decide | (dsimp only; omega), by first | decide | (dsimp only; omega)⟩ (kr_M hw) rfl hl.1 rfl (lv_room (Nat.le_of_ble_eq_true rfl)) d_M_freeze_98 ⟨by first | decide | (dsimp only; omega), by first | decide | (dsimp only; omega)⟩) hw.1 (fun _ _ _ _ _ _ h => h.elim) (fun u11 H11 locs11 hp11 hw11 => ?_)
                  obtain ⟨s8, li8, hS8, hr8, hf8⟩ := hp11
                  have e8 := tell1 hok2 (by rw [(show q_n (qS_mi (qS_fr s (va_up (q_fr s) j false)) (va_up (q_mi s) j false)) = q_n s from rfl)]; exact hj) hS8
                  subst e8
                  have hw : Mk G A lm (tellF 17 (qS_mi (qS_fr s (va_up (q_fr s) j false)) (va_up (q_mi s) j false)) j) (mS_li (mS_li (mS_th m (0 : Int32)) (va_up (m_li (mS_th m (0 : Int32))) 0 (nI j))) li8) u u11 st H11 locs11 := ⟨hw11, hr8, hw.2.2.tr hf8⟩
                  exact kt_v hx hb hr hlocks hw.1 d_M_freeze_101 (by unfold pFreeze; rw [wN_t hj hR.2.2.2, if_neg h0, if_neg (by decide), if_pos hm0]; exact ⟨_, rfl, hw.2.1, hw.2.2⟩) (by first | decide | (dsimp only; omega)) (by first | decide | (dsimp only; omega))
                · have hm0 : q_mi s j = false := (bI_eq _).mp c8
                  exact kt_v hx hb hr hlocks hw.1 d_M_freeze_81 (by unfold pFreeze; rw [wN_t hj hR.2.2.2, if_neg h0, if_neg (by decide), if_neg (by rw [hm0]; decide)]; exact ⟨_, rfl, hw.2.1, hw.2.2⟩) (by first | decide | (dsimp only; omega)) (by first | decide | (dsimp only; omega))
            · exact absurd (show (1 : Int32) = 0 from c9) (by decide)
      · have hon : on = true := (bI_ne _).mp c5
        subst hon
        refine lv_aload_n hx hb d_M_freeze_26 rfl (lv_at hl 0 rfl) ?_
        refine mg 3 (by decide) hx hb ht hown hw gw_800 rfl rfl d_M_freeze_27 ?_
        refine lv_iload_n hx hb d_M_freeze_30 rfl (lv_at hl 1 rfl) ?_
        refine ma_valid (j := j) rfl (by have := hR.2.2.2; omega) hx hb hw d_M_freeze_31 ?_
        refine lv_if_ne (tgt := 39) hx hb d_M_freeze_32 (by decide) (fun c12 => ?_) (fun c12 => ?_)
        · have hv0 : q_va s j = true := (bI_ne _).mp c12
          refine lv_iconst (v := 0) hx hb d_M_freeze_39 (by decide) ?_
          refine mp_thrown (0 : Int32) hx hb ht hown hw gw_822 d_M_freeze_40 (fun H13 locs13 u13 hw => ?_)
          refine lv_aload_n hx hb d_M_freeze_43 rfl (lv_at hl 0 rfl) ?_
          refine mg 25 (by decide) hx hb ht hown hw gw_822 rfl rfl d_M_freeze_44 ?_
          refine lv_if_ne (tgt := 60) hx hb d_M_freeze_47 (by decide) (fun c9 => ?_) (fun c9 => ?_)
          · exact absurd rfl c9
          · refine lv_aload_n hx hb d_M_freeze_50 rfl (lv_at hl 0 rfl) ?_
            refine mg 4 (by decide) hx hb ht hown hw gw_801 rfl rfl d_M_freeze_51 ?_
            refine lv_iload_n hx hb d_M_freeze_54 rfl (lv_at hl 1 rfl) ?_
            refine ma_frozen (j := j) rfl (by have := hR.2.2.2; omega) hx hb hw d_M_freeze_55 ?_
            refine lv_iload_n hx hb d_M_freeze_56 rfl (lv_at hl 2 rfl) ?_
            rcases hf0 : q_fr s j with _ | _
            · refine lv_icmp_ne (tgt := 61) hx hb d_M_freeze_57 (by decide) (fun c9 => ?_) (fun c9 => ?_)
              · refine lv_aload_n hx hb d_M_freeze_61 rfl (lv_at hl 0 rfl) ?_
                refine mg 4 (by decide) hx hb ht hown hw gw_801 rfl rfl d_M_freeze_62 ?_
                refine lv_iload_n hx hb d_M_freeze_65 rfl (lv_at hl 1 rfl) ?_
                refine lv_iload_n hx hb d_M_freeze_66 rfl (lv_at hl 2 rfl) ?_
                refine mp_frozen (j := j) true rfl (by have := hR.2.2.2; omega) hx hb hw d_M_freeze_67 (fun H14 locs14 u14 hw => ?_)
                refine lv_iload_n hx hb d_M_freeze_68 rfl (lv_at hl 2 rfl) ?_
                refine lv_if_ne (tgt := 81) hx hb d_M_freeze_69 (by decide) (fun c8 => ?_) (fun c8 => ?_)
                · exact kt_v hx hb hr hlocks hw.1 d_M_freeze_81 (by unfold pFreeze; rw [wN_t hj hR.2.2.2, if_neg h0, if_pos rfl, if_pos hv0]; exact ⟨_, rfl, hw.2.1, hw.2.2⟩) (by first | decide | (dsimp only; omega)) (by first | decide | (dsimp only; omega))
                · exact absurd (show (1 : Int32) = 0 from c8) (by decide)
              · exact absurd (show (0 : Int32) = 1 from c9) (by decide)
            · refine lv_icmp_ne (tgt := 61) hx hb d_M_freeze_57 (by decide) (fun c9 => ?_) (fun c9 => ?_)
              · exact absurd rfl c9
              · exact kt_v hx hb hr hlocks hw.1 d_M_freeze_60 (by unfold pFreeze; rw [wN_t hj hR.2.2.2, if_neg h0, if_pos rfl, if_pos hv0, va_up_same hf0]; exact ⟨_, rfl, hw.2.1, hw.2.2⟩) (by first | decide | (dsimp only; omega)) (by first | decide | (dsimp only; omega))
        · have hv0 : q_va s j = false := (bI_eq _).mp c12
          refine lv_iconst (v := 2) hx hb d_M_freeze_35 (by decide) ?_
          refine lv_goto (tgt := 40) hx hb d_M_freeze_36 (by decide) ?_
          refine mp_thrown (2 : Int32) hx hb ht hown hw gw_822 d_M_freeze_40 (fun H15 locs15 u15 hw => ?_)
          refine lv_aload_n hx hb d_M_freeze_43 rfl (lv_at hl 0 rfl) ?_
          refine mg 25 (by decide) hx hb ht hown hw gw_822 rfl rfl d_M_freeze_44 ?_
          refine lv_if_ne (tgt := 60) hx hb d_M_freeze_47 (by decide) (fun c9 => ?_) (fun c9 => ?_)
          · exact kt_v hx hb hr hlocks hw.1 d_M_freeze_60 (by unfold pFreeze; rw [wN_t hj hR.2.2.2, if_neg h0, if_pos rfl, if_neg (by rw [hv0]; decide)]; exact ⟨_, rfl, hw.2.1, hw.2.2⟩) (by first | decide | (dsimp only; omega)) (by first | decide | (dsimp only; omega))
          · exact absurd (show (2 : Int32) = 0 from c9) (by decide)
    · have h0 : q_so s j = 0 := nI_inj9 (b := 0) c4 (by have := (hok.2 j hj).1; omega)
      refine lv_iconst (v := 1) hx hb d_M_freeze_18 (by decide) ?_
      refine lv_goto (tgt := 40) hx hb d_M_freeze_19 (by decide) ?_
      refine mp_thrown (1 : Int32) hx hb ht hown hw gw_822 d_M_freeze_40 (fun H16 locs16 u16 hw => ?_)
      refine lv_aload_n hx hb d_M_freeze_43 rfl (lv_at hl 0 rfl) ?_
      refine mg 25 (by decide) hx hb ht hown hw gw_822 rfl rfl d_M_freeze_44 ?_
      refine lv_if_ne (tgt := 60) hx hb d_M_freeze_47 (by decide) (fun c9 => ?_) (fun c9 => ?_)
      · exact kt_v hx hb hr hlocks hw.1 d_M_freeze_60 (by unfold pFreeze; rw [wN_t hj hR.2.2.2, if_pos h0]; exact ⟨_, rfl, hw.2.1, hw.2.2⟩) (by first | decide | (dsimp only; omega)) (by first | decide | (dsimp only; omega))
      · exact absurd (show (1 : Int32) = 0 from c9) (by decide)

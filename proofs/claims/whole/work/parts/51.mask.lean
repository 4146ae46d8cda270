/-! 51.mask: the contract of ask -/
theorem wkA_c (s : QS) (j : Nat) : (wkA s j).1 = 0 ∨ (wkA s j).1 = 2 ∨ (wkA s j).1 = 3 := by
  have h := askF_c 1 (qS_va s (fun _ => false)) j
  unfold wkA
  split
  · split
    · exact Or.inr (Or.inl rfl)
    · exact Or.inl rfl
  · rename_i h0
    have hV : (wkV s j).1 = 0 ∨ (wkV s j).1 = 2 ∨ (wkV s j).1 = 3 := by
      unfold wkV oWork
      repeat' split
      all_goals first | exact Or.inl rfl | exact Or.inr (Or.inl rfl) | exact Or.inr (Or.inr rfl)
    exact hV
set_option maxHeartbeats 4000000 in
set_option maxRecDepth 100000 in
theorem c_M_ask (l : Launch) (G : GT) (A : Nat → Prop) (lm : Nat → Nat) (s : QS) (m : MS) (u : WT) (hR : rM G lm s m u) (r : Nat → Nat) (hI : aI r s) (hr17 : ∀ j, j < q_n s → r j < 17) (j : Nat) (hj : j < q_n s) : Kt l y_M_ask b_M_ask 7 (some .boolean) 5 125 0 0 0 0 0 0 G A u [.ref (lm 0), .int (nI j)] (KQ G A (Ri (fun r u' => r = bI (decide ((askF 17 s j).1 = 0)) ∧ ∃ m', m_tr m' = nI (askF 17 s j).1 ∧ m_oh m' = m_oh m ∧ m_ov m' = m_ov m ∧ m_th m' = m_th m ∧ rM G lm (askF 17 s j).2 m' u' ∧ fM lm u u'))) (NX) := by
  refine k_of (by decide) (Nat.le_of_ble_eq_true rfl) (fun p e st mt below meth c ls hx hb hr hlocks hml htab hname hown ht hw hl => ?_)
  have hl : lv_has ls 7 [(0, .ref (lm 0)), (1, .int (nI j))] := hl
  have hw : Mk G A lm s m u u st st.heap [] := ⟨hw, hR, fM.rf⟩
  refine lv_iconst (v := 1) hx hb d_M_ask_0 (by decide) ?_
  refine lv_istore_n (lv' := [(2, .int (1 : Int32)), (0, .ref (lm 0)), (1, .int (nI j))]) hx hb d_M_ask_1 rfl hl (by decide) rfl (fun ls hl => ?_)
  refine lv_aload_n hx hb d_M_ask_2 rfl (lv_at hl 1 rfl) ?_
  refine mg 15 (by decide) hx hb ht hown hw gw_812 rfl rfl d_M_ask_3 ?_
  refine lv_iconst (v := 0) hx hb d_M_ask_6 (by decide) ?_
  refine lv_iload_n hx hb d_M_ask_7 rfl (lv_at hl 2 rfl) ?_
  refine mp_list (j := 0) (nI j) rfl (by decide) hx hb hw d_M_ask_8 (fun H1 locs1 u1 hw => ?_)
  refine lv_aload_n hx hb d_M_ask_9 rfl (lv_at hl 1 rfl) ?_
  refine mg 16 (by decide) hx hb ht hown hw gw_813 rfl rfl d_M_ask_10 ?_
  refine lv_iconst (v := 0) hx hb d_M_ask_13 (by decide) ?_
  refine lv_iconst (v := 0) hx hb d_M_ask_14 (by decide) ?_
  refine mp_next (j := 0) (0 : Int32) rfl (by decide) hx hb hw d_M_ask_15 (fun H2 locs2 u2 hw => ?_)
  refine lv_aload_n hx hb d_M_ask_16 rfl (lv_at hl 1 rfl) ?_
  refine lv_iconst (v := 0) hx hb d_M_ask_17 (by decide) ?_
  refine mp_trouble (0 : Int32) hx hb ht hown hw gw_823 d_M_ask_18 (fun H3 locs3 u3 hw => ?_)
  refine k_goal (fun Wt hWt => ?_)
  have key : ∀ (d : Nat) (S : QS) (M : MS) (dp j : Nat) (ls : Array Slot) (H : Heap) (locs : List Loc) (u9 : WT), aI r S → j < q_n S → r j < d → dp + d ≤ 63 → m_li M dp = nI j → m_ne M dp = nI 0 → m_tr M = 0 → lv_has ls 7 [(0, .ref (lm 0)), (2, .int (nI (dp + 1)))] → Mk G A lm S M u u9 st H locs → (∀ (M' : MS) (ls : Array Slot) (H : Heap) (locs : List Loc) (u9 : WT), (askF d S j).1 = 0 → mA M M' dp → m_tr M' = 0 → lv_has ls 7 [(0, .ref (lm 0)), (2, .int (nI dp))] → Mk G A lm (askF d S j).2 M' u u9 st H locs → Wt 21 ls H locs) → (∀ (M' : MS) (ls : Array Slot) (H : Heap) (locs : List Loc) (u9 : WT), (askF d S j).1 ≠ 0 → mA M M' dp → m_tr M' = nI (askF d S j).1 → lv_has ls 7 [(0, .ref (lm 0))] → Mk G A lm (askF d S j).2 M' u u9 st H locs → Wt 139 ls H locs) → Wt 21 ls H locs := by
    intro d
    induction d with
    | zero => intro S M dp j ls H locs u9 _ _ hr9; exact absurd hr9 (Nat.not_lt_zero _)
    | succ d ih =>
      intro S M dp j ls H locs u9 hI9 hj9 hr9 hd9 hli hne htr hl hw kS kF
      have hJ16 := hI9.1.1
      by_cases hv : q_va S j = true
      · have eF : askF (d + 1) S j = (0, S) := by rw [askF_s, if_pos hv]
        refine (hWt _ _ _ _).mpr ?_
        refine lv_iload_n hx hb d_M_ask_21 rfl (lv_at hl 1 rfl) ?_
        refine lv_if_le (tgt := 179) hx hb d_M_ask_22 (by decide) (fun c0 => ?_) (fun c0 => ?_)
        · exact absurd (show nI (dp + 1) ≤ 0 from c0) (fun h => absurd (nI_le0 h (by omega)) (by omega))
        · refine lv_aload_n hx hb d_M_ask_25 rfl (lv_at hl 0 rfl) ?_
          refine mg 15 (by decide) hx hb ht hown hw gw_812 rfl rfl d_M_ask_26 ?_
          refine lv_iload_n hx hb d_M_ask_29 rfl (lv_at hl 1 rfl) ?_
          refine lv_iconst (v := 1) hx hb d_M_ask_30 (by decide) ?_
          refine lv_isub hx hb d_M_ask_31 ?_
          refine ma_list (j := dp) (nI_pr _) (by omega) hx hb hw d_M_ask_32 ?_
          rw [show m_li M dp = nI j from hli]
          refine lv_istore_n (lv' := [(3, .int (nI j)), (0, .ref (lm 0)), (2, .int (nI (dp + 1)))]) hx hb d_M_ask_33 rfl hl (by decide) rfl (fun ls hl => ?_)
          refine lv_aload_n hx hb d_M_ask_34 rfl (lv_at hl 1 rfl) ?_
          refine mg 16 (by decide) hx hb ht hown hw gw_813 rfl rfl d_M_ask_35 ?_
          refine lv_iload_n hx hb d_M_ask_38 rfl (lv_at hl 2 rfl) ?_
          refine lv_iconst (v := 1) hx hb d_M_ask_39 (by decide) ?_
          refine lv_isub hx hb d_M_ask_40 ?_
          refine ma_next (j := dp) (nI_pr _) (by omega) hx hb hw d_M_ask_41 ?_
          refine lv_istore (lv' := [(4, .int (m_ne M dp)), (3, .int (nI j)), (0, .ref (lm 0)), (2, .int (nI (dp + 1)))]) hx hb d_M_ask_42 hl (by decide) rfl (fun ls hl => ?_)
          refine lv_aload_n hx hb d_M_ask_44 rfl (lv_at hl 2 rfl) ?_
          refine mg 3 (by decide) hx hb ht hown hw gw_800 rfl rfl d_M_ask_45 ?_
          refine lv_iload_n hx hb d_M_ask_48 rfl (lv_at hl 1 rfl) ?_
          refine ma_valid (j := j) rfl (by have := hI9.1.1; omega) hx hb hw d_M_ask_49 ?_
          refine lv_if_eq (tgt := 59) hx hb d_M_ask_50 (by decide) (fun c4 => ?_) (fun c4 => ?_)
          · rw [hv] at c4; exact absurd (show (1 : Int32) = 0 from c4) (by decide)
          · obtain ⟨i5, ei5⟩ : ∃ y : Int32, y = (nI (dp + 1)) + (-1) := ⟨_, rfl⟩
            refine lv_iinc (v := i5) (lv' := [(2, .int i5), (4, .int (m_ne M dp)), (3, .int (nI j)), (0, .ref (lm 0))]) hx hb d_M_ask_53 hl (k := 3) rfl (by rw [ei5]; rfl) (by decide) rfl (fun ls hl => ?_)
            rw [nI_dn] at ei5; subst ei5
            refine lv_goto (tgt := 176) hx hb d_M_ask_56 (by decide) ?_
            refine lv_goto (tgt := 21) hx hb d_M_ask_176 (by decide) ?_
            exact (hWt _ _ _ _).mp (kS M ls H locs u9 (by rw [eF]) mA.rf htr (lv_sub hl [3, 0] rfl) (by rw [eF]; exact hw))
      · have h0j : q_so S j ≠ 0 := fun h => hv (hI9.2.2.2.2 j hj9 h)
        have eF : askF (d + 1) S j = if (askS (askF d) j S 4).1 = 0 then askW (askS (askF d) j S 4).2 j else askS (askF d) j S 4 := by rw [askF_s, if_neg hv, askS_P (askF_K d) hI9.1 hj9 h0j]
        have inner : ∀ (n k : Nat) (M9 : MS) (ls : Array Slot) (H : Heap) (locs : List Loc) (u9 : WT), k + n = 4 → (askS (askF d) j S k).1 = 0 → mA M M9 dp → m_li M9 dp = nI j → m_ne M9 dp = nI k → m_tr M9 = 0 → lv_has ls 7 [(0, .ref (lm 0)), (2, .int (nI (dp + 1)))] → Mk G A lm (askS (askF d) j S k).2 M9 u u9 st H locs → Wt 21 ls H locs := by
          intro n
          induction n with
          | zero =>
            intro k M9 ls H locs u9 hk9 hz9 hA9 hli9 hne9 htr9 hl hw
            have hk4 : k = 4 := by omega
            subst hk4
            obtain ⟨S9, eS⟩ : ∃ S9, askS (askF d) j S 4 = (0, S9) := ⟨_, Prod.ext hz9 rfl⟩
            have hw : Mk G A lm S9 M9 u u9 st H locs := by rw [eS] at hw; exact hw
            have hK9 : akK S S9 := by have h := askS_K (askF_K d) (j := j) (s := S) 4; rw [eS] at h; exact h
            have hI8 : aI r S9 := by have h := hI9.S d j 4; rw [eS] at h; exact h
            have hj8 : j < q_n S9 := by rw [hK9.1]; exact hj9
            have hv8 : q_va S9 j = false := by have h := askS_va (d := d) hI9.2.1 hj9 hI9.1 4 (by omega); rw [eS] at h; rw [show q_va S9 j = q_va S j from h]; rcases h2 : q_va S j with _ | _; rfl; exact absurd h2 hv
            refine (hWt _ _ _ _).mpr ?_
            refine lv_iload_n hx hb d_M_ask_21 rfl (lv_at hl 1 rfl) ?_
            refine lv_if_le (tgt := 179) hx hb d_M_ask_22 (by decide) (fun c0 => ?_) (fun c0 => ?_)
            · exact absurd (show nI (dp + 1) ≤ 0 from c0) (fun h => absurd (nI_le0 h (by omega)) (by omega))
            · refine lv_aload_n hx hb d_M_ask_25 rfl (lv_at hl 0 rfl) ?_
              refine mg 15 (by decide) hx hb ht hown hw gw_812 rfl rfl d_M_ask_26 ?_
              refine lv_iload_n hx hb d_M_ask_29 rfl (lv_at hl 1 rfl) ?_
              refine lv_iconst (v := 1) hx hb d_M_ask_30 (by decide) ?_
              refine lv_isub hx hb d_M_ask_31 ?_
              refine ma_list (j := dp) (nI_pr _) (by omega) hx hb hw d_M_ask_32 ?_
              rw [show m_li M9 dp = nI j from hli9]
              refine lv_istore_n (lv' := [(3, .int (nI j)), (0, .ref (lm 0)), (2, .int (nI (dp + 1)))]) hx hb d_M_ask_33 rfl hl (by decide) rfl (fun ls hl => ?_)
              refine lv_aload_n hx hb d_M_ask_34 rfl (lv_at hl 1 rfl) ?_
              refine mg 16 (by decide) hx hb ht hown hw gw_813 rfl rfl d_M_ask_35 ?_
              refine lv_iload_n hx hb d_M_ask_38 rfl (lv_at hl 2 rfl) ?_
              refine lv_iconst (v := 1) hx hb d_M_ask_39 (by decide) ?_
              refine lv_isub hx hb d_M_ask_40 ?_
              refine ma_next (j := dp) (nI_pr _) (by omega) hx hb hw d_M_ask_41 ?_
              rw [show m_ne M9 dp = nI 4 from hne9]
              refine lv_istore (lv' := [(4, .int (nI 4)), (3, .int (nI j)), (0, .ref (lm 0)), (2, .int (nI (dp + 1)))]) hx hb d_M_ask_42 hl (by decide) rfl (fun ls hl => ?_)
              refine lv_aload_n hx hb d_M_ask_44 rfl (lv_at hl 2 rfl) ?_
              refine mg 3 (by decide) hx hb ht hown hw gw_800 rfl rfl d_M_ask_45 ?_
              refine lv_iload_n hx hb d_M_ask_48 rfl (lv_at hl 1 rfl) ?_
              refine ma_valid (j := j) rfl (by have := hI9.1.1; omega) hx hb hw d_M_ask_49 ?_
              refine lv_if_eq (tgt := 59) hx hb d_M_ask_50 (by decide) (fun c6 => ?_) (fun c6 => ?_)
              · refine lv_iload hx hb d_M_ask_59 (lv_at hl 0 rfl) ?_
                refine lv_iconst (v := 4) hx hb d_M_ask_61 (by decide) ?_
                refine lv_icmp_ge (tgt := 121) hx hb d_M_ask_62 (by decide) (fun c9 => ?_) (fun c9 => ?_)
                · have h0j8 : q_so S9 j ≠ 0 := by rw [hK9.2.1]; exact h0j
                  refine lv_aload_n hx hb d_M_ask_121 rfl (lv_at hl 2 rfl) ?_
                  refine lv_aload_n hx hb d_M_ask_122 rfl (lv_at hl 2 rfl) ?_
                  refine lv_iload_n hx hb d_M_ask_123 rfl (lv_at hl 1 rfl) ?_
                  refine kc_l (kr_V 1 (C := "QuoteGraphModel") (As := [.int (nI j)]) (rest := [.ref (lm 0)]) (c_M_result l G A lm S9 M9 u9 hw.2.1 hI8.1 j hj8 h0j8 hI8.2.2.2.1 (fun h => hI8.2.2.1 j hj8 h) htr9) hx hb hml hown ht hw.1 gw_972 gw_974 gw_32 gw_47 gw_975 ⟨⟨by decide, by decide⟩, by decide +kernel⟩ ⟨by first | decide | (dsimp only; omega), by first | decide | (dsimp only; omega)⟩ (kr_M hw) rfl hl.1 rfl (lv_room (Nat.le_of_ble_eq_true rfl)) d_M_ask_124 ⟨by first | decide | (dsimp only; omega), by first | decide | (dsimp only; omega)⟩) hw.1 (fun _ _ _ _ _ _ h => h.elim) (fun r7 u7 H7 locs7 hp7 hw7 => ?_)
                  obtain ⟨m8, w1, w2, w3, w4⟩ := hp7
                  have hw : Mk G A lm S9 m8 u u7 st H7 locs7 := ⟨hw7, w3, hw.2.2.tr w4⟩
                  obtain ⟨hT1, hT2⟩ := wk_T h0j8 w2
                  refine kc_l (kr_V 1 (C := "QuoteGraphModel") (As := [.long r7]) (rest := []) (c_M_bounded l G A lm S9 m8 u7 hw.2.1 r7) hx hb hml hown ht hw.1 gw_1003 gw_1005 gw_38 gw_47 gw_1006 ⟨⟨by decide, by decide⟩, by decide +kernel⟩ ⟨by first | decide | (dsimp only; omega), by first | decide | (dsimp only; omega)⟩ (kr_M hw) rfl hl.1 rfl (lv_room (Nat.le_of_ble_eq_true rfl)) d_M_ask_127 ⟨by first | decide | (dsimp only; omega), by first | decide | (dsimp only; omega)⟩) hw.1 (fun _ _ _ _ _ _ h => h.elim) (fun r8 u8 H8 locs8 hp8 hw8 => ?_)
                  obtain ⟨er8, g1, g2⟩ := hp8; replace er8 := er8.symm; subst er8
                  rw [bd_eq] at g1
                  have hw : Mk G A lm S9 (mS_tr m8 (bdT (m_tr m8) r7)) u u8 st H8 locs8 := ⟨hw8, g1, hw.2.2.tr g2⟩
                  have hA8 : mA M9 (mS_tr m8 (bdT (m_tr m8) r7)) dp := (w1.tr (mK_tr _ _)).a
                  have hli8 : m_li (mS_tr m8 (bdT (m_tr m8) r7)) dp = nI j := (congrFun (w1.tr (mK_tr m8 _)).1 dp).trans hli9
                  refine lv_lstore (lv' := [(5, .long r7), (4, .int (nI 4)), (3, .int (nI j)), (0, .ref (lm 0)), (2, .int (nI (dp + 1)))]) hx hb d_M_ask_130 hl (by decide) rfl (fun ls hl => ?_)
                  refine lv_aload_n hx hb d_M_ask_132 rfl (lv_at hl 3 rfl) ?_
                  refine mg 26 (by decide) hx hb ht hown hw gw_823 rfl rfl d_M_ask_133 ?_
                  rw [show m_tr (mS_tr m8 (bdT (m_tr m8) r7)) = nI (wkA S9 j).1 from hT1]
                  refine lv_if_eq (tgt := 141) hx hb d_M_ask_136 (by decide) (fun c9 => ?_) (fun c9 => ?_)
                  · have hw0 : (wkA S9 j).1 = 0 := by rcases wkA_c S9 j with h | h | h; exact h; (rw [h] at c9; exact absurd c9 (by decide)); (rw [h] at c9; exact absurd c9 (by decide))
                    have eV := hT2 hw0
                    refine lv_aload_n hx hb d_M_ask_141 rfl (lv_at hl 3 rfl) ?_
                    refine mg 2 (by decide) hx hb ht hown hw gw_799 rfl rfl d_M_ask_142 ?_
                    refine lv_iload_n hx hb d_M_ask_145 rfl (lv_at hl 2 rfl) ?_
                    refine lv_lload hx hb d_M_ask_146 (lv_at hl 0 rfl) ?_
                    refine mp_held (j := j) r7 rfl (by omega) hx hb hw d_M_ask_148 (fun H10 locs10 u10 hw => ?_)
                    refine lv_aload_n hx hb d_M_ask_149 rfl (lv_at hl 3 rfl) ?_
                    refine mg 3 (by decide) hx hb ht hown hw gw_800 rfl rfl d_M_ask_150 ?_
                    refine lv_iload_n hx hb d_M_ask_153 rfl (lv_at hl 2 rfl) ?_
                    refine lv_iconst (v := 1) hx hb d_M_ask_154 (by decide) ?_
                    refine mp_valid (j := j) true rfl (by omega) hx hb hw d_M_ask_155 (fun H11 locs11 u11 hw => ?_)
                    refine lv_aload_n hx hb d_M_ask_156 rfl (lv_at hl 3 rfl) ?_
                    refine mg 6 (by decide) hx hb ht hown hw gw_803 rfl rfl d_M_ask_157 ?_
                    refine lv_iload_n hx hb d_M_ask_160 rfl (lv_at hl 2 rfl) ?_
                    refine lv_dup2_11 hx hb d_M_ask_161 rfl rfl ?_
                    refine ma_worked (j := j) rfl (by omega) hx hb hw d_M_ask_162 ?_
                    refine lv_iconst (v := 1) hx hb d_M_ask_163 (by decide) ?_
                    refine lv_iadd hx hb d_M_ask_164 ?_
                    refine mp_worked (j := j) ((q_tw (qS_va (qS_am S9 (va_up (q_am S9) j r7)) (va_up (q_va (qS_am S9 (va_up (q_am S9) j r7))) j true)) j) + (1 : Int32)) rfl (by omega) hx hb hw d_M_ask_165 (fun H12 locs12 u12 hw => ?_)
                    refine lv_aload_n hx hb d_M_ask_166 rfl (lv_at hl 3 rfl) ?_
                    refine lv_dup hx hb d_M_ask_167 rfl ?_
                    refine mg 23 (by decide) hx hb ht hown hw gw_820 rfl rfl d_M_ask_168 ?_
                    refine lv_iconst (v := 1) hx hb d_M_ask_171 (by decide) ?_
                    refine lv_iadd hx hb d_M_ask_172 ?_
                    refine mp_workedAll ((q_wk (qS_tw (qS_va (qS_am S9 (va_up (q_am S9) j r7)) (va_up (q_va (qS_am S9 (va_up (q_am S9) j r7))) j true)) (va_up (q_tw (qS_va (qS_am S9 (va_up (q_am S9) j r7)) (va_up (q_va (qS_am S9 (va_up (q_am S9) j r7))) j true))) j ((q_tw (qS_va (qS_am S9 (va_up (q_am S9) j r7)) (va_up (q_va (qS_am S9 (va_up (q_am S9) j r7))) j true)) j) + (1 : Int32))))) + (1 : Int32)) hx hb ht hown hw gw_820 d_M_ask_173 (fun H13 locs13 u13 hw => ?_)
                    rw [aw_eq, eV] at hw
                    have eF2 : askF (d + 1) S j = (0, awQ S9 j (wkA S9 j).2) := by rw [eF, eS, if_pos rfl]; exact askW_0 hw0
                    have hva : q_va (awQ S9 j (wkA S9 j).2) j = true := by rw [aw_va, va_up_self]
                    rw [eV] at hA8 hli8
                    have hl : lv_has ls 7 [(0, .ref (lm 0)), (2, .int (nI (dp + 1)))] := lv_sub hl [3, 4] rfl
                    refine lv_goto (tgt := 21) hx hb d_M_ask_176 (by decide) ?_
                    refine lv_iload_n hx hb d_M_ask_21 rfl (lv_at hl 1 rfl) ?_
                    refine lv_if_le (tgt := 179) hx hb d_M_ask_22 (by decide) (fun c0 => ?_) (fun c0 => ?_)
                    · exact absurd (show nI (dp + 1) ≤ 0 from c0) (fun h => absurd (nI_le0 h (by omega)) (by omega))
                    · refine lv_aload_n hx hb d_M_ask_25 rfl (lv_at hl 0 rfl) ?_
                      refine mg 15 (by decide) hx hb ht hown hw gw_812 rfl rfl d_M_ask_26 ?_
                      refine lv_iload_n hx hb d_M_ask_29 rfl (lv_at hl 1 rfl) ?_
                      refine lv_iconst (v := 1) hx hb d_M_ask_30 (by decide) ?_
                      refine lv_isub hx hb d_M_ask_31 ?_
                      refine ma_list (j := dp) (nI_pr _) (by omega) hx hb hw d_M_ask_32 ?_
                      rw [show m_li (mS_tr m8 (bdT (m_tr m8) (wkA S9 j).2)) dp = nI j from hli8]
                      refine lv_istore_n (lv' := [(3, .int (nI j)), (0, .ref (lm 0)), (2, .int (nI (dp + 1)))]) hx hb d_M_ask_33 rfl hl (by decide) rfl (fun ls hl => ?_)
                      refine lv_aload_n hx hb d_M_ask_34 rfl (lv_at hl 1 rfl) ?_
                      refine mg 16 (by decide) hx hb ht hown hw gw_813 rfl rfl d_M_ask_35 ?_
                      refine lv_iload_n hx hb d_M_ask_38 rfl (lv_at hl 2 rfl) ?_
                      refine lv_iconst (v := 1) hx hb d_M_ask_39 (by decide) ?_
                      refine lv_isub hx hb d_M_ask_40 ?_
                      refine ma_next (j := dp) (nI_pr _) (by omega) hx hb hw d_M_ask_41 ?_
                      refine lv_istore (lv' := [(4, .int (m_ne (mS_tr m8 (bdT (m_tr m8) (wkA S9 j).2)) dp)), (3, .int (nI j)), (0, .ref (lm 0)), (2, .int (nI (dp + 1)))]) hx hb d_M_ask_42 hl (by decide) rfl (fun ls hl => ?_)
                      refine lv_aload_n hx hb d_M_ask_44 rfl (lv_at hl 2 rfl) ?_
                      refine mg 3 (by decide) hx hb ht hown hw gw_800 rfl rfl d_M_ask_45 ?_
                      refine lv_iload_n hx hb d_M_ask_48 rfl (lv_at hl 1 rfl) ?_
                      refine ma_valid (j := j) rfl (by have := hI9.1.1; omega) hx hb hw d_M_ask_49 ?_
                      refine lv_if_eq (tgt := 59) hx hb d_M_ask_50 (by decide) (fun c14 => ?_) (fun c14 => ?_)
                      · rw [hva] at c14; exact absurd (show (1 : Int32) = 0 from c14) (by decide)
                      · obtain ⟨i15, ei15⟩ : ∃ y : Int32, y = (nI (dp + 1)) + (-1) := ⟨_, rfl⟩
                        refine lv_iinc (v := i15) (lv' := [(2, .int i15), (4, .int (m_ne (mS_tr m8 (bdT (m_tr m8) (wkA S9 j).2)) dp)), (3, .int (nI j)), (0, .ref (lm 0))]) hx hb d_M_ask_53 hl (k := 3) rfl (by rw [ei15]; rfl) (by decide) rfl (fun ls hl => ?_)
                        rw [nI_dn] at ei15; subst ei15
                        refine lv_goto (tgt := 176) hx hb d_M_ask_56 (by decide) ?_
                        refine lv_goto (tgt := 21) hx hb d_M_ask_176 (by decide) ?_
                        exact (hWt _ _ _ _).mp (kS _ ls H13 locs13 u13 (by rw [eF2]) (hA9.tr hA8) (show bdT (m_tr m8) (wkA S9 j).2 = 0 by rw [← eV, hT1, hw0]; rfl) (lv_sub hl [3, 0] rfl) (by rw [eF2]; exact hw))
                  · have hw0 : (wkA S9 j).1 ≠ 0 := fun h => c9 (by rw [h]; rfl)
                    have eF2 : askF (d + 1) S j = ((wkA S9 j).1, S9) := by rw [eF, eS, if_pos rfl]; exact askW_x hw0
                    exact (hWt _ _ _ _).mp (kF _ ls H8 locs8 u8 (by rw [eF2]; exact hw0) (hA9.tr hA8) (by rw [eF2]; exact hT1) (lv_sub hl [3] rfl) (by rw [eF2]; exact hw))
                · exact absurd (show (4 : Int32) ≤ nI 4 by decide) c9
              · rw [hv8] at c6; exact absurd rfl c6
          | succ n ihn =>
            intro k M9 ls H locs u9 hk9 hz9 hA9 hli9 hne9 htr9 hl hw
            obtain ⟨S9, eS⟩ : ∃ S9, askS (askF d) j S k = (0, S9) := ⟨_, Prod.ext hz9 rfl⟩
            have hw : Mk G A lm S9 M9 u u9 st H locs := by rw [eS] at hw; exact hw
            have hK9 : akK S S9 := by have h := askS_K (askF_K d) (j := j) (s := S) k; rw [eS] at h; exact h
            have hI8 : aI r S9 := by have h := hI9.S d j k; rw [eS] at h; exact h
            have hj8 : j < q_n S9 := by rw [hK9.1]; exact hj9
            have hv8 : q_va S9 j = false := by have h := askS_va (d := d) hI9.2.1 hj9 hI9.1 k (by omega); rw [eS] at h; rw [show q_va S9 j = q_va S j from h]; rcases h2 : q_va S j with _ | _; rfl; exact absurd h2 hv
            refine (hWt _ _ _ _).mpr ?_
            refine lv_iload_n hx hb d_M_ask_21 rfl (lv_at hl 1 rfl) ?_
            refine lv_if_le (tgt := 179) hx hb d_M_ask_22 (by decide) (fun c0 => ?_) (fun c0 => ?_)
            · exact absurd (show nI (dp + 1) ≤ 0 from c0) (fun h => absurd (nI_le0 h (by omega)) (by omega))
            · refine lv_aload_n hx hb d_M_ask_25 rfl (lv_at hl 0 rfl) ?_
              refine mg 15 (by decide) hx hb ht hown hw gw_812 rfl rfl d_M_ask_26 ?_
              refine lv_iload_n hx hb d_M_ask_29 rfl (lv_at hl 1 rfl) ?_
              refine lv_iconst (v := 1) hx hb d_M_ask_30 (by decide) ?_
              refine lv_isub hx hb d_M_ask_31 ?_
              refine ma_list (j := dp) (nI_pr _) (by omega) hx hb hw d_M_ask_32 ?_
              rw [show m_li M9 dp = nI j from hli9]
              refine lv_istore_n (lv' := [(3, .int (nI j)), (0, .ref (lm 0)), (2, .int (nI (dp + 1)))]) hx hb d_M_ask_33 rfl hl (by decide) rfl (fun ls hl => ?_)
              refine lv_aload_n hx hb d_M_ask_34 rfl (lv_at hl 1 rfl) ?_
              refine mg 16 (by decide) hx hb ht hown hw gw_813 rfl rfl d_M_ask_35 ?_
              refine lv_iload_n hx hb d_M_ask_38 rfl (lv_at hl 2 rfl) ?_
              refine lv_iconst (v := 1) hx hb d_M_ask_39 (by decide) ?_
              refine lv_isub hx hb d_M_ask_40 ?_
              refine ma_next (j := dp) (nI_pr _) (by omega) hx hb hw d_M_ask_41 ?_
              rw [show m_ne M9 dp = nI k from hne9]
              refine lv_istore (lv' := [(4, .int (nI k)), (3, .int (nI j)), (0, .ref (lm 0)), (2, .int (nI (dp + 1)))]) hx hb d_M_ask_42 hl (by decide) rfl (fun ls hl => ?_)
              refine lv_aload_n hx hb d_M_ask_44 rfl (lv_at hl 2 rfl) ?_
              refine mg 3 (by decide) hx hb ht hown hw gw_800 rfl rfl d_M_ask_45 ?_
              refine lv_iload_n hx hb d_M_ask_48 rfl (lv_at hl 1 rfl) ?_
              refine ma_valid (j := j) rfl (by have := hI9.1.1; omega) hx hb hw d_M_ask_49 ?_
              refine lv_if_eq (tgt := 59) hx hb d_M_ask_50 (by decide) (fun c16 => ?_) (fun c16 => ?_)
              · refine lv_iload hx hb d_M_ask_59 (lv_at hl 0 rfl) ?_
                refine lv_iconst (v := 4) hx hb d_M_ask_61 (by decide) ?_
                refine lv_icmp_ge (tgt := 121) hx hb d_M_ask_62 (by decide) (fun c9 => ?_) (fun c9 => ?_)
                · exact absurd c9 (show ¬ ((4 : Int32) ≤ nI k) from nI_ge (show k < 4 by omega) (by decide))
                · refine lv_aload_n hx hb d_M_ask_65 rfl (lv_at hl 2 rfl) ?_
                  refine mg 16 (by decide) hx hb ht hown hw gw_813 rfl rfl d_M_ask_66 ?_
                  refine lv_iload_n hx hb d_M_ask_69 rfl (lv_at hl 3 rfl) ?_
                  refine lv_iconst (v := 1) hx hb d_M_ask_70 (by decide) ?_
                  refine lv_isub hx hb d_M_ask_71 ?_
                  refine lv_dup2_11 hx hb d_M_ask_72 rfl rfl ?_
                  refine ma_next (j := dp) (nI_pr _) (by omega) hx hb hw d_M_ask_73 ?_
                  rw [show m_ne M9 dp = nI k from hne9]
                  refine lv_iconst (v := 1) hx hb d_M_ask_74 (by decide) ?_
                  refine lv_iadd hx hb d_M_ask_75 ?_
                  rw [nI_1]
                  refine mp_next (j := dp) (nI (k + 1)) (nI_pr _) (by omega) hx hb hw d_M_ask_76 (fun H17 locs17 u17 hw => ?_)
                  refine lv_aload_n hx hb d_M_ask_77 rfl (lv_at hl 2 rfl) ?_
                  refine mg 1 (by decide) hx hb ht hown hw gw_798 rfl rfl d_M_ask_78 ?_
                  refine lv_iload_n hx hb d_M_ask_81 rfl (lv_at hl 1 rfl) ?_
                  refine lv_iconst (v := 4) hx hb d_M_ask_82 (by decide) ?_
                  refine lv_imul hx hb d_M_ask_83 ?_
                  refine lv_iload hx hb d_M_ask_84 (lv_at hl 0 rfl) ?_
                  refine lv_iadd hx hb d_M_ask_86 ?_
                  refine ma_part (j := (4 * j + k)) (mul4 _ k) (by omega) hx hb hw d_M_ask_87 ?_
                  rw [show m_pt (mS_ne M9 (va_up (m_ne M9) dp (nI (k + 1)))) (4 * j + k) = pI (q_pt S9 j k) from hw.2.1.2.2.1 j k hj8 (by omega)]
                  have hA1 : mA M9 (mS_ne M9 (va_up (m_ne M9) dp (nI (k + 1)))) dp := mA_ne M9 (Nat.le_refl _) _
                  rcases hq9 : q_pt S9 j k with _ | x9
                  · have eS1 : askS (askF d) j S (k + 1) = (0, S9) := by rw [askS_n (by rw [← hK9.2.2.2.2.1]; exact hq9), eS]
                    refine lv_if_lt (tgt := 176) hx hb d_M_ask_88 (by decide) (fun c8 => ?_) (fun c8 => ?_)
                    · refine lv_goto (tgt := 21) hx hb d_M_ask_176 (by decide) ?_
                      exact (hWt _ _ _ _).mp (ihn (k + 1) (mS_ne M9 (va_up (m_ne M9) dp (nI (k + 1)))) ls H17 locs17 u17 (by omega) (by rw [eS1]) (hA9.tr hA1) hli9 (va_up_self _ _ _) htr9 (lv_sub hl [2, 3] rfl) (by rw [eS1]; exact hw))
                    · exact absurd (show pI none < 0 from by decide) c8
                  · have hq8 : q_pt S j k = some x9 := by rw [← hK9.2.2.2.2.1]; exact hq9
                    have hx9 : x9 < q_n S9 := (hI8.1.2 j hj8).2.2.2.2.1 k x9 hq9
                    have eS1 : askS (askF d) j S (k + 1) = askF d S9 x9 := by rw [askS_s hq8, eS, if_pos rfl]
                    have hrx : r x9 < d := by obtain ⟨k1, hk1, e1⟩ := (cp_ed hI8.1 hj8 x9).mpr ⟨k, by omega, hq9⟩; have h := hI8.2.1 j hj8 k1 hk1; rw [e1] at h; omega
                    refine lv_if_lt (tgt := 176) hx hb d_M_ask_88 (by decide) (fun c8 => ?_) (fun c8 => ?_)
                    · exact absurd c8 (nI_pos (by have := hI8.1.1; omega))
                    · refine lv_aload_n hx hb d_M_ask_91 rfl (lv_at hl 2 rfl) ?_
                      refine mg 15 (by decide) hx hb ht hown hw gw_812 rfl rfl d_M_ask_92 ?_
                      refine lv_iload_n hx hb d_M_ask_95 rfl (lv_at hl 3 rfl) ?_
                      refine lv_aload_n hx hb d_M_ask_96 rfl (lv_at hl 2 rfl) ?_
                      refine mg 1 (by decide) hx hb ht hown hw gw_798 rfl rfl d_M_ask_97 ?_
                      refine lv_iload_n hx hb d_M_ask_100 rfl (lv_at hl 1 rfl) ?_
                      refine lv_iconst (v := 4) hx hb d_M_ask_101 (by decide) ?_
                      refine lv_imul hx hb d_M_ask_102 ?_
                      refine lv_iload hx hb d_M_ask_103 (lv_at hl 0 rfl) ?_
                      refine lv_iadd hx hb d_M_ask_105 ?_
                      refine ma_part (j := (4 * j + k)) (mul4 _ k) (by omega) hx hb hw d_M_ask_106 ?_
                      rw [show m_pt (mS_ne M9 (va_up (m_ne M9) dp (nI (k + 1)))) (4 * j + k) = nI x9 from (hw.2.1.2.2.1 j k hj8 (by omega)).trans (by rw [hq9]; rfl)]
                      refine mp_list (j := (dp + 1)) (nI x9) rfl (by omega) hx hb hw d_M_ask_107 (fun H18 locs18 u18 hw => ?_)
                      refine lv_aload_n hx hb d_M_ask_108 rfl (lv_at hl 2 rfl) ?_
                      refine mg 16 (by decide) hx hb ht hown hw gw_813 rfl rfl d_M_ask_109 ?_
                      refine lv_iload_n hx hb d_M_ask_112 rfl (lv_at hl 3 rfl) ?_
                      refine lv_iconst (v := 0) hx hb d_M_ask_113 (by decide) ?_
                      refine mp_next (j := (dp + 1)) (0 : Int32) rfl (by omega) hx hb hw d_M_ask_114 (fun H19 locs19 u19 hw => ?_)
                      obtain ⟨i20, ei20⟩ : ∃ y : Int32, y = (nI (dp + 1)) + 1 := ⟨_, rfl⟩
                      refine lv_iinc (v := i20) (lv' := [(2, .int i20), (4, .int (nI k)), (3, .int (nI j)), (0, .ref (lm 0))]) hx hb d_M_ask_115 hl (k := 3) rfl (by rw [ei20]; rfl) (by decide) rfl (fun ls hl => ?_)
                      rw [nI_1] at ei20; subst ei20
                      refine lv_goto (tgt := 176) hx hb d_M_ask_118 (by decide) ?_
                      refine lv_goto (tgt := 21) hx hb d_M_ask_176 (by decide) ?_
                      have hA3 : mA M9 (mS_ne (mS_li (mS_ne M9 (va_up (m_ne M9) dp (nI (k + 1)))) (va_up (m_li (mS_ne M9 (va_up (m_ne M9) dp (nI (k + 1))))) (dp + 1) (nI x9))) (va_up (m_ne (mS_li (mS_ne M9 (va_up (m_ne M9) dp (nI (k + 1)))) (va_up (m_li (mS_ne M9 (va_up (m_ne M9) dp (nI (k + 1))))) (dp + 1) (nI x9)))) (dp + 1) (0 : Int32))) (dp + 1 - 1) := (hA1.tr (mA_li _ (by omega) _)).tr (mA_ne _ (by omega) _)
                      have hd1 : m_li (mS_ne (mS_li (mS_ne M9 (va_up (m_ne M9) dp (nI (k + 1)))) (va_up (m_li (mS_ne M9 (va_up (m_ne M9) dp (nI (k + 1))))) (dp + 1) (nI x9))) (va_up (m_ne (mS_li (mS_ne M9 (va_up (m_ne M9) dp (nI (k + 1)))) (va_up (m_li (mS_ne M9 (va_up (m_ne M9) dp (nI (k + 1))))) (dp + 1) (nI x9)))) (dp + 1) (0 : Int32))) dp = nI j := (va_up_ne _ _ (by omega)).trans hli9
                      have hd2 : m_ne (mS_ne (mS_li (mS_ne M9 (va_up (m_ne M9) dp (nI (k + 1)))) (va_up (m_li (mS_ne M9 (va_up (m_ne M9) dp (nI (k + 1))))) (dp + 1) (nI x9))) (va_up (m_ne (mS_li (mS_ne M9 (va_up (m_ne M9) dp (nI (k + 1)))) (va_up (m_li (mS_ne M9 (va_up (m_ne M9) dp (nI (k + 1))))) (dp + 1) (nI x9)))) (dp + 1) (0 : Int32))) dp = nI (k + 1) := (va_up_ne _ _ (by omega)).trans (va_up_self _ _ _)
                      refine (hWt _ _ _ _).mp (ih S9 (mS_ne (mS_li (mS_ne M9 (va_up (m_ne M9) dp (nI (k + 1)))) (va_up (m_li (mS_ne M9 (va_up (m_ne M9) dp (nI (k + 1))))) (dp + 1) (nI x9))) (va_up (m_ne (mS_li (mS_ne M9 (va_up (m_ne M9) dp (nI (k + 1)))) (va_up (m_li (mS_ne M9 (va_up (m_ne M9) dp (nI (k + 1))))) (dp + 1) (nI x9)))) (dp + 1) (0 : Int32))) (dp + 1) x9 ls H19 locs19 u19 hI8 hx9 hrx (by omega) (va_up_self _ _ _) (va_up_self _ _ _) htr9 (lv_sub hl [3, 0] rfl) hw ?_ ?_)
                      · intro M' ls H locs u9 h1 h2 h3 h4 h5
                        exact ihn (k + 1) M' ls H locs u9 (by omega) (by rw [eS1]; exact h1) ((hA9.tr hA3).tr (h2.dn (by omega))) ((h2.1 dp (by omega)).1.trans hd1) ((h2.1 dp (by omega)).2.trans hd2) h3 h4 (by rw [eS1]; exact h5)
                      · intro M' ls H locs u9 h1 h2 h3 h4 h5
                        have hst := askS_stop (f := askF d) (j := j) (s := S) (k := k + 1) (by rw [eS1]; exact h1) (4 - (k + 1))
                        rw [show k + 1 + (4 - (k + 1)) = 4 by omega, eS1] at hst
                        have eF2 : askF (d + 1) S j = askF d S9 x9 := by rw [eF, hst, if_neg h1]
                        exact kF M' ls H locs u9 (by rw [eF2]; exact h1) ((hA9.tr hA3).tr (h2.dn (by omega))) (by rw [eF2]; exact h3) h4 (by rw [eF2]; exact h5)
              · rw [hv8] at c16; exact absurd rfl c16
        exact inner 4 0 M ls H locs u9 rfl rfl mA.rf hli hne htr hl hw
  refine (hWt _ _ _ _).mp (key 17 s (mS_tr (mS_ne (mS_li m (va_up (m_li m) 0 (nI j))) (va_up (m_ne (mS_li m (va_up (m_li m) 0 (nI j)))) 0 (0 : Int32))) (0 : Int32)) 0 j ls H3 locs3 u3 hI hj (hr17 j hj) (by omega) (show va_up (m_li m) 0 (nI j) 0 = nI j from va_up_self _ _ _) (show va_up (m_ne m) 0 (0 : Int32) 0 = nI 0 from va_up_self _ _ _) rfl (lv_sub hl [1, 0] rfl) hw ?_ ?_)
  · intro M' ls H locs u9 h1 h2 h3 hl hw
    refine (hWt _ _ _ _).mpr ?_
    refine lv_iload_n hx hb d_M_ask_21 rfl (lv_at hl 1 rfl) ?_
    refine lv_if_le (tgt := 179) hx hb d_M_ask_22 (by decide) (fun c0 => ?_) (fun c0 => ?_)
    · refine lv_iconst (v := 1) hx hb d_M_ask_179 (by decide) ?_
      exact kt_z hx hb hr hlocks hw.1 d_M_ask_180 (by exact ⟨by rw [decide_eq_true h1]; rfl, M', by rw [h1]; exact h3, h2.2.1, h2.2.2.1, h2.2.2.2, hw.2.1, hw.2.2⟩) (Or.inr rfl) (by first | decide | (dsimp only; omega)) (by first | decide | (dsimp only; omega))
    · exact absurd (show nI 0 ≤ 0 by decide) c0
  · intro M' ls H locs u9 h1 h2 h3 hl hw
    refine (hWt _ _ _ _).mpr ?_
    refine lv_iconst (v := 0) hx hb d_M_ask_139 (by decide) ?_
    exact kt_z hx hb hr hlocks hw.1 d_M_ask_140 (by exact ⟨by rw [decide_eq_false h1]; rfl, M', h3, h2.2.1, h2.2.2.1, h2.2.2.2, hw.2.1, hw.2.2⟩) (Or.inl rfl) (by first | decide | (dsimp only; omega)) (by first | decide | (dsimp only; omega))

/-! 26.ask: the contract of ask, by induction on a depth -/
theorem askP_stop {f : QS → Nat → Nat × QS} {j : Nat} {s : QS} {k : Nat} (h : (askP f j s k).1 ≠ 0) : ∀ d, askP f j s (k + d) = askP f j s k
  | 0 => rfl
  | d + 1 => by show (if (askP f j s (k + d)).1 = 0 then _ else askP f j s (k + d)) = _; rw [askP_stop h d, if_neg h]
abbrev allI (s : QS) : Prop := ∀ i, i < q_n s → q_so s i = 3 → invO s i
theorem ak_all {s s' : QS} (h : akK s s') (hi : allI s) : allI s' := fun i h1 h2 => ak_inv h i (hi i (by rw [← h.1]; exact h1) (by rw [← h.2.1]; exact h2))
abbrev T_ask (l : Launch) (G : GT) (A : Nat → Prop) (lc : Nat → Nat) (d : Nat) : Prop := ∀ (s : QS) (z : ZS) (u : WT) (r : Nat → Nat), rQ G lc s z u → rkd s r → allI s → ∀ j, j < q_n s → r j < d → Kt l y_Q_ask b_Q_ask 3 none (d + 11) (40 * d + 243) (1) (6) (0) (0) (1) (6) G A u [.ref (lc 0), .ref (lc (8 + j))] (KQ G A (Rv (fun u' => (askF d s j).1 = 0 ∧ ∃ z', zK z z' ∧ rQ G lc (askF d s j).2 z' u' ∧ fQ lc (q_n s) u u'))) (fun E u' => (askF d s j).1 ≠ 0 ∧ E = exN (askF d s j).1 ∧ ∃ z', zK z z' ∧ rQ G lc (askF d s j).2 z' u' ∧ fQ lc (q_n s) u u')
set_option maxHeartbeats 4000000 in
set_option maxRecDepth 100000 in
theorem c_ask_of (l : Launch) (hl9 : l.stackTraces = false) (G : GT) (A : Nat → Prop) (lc : Nat → Nat) (d : Nat) (ihd : T_ask l G A lc d) (s : QS) (z : ZS) (u : WT) (r : Nat → Nat) (hR : rQ G lc s z u) (hrk : rkd s r) (hI : allI s) (j : Nat) (hj : j < q_n s) (hd : r j < d + 1) : Kt l y_Q_ask b_Q_ask 3 none ((d + 1) + 11) (40 * (d + 1) + 243) 1 6 0 0 1 6 G A u [.ref (lc 0), .ref (lc (8 + j))] (KQ G A (Rv (fun u' => (askF (d + 1) s j).1 = 0 ∧ ∃ z', zK z z' ∧ rQ G lc (askF (d + 1) s j).2 z' u' ∧ fQ lc (q_n s) u u'))) (fun E u' => (askF (d + 1) s j).1 ≠ 0 ∧ E = exN (askF (d + 1) s j).1 ∧ ∃ z', zK z z' ∧ rQ G lc (askF (d + 1) s j).2 z' u' ∧ fQ lc (q_n s) u u') := by
  refine k_of (by decide) (Nat.le_of_ble_eq_true rfl) (fun p e st m below meth c ls hx hb hr hlocks hml htab hname hown ht hw hl => ?_)
  have hl : lv_has ls 3 [(0, .ref (lc 0)), (1, .ref (lc (8 + j)))] := hl
  obtain ⟨n0, hn0⟩ : ∃ n0, q_n s = n0 := ⟨_, rfl⟩
  have hw : Sk G A lc s z n0 u u st st.heap [] := ⟨hw, hR, fQ.rf, hn0⟩
  have h16 : n0 ≤ 16 := by rw [← hn0]; exact hR.1.1
  have h4 := np_le hR.1 hj
  have hok := hR.1
  rw [hn0] at hj
  refine lv_aload_n hx hb d_Q_ask_0 rfl (lv_at hl 1 rfl) ?_
  refine kg_N (j := j) 4 (by decide) hx hb ht hown hw hj gw_284 (Or.inl rfl) rfl d_Q_ask_1 ?_
  refine lv_if_eq (tgt := 8) hx hb d_Q_ask_4 (by decide) (fun c1 => ?_) (fun c1 => ?_)
  · have hva : q_va s j = false := (bI_eq _).mp c1
    refine lv_iconst (v := 0) hx hb d_Q_ask_8 (by decide) ?_
    refine lv_istore_n (lv' := [(2, .int (0 : Int32)), (0, .ref (lc 0)), (1, .ref (lc (8 + j)))]) hx hb d_Q_ask_9 rfl hl (by decide) rfl (fun ls hl => ?_)
    refine k_cntH (np s j) (fun k ls H locs => lv_has ls 3 [(0, .ref (lc 0)), (1, .ref (lc (8 + j))), (2, .int (nI k))] ∧ ∃ z9 u9, (askP (askF d) j s k).1 = 0 ∧ zK z z9 ∧ Sk G A lc (askP (askF d) j s k).2 z9 n0 u u9 st H locs) (k0 := 0) (Nat.zero_le _) (⟨lv_sub hl [1, 2, 0] rfl, z, u, rfl, zK.rf, hw⟩) (fun ls H locs hJ => ?_) (fun k ls H locs hk hJ ih => ?_)
    · obtain ⟨hl, hw⟩ := hJ
      obtain ⟨z9, u9, hc9, hz9, hw⟩ := hw
      have hK : akK s (askP (askF d) j s (np s j)).2 := askP_K (fun s i => askF_K d s i) _
      have eF : askF (d + 1) s j = askW (askP (askF d) j s (np s j)).2 j := by show (if _ then _ else if _ then _ else _) = _; rw [if_neg (by rw [hva]; decide), if_pos hc9]
      rw [eF]
      have hnS : np (askP (askF d) j s (np s j)).2 j = np s j := ak_np hK j
      generalize hSe : (askP (askF d) j s (np s j)).2 = S at hw hK eF hnS ⊢
      have hNS : q_n S = n0 := by rw [hK.1]; exact hn0
      refine lv_iload_n hx hb d_Q_ask_10 rfl (lv_at hl 2 rfl) ?_
      refine lv_aload_n hx hb d_Q_ask_11 rfl (lv_at hl 1 rfl) ?_
      refine kg_N (j := j) 2 (by decide) hx hb ht hown hw hj gw_271 (Or.inl rfl) rfl d_Q_ask_12 ?_
      refine lv_icmp_ge (tgt := 34) hx hb d_Q_ask_15 (by decide) (fun c1 => ?_) (fun c1 => ?_)
      · have hs4 : q_so S j = 0 ∨ q_so S j = 1 ∨ q_so S j = 2 ∨ q_so S j = 3 := by have := (hw.nj hj).2.2; omega
        rcases hs4 with h9 | h9 | h9 | h9
        · refine lv_aload_n hx hb d_Q_ask_34 rfl (lv_at hl 1 rfl) ?_
          refine lv_aload_n hx hb d_Q_ask_35 rfl (lv_at hl 1 rfl) ?_
          refine kc_l (kr_U 0 (x := ⟨"QuoteGraph$Node", "workOut", "()J"⟩) (owner := "QuoteGraph$Node") (C := "QuoteGraph$Quote") (As := []) (rest := [.ref (lc (8 + j))]) (c_Qt_workOut l G A lc S z9 u9 hw.2.1 j (by rw [hNS]; exact hj) h9) hx hb hml hown ht hw.1 gw_554 gw_556 (va_Decl.abs (hw.1.1.2.2.2.2.1 _ (ew_of 555 _ (by decide +kernel) rfl))) gw_697 gw_698 gw_54 gw_699 ⟨⟨by decide, by decide⟩, by decide +kernel⟩ ⟨by first | decide | (dsimp only; omega), by first | decide | (dsimp only; omega)⟩ (by have h := kr_N hw hj; rw [h9] at h; exact h) rfl hl.1 rfl (lv_room (Nat.le_of_ble_eq_true rfl)) d_Q_ask_36 ⟨by first | decide | (dsimp only; omega), by first | decide | (dsimp only; omega)⟩) hw.1 (fun E ce q9 u1 H1 locs1 hp hw1 hce hcv hcl => ?_) (fun r2 u2 H2 locs2 hp2 hw2 => ?_)
          · obtain ⟨hne, rfl, z2, hz2, hr2, hf2⟩ := hp
            have e9 : wkA S j = ((wkV S j).1, 0) := by unfold wkA; rw [if_neg hne]
            have e8 : askW S j = ((wkV S j).1, S) := by unfold askW; rw [e9]; exact if_neg hne
            exact kt_out htab hlocks hw1 hce hcv hcl ⟨by rw [e8]; exact hne, by rw [e8], z2, hz9.tr hz2, by rw [e8]; exact hr2, by rw [hn0]; exact hw.2.2.1.tr (by rw [← hNS]; exact hf2)⟩ (by decide) (by decide)
          obtain ⟨ev, z2, hz2, hr2, hf2⟩ := hp2
          have hw : Sk G A lc S z2 n0 u u2 st H2 locs2 := ⟨hw2, hr2, hw.2.2.1.tr (by rw [← hNS]; exact hf2), hNS⟩
          refine kc_l (kr_S 1 (As := [.long r2]) (rest := [.ref (lc (8 + j))]) (c_Q_notTooLarge l hl9 G A u2 _) hx hb hml hown ht hw.1 gw_564 gw_565 gw_42 gw_566 ⟨⟨by decide, by decide⟩, by decide +kernel⟩ ⟨by first | decide | (dsimp only; omega), by first | decide | (dsimp only; omega)⟩ rfl hl.1 rfl (lv_room (Nat.le_of_ble_eq_true rfl)) d_Q_ask_39 ⟨by first | decide | (dsimp only; omega), by first | decide | (dsimp only; omega)⟩) hw.1 (fun E ce q9 u1 H1 locs1 hp hw1 hce hcv hcl => ?_) (fun r3 u3 H3 locs3 hp3 hw3 => ?_)
          · obtain ⟨rfl, hbg, hq9⟩ := hp
            replace hq9 := hq9.symm; subst hq9
            have e9 : wkA S j = (2, 0) := by unfold wkA; rw [ev]; exact if_pos hbg
            have e8 : askW S j = (2, S) := by unfold askW; rw [e9]; rfl
            exact kt_out htab hlocks hw1 hce hcv hcl ⟨by rw [e8]; exact (by decide : (2 : Nat) ≠ 0), by rw [e8]; rfl, z2, hz9.tr hz2, by rw [e8]; exact hr2, by rw [hn0]; exact hw.2.2.1⟩ (by decide) (by decide)
          obtain ⟨er3, hbg, hq3⟩ := hp3
          replace hq3 := hq3.symm; subst hq3
          have hw : Sk G A lc S z2 n0 u u2 st H3 locs3 := ⟨hw3, hw.2⟩
          subst er3
          have e9 : wkA S j = (0, r3) := by unfold wkA; rw [ev]; show (if bigL r3 = true then ((2 : Nat), (0 : Int64)) else (0, r3)) = _; rw [hbg]; rfl
          refine kp_amount (j := j) r3 hx hb ht hown hw hj gw_280 (Or.inl rfl) d_Q_ask_42 (fun H4 locs4 u4 hw => ?_)
          refine lv_aload_n hx hb d_Q_ask_45 rfl (lv_at hl 1 rfl) ?_
          refine lv_iconst (v := 1) hx hb d_Q_ask_46 (by decide) ?_
          refine kp_valid (j := j) true hx hb ht hown hw hj gw_284 (Or.inl rfl) d_Q_ask_47 (fun H5 locs5 u5 hw => ?_)
          refine lv_aload_n hx hb d_Q_ask_50 rfl (lv_at hl 1 rfl) ?_
          refine lv_dup hx hb d_Q_ask_51 rfl ?_
          refine kg_N (j := j) 7 (by decide) hx hb ht hown hw hj gw_289 (Or.inl rfl) rfl d_Q_ask_52 ?_
          refine lv_iconst (v := 1) hx hb d_Q_ask_55 (by decide) ?_
          refine lv_iadd hx hb d_Q_ask_56 ?_
          refine kp_timesWorked (j := j) ((q_tw (qS_va (qS_am S (va_up (q_am S) j r3)) (va_up (q_va (qS_am S (va_up (q_am S) j r3))) j true)) j) + (1 : Int32)) hx hb ht hown hw hj gw_289 (Or.inl rfl) d_Q_ask_57 (fun H6 locs6 u6 hw => ?_)
          refine lv_aload_n hx hb d_Q_ask_60 rfl (lv_at hl 0 rfl) ?_
          refine lv_dup hx hb d_Q_ask_61 rfl ?_
          refine kg_Q 4 (by decide) hx hb ht hown hw gw_125 rfl rfl d_Q_ask_62 ?_
          refine lv_iconst (v := 1) hx hb d_Q_ask_65 (by decide) ?_
          refine lv_iadd hx hb d_Q_ask_66 ?_
          refine kp_workedCount ((q_wk (qS_tw (qS_va (qS_am S (va_up (q_am S) j r3)) (va_up (q_va (qS_am S (va_up (q_am S) j r3))) j true)) (va_up (q_tw (qS_va (qS_am S (va_up (q_am S) j r3)) (va_up (q_va (qS_am S (va_up (q_am S) j r3))) j true))) j ((q_tw (qS_va (qS_am S (va_up (q_am S) j r3)) (va_up (q_va (qS_am S (va_up (q_am S) j r3))) j true)) j) + (1 : Int32))))) + (1 : Int32)) hx hb ht hown hw gw_125 d_Q_ask_67 (fun H7 locs7 u7 hw => ?_)
          exact kt_v hx hb hr hlocks hw.1 d_Q_ask_70 (by have e8 : askW S j = (0, qS_wk (qS_tw (qS_va (qS_am S (va_up (q_am S) j r3)) (va_up (q_va S) j true)) (va_up (q_tw S) j (q_tw S j + 1))) (q_wk S + 1)) := (by unfold askW; rw [e9]; rfl); rw [e8]; exact ⟨rfl, z2, hz9.tr hz2, hw.2.1, by rw [hn0]; exact hw.2.2.1⟩) (by first | decide | (dsimp only; omega)) (by first | decide | (dsimp only; omega))
        · refine lv_aload_n hx hb d_Q_ask_34 rfl (lv_at hl 1 rfl) ?_
          refine lv_aload_n hx hb d_Q_ask_35 rfl (lv_at hl 1 rfl) ?_
          refine kc_l (kr_U 0 (x := ⟨"QuoteGraph$Node", "workOut", "()J"⟩) (owner := "QuoteGraph$Node") (C := "QuoteGraph$Blend") (As := []) (rest := [.ref (lc (8 + j))]) (c_Bl_workOut l hl9 G A lc S z9 u9 hw.2.1 j (by rw [hNS]; exact hj) h9) hx hb hml hown ht hw.1 gw_554 gw_556 (va_Decl.abs (hw.1.1.2.2.2.2.1 _ (ew_of 555 _ (by decide +kernel) rfl))) gw_557 gw_558 gw_55 gw_559 ⟨⟨by decide, by decide⟩, by decide +kernel⟩ ⟨by first | decide | (dsimp only; omega), by first | decide | (dsimp only; omega)⟩ (by have h := kr_N hw hj; rw [h9] at h; exact h) rfl hl.1 rfl (lv_room (Nat.le_of_ble_eq_true rfl)) d_Q_ask_36 ⟨by first | decide | (dsimp only; omega), by first | decide | (dsimp only; omega)⟩) hw.1 (fun E ce q9 u1 H1 locs1 hp hw1 hce hcv hcl => ?_) (fun r8 u8 H8 locs8 hp8 hw8 => ?_)
          · obtain ⟨hne, rfl, z2, hz2, hr2, hf2⟩ := hp
            have e9 : wkA S j = ((wkV S j).1, 0) := by unfold wkA; rw [if_neg hne]
            have e8 : askW S j = ((wkV S j).1, S) := by unfold askW; rw [e9]; exact if_neg hne
            exact kt_out htab hlocks hw1 hce hcv hcl ⟨by rw [e8]; exact hne, by rw [e8], z2, hz9.tr hz2, by rw [e8]; exact hr2, by rw [hn0]; exact hw.2.2.1.tr (by rw [← hNS]; exact hf2)⟩ (by decide) (by decide)
          obtain ⟨ev, z2, hz2, hr2, hf2⟩ := hp8
          have hw : Sk G A lc S z2 n0 u u8 st H8 locs8 := ⟨hw8, hr2, hw.2.2.1.tr (by rw [← hNS]; exact hf2), hNS⟩
          refine kc_l (kr_S 1 (As := [.long r8]) (rest := [.ref (lc (8 + j))]) (c_Q_notTooLarge l hl9 G A u8 _) hx hb hml hown ht hw.1 gw_564 gw_565 gw_42 gw_566 ⟨⟨by decide, by decide⟩, by decide +kernel⟩ ⟨by first | decide | (dsimp only; omega), by first | decide | (dsimp only; omega)⟩ rfl hl.1 rfl (lv_room (Nat.le_of_ble_eq_true rfl)) d_Q_ask_39 ⟨by first | decide | (dsimp only; omega), by first | decide | (dsimp only; omega)⟩) hw.1 (fun E ce q9 u1 H1 locs1 hp hw1 hce hcv hcl => ?_) (fun r9 u9 H9 locs9 hp9 hw9 => ?_)
          · obtain ⟨rfl, hbg, hq9⟩ := hp
            replace hq9 := hq9.symm; subst hq9
            have e9 : wkA S j = (2, 0) := by unfold wkA; rw [ev]; exact if_pos hbg
            have e8 : askW S j = (2, S) := by unfold askW; rw [e9]; rfl
            exact kt_out htab hlocks hw1 hce hcv hcl ⟨by rw [e8]; exact (by decide : (2 : Nat) ≠ 0), by rw [e8]; rfl, z2, hz9.tr hz2, by rw [e8]; exact hr2, by rw [hn0]; exact hw.2.2.1⟩ (by decide) (by decide)
          obtain ⟨er9, hbg, hq9⟩ := hp9
          replace hq9 := hq9.symm; subst hq9
          have hw : Sk G A lc S z2 n0 u u8 st H9 locs9 := ⟨hw9, hw.2⟩
          subst er9
          have e9 : wkA S j = (0, r9) := by unfold wkA; rw [ev]; show (if bigL r9 = true then ((2 : Nat), (0 : Int64)) else (0, r9)) = _; rw [hbg]; rfl
          refine kp_amount (j := j) r9 hx hb ht hown hw hj gw_280 (Or.inl rfl) d_Q_ask_42 (fun H10 locs10 u10 hw => ?_)
          refine lv_aload_n hx hb d_Q_ask_45 rfl (lv_at hl 1 rfl) ?_
          refine lv_iconst (v := 1) hx hb d_Q_ask_46 (by decide) ?_
          refine kp_valid (j := j) true hx hb ht hown hw hj gw_284 (Or.inl rfl) d_Q_ask_47 (fun H11 locs11 u11 hw => ?_)
          refine lv_aload_n hx hb d_Q_ask_50 rfl (lv_at hl 1 rfl) ?_
          refine lv_dup hx hb d_Q_ask_51 rfl ?_
          refine kg_N (j := j) 7 (by decide) hx hb ht hown hw hj gw_289 (Or.inl rfl) rfl d_Q_ask_52 ?_
          refine lv_iconst (v := 1) hx hb d_Q_ask_55 (by decide) ?_
          refine lv_iadd hx hb d_Q_ask_56 ?_
          refine kp_timesWorked (j := j) ((q_tw (qS_va (qS_am S (va_up (q_am S) j r9)) (va_up (q_va (qS_am S (va_up (q_am S) j r9))) j true)) j) + (1 : Int32)) hx hb ht hown hw hj gw_289 (Or.inl rfl) d_Q_ask_57 (fun H12 locs12 u12 hw => ?_)
          refine lv_aload_n hx hb d_Q_ask_60 rfl (lv_at hl 0 rfl) ?_
          refine lv_dup hx hb d_Q_ask_61 rfl ?_
          refine kg_Q 4 (by decide) hx hb ht hown hw gw_125 rfl rfl d_Q_ask_62 ?_
          refine lv_iconst (v := 1) hx hb d_Q_ask_65 (by decide) ?_
          refine lv_iadd hx hb d_Q_ask_66 ?_
          refine kp_workedCount ((q_wk (qS_tw (qS_va (qS_am S (va_up (q_am S) j r9)) (va_up (q_va (qS_am S (va_up (q_am S) j r9))) j true)) (va_up (q_tw (qS_va (qS_am S (va_up (q_am S) j r9)) (va_up (q_va (qS_am S (va_up (q_am S) j r9))) j true))) j ((q_tw (qS_va (qS_am S (va_up (q_am S) j r9)) (va_up (q_va (qS_am S (va_up (q_am S) j r9))) j true)) j) + (1 : Int32))))) + (1 : Int32)) hx hb ht hown hw gw_125 d_Q_ask_67 (fun H13 locs13 u13 hw => ?_)
          exact kt_v hx hb hr hlocks hw.1 d_Q_ask_70 (by have e8 : askW S j = (0, qS_wk (qS_tw (qS_va (qS_am S (va_up (q_am S) j r9)) (va_up (q_va S) j true)) (va_up (q_tw S) j (q_tw S j + 1))) (q_wk S + 1)) := (by unfold askW; rw [e9]; rfl); rw [e8]; exact ⟨rfl, z2, hz9.tr hz2, hw.2.1, by rw [hn0]; exact hw.2.2.1⟩) (by first | decide | (dsimp only; omega)) (by first | decide | (dsimp only; omega))
        · refine lv_aload_n hx hb d_Q_ask_34 rfl (lv_at hl 1 rfl) ?_
          refine lv_aload_n hx hb d_Q_ask_35 rfl (lv_at hl 1 rfl) ?_
          refine kc_l (kr_U 0 (x := ⟨"QuoteGraph$Node", "workOut", "()J"⟩) (owner := "QuoteGraph$Node") (C := "QuoteGraph$Greater") (As := []) (rest := [.ref (lc (8 + j))]) (c_Gr_workOut l G A lc S z9 u9 hw.2.1 j (by rw [hNS]; exact hj) h9) hx hb hml hown ht hw.1 gw_554 gw_556 (va_Decl.abs (hw.1.1.2.2.2.2.1 _ (ew_of 555 _ (by decide +kernel) rfl))) gw_584 gw_585 gw_56 gw_586 ⟨⟨by decide, by decide⟩, by decide +kernel⟩ ⟨by first | decide | (dsimp only; omega), by first | decide | (dsimp only; omega)⟩ (by have h := kr_N hw hj; rw [h9] at h; exact h) rfl hl.1 rfl (lv_room (Nat.le_of_ble_eq_true rfl)) d_Q_ask_36 ⟨by first | decide | (dsimp only; omega), by first | decide | (dsimp only; omega)⟩) hw.1 (fun E ce q9 u1 H1 locs1 hp hw1 hce hcv hcl => ?_) (fun r14 u14 H14 locs14 hp14 hw14 => ?_)
          · obtain ⟨hne, rfl, z2, hz2, hr2, hf2⟩ := hp
            have e9 : wkA S j = ((wkV S j).1, 0) := by unfold wkA; rw [if_neg hne]
            have e8 : askW S j = ((wkV S j).1, S) := by unfold askW; rw [e9]; exact if_neg hne
            exact kt_out htab hlocks hw1 hce hcv hcl ⟨by rw [e8]; exact hne, by rw [e8], z2, hz9.tr hz2, by rw [e8]; exact hr2, by rw [hn0]; exact hw.2.2.1.tr (by rw [← hNS]; exact hf2)⟩ (by decide) (by decide)
          obtain ⟨ev, z2, hz2, hr2, hf2⟩ := hp14
          have hw : Sk G A lc S z2 n0 u u14 st H14 locs14 := ⟨hw14, hr2, hw.2.2.1.tr (by rw [← hNS]; exact hf2), hNS⟩
          refine kc_l (kr_S 1 (As := [.long r14]) (rest := [.ref (lc (8 + j))]) (c_Q_notTooLarge l hl9 G A u14 _) hx hb hml hown ht hw.1 gw_564 gw_565 gw_42 gw_566 ⟨⟨by decide, by decide⟩, by decide +kernel⟩ ⟨by first | decide | (dsimp only; omega), by first | decide | (dsimp only; omega)⟩ rfl hl.1 rfl (lv_room (Nat.le_of_ble_eq_true rfl)) d_Q_ask_39 ⟨by first | decide | (dsimp only; omega), by first | decide | (dsimp only; omega)⟩) hw.1 (fun E ce q9 u1 H1 locs1 hp hw1 hce hcv hcl => ?_) (fun r15 u15 H15 locs15 hp15 hw15 => ?_)
          · obtain ⟨rfl, hbg, hq9⟩ := hp
            replace hq9 := hq9.symm; subst hq9
            have e9 : wkA S j = (2, 0) := by unfold wkA; rw [ev]; exact if_pos hbg
            have e8 : askW S j = (2, S) := by unfold askW; rw [e9]; rfl
            exact kt_out htab hlocks hw1 hce hcv hcl ⟨by rw [e8]; exact (by decide : (2 : Nat) ≠ 0), by rw [e8]; rfl, z2, hz9.tr hz2, by rw [e8]; exact hr2, by rw [hn0]; exact hw.2.2.1⟩ (by decide) (by decide)
          obtain ⟨er15, hbg, hq15⟩ := hp15
          replace hq15 := hq15.symm; subst hq15
          have hw : Sk G A lc S z2 n0 u u14 st H15 locs15 := ⟨hw15, hw.2⟩
          subst er15
          have e9 : wkA S j = (0, r15) := by unfold wkA; rw [ev]; show (if bigL r15 = true then ((2 : Nat), (0 : Int64)) else (0, r15)) = _; rw [hbg]; rfl
          refine kp_amount (j := j) r15 hx hb ht hown hw hj gw_280 (Or.inl rfl) d_Q_ask_42 (fun H16 locs16 u16 hw => ?_)
          refine lv_aload_n hx hb d_Q_ask_45 rfl (lv_at hl 1 rfl) ?_
          refine lv_iconst (v := 1) hx hb d_Q_ask_46 (by decide) ?_
          refine kp_valid (j := j) true hx hb ht hown hw hj gw_284 (Or.inl rfl) d_Q_ask_47 (fun H17 locs17 u17 hw => ?_)
          refine lv_aload_n hx hb d_Q_ask_50 rfl (lv_at hl 1 rfl) ?_
          refine lv_dup hx hb d_Q_ask_51 rfl ?_
          refine kg_N (j := j) 7 (by decide) hx hb ht hown hw hj gw_289 (Or.inl rfl) rfl d_Q_ask_52 ?_
          refine lv_iconst (v := 1) hx hb d_Q_ask_55 (by decide) ?_
          refine lv_iadd hx hb d_Q_ask_56 ?_
          refine kp_timesWorked (j := j) ((q_tw (qS_va (qS_am S (va_up (q_am S) j r15)) (va_up (q_va (qS_am S (va_up (q_am S) j r15))) j true)) j) + (1 : Int32)) hx hb ht hown hw hj gw_289 (Or.inl rfl) d_Q_ask_57 (fun H18 locs18 u18 hw => ?_)
          refine lv_aload_n hx hb d_Q_ask_60 rfl (lv_at hl 0 rfl) ?_
          refine lv_dup hx hb d_Q_ask_61 rfl ?_
          refine kg_Q 4 (by decide) hx hb ht hown hw gw_125 rfl rfl d_Q_ask_62 ?_
          refine lv_iconst (v := 1) hx hb d_Q_ask_65 (by decide) ?_
          refine lv_iadd hx hb d_Q_ask_66 ?_
          refine kp_workedCount ((q_wk (qS_tw (qS_va (qS_am S (va_up (q_am S) j r15)) (va_up (q_va (qS_am S (va_up (q_am S) j r15))) j true)) (va_up (q_tw (qS_va (qS_am S (va_up (q_am S) j r15)) (va_up (q_va (qS_am S (va_up (q_am S) j r15))) j true))) j ((q_tw (qS_va (qS_am S (va_up (q_am S) j r15)) (va_up (q_va (qS_am S (va_up (q_am S) j r15))) j true)) j) + (1 : Int32))))) + (1 : Int32)) hx hb ht hown hw gw_125 d_Q_ask_67 (fun H19 locs19 u19 hw => ?_)
          exact kt_v hx hb hr hlocks hw.1 d_Q_ask_70 (by have e8 : askW S j = (0, qS_wk (qS_tw (qS_va (qS_am S (va_up (q_am S) j r15)) (va_up (q_va S) j true)) (va_up (q_tw S) j (q_tw S j + 1))) (q_wk S + 1)) := (by unfold askW; rw [e9]; rfl); rw [e8]; exact ⟨rfl, z2, hz9.tr hz2, hw.2.1, by rw [hn0]; exact hw.2.2.1⟩) (by first | decide | (dsimp only; omega)) (by first | decide | (dsimp only; omega))
        · refine lv_aload_n hx hb d_Q_ask_34 rfl (lv_at hl 1 rfl) ?_
          refine lv_aload_n hx hb d_Q_ask_35 rfl (lv_at hl 1 rfl) ?_
          refine kc_l (kr_U 0 (x := ⟨"QuoteGraph$Node", "workOut", "()J"⟩) (owner := "QuoteGraph$Node") (C := "QuoteGraph$Option") (As := []) (rest := [.ref (lc (8 + j))]) (c_Op_workOut l hl9 G A lc S z9 u9 hw.2.1 j (by rw [hNS]; exact hj) h9 (ak_all hK hI j (by rw [hNS]; exact hj) h9)) hx hb hml hown ht hw.1 gw_554 gw_556 (va_Decl.abs (hw.1.1.2.2.2.2.1 _ (ew_of 555 _ (by decide +kernel) rfl))) gw_590 gw_591 gw_57 gw_592 ⟨⟨by decide, by decide⟩, by decide +kernel⟩ ⟨by first | decide | (dsimp only; omega), by first | decide | (dsimp only; omega)⟩ (by have h := kr_N hw hj; rw [h9] at h; exact h) rfl hl.1 rfl (lv_room (Nat.le_of_ble_eq_true rfl)) d_Q_ask_36 ⟨by first | decide | (dsimp only; omega), by first | decide | (dsimp only; omega)⟩) hw.1 (fun E ce q9 u1 H1 locs1 hp hw1 hce hcv hcl => ?_) (fun r20 u20 H20 locs20 hp20 hw20 => ?_)
          · obtain ⟨hne, rfl, z2, hz2, hr2, hf2⟩ := hp
            have e9 : wkA S j = ((wkV S j).1, 0) := by unfold wkA; rw [if_neg hne]
            have e8 : askW S j = ((wkV S j).1, S) := by unfold askW; rw [e9]; exact if_neg hne
            exact kt_out htab hlocks hw1 hce hcv hcl ⟨by rw [e8]; exact hne, by rw [e8], z2, hz9.tr hz2, by rw [e8]; exact hr2, by rw [hn0]; exact hw.2.2.1.tr (by rw [← hNS]; exact hf2)⟩ (by decide) (by decide)
          obtain ⟨ev, z2, hz2, hr2, hf2⟩ := hp20
          have hw : Sk G A lc S z2 n0 u u20 st H20 locs20 := ⟨hw20, hr2, hw.2.2.1.tr (by rw [← hNS]; exact hf2), hNS⟩
          refine kc_l (kr_S 1 (As := [.long r20]) (rest := [.ref (lc (8 + j))]) (c_Q_notTooLarge l hl9 G A u20 _) hx hb hml hown ht hw.1 gw_564 gw_565 gw_42 gw_566 ⟨⟨by decide, by decide⟩, by decide +kernel⟩ ⟨by first | decide | (dsimp only; omega), by first | decide | (dsimp only; omega)⟩ rfl hl.1 rfl (lv_room (Nat.le_of_ble_eq_true rfl)) d_Q_ask_39 ⟨by first | decide | (dsimp only; omega), by first | decide | (dsimp only; omega)⟩) hw.1 (fun E ce q9 u1 H1 locs1 hp hw1 hce hcv hcl => ?_) (fun r21 u21 H21 locs21 hp21 hw21 => ?_)
          · obtain ⟨rfl, hbg, hq9⟩ := hp
            replace hq9 := hq9.symm; subst hq9
            have e9 : wkA S j = (2, 0) := by unfold wkA; rw [ev]; exact if_pos hbg
            have e8 : askW S j = (2, S) := by unfold askW; rw [e9]; rfl
            exact kt_out htab hlocks hw1 hce hcv hcl ⟨by rw [e8]; exact (by decide : (2 : Nat) ≠ 0), by rw [e8]; rfl, z2, hz9.tr hz2, by rw [e8]; exact hr2, by rw [hn0]; exact hw.2.2.1⟩ (by decide) (by decide)
          obtain ⟨er21, hbg, hq21⟩ := hp21
          replace hq21 := hq21.symm; subst hq21
          have hw : Sk G A lc S z2 n0 u u20 st H21 locs21 := ⟨hw21, hw.2⟩
          subst er21
          have e9 : wkA S j = (0, r21) := by unfold wkA; rw [ev]; show (if bigL r21 = true then ((2 : Nat), (0 : Int64)) else (0, r21)) = _; rw [hbg]; rfl
          refine kp_amount (j := j) r21 hx hb ht hown hw hj gw_280 (Or.inl rfl) d_Q_ask_42 (fun H22 locs22 u22 hw => ?_)
          refine lv_aload_n hx hb d_Q_ask_45 rfl (lv_at hl 1 rfl) ?_
          refine lv_iconst (v := 1) hx hb d_Q_ask_46 (by decide) ?_
          refine kp_valid (j := j) true hx hb ht hown hw hj gw_284 (Or.inl rfl) d_Q_ask_47 (fun H23 locs23 u23 hw => ?_)
          refine lv_aload_n hx hb d_Q_ask_50 rfl (lv_at hl 1 rfl) ?_
          refine lv_dup hx hb d_Q_ask_51 rfl ?_
          refine kg_N (j := j) 7 (by decide) hx hb ht hown hw hj gw_289 (Or.inl rfl) rfl d_Q_ask_52 ?_
          refine lv_iconst (v := 1) hx hb d_Q_ask_55 (by decide) ?_
          refine lv_iadd hx hb d_Q_ask_56 ?_
          refine kp_timesWorked (j := j) ((q_tw (qS_va (qS_am S (va_up (q_am S) j r21)) (va_up (q_va (qS_am S (va_up (q_am S) j r21))) j true)) j) + (1 : Int32)) hx hb ht hown hw hj gw_289 (Or.inl rfl) d_Q_ask_57 (fun H24 locs24 u24 hw => ?_)
          refine lv_aload_n hx hb d_Q_ask_60 rfl (lv_at hl 0 rfl) ?_
          refine lv_dup hx hb d_Q_ask_61 rfl ?_
          refine kg_Q 4 (by decide) hx hb ht hown hw gw_125 rfl rfl d_Q_ask_62 ?_
          refine lv_iconst (v := 1) hx hb d_Q_ask_65 (by decide) ?_
          refine lv_iadd hx hb d_Q_ask_66 ?_
          refine kp_workedCount ((q_wk (qS_tw (qS_va (qS_am S (va_up (q_am S) j r21)) (va_up (q_va (qS_am S (va_up (q_am S) j r21))) j true)) (va_up (q_tw (qS_va (qS_am S (va_up (q_am S) j r21)) (va_up (q_va (qS_am S (va_up (q_am S) j r21))) j true))) j ((q_tw (qS_va (qS_am S (va_up (q_am S) j r21)) (va_up (q_va (qS_am S (va_up (q_am S) j r21))) j true)) j) + (1 : Int32))))) + (1 : Int32)) hx hb ht hown hw gw_125 d_Q_ask_67 (fun H25 locs25 u25 hw => ?_)
          exact kt_v hx hb hr hlocks hw.1 d_Q_ask_70 (by have e8 : askW S j = (0, qS_wk (qS_tw (qS_va (qS_am S (va_up (q_am S) j r21)) (va_up (q_va S) j true)) (va_up (q_tw S) j (q_tw S j + 1))) (q_wk S + 1)) := (by unfold askW; rw [e9]; rfl); rw [e8]; exact ⟨rfl, z2, hz9.tr hz2, hw.2.1, by rw [hn0]; exact hw.2.2.1⟩) (by first | decide | (dsimp only; omega)) (by first | decide | (dsimp only; omega))
      · exact absurd (by rw [hnS]; exact nI_le (Nat.le_refl _) (by omega)) c1
    · obtain ⟨hl, hw⟩ := hJ
      obtain ⟨z9, u9, hc9, hz9, hw⟩ := hw
      have hK : akK s (askP (askF d) j s k).2 := askP_K (fun s i => askF_K d s i) k
      have hnS : np (askP (askF d) j s k).2 j = np s j := ak_np hK j
      have hNS : q_n (askP (askF d) j s k).2 = n0 := by rw [hK.1]; exact hn0
      have hcl9 : cp (askP (askF d) j s k).2 j k < n0 := by rw [ak_cp hK, ← hn0]; exact cp_lt hok (by rw [hn0]; exact hj) hk
      refine lv_iload_n hx hb d_Q_ask_10 rfl (lv_at hl 2 rfl) ?_
      refine lv_aload_n hx hb d_Q_ask_11 rfl (lv_at hl 1 rfl) ?_
      refine kg_N (j := j) 2 (by decide) hx hb ht hown hw hj gw_271 (Or.inl rfl) rfl d_Q_ask_12 ?_
      refine lv_icmp_ge (tgt := 34) hx hb d_Q_ask_15 (by decide) (fun c1 => ?_) (fun c1 => ?_)
      · exact absurd c1 (by rw [hnS]; exact nI_ge hk (by omega))
      · refine lv_aload_n hx hb d_Q_ask_18 rfl (lv_at hl 0 rfl) ?_
        refine lv_aload_n hx hb d_Q_ask_19 rfl (lv_at hl 1 rfl) ?_
        refine kg_N (j := j) 1 (by decide) hx hb ht hown hw hj gw_267 (Or.inl rfl) rfl d_Q_ask_20 ?_
        refine lv_iload_n hx hb d_Q_ask_23 rfl (lv_at hl 2 rfl) ?_
        refine ka_parts (j := j) (k := k) rfl hj (by rw [hnS]; exact hk) hx hb hw d_Q_ask_24 ?_
        refine kc_v (kr_V 1 (C := "QuoteGraph") (As := [.ref (lc (8 + cp (askP (askF d) j s k).2 j k))]) (rest := []) (ihd (askP (askF d) j s k).2 z9 u9 r hw.2.1 (ak_rkd hK hrk) (ak_all hK hI) (cp (askP (askF d) j s k).2 j k) (by rw [hNS]; exact hcl9) (by have h := hrk j (by rw [hn0]; exact hj) k hk; rw [ak_cp hK]; omega)) hx hb hml hown ht hw.1 gw_550 gw_552 gw_13 gw_42 gw_553 ⟨⟨by decide, by decide⟩, by decide +kernel⟩ ⟨by first | decide | (dsimp only; omega), by first | decide | (dsimp only; omega)⟩ (kr_Q hw) rfl hl.1 rfl (lv_room (Nat.le_of_ble_eq_true rfl)) d_Q_ask_25 ⟨by first | decide | (dsimp only; omega), by first | decide | (dsimp only; omega)⟩) hw.1 (fun E ce q9 u1 H1 locs1 hp hw1 hce hcv hcl => ?_) (fun u26 H26 locs26 hp26 hw26 => ?_)
        · obtain ⟨hne, rfl, z2, hz2, hr2, hf2⟩ := hp
          have eP : askP (askF d) j s (k + 1) = askF d (askP (askF d) j s k).2 (cp (askP (askF d) j s k).2 j k) := by show (if _ then _ else _) = _; rw [if_pos hc9]
          rw [← eP] at hne hr2
          have eQ := askP_stop hne (np s j - (k + 1))
          rw [show k + 1 + (np s j - (k + 1)) = np s j by omega] at eQ
          have eF : askF (d + 1) s j = askP (askF d) j s (k + 1) := by show (if _ then _ else if _ then _ else _) = _; rw [if_neg (by rw [hva]; decide), if_neg (by rw [eQ]; exact hne), eQ]
          exact kt_out htab hlocks hw1 hce hcv hcl ⟨by rw [eF]; exact hne, by rw [eF, eP], z2, hz9.tr hz2, by rw [eF]; exact hr2, by rw [hn0]; exact hw.2.2.1.tr (by rw [← hNS]; exact hf2)⟩ (by decide) (by decide)
        obtain ⟨h0, z2, hz2, hr2, hf2⟩ := hp26
        have eP : askP (askF d) j s (k + 1) = askF d (askP (askF d) j s k).2 (cp (askP (askF d) j s k).2 j k) := by show (if _ then _ else _) = _; rw [if_pos hc9]
        rw [← eP] at h0 hr2
        have hw : Sk G A lc (askP (askF d) j s (k + 1)).2 z2 n0 u u26 st H26 locs26 := ⟨hw26, hr2, hw.2.2.1.tr (by rw [← hNS]; exact hf2), by rw [(askP_K (fun s i => askF_K d s i) (k + 1)).1]; exact hn0⟩
        obtain ⟨i27, ei27⟩ : ∃ y : Int32, y = (nI k) + 1 := ⟨_, rfl⟩
        refine lv_iinc (v := i27) (lv' := [(2, .int i27), (0, .ref (lc 0)), (1, .ref (lc (8 + j)))]) hx hb d_Q_ask_28 hl (k := 2) rfl (by rw [ei27]; rfl) (by decide) rfl (fun ls hl => ?_)
        rw [nI_1] at ei27; subst ei27
        refine lv_goto (tgt := 10) hx hb d_Q_ask_31 (by decide) ?_
        exact ih ls H26 locs26 ⟨lv_sub hl [1, 2, 0] rfl, z2, u26, h0, hz9.tr hz2, hw⟩
  · have hva : q_va s j = true := (bI_ne _).mp c1
    have eF : askF (d + 1) s j = (0, s) := by show (if _ then _ else if _ then _ else _) = _; rw [if_pos hva]
    exact kt_v hx hb hr hlocks hw.1 d_Q_ask_7 (by rw [eF]; exact ⟨rfl, z, zK.rf, hw.2.1, by rw [hn0]; exact hw.2.2.1⟩) (by first | decide | (dsimp only; omega)) (by first | decide | (dsimp only; omega))
theorem c_ask (l : Launch) (hl9 : l.stackTraces = false) (G : GT) (A : Nat → Prop) (lc : Nat → Nat) : ∀ d, T_ask l G A lc d
  | 0 => fun _ _ _ _ _ _ _ _ _ h => absurd h (Nat.not_lt_zero _)
  | d + 1 => fun s z u r hR hr hI j hj hd => c_ask_of l hl9 G A lc d (c_ask l hl9 G A lc d) s z u r hR hr hI j hj hd

/-! 16.tell: contracts of tell and tellUsersOf, by induction on a depth -/
abbrev T_tell (l : Launch) (G : GT) (A : Nat → Prop) (lc : Nat → Nat) (d : Nat) : Prop := ∀ (s : QS) (z : ZS) (u : WT), rQ G lc s z u → vc (q_va s) (q_n s) < d → ∀ j, j < q_n s → Kt l y_Q_tell b_Q_tell 2 none (2 * d + 2) (50 * d + 50) (0) (0) (0) (0) (0) (0) G A u [.ref (lc 0), .ref (lc (8 + j))] (KQ G A (Rv (fun u' => rQ G lc (tellF d s j) z u' ∧ fQ lc (q_n s) u u'))) NX
abbrev T_tellU (l : Launch) (G : GT) (A : Nat → Prop) (lc : Nat → Nat) (d : Nat) : Prop := ∀ (s : QS) (z : ZS) (u : WT), rQ G lc s z u → vc (q_va s) (q_n s) < d → ∀ j, j < q_n s → Kt l y_Q_tellUsersOf b_Q_tellUsersOf 3 none (2 * d + 3) (50 * d + 75) (0) (0) (0) (0) (0) (0) G A u [.ref (lc 0), .ref (lc (8 + j))] (KQ G A (Rv (fun u' => rQ G lc (tellU (tellF d) j s (q_n s)) z u' ∧ fQ lc (q_n s) u u'))) NX
set_option maxHeartbeats 4000000 in
set_option maxRecDepth 100000 in
theorem c_tellU_of (l : Launch) (G : GT) (A : Nat → Prop) (lc : Nat → Nat) (d : Nat) (ihd : T_tell l G A lc d) (s : QS) (z : ZS) (u : WT) (hR : rQ G lc s z u) (hv : vc (q_va s) (q_n s) < d) (j : Nat) (hj : j < q_n s) : Kt l y_Q_tellUsersOf b_Q_tellUsersOf 3 none (2 * d + 3) (50 * d + 75) 0 0 0 0 0 0 G A u [.ref (lc 0), .ref (lc (8 + j))] (KQ G A (Rv (fun u' => rQ G lc (tellU (tellF d) j s (q_n s)) z u' ∧ fQ lc (q_n s) u u'))) (NX) := by
  refine k_of (by decide) (Nat.le_of_ble_eq_true rfl) (fun p e st m below meth c ls hx hb hr hlocks hml htab hname hown ht hw hl => ?_)
  have hl : lv_has ls 3 [(0, .ref (lc 0)), (1, .ref (lc (8 + j)))] := hl
  obtain ⟨n0, hn0⟩ : ∃ n0, q_n s = n0 := ⟨_, rfl⟩
  have hw : Sk G A lc s z n0 u u st st.heap [] := ⟨hw, hR, fQ.rf, hn0⟩
  have h16 : n0 ≤ 16 := by rw [← hn0]; exact hR.1.1
  rw [hn0] at hj
  refine lv_iconst (v := 0) hx hb d_Q_tellUsersOf_0 (by decide) ?_
  refine lv_istore_n (lv' := [(2, .int (0 : Int32)), (0, .ref (lc 0)), (1, .ref (lc (8 + j)))]) hx hb d_Q_tellUsersOf_1 rfl hl (by decide) rfl (fun ls hl => ?_)
  refine k_cntH (n0) (fun i ls H locs => lv_has ls 3 [(0, .ref (lc 0)), (1, .ref (lc (8 + j))), (2, .int (nI i))] ∧ ∃ u9, Sk G A lc (tellU (tellF d) j s i) z n0 u u9 st H locs) (k0 := 0) (Nat.zero_le _) (⟨lv_sub hl [1, 2, 0] rfl, u, hw⟩) (fun ls H locs hJ => ?_) (fun i ls H locs hi hJ ih => ?_)
  · obtain ⟨hl, hw⟩ := hJ
    obtain ⟨u9, hw⟩ := hw
    refine lv_iload_n hx hb d_Q_tellUsersOf_2 rfl (lv_at hl 2 rfl) ?_
    refine lv_aload_n hx hb d_Q_tellUsersOf_3 rfl (lv_at hl 0 rfl) ?_
    refine kg_Q 2 (by decide) hx hb ht hown hw gw_123 rfl rfl d_Q_tellUsersOf_4 ?_
    refine lv_icmp_ge (tgt := 43) hx hb d_Q_tellUsersOf_7 (by decide) (fun c1 => ?_) (fun c1 => ?_)
    · exact kt_v hx hb hr hlocks hw.1 d_Q_tellUsersOf_43 (by rw [hn0]; exact ⟨hw.2.1, hw.2.2.1⟩) (by first | decide | (dsimp only; omega)) (by first | decide | (dsimp only; omega))
    · exact absurd (nI_le (Nat.le_refl _) (by omega)) c1
  · obtain ⟨hl, hw⟩ := hJ
    obtain ⟨u9, hw⟩ := hw
    have hK : tlK s (tellU (tellF d) j s i) := tellU_K (fun s i => tellF_K d s i) i
    have hN : q_n (tellU (tellF d) j s i) = n0 := by rw [hK.1.1]; exact hn0
    refine lv_iload_n hx hb d_Q_tellUsersOf_2 rfl (lv_at hl 2 rfl) ?_
    refine lv_aload_n hx hb d_Q_tellUsersOf_3 rfl (lv_at hl 0 rfl) ?_
    refine kg_Q 2 (by decide) hx hb ht hown hw gw_123 rfl rfl d_Q_tellUsersOf_4 ?_
    refine lv_icmp_ge (tgt := 43) hx hb d_Q_tellUsersOf_7 (by decide) (fun c1 => ?_) (fun c1 => ?_)
    · exact absurd c1 (nI_ge hi (by omega))
    · refine lv_aload_n hx hb d_Q_tellUsersOf_10 rfl (lv_at hl 0 rfl) ?_
      refine kg_Q 0 (by decide) hx hb ht hown hw gw_121 rfl rfl d_Q_tellUsersOf_11 ?_
      refine lv_iload_n hx hb d_Q_tellUsersOf_14 rfl (lv_at hl 2 rfl) ?_
      refine ka_nodes (k := i) rfl hi hx hb hw d_Q_tellUsersOf_15 ?_
      refine kc_i (kr_V 0 (C := ndC (q_so (tellU (tellF d) j s i) i)) (As := []) (rest := []) (c_Nd_partBits l G A lc _ z u9 hw.2.1 i (by rw [hN]; exact hi)) hx hb hml hown ht hw.1 gw_482 gw_483 (sel_partBits _ (hw.nj hi).2.2) gw_53 gw_489 ⟨⟨by decide, by decide⟩, by decide +kernel⟩ ⟨by first | decide | (dsimp only; omega), by first | decide | (dsimp only; omega)⟩ (kr_N hw hi) rfl hl.1 rfl (lv_room (Nat.le_of_ble_eq_true rfl)) d_Q_tellUsersOf_16 ⟨by first | decide | (dsimp only; omega), by first | decide | (dsimp only; omega)⟩) hw.1 (fun _ _ _ _ _ _ h => h.elim) (fun r1 u1 H1 locs1 hp1 hw1 => ?_)
      obtain ⟨er1, hq1⟩ := hp1
      replace hq1 := hq1.symm; subst hq1
      subst er1
      have hw : Sk G A lc (tellU (tellF d) j s i) z n0 u u9 st H1 locs1 := ⟨hw1, hw.2⟩
      refine lv_aload_n hx hb d_Q_tellUsersOf_19 rfl (lv_at hl 1 rfl) ?_
      refine kc_i (kr_V 0 (C := ndC (q_so (tellU (tellF d) j s i) j)) (As := []) (rest := [.int (pbits (tellU (tellF d) j s i) i)]) (c_Nd_bit l G A lc _ z u9 hw.2.1 j (by rw [hN]; exact hj)) hx hb hml hown ht hw.1 gw_498 gw_491 (sel_bit _ (hw.nj hj).2.2) gw_53 gw_497 ⟨⟨by decide, by decide⟩, by decide +kernel⟩ ⟨by first | decide | (dsimp only; omega), by first | decide | (dsimp only; omega)⟩ (kr_N hw hj) rfl hl.1 rfl (lv_room (Nat.le_of_ble_eq_true rfl)) d_Q_tellUsersOf_20 ⟨by first | decide | (dsimp only; omega), by first | decide | (dsimp only; omega)⟩) hw.1 (fun _ _ _ _ _ _ h => h.elim) (fun r2 u2 H2 locs2 hp2 hw2 => ?_)
      obtain ⟨er2, hq2⟩ := hp2
      replace hq2 := hq2.symm; subst hq2
      subst er2
      have hw : Sk G A lc (tellU (tellF d) j s i) z n0 u u9 st H2 locs2 := ⟨hw2, hw.2⟩
      refine lv_iand hx hb d_Q_tellUsersOf_23 ?_
      refine lv_if_eq (tgt := 37) hx hb d_Q_tellUsersOf_24 (by decide) (fun c3 => ?_) (fun c3 => ?_)
      · obtain ⟨i4, ei4⟩ : ∃ y : Int32, y = (nI i) + 1 := ⟨_, rfl⟩
        refine lv_iinc (v := i4) (lv' := [(2, .int i4), (0, .ref (lc 0)), (1, .ref (lc (8 + j)))]) hx hb d_Q_tellUsersOf_37 hl (k := 2) rfl (by rw [ei4]; rfl) (by decide) rfl (fun ls hl => ?_)
        rw [nI_1] at ei4; subst ei4
        refine lv_goto (tgt := 2) hx hb d_Q_tellUsersOf_40 (by decide) ?_
        have e8 : tellU (tellF d) j s i = tellU (tellF d) j s (i + 1) := by show _ = (if _ then _ else _); rw [if_pos c3]
        rw [e8] at hw
        exact ih ls H2 locs2 ⟨lv_sub hl [1, 2, 0] rfl, u9, hw⟩
      · refine lv_aload_n hx hb d_Q_tellUsersOf_27 rfl (lv_at hl 0 rfl) ?_
        refine lv_aload_n hx hb d_Q_tellUsersOf_28 rfl (lv_at hl 0 rfl) ?_
        refine kg_Q 0 (by decide) hx hb ht hown hw gw_121 rfl rfl d_Q_tellUsersOf_29 ?_
        refine lv_iload_n hx hb d_Q_tellUsersOf_32 rfl (lv_at hl 2 rfl) ?_
        refine ka_nodes (k := i) rfl hi hx hb hw d_Q_tellUsersOf_33 ?_
        refine kc_v (kr_V 1 (C := "QuoteGraph") (As := [.ref (lc (8 + i))]) (rest := []) (ihd (tellU (tellF d) j s i) z u9 hw.2.1 (Nat.lt_of_le_of_lt hK.vc hv) i (by rw [hN]; exact hi)) hx hb hml hown ht hw.1 gw_508 gw_510 gw_9 gw_42 gw_511 ⟨⟨by decide, by decide⟩, by decide +kernel⟩ ⟨by first | decide | (dsimp only; omega), by first | decide | (dsimp only; omega)⟩ (kr_Q hw) rfl hl.1 rfl (lv_room (Nat.le_of_ble_eq_true rfl)) d_Q_tellUsersOf_34 ⟨by first | decide | (dsimp only; omega), by first | decide | (dsimp only; omega)⟩) hw.1 (fun _ _ _ _ _ _ h => h.elim) (fun u5 H5 locs5 hp5 hw5 => ?_)
        obtain ⟨g1, g2⟩ := hp5
        have e8 : tellF d (tellU (tellF d) j s i) i = tellU (tellF d) j s (i + 1) := by show _ = (if _ then _ else _); rw [if_neg c3]
        rw [e8] at g1
        have hw : Sk G A lc (tellU (tellF d) j s (i + 1)) z n0 u u5 st H5 locs5 := ⟨hw5, g1, hw.2.2.1.tr (by rw [← hN]; exact g2), by rw [(tellU_K (fun s i => tellF_K d s i) (i + 1)).1.1]; exact hn0⟩
        obtain ⟨i6, ei6⟩ : ∃ y : Int32, y = (nI i) + 1 := ⟨_, rfl⟩
        refine lv_iinc (v := i6) (lv' := [(2, .int i6), (0, .ref (lc 0)), (1, .ref (lc (8 + j)))]) hx hb d_Q_tellUsersOf_37 hl (k := 2) rfl (by rw [ei6]; rfl) (by decide) rfl (fun ls hl => ?_)
        rw [nI_1] at ei6; subst ei6
        refine lv_goto (tgt := 2) hx hb d_Q_tellUsersOf_40 (by decide) ?_
        exact ih ls H5 locs5 ⟨lv_sub hl [1, 2, 0] rfl, u5, hw⟩
set_option maxHeartbeats 4000000 in
set_option maxRecDepth 100000 in
theorem c_tell_of (l : Launch) (G : GT) (A : Nat → Prop) (lc : Nat → Nat) (d : Nat) (ihU : T_tellU l G A lc d) (s : QS) (z : ZS) (u : WT) (hR : rQ G lc s z u) (hv : vc (q_va s) (q_n s) < d + 1) (j : Nat) (hj : j < q_n s) : Kt l y_Q_tell b_Q_tell 2 none (2 * (d + 1) + 2) (50 * (d + 1) + 50) 0 0 0 0 0 0 G A u [.ref (lc 0), .ref (lc (8 + j))] (KQ G A (Rv (fun u' => rQ G lc (tellF (d + 1) s j) z u' ∧ fQ lc (q_n s) u u'))) (NX) := by
  refine k_of (by decide) (Nat.le_of_ble_eq_true rfl) (fun p e st m below meth c ls hx hb hr hlocks hml htab hname hown ht hw hl => ?_)
  have hl : lv_has ls 2 [(0, .ref (lc 0)), (1, .ref (lc (8 + j)))] := hl
  obtain ⟨n0, hn0⟩ : ∃ n0, q_n s = n0 := ⟨_, rfl⟩
  have hw : Sk G A lc s z n0 u u st st.heap [] := ⟨hw, hR, fQ.rf, hn0⟩
  have h16 : n0 ≤ 16 := by rw [← hn0]; exact hR.1.1
  rw [hn0] at hj
  refine lv_aload_n hx hb d_Q_tell_0 rfl (lv_at hl 1 rfl) ?_
  refine kg_N (j := j) 4 (by decide) hx hb ht hown hw hj gw_284 (Or.inl rfl) rfl d_Q_tell_1 ?_
  refine lv_if_ne (tgt := 8) hx hb d_Q_tell_4 (by decide) (fun c1 => ?_) (fun c1 => ?_)
  · have hva : q_va s j = true := (bI_ne _).mp c1
    refine lv_aload_n hx hb d_Q_tell_8 rfl (lv_at hl 1 rfl) ?_
    refine kg_N (j := j) 5 (by decide) hx hb ht hown hw hj gw_285 (Or.inl rfl) rfl d_Q_tell_9 ?_
    refine lv_if_eq (tgt := 21) hx hb d_Q_tell_12 (by decide) (fun c2 => ?_) (fun c2 => ?_)
    · have hfr : q_fr s j = false := (bI_eq _).mp c2
      refine lv_aload_n hx hb d_Q_tell_21 rfl (lv_at hl 1 rfl) ?_
      refine lv_iconst (v := 0) hx hb d_Q_tell_22 (by decide) ?_
      refine kp_valid (j := j) false hx hb ht hown hw hj gw_284 (Or.inl rfl) d_Q_tell_23 (fun H3 locs3 u3 hw => ?_)
      refine lv_aload_n hx hb d_Q_tell_26 rfl (lv_at hl 0 rfl) ?_
      refine lv_dup hx hb d_Q_tell_27 rfl ?_
      refine kg_Q 3 (by decide) hx hb ht hown hw gw_124 rfl rfl d_Q_tell_28 ?_
      refine lv_iconst (v := 1) hx hb d_Q_tell_31 (by decide) ?_
      refine lv_iadd hx hb d_Q_tell_32 ?_
      refine kp_toldCount ((q_tl (qS_va s (va_up (q_va s) j false))) + (1 : Int32)) hx hb ht hown hw gw_124 d_Q_tell_33 (fun H4 locs4 u4 hw => ?_)
      refine lv_aload_n hx hb d_Q_tell_36 rfl (lv_at hl 0 rfl) ?_
      refine lv_aload_n hx hb d_Q_tell_37 rfl (lv_at hl 1 rfl) ?_
      refine kc_v (kr_V 1 (C := "QuoteGraph") (As := [.ref (lc (8 + j))]) (rest := []) (ihU (qS_tl (qS_va s (va_up (q_va s) j false)) ((q_tl (qS_va s (va_up (q_va s) j false))) + (1 : Int32))) z u4 hw.2.1 (by have := vc_off (f := q_va s) (j := j) (n := q_n s) (by rw [hn0]; exact hj) hva; show vc (va_up (q_va s) j false) (q_n s) < d; omega) j (by show j < q_n s; rw [hn0]; exact hj)) hx hb hml hown ht hw.1 gw_512 gw_514 gw_10 gw_42 gw_515 ⟨⟨by decide, by decide⟩, by decide +kernel⟩ ⟨by first | decide | (dsimp only; omega), by first | decide | (dsimp only; omega)⟩ (kr_Q hw) rfl hl.1 rfl (lv_room (Nat.le_of_ble_eq_true rfl)) d_Q_tell_38 ⟨by first | decide | (dsimp only; omega), by first | decide | (dsimp only; omega)⟩) hw.1 (fun _ _ _ _ _ _ h => h.elim) (fun u5 H5 locs5 hp5 hw5 => ?_)
      obtain ⟨g1, g2⟩ := hp5
      exact kt_v hx hb hr hlocks hw5 d_Q_tell_41 (by refine ⟨?_, by rw [hn0]; exact hw.2.2.1.tr (by rw [← hn0]; exact g2)⟩; show rQ G lc (if _ then _ else if _ then _ else _) z _; rw [if_neg (by rw [hva]; decide), if_neg (by rw [hfr]; decide)]; exact g1) (by first | decide | (dsimp only; omega)) (by first | decide | (dsimp only; omega))
    · have hfr : q_fr s j = true := (bI_ne _).mp c2
      refine lv_aload_n hx hb d_Q_tell_15 rfl (lv_at hl 1 rfl) ?_
      refine lv_iconst (v := 1) hx hb d_Q_tell_16 (by decide) ?_
      refine kp_missed (j := j) true hx hb ht hown hw hj gw_288 (Or.inl rfl) d_Q_tell_17 (fun H6 locs6 u6 hw => ?_)
      exact kt_v hx hb hr hlocks hw.1 d_Q_tell_20 (by refine ⟨?_, by rw [hn0]; exact hw.2.2.1⟩; show rQ G lc (if _ then _ else if _ then _ else _) z _; rw [if_neg (by rw [hva]; decide), if_pos hfr]; exact hw.2.1) (by first | decide | (dsimp only; omega)) (by first | decide | (dsimp only; omega))
  · have hva : q_va s j = false := (bI_eq _).mp c1
    exact kt_v hx hb hr hlocks hw.1 d_Q_tell_7 (by refine ⟨?_, by rw [hn0]; exact hw.2.2.1⟩; show rQ G lc (if _ then _ else if _ then _ else _) z _; rw [if_pos hva]; exact hw.2.1) (by first | decide | (dsimp only; omega)) (by first | decide | (dsimp only; omega))
theorem c_tell (l : Launch) (G : GT) (A : Nat → Prop) (lc : Nat → Nat) : ∀ d, T_tell l G A lc d
  | 0 => fun _ _ _ _ hv => absurd hv (Nat.not_lt_zero _)
  | d + 1 => fun s z u hR hv j hj => c_tell_of l G A lc d (fun s z u hR hv j hj => c_tellU_of l G A lc d (c_tell l G A lc d) s z u hR hv j hj) s z u hR hv j hj
theorem c_tellU (l : Launch) (G : GT) (A : Nat → Prop) (lc : Nat → Nat) (d : Nat) : T_tellU l G A lc d := fun s z u hR hv j hj => c_tellU_of l G A lc d (c_tell l G A lc d) s z u hR hv j hj

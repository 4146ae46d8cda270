/-! 14.reads: contracts of the methods that read the graph -/
set_option maxHeartbeats 4000000 in
set_option maxRecDepth 100000 in
theorem c_Nd_partBits (l : Launch) (G : GT) (A : Nat → Prop) (lc : Nat → Nat) (s : QS) (z : ZS) (u : WT) (hR : rQ G lc s z u) (j : Nat) (hj : j < q_n s) : Kt l y_Nd_partBits b_Nd_partBits 3 (some .int) 1 20 0 0 0 0 0 0 G A u [.ref (lc (8 + j))] (KQ G A (Ri (fun r u' => r = pbits s j ∧ u' = u))) (NX) := by
  refine k_of (by decide) (Nat.le_of_ble_eq_true rfl) (fun p e st m below meth c ls hx hb hr hlocks hml htab hname hown ht hw hl => ?_)
  have hl : lv_has ls 3 [(0, .ref (lc (8 + j)))] := hl
  obtain ⟨n0, hn0⟩ : ∃ n0, q_n s = n0 := ⟨_, rfl⟩
  have hw : Sk G A lc s z n0 u u st st.heap [] := ⟨hw, hR, fQ.rf, hn0⟩
  have h4 := np_le hR.1 hj
  rw [hn0] at hj
  refine lv_iconst (v := 0) hx hb d_Nd_partBits_0 (by decide) ?_
  refine lv_istore_n (lv' := [(1, .int (0 : Int32)), (0, .ref (lc (8 + j)))]) hx hb d_Nd_partBits_1 rfl hl (by decide) rfl (fun ls hl => ?_)
  refine lv_iconst (v := 0) hx hb d_Nd_partBits_2 (by decide) ?_
  refine lv_istore_n (lv' := [(2, .int (0 : Int32)), (1, .int (0 : Int32)), (0, .ref (lc (8 + j)))]) hx hb d_Nd_partBits_3 rfl hl (by decide) rfl (fun ls hl => ?_)
  refine k_cntH (np s j) (fun k ls H locs => lv_has ls 3 [(0, .ref (lc (8 + j))), (1, .int (pb s j k)), (2, .int (nI k))] ∧ Sk G A lc s z n0 u u st H locs) (k0 := 0) (Nat.zero_le _) (⟨lv_sub hl [2, 1, 0] rfl, hw⟩) (fun ls H locs hJ => ?_) (fun k ls H locs hk hJ ih => ?_)
  · obtain ⟨hl, hw⟩ := hJ
    refine lv_iload_n hx hb d_Nd_partBits_4 rfl (lv_at hl 2 rfl) ?_
    refine lv_aload_n hx hb d_Nd_partBits_5 rfl (lv_at hl 0 rfl) ?_
    refine kg_N (j := j) 2 (by decide) hx hb ht hown hw hj gw_268 (Or.inl rfl) rfl d_Nd_partBits_6 ?_
    refine lv_icmp_ge (tgt := 30) hx hb d_Nd_partBits_9 (by decide) (fun c1 => ?_) (fun c1 => ?_)
    · refine lv_iload_n hx hb d_Nd_partBits_30 rfl (lv_at hl 1 rfl) ?_
      exact kt_i hx hb hr hlocks hw.1 d_Nd_partBits_31 (by exact ⟨rfl, rfl⟩) (by first | decide | (dsimp only; omega)) (by first | decide | (dsimp only; omega))
    · exact absurd (nI_le (Nat.le_refl _) (by omega)) c1
  · obtain ⟨hl, hw⟩ := hJ
    refine lv_iload_n hx hb d_Nd_partBits_4 rfl (lv_at hl 2 rfl) ?_
    refine lv_aload_n hx hb d_Nd_partBits_5 rfl (lv_at hl 0 rfl) ?_
    refine kg_N (j := j) 2 (by decide) hx hb ht hown hw hj gw_268 (Or.inl rfl) rfl d_Nd_partBits_6 ?_
    refine lv_icmp_ge (tgt := 30) hx hb d_Nd_partBits_9 (by decide) (fun c1 => ?_) (fun c1 => ?_)
    · exact absurd c1 (nI_ge hk (by omega))
    · refine lv_iload_n hx hb d_Nd_partBits_12 rfl (lv_at hl 1 rfl) ?_
      refine lv_aload_n hx hb d_Nd_partBits_13 rfl (lv_at hl 0 rfl) ?_
      refine kg_N (j := j) 1 (by decide) hx hb ht hown hw hj gw_260 (Or.inl rfl) rfl d_Nd_partBits_14 ?_
      refine lv_iload_n hx hb d_Nd_partBits_17 rfl (lv_at hl 2 rfl) ?_
      refine ka_parts (j := j) (k := k) rfl hj hk hx hb hw d_Nd_partBits_18 ?_
      refine kc_i (kr_V 0 (C := ndC (q_so s (cp s j k))) (As := []) (rest := [.int (pb s j k)]) (c_Nd_bit l G A lc s z u hR (cp s j k) (cp_lt hR.1 (by rw [hn0]; exact hj) hk)) hx hb hml hown ht hw.1 gw_490 gw_491 (sel_bit _ (hw.nj (by rw [← hn0]; exact cp_lt hR.1 (by rw [hn0]; exact hj) hk)).2.2) gw_53 gw_497 ⟨⟨by decide, by decide⟩, by decide +kernel⟩ ⟨by first | decide | (dsimp only; omega), by first | decide | (dsimp only; omega)⟩ (kr_N hw (by rw [← hn0]; exact cp_lt hR.1 (by rw [hn0]; exact hj) hk)) rfl hl.1 rfl (lv_room (Nat.le_of_ble_eq_true rfl)) d_Nd_partBits_19 ⟨by first | decide | (dsimp only; omega), by first | decide | (dsimp only; omega)⟩) hw.1 (fun _ _ _ _ _ _ h => h.elim) (fun r1 u1 H1 locs1 hp1 hw1 => ?_)
      obtain ⟨er1, hq1⟩ := hp1
      replace hq1 := hq1.symm; subst hq1
      subst er1
      have hw : Sk G A lc s z n0 u u st H1 locs1 := ⟨hw1, hw.2⟩
      refine lv_ior hx hb d_Nd_partBits_22 ?_
      refine lv_istore_n (lv' := [(1, .int ((pb s j k) ||| (bitI (cp s j k)))), (0, .ref (lc (8 + j))), (2, .int (nI k))]) hx hb d_Nd_partBits_23 rfl hl (by decide) rfl (fun ls hl => ?_)
      obtain ⟨i2, ei2⟩ : ∃ y : Int32, y = (nI k) + 1 := ⟨_, rfl⟩
      refine lv_iinc (v := i2) (lv' := [(2, .int i2), (1, .int ((pb s j k) ||| (bitI (cp s j k)))), (0, .ref (lc (8 + j)))]) hx hb d_Nd_partBits_24 hl (k := 2) rfl (by rw [ei2]; rfl) (by decide) rfl (fun ls hl => ?_)
      rw [nI_1] at ei2; subst ei2
      refine lv_goto (tgt := 4) hx hb d_Nd_partBits_27 (by decide) ?_
      exact ih ls H1 locs1 ⟨lv_sub hl [2, 1, 0] rfl, hw⟩
set_option maxHeartbeats 4000000 in
set_option maxRecDepth 100000 in
theorem c_Q_bitsUsedBy (l : Launch) (G : GT) (A : Nat → Prop) (lc : Nat → Nat) (s : QS) (z : ZS) (u : WT) (hR : rQ G lc s z u) (j : Nat) (hj : j < q_n s) : Kt l y_Q_bitsUsedBy b_Q_bitsUsedBy 5 (some .int) 2 42 0 0 0 0 0 0 G A u [.ref (lc 0), .ref (lc (8 + j))] (KQ G A (Ri (fun r u' => r = ubits s j ∧ u' = u))) (NX) := by
  refine k_of (by decide) (Nat.le_of_ble_eq_true rfl) (fun p e st m below meth c ls hx hb hr hlocks hml htab hname hown ht hw hl => ?_)
  have hl : lv_has ls 5 [(0, .ref (lc 0)), (1, .ref (lc (8 + j)))] := hl
  obtain ⟨n0, hn0⟩ : ∃ n0, q_n s = n0 := ⟨_, rfl⟩
  have hw : Sk G A lc s z n0 u u st st.heap [] := ⟨hw, hR, fQ.rf, hn0⟩
  have h16 : n0 ≤ 16 := by rw [← hn0]; exact hR.1.1
  rw [hn0] at hj
  refine lv_aload_n hx hb d_Q_bitsUsedBy_0 rfl (lv_at hl 1 rfl) ?_
  refine kc_i (kr_V 0 (C := ndC (q_so s j)) (As := []) (rest := []) (c_Nd_partBits l G A lc s z u hR j (by rw [hn0]; exact hj)) hx hb hml hown ht hw.1 gw_482 gw_483 (sel_partBits _ (hw.nj hj).2.2) gw_53 gw_489 ⟨⟨by decide, by decide⟩, by decide +kernel⟩ ⟨by first | decide | (dsimp only; omega), by first | decide | (dsimp only; omega)⟩ (kr_N hw hj) rfl hl.1 rfl (lv_room (Nat.le_of_ble_eq_true rfl)) d_Q_bitsUsedBy_1 ⟨by first | decide | (dsimp only; omega), by first | decide | (dsimp only; omega)⟩) hw.1 (fun _ _ _ _ _ _ h => h.elim) (fun r1 u1 H1 locs1 hp1 hw1 => ?_)
  obtain ⟨er1, hq1⟩ := hp1
  replace hq1 := hq1.symm; subst hq1
  subst er1
  have hw : Sk G A lc s z n0 u u st H1 locs1 := ⟨hw1, hw.2⟩
  refine lv_istore_n (lv' := [(2, .int (pbits s j)), (0, .ref (lc 0)), (1, .ref (lc (8 + j)))]) hx hb d_Q_bitsUsedBy_4 rfl hl (by decide) rfl (fun ls hl => ?_)
  refine lv_iconst (v := 0) hx hb d_Q_bitsUsedBy_5 (by decide) ?_
  refine lv_istore_n (lv' := [(3, .int (0 : Int32)), (2, .int (pbits s j)), (0, .ref (lc 0)), (1, .ref (lc (8 + j)))]) hx hb d_Q_bitsUsedBy_6 rfl hl (by decide) rfl (fun ls hl => ?_)
  refine k_cntH (n0) (fun r ls H locs => lv_has ls 5 [(0, .ref (lc 0)), (1, .ref (lc (8 + j))), (2, .int (obs s (pbits s j) r)), (3, .int (nI r))] ∧ Sk G A lc s z n0 u u st H locs) (k0 := 0) (Nat.zero_le _) (⟨lv_sub hl [2, 3, 1, 0] rfl, hw⟩) (fun ls H locs hJ => ?_) (fun r ls H locs hr9 hJ ih => ?_)
  · obtain ⟨hl, hw⟩ := hJ
    refine lv_iload_n hx hb d_Q_bitsUsedBy_7 rfl (lv_at hl 3 rfl) ?_
    refine lv_aload_n hx hb d_Q_bitsUsedBy_8 rfl (lv_at hl 0 rfl) ?_
    refine kg_Q 2 (by decide) hx hb ht hown hw gw_123 rfl rfl d_Q_bitsUsedBy_9 ?_
    refine lv_icmp_ge (tgt := 67) hx hb d_Q_bitsUsedBy_12 (by decide) (fun c1 => ?_) (fun c1 => ?_)
    · refine lv_iload_n hx hb d_Q_bitsUsedBy_67 rfl (lv_at hl 2 rfl) ?_
      exact kt_i hx hb hr hlocks hw.1 d_Q_bitsUsedBy_68 (by exact ⟨by unfold ubits; rw [hn0], rfl⟩) (by first | decide | (dsimp only; omega)) (by first | decide | (dsimp only; omega))
    · exact absurd (nI_le (Nat.le_refl _) (by omega)) c1
  · obtain ⟨hl, hw⟩ := hJ
    refine lv_iload_n hx hb d_Q_bitsUsedBy_7 rfl (lv_at hl 3 rfl) ?_
    refine lv_aload_n hx hb d_Q_bitsUsedBy_8 rfl (lv_at hl 0 rfl) ?_
    refine kg_Q 2 (by decide) hx hb ht hown hw gw_123 rfl rfl d_Q_bitsUsedBy_9 ?_
    refine lv_icmp_ge (tgt := 67) hx hb d_Q_bitsUsedBy_12 (by decide) (fun c1 => ?_) (fun c1 => ?_)
    · exact absurd c1 (nI_ge hr9 (by omega))
    · refine lv_iconst (v := 0) hx hb d_Q_bitsUsedBy_15 (by decide) ?_
      refine lv_istore (lv' := [(4, .int (0 : Int32)), (0, .ref (lc 0)), (1, .ref (lc (8 + j))), (2, .int (obs s (pbits s j) r)), (3, .int (nI r))]) hx hb d_Q_bitsUsedBy_16 hl (by decide) rfl (fun ls hl => ?_)
      refine k_cntH (n0) (fun i ls H locs => lv_has ls 5 [(0, .ref (lc 0)), (1, .ref (lc (8 + j))), (2, .int (ibs s (obs s (pbits s j) r) i)), (3, .int (nI r)), (4, .int (nI i))] ∧ Sk G A lc s z n0 u u st H locs) (k0 := 0) (Nat.zero_le _) (⟨lv_sub hl [1, 2, 3, 4, 0] rfl, hw⟩) (fun ls H locs hJ => ?_) (fun i ls H locs hi hJ ih2 => ?_)
      · obtain ⟨hl, hw⟩ := hJ
        refine lv_iload hx hb d_Q_bitsUsedBy_18 (lv_at hl 4 rfl) ?_
        refine lv_aload_n hx hb d_Q_bitsUsedBy_20 rfl (lv_at hl 0 rfl) ?_
        refine kg_Q 2 (by decide) hx hb ht hown hw gw_123 rfl rfl d_Q_bitsUsedBy_21 ?_
        refine lv_icmp_ge (tgt := 61) hx hb d_Q_bitsUsedBy_24 (by decide) (fun c2 => ?_) (fun c2 => ?_)
        · obtain ⟨i2, ei2⟩ : ∃ y : Int32, y = (nI r) + 1 := ⟨_, rfl⟩
          refine lv_iinc (v := i2) (lv' := [(3, .int i2), (0, .ref (lc 0)), (1, .ref (lc (8 + j))), (2, .int (ibs s (obs s (pbits s j) r) n0)), (4, .int (nI n0))]) hx hb d_Q_bitsUsedBy_61 hl (k := 3) rfl (by rw [ei2]; rfl) (by decide) rfl (fun ls hl => ?_)
          rw [nI_1] at ei2; subst ei2
          refine lv_goto (tgt := 7) hx hb d_Q_bitsUsedBy_64 (by decide) ?_
          have e9 : obs s (pbits s j) (r + 1) = ibs s (obs s (pbits s j) r) n0 := by show ibs s _ (q_n s) = _; rw [hn0]
          rw [← e9] at hl
          exact ih ls H locs ⟨lv_sub hl [1, 2, 3, 0] rfl, hw⟩
        · exact absurd (nI_le (Nat.le_refl _) (by omega)) c2
      · obtain ⟨hl, hw⟩ := hJ
        refine lv_iload hx hb d_Q_bitsUsedBy_18 (lv_at hl 4 rfl) ?_
        refine lv_aload_n hx hb d_Q_bitsUsedBy_20 rfl (lv_at hl 0 rfl) ?_
        refine kg_Q 2 (by decide) hx hb ht hown hw gw_123 rfl rfl d_Q_bitsUsedBy_21 ?_
        refine lv_icmp_ge (tgt := 61) hx hb d_Q_bitsUsedBy_24 (by decide) (fun c2 => ?_) (fun c2 => ?_)
        · exact absurd c2 (nI_ge hi (by omega))
        · refine lv_iload_n hx hb d_Q_bitsUsedBy_27 rfl (lv_at hl 2 rfl) ?_
          refine lv_aload_n hx hb d_Q_bitsUsedBy_28 rfl (lv_at hl 0 rfl) ?_
          refine kg_Q 0 (by decide) hx hb ht hown hw gw_121 rfl rfl d_Q_bitsUsedBy_29 ?_
          refine lv_iload hx hb d_Q_bitsUsedBy_32 (lv_at hl 4 rfl) ?_
          refine ka_nodes (k := i) rfl hi hx hb hw d_Q_bitsUsedBy_34 ?_
          refine kc_i (kr_V 0 (C := ndC (q_so s i)) (As := []) (rest := [.int (ibs s (obs s (pbits s j) r) i)]) (c_Nd_bit l G A lc s z u hR i (by rw [hn0]; exact hi)) hx hb hml hown ht hw.1 gw_498 gw_491 (sel_bit _ (hw.nj hi).2.2) gw_53 gw_497 ⟨⟨by decide, by decide⟩, by decide +kernel⟩ ⟨by first | decide | (dsimp only; omega), by first | decide | (dsimp only; omega)⟩ (kr_N hw hi) rfl hl.1 rfl (lv_room (Nat.le_of_ble_eq_true rfl)) d_Q_bitsUsedBy_35 ⟨by first | decide | (dsimp only; omega), by first | decide | (dsimp only; omega)⟩) hw.1 (fun _ _ _ _ _ _ h => h.elim) (fun r3 u3 H3 locs3 hp3 hw3 => ?_)
          obtain ⟨er3, hq3⟩ := hp3
          replace hq3 := hq3.symm; subst hq3
          subst er3
          have hw : Sk G A lc s z n0 u u st H3 locs3 := ⟨hw3, hw.2⟩
          refine lv_iand hx hb d_Q_bitsUsedBy_38 ?_
          refine lv_if_eq (tgt := 55) hx hb d_Q_bitsUsedBy_39 (by decide) (fun c4 => ?_) (fun c4 => ?_)
          · obtain ⟨i5, ei5⟩ : ∃ y : Int32, y = (nI i) + 1 := ⟨_, rfl⟩
            refine lv_iinc (v := i5) (lv' := [(4, .int i5), (0, .ref (lc 0)), (1, .ref (lc (8 + j))), (2, .int (ibs s (obs s (pbits s j) r) i)), (3, .int (nI r))]) hx hb d_Q_bitsUsedBy_55 hl (k := 4) rfl (by rw [ei5]; rfl) (by decide) rfl (fun ls hl => ?_)
            rw [nI_1] at ei5; subst ei5
            refine lv_goto (tgt := 18) hx hb d_Q_bitsUsedBy_58 (by decide) ?_
            have e8 : ibs s (obs s (pbits s j) r) i = ibs s (obs s (pbits s j) r) (i + 1) := by show _ = (if _ then _ else _); rw [if_pos c4]
            rw [e8] at hl
            exact ih2 ls H3 locs3 ⟨lv_sub hl [1, 2, 3, 4, 0] rfl, hw⟩
          · refine lv_iload_n hx hb d_Q_bitsUsedBy_42 rfl (lv_at hl 2 rfl) ?_
            refine lv_aload_n hx hb d_Q_bitsUsedBy_43 rfl (lv_at hl 0 rfl) ?_
            refine kg_Q 0 (by decide) hx hb ht hown hw gw_121 rfl rfl d_Q_bitsUsedBy_44 ?_
            refine lv_iload hx hb d_Q_bitsUsedBy_47 (lv_at hl 4 rfl) ?_
            refine ka_nodes (k := i) rfl hi hx hb hw d_Q_bitsUsedBy_49 ?_
            refine kc_i (kr_V 0 (C := ndC (q_so s i)) (As := []) (rest := [.int (ibs s (obs s (pbits s j) r) i)]) (c_Nd_partBits l G A lc s z u hR i (by rw [hn0]; exact hi)) hx hb hml hown ht hw.1 gw_482 gw_483 (sel_partBits _ (hw.nj hi).2.2) gw_53 gw_489 ⟨⟨by decide, by decide⟩, by decide +kernel⟩ ⟨by first | decide | (dsimp only; omega), by first | decide | (dsimp only; omega)⟩ (kr_N hw hi) rfl hl.1 rfl (lv_room (Nat.le_of_ble_eq_true rfl)) d_Q_bitsUsedBy_50 ⟨by first | decide | (dsimp only; omega), by first | decide | (dsimp only; omega)⟩) hw.1 (fun _ _ _ _ _ _ h => h.elim) (fun r6 u6 H6 locs6 hp6 hw6 => ?_)
            obtain ⟨er6, hq6⟩ := hp6
            replace hq6 := hq6.symm; subst hq6
            subst er6
            have hw : Sk G A lc s z n0 u u st H6 locs6 := ⟨hw6, hw.2⟩
            refine lv_ior hx hb d_Q_bitsUsedBy_53 ?_
            refine lv_istore_n (lv' := [(2, .int ((ibs s (obs s (pbits s j) r) i) ||| (pbits s i))), (0, .ref (lc 0)), (1, .ref (lc (8 + j))), (3, .int (nI r)), (4, .int (nI i))]) hx hb d_Q_bitsUsedBy_54 rfl hl (by decide) rfl (fun ls hl => ?_)
            obtain ⟨i7, ei7⟩ : ∃ y : Int32, y = (nI i) + 1 := ⟨_, rfl⟩
            refine lv_iinc (v := i7) (lv' := [(4, .int i7), (2, .int ((ibs s (obs s (pbits s j) r) i) ||| (pbits s i))), (0, .ref (lc 0)), (1, .ref (lc (8 + j))), (3, .int (nI r))]) hx hb d_Q_bitsUsedBy_55 hl (k := 4) rfl (by rw [ei7]; rfl) (by decide) rfl (fun ls hl => ?_)
            rw [nI_1] at ei7; subst ei7
            refine lv_goto (tgt := 18) hx hb d_Q_bitsUsedBy_58 (by decide) ?_
            have e8 : ibs s (obs s (pbits s j) r) i ||| pbits s i = ibs s (obs s (pbits s j) r) (i + 1) := by show _ = (if _ then _ else _); rw [if_neg c4]
            rw [e8] at hl
            exact ih2 ls H6 locs6 ⟨lv_sub hl [2, 3, 1, 4, 0] rfl, hw⟩
set_option maxHeartbeats 4000000 in
set_option maxRecDepth 100000 in
theorem c_Q_hangsOn (l : Launch) (G : GT) (A : Nat → Prop) (lc : Nat → Nat) (s : QS) (z : ZS) (u : WT) (hR : rQ G lc s z u) (i j : Nat) (hi : i < q_n s) (hj : j < q_n s) : Kt l y_Q_hangsOn b_Q_hangsOn 3 (some .boolean) 3 66 0 0 0 0 0 0 G A u [.ref (lc 0), .ref (lc (8 + i)), .ref (lc (8 + j))] (KQ G A (Ri (fun r u' => r = bI (usesC s i j) ∧ u' = u))) (NX) := by
  refine k_of (by decide) (Nat.le_of_ble_eq_true rfl) (fun p e st m below meth c ls hx hb hr hlocks hml htab hname hown ht hw hl => ?_)
  have hl : lv_has ls 3 [(0, .ref (lc 0)), (1, .ref (lc (8 + i))), (2, .ref (lc (8 + j)))] := hl
  obtain ⟨n0, hn0⟩ : ∃ n0, q_n s = n0 := ⟨_, rfl⟩
  have hw : Sk G A lc s z n0 u u st st.heap [] := ⟨hw, hR, fQ.rf, hn0⟩
  refine lv_aload_n hx hb d_Q_hangsOn_0 rfl (lv_at hl 0 rfl) ?_
  refine lv_aload_n hx hb d_Q_hangsOn_1 rfl (lv_at hl 1 rfl) ?_
  refine kc_i (kr_V 1 (C := "QuoteGraph") (As := [.ref (lc (8 + i))]) (rest := []) (c_Q_bitsUsedBy l G A lc s z u hR i hi) hx hb hml hown ht hw.1 gw_478 gw_480 gw_8 gw_42 gw_481 ⟨⟨by decide, by decide⟩, by decide +kernel⟩ ⟨by first | decide | (dsimp only; omega), by first | decide | (dsimp only; omega)⟩ (kr_Q hw) rfl hl.1 rfl (lv_room (Nat.le_of_ble_eq_true rfl)) d_Q_hangsOn_2 ⟨by first | decide | (dsimp only; omega), by first | decide | (dsimp only; omega)⟩) hw.1 (fun _ _ _ _ _ _ h => h.elim) (fun r1 u1 H1 locs1 hp1 hw1 => ?_)
  obtain ⟨er1, hq1⟩ := hp1
  replace hq1 := hq1.symm; subst hq1
  subst er1
  have hw : Sk G A lc s z n0 u u st H1 locs1 := ⟨hw1, hw.2⟩
  refine lv_aload_n hx hb d_Q_hangsOn_5 rfl (lv_at hl 2 rfl) ?_
  refine kc_i (kr_V 0 (C := ndC (q_so s j)) (As := []) (rest := [.int (ubits s i)]) (c_Nd_bit l G A lc s z u hR j hj) hx hb hml hown ht hw.1 gw_498 gw_491 (sel_bit _ (hw.nj (by rw [← hn0]; exact hj)).2.2) gw_53 gw_497 ⟨⟨by decide, by decide⟩, by decide +kernel⟩ ⟨by first | decide | (dsimp only; omega), by first | decide | (dsimp only; omega)⟩ (kr_N hw (by rw [← hn0]; exact hj)) rfl hl.1 rfl (lv_room (Nat.le_of_ble_eq_true rfl)) d_Q_hangsOn_6 ⟨by first | decide | (dsimp only; omega), by first | decide | (dsimp only; omega)⟩) hw.1 (fun _ _ _ _ _ _ h => h.elim) (fun r2 u2 H2 locs2 hp2 hw2 => ?_)
  obtain ⟨er2, hq2⟩ := hp2
  replace hq2 := hq2.symm; subst hq2
  subst er2
  have hw : Sk G A lc s z n0 u u st H2 locs2 := ⟨hw2, hw.2⟩
  refine lv_iand hx hb d_Q_hangsOn_9 ?_
  refine lv_if_eq (tgt := 17) hx hb d_Q_hangsOn_10 (by decide) (fun c3 => ?_) (fun c3 => ?_)
  · refine lv_iconst (v := 0) hx hb d_Q_hangsOn_17 (by decide) ?_
    exact kt_z hx hb hr hlocks hw.1 d_Q_hangsOn_18 (by exact ⟨by simp [usesC, c3]; rfl, rfl⟩) (Or.inl rfl) (by first | decide | (dsimp only; omega)) (by first | decide | (dsimp only; omega))
  · refine lv_iconst (v := 1) hx hb d_Q_hangsOn_13 (by decide) ?_
    refine lv_goto (tgt := 18) hx hb d_Q_hangsOn_14 (by decide) ?_
    exact kt_z hx hb hr hlocks hw.1 d_Q_hangsOn_18 (by exact ⟨by simp [usesC, c3]; rfl, rfl⟩) (Or.inr rfl) (by first | decide | (dsimp only; omega)) (by first | decide | (dsimp only; omega))

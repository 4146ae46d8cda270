/-! 39.mleaf: contracts of small methods of the reference -/
/-- floored division, as the reference works it out -/
def flr (a b : Int64) : Int64 := if a - a / b * b < 0 then a / b - 1 else a / b
theorem e8_cd (i : Int32) (k : Int64) (hk : k.toInt.natAbs < 2 ^ 50) {c : UInt64} (hc : c = FP.l2d k) : FP.dcmp (e8 i) c = some (compare i.toInt (8 * k.toInt)) := by rw [hc]; exact e8_cmp i k hk
set_option maxHeartbeats 4000000 in
set_option maxRecDepth 100000 in
theorem c_M_thrown (l : Launch) (G : GT) (A : Nat → Prop) (lm : Nat → Nat) (s : QS) (m : MS) (u : WT) (hR : rM G lm s m u) : Kt l y_M_thrown b_M_thrown 1 (some .int) 0 0 0 0 0 0 0 0 G A u [.ref (lm 0)] (KQ G A (Ri (fun r u' => r = m_th m ∧ u' = u))) (NX) := by
  refine k_of (by decide) (Nat.le_of_ble_eq_true rfl) (fun p e st mt below meth c ls hx hb hr hlocks hml htab hname hown ht hw hl => ?_)
  have hl : lv_has ls 1 [(0, .ref (lm 0))] := hl
  have hw : Mk G A lm s m u u st st.heap [] := ⟨hw, hR, fM.rf⟩
  refine lv_aload_n hx hb d_M_thrown_0 rfl (lv_at hl 0 rfl) ?_
  refine mg 25 (by decide) hx hb ht hown hw gw_822 rfl rfl d_M_thrown_1 ?_
  exact kt_i hx hb hr hlocks hw.1 d_M_thrown_4 (by exact ⟨rfl, rfl⟩) (by first | decide | (dsimp only; omega)) (by first | decide | (dsimp only; omega))
set_option maxHeartbeats 4000000 in
set_option maxRecDepth 100000 in
theorem c_M_floored (l : Launch) (G : GT) (A : Nat → Prop) (u : WT) (a9 : Nat) (x y : Int64) (hb0 : y ≠ 0) : Kt l y_M_floored b_M_floored 5 (some .long) 0 0 0 0 0 0 0 0 G A u [.ref a9, .long x, .long y] (KQ G A (Rl (fun r u' => r = flr x y ∧ u' = u))) (NX) := by
  refine k_of (by decide) (Nat.le_of_ble_eq_true rfl) (fun p e st mt below meth c ls hx hb hr hlocks hml htab hname hown ht hw hl => ?_)
  have hl : lv_has ls 5 [(0, .ref a9), (1, .long x), (3, .long y)] := hl
  refine lv_lload_n hx hb d_M_floored_0 rfl (lv_at hl 1 rfl) ?_
  refine lv_lload_n hx hb d_M_floored_1 rfl (lv_at hl 2 rfl) ?_
  refine lv_lrem hx hb d_M_floored_2 (hb0) ?_
  refine lv_lconst (v := 0) hx hb d_M_floored_3 (by decide) ?_
  refine W.lcmp hx hb d_M_floored_4 ?_
  refine lv_if_ge (tgt := 16) hx hb d_M_floored_5 (by decide) (fun c1 => ?_) (fun c1 => ?_)
  · refine lv_lload_n hx hb d_M_floored_16 rfl (lv_at hl 1 rfl) ?_
    refine lv_lload_n hx hb d_M_floored_17 rfl (lv_at hl 2 rfl) ?_
    refine lv_ldiv hx hb d_M_floored_18 (hb0) ?_
    exact kt_l hx hb hr hlocks hw d_M_floored_19 (by exact ⟨by unfold flr; rw [if_neg (fun h => i_nlt.mpr c1 ((lg_cmp_lt _ _).mpr h))], rfl⟩) (by first | decide | (dsimp only; omega)) (by first | decide | (dsimp only; omega))
  · refine lv_lload_n hx hb d_M_floored_8 rfl (lv_at hl 1 rfl) ?_
    refine lv_lload_n hx hb d_M_floored_9 rfl (lv_at hl 2 rfl) ?_
    refine lv_ldiv hx hb d_M_floored_10 (hb0) ?_
    refine lv_lconst (v := 1) hx hb d_M_floored_11 (by decide) ?_
    refine lv_lsub hx hb d_M_floored_12 ?_
    refine lv_goto (tgt := 19) hx hb d_M_floored_13 (by decide) ?_
    exact kt_l hx hb hr hlocks hw d_M_floored_19 (by exact ⟨by unfold flr; rw [if_pos ((lg_cmp_lt _ _).mp (i_nle.mp c1))], rfl⟩) (by first | decide | (dsimp only; omega)) (by first | decide | (dsimp only; omega))
set_option maxHeartbeats 4000000 in
set_option maxRecDepth 100000 in
theorem c_M_no (l : Launch) (G : GT) (A : Nat → Prop) (lm : Nat → Nat) (s : QS) (m : MS) (u : WT) (hR : rM G lm s m u) (k : Int32) : Kt l y_M_no b_M_no 2 (some .boolean) 0 0 0 0 0 0 0 0 G A u [.ref (lm 0), .int k] (KQ G A (Ri (fun r u' => r = bI (!isN (q_n s) k) ∧ u' = u))) (NX) := by
  refine k_of (by decide) (Nat.le_of_ble_eq_true rfl) (fun p e st mt below meth c ls hx hb hr hlocks hml htab hname hown ht hw hl => ?_)
  have hl : lv_has ls 2 [(0, .ref (lm 0)), (1, .int k)] := hl
  have hw : Mk G A lm s m u u st st.heap [] := ⟨hw, hR, fM.rf⟩
  refine lv_iload_n hx hb d_M_no_0 rfl (lv_at hl 1 rfl) ?_
  refine lv_if_lt (tgt := 12) hx hb d_M_no_1 (by decide) (fun c1 => ?_) (fun c1 => ?_)
  · refine lv_iconst (v := 1) hx hb d_M_no_12 (by decide) ?_
    refine lv_goto (tgt := 17) hx hb d_M_no_13 (by decide) ?_
    exact kt_z hx hb hr hlocks hw.1 d_M_no_17 (by exact ⟨by unfold isN; rw [decide_eq_false (p := ¬ k < 0) (fun h => h c1)]; rfl, rfl⟩) (Or.inr rfl) (by first | decide | (dsimp only; omega)) (by first | decide | (dsimp only; omega))
  · refine lv_iload_n hx hb d_M_no_4 rfl (lv_at hl 1 rfl) ?_
    refine lv_aload_n hx hb d_M_no_5 rfl (lv_at hl 0 rfl) ?_
    refine mg 21 (by decide) hx hb ht hown hw gw_818 rfl rfl d_M_no_6 ?_
    refine lv_icmp_lt (tgt := 16) hx hb d_M_no_9 (by decide) (fun c2 => ?_) (fun c2 => ?_)
    · refine lv_iconst (v := 0) hx hb d_M_no_16 (by decide) ?_
      exact kt_z hx hb hr hlocks hw.1 d_M_no_17 (by exact ⟨by unfold isN; rw [decide_eq_true (p := ¬ k < 0) (by first | exact c1 | exact i_nlt.mpr c1), decide_eq_true (p := k < nI (q_n s)) c2]; rfl, rfl⟩) (Or.inl rfl) (by first | decide | (dsimp only; omega)) (by first | decide | (dsimp only; omega))
    · refine lv_iconst (v := 1) hx hb d_M_no_12 (by decide) ?_
      refine lv_goto (tgt := 17) hx hb d_M_no_13 (by decide) ?_
      exact kt_z hx hb hr hlocks hw.1 d_M_no_17 (by exact ⟨by unfold isN; rw [decide_eq_false (p := k < nI (q_n s)) (by first | exact c2 | exact i_nlt.mpr c2), Bool.and_false]; rfl, rfl⟩) (Or.inr rfl) (by first | decide | (dsimp only; omega)) (by first | decide | (dsimp only; omega))
set_option maxHeartbeats 4000000 in
set_option maxRecDepth 100000 in
theorem c_M_far (l : Launch) (G : GT) (A : Nat → Prop) (u : WT) (a9 : Nat) (i : Int32) (k : Int64) (c9 : UInt64) (hc : c9 = FP.l2d k) (hcn : FP.dneg c9 = FP.l2d (-k)) (hk0 : 0 < k.toInt) (hk1 : k.toInt ≤ 100000) : Kt l y_M_far b_M_far 5 (some .boolean) 0 0 0 0 0 0 0 0 G A u [.ref a9, .double (e8 i), .double c9] (KQ G A (Ri (fun r u' => r = bI (!inE i k.toInt) ∧ u' = u))) (NX) := by
  refine k_of (by decide) (Nat.le_of_ble_eq_true rfl) (fun p e st mt below meth c ls hx hb hr hlocks hml htab hname hown ht hw hl => ?_)
  have hl : lv_has ls 5 [(0, .ref a9), (1, .double (e8 i)), (3, .double c9)] := hl
  refine lv_dload_n hx hb d_M_far_0 rfl (lv_at hl 1 rfl) ?_
  refine lv_dload_n hx hb d_M_far_1 rfl (lv_at hl 2 rfl) ?_
  refine lv_dneg hx hb d_M_far_2 ?_
  have hkn : (-k).toInt = -k.toInt := FP.Core.int64_neg (by omega)
  have e1 : FP.dcmp (e8 i) (FP.dneg c9) = some (compare i.toInt (8 * (-k).toInt)) := by rw [hcn]; exact e8_cmp i (-k) (by omega)
  have e2 : FP.dcmp (e8 i) c9 = some (compare i.toInt (8 * k.toInt)) := e8_cd i k (by omega) hc
  refine lv_dcmp hx hb d_M_far_3 ?_
  rw [e1]
  refine lv_if_lt (tgt := 29) hx hb d_M_far_4 (by decide) (fun c1 => ?_) (fun c1 => ?_)
  · rw [cv_lt, hkn] at c1
    refine lv_iconst (v := 1) hx hb d_M_far_29 (by decide) ?_
    refine lv_goto (tgt := 34) hx hb d_M_far_30 (by decide) ?_
    exact kt_z hx hb hr hlocks hw d_M_far_34 (by exact ⟨by unfold inE; rw [decide_eq_false (by omega)]; rfl, rfl⟩) (Or.inr rfl) (by first | decide | (dsimp only; omega)) (by first | decide | (dsimp only; omega))
  · rw [cv_lt, hkn] at c1
    refine lv_dload_n hx hb d_M_far_7 rfl (lv_at hl 1 rfl) ?_
    refine lv_dload_n hx hb d_M_far_8 rfl (lv_at hl 2 rfl) ?_
    refine lv_dcmp hx hb d_M_far_9 ?_
    rw [e2]
    refine lv_if_gt (tgt := 29) hx hb d_M_far_10 (by decide) (fun c2 => ?_) (fun c2 => ?_)
    · rw [cv_gt] at c2
      refine lv_iconst (v := 1) hx hb d_M_far_29 (by decide) ?_
      refine lv_goto (tgt := 34) hx hb d_M_far_30 (by decide) ?_
      exact kt_z hx hb hr hlocks hw d_M_far_34 (by exact ⟨by unfold inE; rw [decide_eq_false (p := i.toInt ≤ 8 * k.toInt) (by omega), Bool.and_false]; rfl, rfl⟩) (Or.inr rfl) (by first | decide | (dsimp only; omega)) (by first | decide | (dsimp only; omega))
    · rw [cv_gt] at c2
      refine lv_dload_n hx hb d_M_far_13 rfl (lv_at hl 1 rfl) ?_
      refine lv_ldc2d (v := 4620693217682128896) hx hb hown (ht _ gw_909) d_M_far_14 ?_
      refine lv_dmul hx hb d_M_far_17 (by rw [e8_8]; exact l2d_n _) ?_
      rw [e8_8]
      refine lv_dload_n hx hb d_M_far_18 rfl (lv_at hl 1 rfl) ?_
      refine lv_ldc2d (v := 4620693217682128896) hx hb hown (ht _ gw_909) d_M_far_19 ?_
      refine lv_dmul hx hb d_M_far_22 (by rw [e8_8]; exact l2d_n _) ?_
      rw [e8_8]
      refine lv_d2l hx hb d_M_far_23 ?_
      rw [e8_d2l]
      refine lv_l2d hx hb d_M_far_24 ?_
      refine lv_dcmp hx hb d_M_far_25 ?_
      refine lv_if_eq (tgt := 33) hx hb d_M_far_26 (by decide) (fun c3 => ?_) (fun c3 => ?_)
      · refine lv_iconst (v := 0) hx hb d_M_far_33 (by decide) ?_
        exact kt_z hx hb hr hlocks hw d_M_far_34 (by exact ⟨by unfold inE; rw [decide_eq_true (by omega), decide_eq_true (by omega)]; rfl, rfl⟩) (Or.inl rfl) (by first | decide | (dsimp only; omega)) (by first | decide | (dsimp only; omega))
      · rw [e8_same] at c3; exact absurd rfl c3
set_option maxHeartbeats 4000000 in
set_option maxRecDepth 100000 in
theorem c_M_bounded (l : Launch) (G : GT) (A : Nat → Prop) (lm : Nat → Nat) (s : QS) (m : MS) (u : WT) (hR : rM G lm s m u) (x : Int64) : Kt l y_M_bounded b_M_bounded 3 (some .long) 0 0 0 0 0 0 0 0 G A u [.ref (lm 0), .long x] (KQ G A (Rl (fun r u' => r = x ∧ rM G lm s (if bigL x = true then mS_tr m 2 else m) u' ∧ fM lm u u'))) (NX) := by
  refine k_of (by decide) (Nat.le_of_ble_eq_true rfl) (fun p e st mt below meth c ls hx hb hr hlocks hml htab hname hown ht hw hl => ?_)
  have hl : lv_has ls 3 [(0, .ref (lm 0)), (1, .long x)] := hl
  have hw : Mk G A lm s m u u st st.heap [] := ⟨hw, hR, fM.rf⟩
  refine lv_lload_n hx hb d_M_bounded_0 rfl (lv_at hl 1 rfl) ?_
  refine lv_ldc2 (v := 1024000000) hx hb hown (ht _ gw_1007) d_M_bounded_1 ?_
  refine W.lcmp hx hb d_M_bounded_4 ?_
  refine lv_if_gt (tgt := 16) hx hb d_M_bounded_5 (by decide) (fun c1 => ?_) (fun c1 => ?_)
  · refine lv_aload_n hx hb d_M_bounded_16 rfl (lv_at hl 0 rfl) ?_
    refine lv_iconst (v := 2) hx hb d_M_bounded_17 (by decide) ?_
    refine mp_trouble (2 : Int32) hx hb ht hown hw gw_823 d_M_bounded_18 (fun H2 locs2 u2 hw => ?_)
    refine lv_lload_n hx hb d_M_bounded_21 rfl (lv_at hl 1 rfl) ?_
    exact kt_l hx hb hr hlocks hw.1 d_M_bounded_22 (by exact ⟨rfl, by rw [show bigL x = true from by simp only [bigL, Bool.or_eq_true, decide_eq_true_eq]; exact Or.inl ((lg_cmp_gt _ _).mp c1)]; exact hw.2.1, hw.2.2⟩) (by first | decide | (dsimp only; omega)) (by first | decide | (dsimp only; omega))
  · refine lv_lload_n hx hb d_M_bounded_8 rfl (lv_at hl 1 rfl) ?_
    refine lv_ldc2 (v := (-1024000000)) hx hb hown (ht _ gw_1008) d_M_bounded_9 ?_
    refine W.lcmp hx hb d_M_bounded_12 ?_
    refine lv_if_ge (tgt := 21) hx hb d_M_bounded_13 (by decide) (fun c3 => ?_) (fun c3 => ?_)
    · refine lv_lload_n hx hb d_M_bounded_21 rfl (lv_at hl 1 rfl) ?_
      exact kt_l hx hb hr hlocks hw.1 d_M_bounded_22 (by exact ⟨rfl, by rw [show bigL x = false from (by simp only [bigL, Bool.or_eq_false_iff, decide_eq_false_iff_not]; exact ⟨fun h => c1 ((lg_cmp_gt _ _).mpr h), fun h => i_nlt.mpr c3 ((lg_cmp_lt _ _).mpr h)⟩)]; exact hw.2.1, hw.2.2⟩) (by first | decide | (dsimp only; omega)) (by first | decide | (dsimp only; omega))
    · refine lv_aload_n hx hb d_M_bounded_16 rfl (lv_at hl 0 rfl) ?_
      refine lv_iconst (v := 2) hx hb d_M_bounded_17 (by decide) ?_
      refine mp_trouble (2 : Int32) hx hb ht hown hw gw_823 d_M_bounded_18 (fun H4 locs4 u4 hw => ?_)
      refine lv_lload_n hx hb d_M_bounded_21 rfl (lv_at hl 1 rfl) ?_
      exact kt_l hx hb hr hlocks hw.1 d_M_bounded_22 (by exact ⟨rfl, by rw [show bigL x = true from by simp only [bigL, Bool.or_eq_true, decide_eq_true_eq]; exact Or.inr ((lg_cmp_lt _ _).mp (i_nle.mp c3))]; exact hw.2.1, hw.2.2⟩) (by first | decide | (dsimp only; omega)) (by first | decide | (dsimp only; omega))
set_option maxHeartbeats 4000000 in
set_option maxRecDepth 100000 in
theorem c_M_count (l : Launch) (G : GT) (A : Nat → Prop) (lm : Nat → Nat) (s : QS) (m : MS) (u : WT) (hR : rM G lm s m u) (v : Int32) : Kt l y_M_count b_M_count 2 (some .int) 0 0 0 0 0 0 0 0 G A u [.ref (lm 0), .int v] (KQ G A (Ri (fun r u' => r = pCount s v ∧ rM G lm s (mS_th m 0) u' ∧ fM lm u u'))) (NX) := by
  refine k_of (by decide) (Nat.le_of_ble_eq_true rfl) (fun p e st mt below meth c ls hx hb hr hlocks hml htab hname hown ht hw hl => ?_)
  have hl : lv_has ls 2 [(0, .ref (lm 0)), (1, .int v)] := hl
  have hw : Mk G A lm s m u u st st.heap [] := ⟨hw, hR, fM.rf⟩
  refine lv_aload_n hx hb d_M_count_0 rfl (lv_at hl 0 rfl) ?_
  refine lv_iconst (v := 0) hx hb d_M_count_1 (by decide) ?_
  refine mp_thrown (0 : Int32) hx hb ht hown hw gw_822 d_M_count_2 (fun H1 locs1 u1 hw => ?_)
  refine lv_iload_n hx hb d_M_count_5 rfl (lv_at hl 1 rfl) ?_
  refine lv_if_ne (tgt := 14) hx hb d_M_count_6 (by decide) (fun c2 => ?_) (fun c2 => ?_)
  · refine lv_iload_n hx hb d_M_count_14 rfl (lv_at hl 1 rfl) ?_
    refine lv_iconst (v := 1) hx hb d_M_count_15 (by decide) ?_
    refine lv_icmp_ne (tgt := 24) hx hb d_M_count_16 (by decide) (fun c3 => ?_) (fun c3 => ?_)
    · refine lv_iload_n hx hb d_M_count_24 rfl (lv_at hl 1 rfl) ?_
      refine lv_iconst (v := 2) hx hb d_M_count_25 (by decide) ?_
      refine lv_icmp_ne (tgt := 34) hx hb d_M_count_26 (by decide) (fun c4 => ?_) (fun c4 => ?_)
      · refine lv_iload_n hx hb d_M_count_34 rfl (lv_at hl 1 rfl) ?_
        refine lv_iconst (v := 3) hx hb d_M_count_35 (by decide) ?_
        refine lv_icmp_ne (tgt := 46) hx hb d_M_count_36 (by decide) (fun c5 => ?_) (fun c5 => ?_)
        · refine lv_iconst (v := (-1)) hx hb d_M_count_46 (by decide) ?_
          exact kt_i hx hb hr hlocks hw.1 d_M_count_47 (by exact ⟨by unfold pCount; rw [if_neg (by first | exact c2 | exact (fun h => c2 h)), if_neg (by first | exact c3 | exact (fun h => c3 h)), if_neg (by first | exact c4 | exact (fun h => c4 h)), if_neg (by first | exact c5 | exact (fun h => c5 h))], hw.2.1, hw.2.2⟩) (by first | decide | (dsimp only; omega)) (by first | decide | (dsimp only; omega))
        · refine lv_aload_n hx hb d_M_count_39 rfl (lv_at hl 0 rfl) ?_
          refine mg 24 (by decide) hx hb ht hown hw gw_821 rfl rfl d_M_count_40 ?_
          refine lv_goto (tgt := 47) hx hb d_M_count_43 (by decide) ?_
          exact kt_i hx hb hr hlocks hw.1 d_M_count_47 (by exact ⟨by unfold pCount; rw [if_neg (by first | exact c2 | exact (fun h => c2 h)), if_neg (by first | exact c3 | exact (fun h => c3 h)), if_neg (by first | exact c4 | exact (fun h => c4 h)), if_pos (by first | exact c5 | exact Classical.not_not.mp c5)], hw.2.1, hw.2.2⟩) (by first | decide | (dsimp only; omega)) (by first | decide | (dsimp only; omega))
      · refine lv_aload_n hx hb d_M_count_29 rfl (lv_at hl 0 rfl) ?_
        refine mg 23 (by decide) hx hb ht hown hw gw_820 rfl rfl d_M_count_30 ?_
        exact kt_i hx hb hr hlocks hw.1 d_M_count_33 (by exact ⟨by unfold pCount; rw [if_neg (by first | exact c2 | exact (fun h => c2 h)), if_neg (by first | exact c3 | exact (fun h => c3 h)), if_pos (by first | exact c4 | exact Classical.not_not.mp c4)], hw.2.1, hw.2.2⟩) (by first | decide | (dsimp only; omega)) (by first | decide | (dsimp only; omega))
    · refine lv_aload_n hx hb d_M_count_19 rfl (lv_at hl 0 rfl) ?_
      refine mg 22 (by decide) hx hb ht hown hw gw_819 rfl rfl d_M_count_20 ?_
      exact kt_i hx hb hr hlocks hw.1 d_M_count_23 (by exact ⟨by unfold pCount; rw [if_neg (by first | exact c2 | exact (fun h => c2 h)), if_pos (by first | exact c3 | exact Classical.not_not.mp c3)], hw.2.1, hw.2.2⟩) (by first | decide | (dsimp only; omega)) (by first | decide | (dsimp only; omega))
  · refine lv_aload_n hx hb d_M_count_9 rfl (lv_at hl 0 rfl) ?_
    refine mg 21 (by decide) hx hb ht hown hw gw_818 rfl rfl d_M_count_10 ?_
    exact kt_i hx hb hr hlocks hw.1 d_M_count_13 (by exact ⟨by unfold pCount; rw [if_pos (by first | exact c2 | exact Classical.not_not.mp c2)], hw.2.1, hw.2.2⟩) (by first | decide | (dsimp only; omega)) (by first | decide | (dsimp only; omega))
theorem nI_inj9 {a : Nat} {k : Int32} (h : nI a = k) {b : Nat} (ha : a < 2 ^ 31 ∧ b < 2 ^ 31 := by omega) (e : k = nI b := by rfl) : a = b := by have h := h.trans e; have := congrArg Int32.toInt h; rw [nI_toInt ha.1, nI_toInt ha.2] at this; omega
set_option maxHeartbeats 4000000 in
set_option maxRecDepth 100000 in
theorem c_M_noOption (l : Launch) (G : GT) (A : Nat → Prop) (lm : Nat → Nat) (s : QS) (m : MS) (u : WT) (hR : rM G lm s m u) (hso : ∀ j, j < q_n s → q_so s j < 4) (k : Int32) : Kt l y_M_noOption b_M_noOption 2 (some .boolean) 1 21 0 0 0 0 0 0 G A u [.ref (lm 0), .int k] (KQ G A (Ri (fun r u' => r = bI (!(isN (q_n s) k && decide (q_so s (kN k) = 3))) ∧ u' = u))) (NX) := by
  refine k_of (by decide) (Nat.le_of_ble_eq_true rfl) (fun p e st mt below meth c ls hx hb hr hlocks hml htab hname hown ht hw hl => ?_)
  have hl : lv_has ls 2 [(0, .ref (lm 0)), (1, .int k)] := hl
  have hw : Mk G A lm s m u u st st.heap [] := ⟨hw, hR, fM.rf⟩
  refine lv_aload_n hx hb d_M_noOption_0 rfl (lv_at hl 0 rfl) ?_
  refine lv_iload_n hx hb d_M_noOption_1 rfl (lv_at hl 1 rfl) ?_
  refine kc_i (kr_V 1 (C := "QuoteGraphModel") (As := [.int k]) (rest := []) (c_M_no l G A lm s m u hR k) hx hb hml hown ht hw.1 gw_919 gw_921 gw_25 gw_47 gw_922 ⟨⟨by decide, by decide⟩, by decide +kernel⟩ ⟨by first | decide | (dsimp only; omega), by first | decide | (dsimp only; omega)⟩ (kr_M hw) rfl hl.1 rfl (lv_room (Nat.le_of_ble_eq_true rfl)) d_M_noOption_2 ⟨by first | decide | (dsimp only; omega), by first | decide | (dsimp only; omega)⟩) hw.1 (fun _ _ _ _ _ _ h => h.elim) (fun r1 u1 H1 locs1 hp1 hw1 => ?_)
  obtain ⟨er1, hq1⟩ := hp1
  replace hq1 := hq1.symm; subst hq1
  subst er1
  have hw : Mk G A lm s m u u st H1 locs1 := ⟨hw1, hw.2⟩
  refine lv_if_ne (tgt := 18) hx hb d_M_noOption_5 (by decide) (fun c2 => ?_) (fun c2 => ?_)
  · refine lv_iconst (v := 1) hx hb d_M_noOption_18 (by decide) ?_
    refine lv_goto (tgt := 23) hx hb d_M_noOption_19 (by decide) ?_
    exact kt_z hx hb hr hlocks hw.1 d_M_noOption_23 (by exact ⟨by rw [show isN (q_n s) k = false by have h := (bI_ne _).mp c2; rcases h2 : isN (q_n s) k with _ | _; rfl; rw [h2] at h; cases h]; rfl, rfl⟩) (Or.inr rfl) (by first | decide | (dsimp only; omega)) (by first | decide | (dsimp only; omega))
  · have hN : isN (q_n s) k = true := by have h := (bI_eq _).mp c2; rcases h2 : isN (q_n s) k with _ | _; (rw [h2] at h; cases h); rfl
    obtain ⟨j, hj, rfl⟩ := isN_t hN hR.2.2.2
    have h16 := hR.2.2.2
    refine lv_aload_n hx hb d_M_noOption_8 rfl (lv_at hl 0 rfl) ?_
    refine mg 0 (by decide) hx hb ht hown hw gw_797 rfl rfl d_M_noOption_9 ?_
    refine lv_iload_n hx hb d_M_noOption_12 rfl (lv_at hl 1 rfl) ?_
    refine ma_sort (j := j) rfl (by omega) hx hb hw d_M_noOption_13 ?_
    refine lv_iconst (v := 3) hx hb d_M_noOption_14 (by decide) ?_
    have hs4 := hso j hj
    refine lv_icmp_eq (tgt := 22) hx hb d_M_noOption_15 (by decide) (fun c3 => ?_) (fun c3 => ?_)
    · refine lv_iconst (v := 0) hx hb d_M_noOption_22 (by decide) ?_
      exact kt_z hx hb hr hlocks hw.1 d_M_noOption_23 (by exact ⟨by rw [hN, kN_nI (by omega), decide_eq_true (p := q_so s j = 3) (nI_inj9 c3 (by omega))]; rfl, rfl⟩) (Or.inl rfl) (by first | decide | (dsimp only; omega)) (by first | decide | (dsimp only; omega))
    · refine lv_iconst (v := 1) hx hb d_M_noOption_18 (by decide) ?_
      refine lv_goto (tgt := 23) hx hb d_M_noOption_19 (by decide) ?_
      exact kt_z hx hb hr hlocks hw.1 d_M_noOption_23 (by exact ⟨by rw [hN, kN_nI (by omega), decide_eq_false (p := q_so s j = 3) (fun h => c3 (by rw [h]; rfl))]; rfl, rfl⟩) (Or.inr rfl) (by first | decide | (dsimp only; omega)) (by first | decide | (dsimp only; omega))

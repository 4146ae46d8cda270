/-! 29.small: contracts of small methods of the class -/
theorem cv_lt {a b : Int} {op : CmpOp} : Op.cmpValue (some (compare a b)) op < 0 ↔ a < b := by
  rw [← FP.Core.compare_lt_iff]; cases compare a b <;> cases op <;> decide
theorem cv_gt {a b : Int} {op : CmpOp} : 0 < Op.cmpValue (some (compare a b)) op ↔ b < a := by
  rw [← FP.Core.compare_gt_iff]; cases compare a b <;> cases op <;> decide
theorem cv_eq {a b : Int} {op : CmpOp} : Op.cmpValue (some (compare a b)) op = 0 ↔ a = b := by
  rw [← FP.Core.compare_eq_iff]; cases compare a b <;> cases op <;> decide
/-- a script's number lies from -k to k (k in ones, i in eighths) -/
def inE (i : Int32) (k : Int) : Bool := decide (-(8 * k) ≤ i.toInt) && decide (i.toInt ≤ 8 * k)
theorem e8_same (i : Int32) : FP.dcmp (FP.l2d i.toInt64) (FP.l2d i.toInt64) = some .eq := FP.Core.dcmp_refl (FP.Core.l2d_notNaN _)
theorem e8_d2l (i : Int32) : FP.d2l (FP.l2d i.toInt64) = i.toInt64 := FP.Core.d2l_l2d_small (e8_sm i)
theorem e8_ci (i k : Int32) (hk : k.toInt.natAbs < 2 ^ 31) : FP.dcmp (e8 i) (FP.i2d k) = some (compare i.toInt (8 * k.toInt)) := by
  have e : FP.i2d k = FP.l2d k.toInt64 := FP.Core.i2d_l2d k
  rw [e, e8_cmp i k.toInt64 (by rw [Int32.toInt_toInt64]; omega), Int32.toInt_toInt64]
/-- remembering, restoring, making stale: the first k nodes -/
def zRm (s : QS) (z : ZS) : Nat → ZS
  | 0 => z
  | k + 1 => zS_rv (zS_ra (zRm s z k) (va_up (z_ra (zRm s z k)) k (q_am s k))) (va_up (z_rv (zRm s z k)) k (q_va s k))
def qRs (s : QS) (z : ZS) : Nat → QS
  | 0 => s
  | k + 1 => qS_va (qS_am (qRs s z k) (va_up (q_am (qRs s z k)) k (z_ra z k))) (va_up (q_va (qRs s z k)) k (z_rv z k))
def qSt (j : Nat) (s : QS) : Nat → QS
  | 0 => s
  | k + 1 => if q_fr (qSt j s k) k = true then qSt j s k else if usesC (qSt j s k) k j = true then qS_va (qSt j s k) (va_up (q_va (qSt j s k)) k false) else qSt j s k
theorem qRs_n (s : QS) (z : ZS) : ∀ k, q_n (qRs s z k) = q_n s
  | 0 => rfl
  | k + 1 => qRs_n s z k
theorem qSt_n (j : Nat) (s : QS) : ∀ k, q_n (qSt j s k) = q_n s
  | 0 => rfl
  | k + 1 => by show q_n (if _ then _ else if _ then _ else _) = _; split; exact qSt_n j s k; split <;> exact qSt_n j s k
def trN (c : Nat) : Nat := if c = 0 then 0 else if c = 3 then 2 else 1
def qFl (s : QS) : QS := qS_fl s (q_fl s + 1)
theorem askF_c : ∀ (d : Nat) (s : QS) (j : Nat), (askF d s j).1 = 0 ∨ (askF d s j).1 = 2 ∨ (askF d s j).1 = 3
  | 0, _, _ => Or.inl rfl
  | d + 1, s, j => by
    have hV : ∀ s j, (wkV s j).1 = 0 ∨ (wkV s j).1 = 2 ∨ (wkV s j).1 = 3 := by
      intro s j; unfold wkV oWork
      repeat' split
      all_goals first | exact Or.inl rfl | exact Or.inr (Or.inl rfl) | exact Or.inr (Or.inr rfl)
    have hA : ∀ s j, (wkA s j).1 = 0 ∨ (wkA s j).1 = 2 ∨ (wkA s j).1 = 3 := by
      intro s j; unfold wkA
      split
      · split
        · exact Or.inr (Or.inl rfl)
        · exact Or.inl rfl
      · exact hV s j
    have hP : ∀ k, (askP (askF d) j s k).1 = 0 ∨ (askP (askF d) j s k).1 = 2 ∨ (askP (askF d) j s k).1 = 3 := by
      intro k
      induction k with
      | zero => exact Or.inl rfl
      | succ k ih =>
        show (if _ then _ else _ : Nat × QS).1 = 0 ∨ (if _ then _ else _ : Nat × QS).1 = 2 ∨ (if _ then _ else _ : Nat × QS).1 = 3
        split
        · exact askF_c d _ _
        · exact ih
    show (if _ then _ else if _ then _ else _ : Nat × QS).1 = 0 ∨ (if _ then _ else if _ then _ else _ : Nat × QS).1 = 2 ∨ (if _ then _ else if _ then _ else _ : Nat × QS).1 = 3
    split
    · exact Or.inl rfl
    · split
      · unfold askW; split
        · exact Or.inl rfl
        · exact hA _ _
      · exact hP _
/-- no ring: there are ranks -/
def rnk (s : QS) : Prop := ∃ r, rkd s r ∧ ∀ j, j < q_n s → r j < 17
set_option maxHeartbeats 4000000 in
set_option maxRecDepth 100000 in
theorem c_Q_eighthsOf (l : Launch) (hl9 : l.stackTraces = false) (G : GT) (A : Nat → Prop) (u : WT) (i k : Int32) (hk0 : 0 < k.toInt) (hk1 : k.toInt ≤ 100000) : Kt l y_Q_eighthsOf b_Q_eighthsOf 5 (some .long) 6 100 1 6 0 0 1 6 G A u [.double (e8 i), .int k] (KQ G A (Rl (fun r u' => r = i.toInt64 ∧ inE i k.toInt = true ∧ u' = u))) (fun E u' => E = "java/lang/IllegalArgumentException" ∧ inE i k.toInt = false ∧ u' = u) := by
  refine k_of (by decide) (Nat.le_of_ble_eq_true rfl) (fun p e st m below meth c ls hx hb hr hlocks hml htab hname hown ht hw hl => ?_)
  have hl : lv_has ls 5 [(0, .double (e8 i)), (2, .int k)] := hl
  have hkn : (-k).toInt = -k.toInt := by rw [Int32.toInt_neg]; apply Int.bmod_eq_of_le <;> omega
  refine lv_dload_n hx hb d_Q_eighthsOf_0 rfl (lv_at hl 0 rfl) ?_
  refine lv_iload_n hx hb d_Q_eighthsOf_1 rfl (lv_at hl 1 rfl) ?_
  refine lv_ineg hx hb d_Q_eighthsOf_2 ?_
  refine lv_i2d hx hb d_Q_eighthsOf_3 ?_
  refine lv_dcmp hx hb d_Q_eighthsOf_4 ?_
  have e1 : FP.dcmp (e8 i) (FP.i2d (-k)) = some (compare i.toInt (8 * (-k).toInt)) := e8_ci i (-k) (by rw [hkn]; omega)
  have e2 : FP.dcmp (e8 i) (FP.i2d k) = some (compare i.toInt (8 * k.toInt)) := e8_ci i k (by omega)
  rw [e1]
  refine lv_if_lt (tgt := 35) hx hb d_Q_eighthsOf_5 (by decide) (fun c1 => ?_) (fun c1 => ?_)
  · rw [cv_lt, hkn] at c1
    exact kt_throw (own := R_Q) (cls := "java/lang/IllegalArgumentException") (ik := 143) (is := 207) (ic := 147) 0 hl9 hx hb htab hlocks hml hl.1 ht hown hw (by decide) gw_159 gw_51 rfl at_Q_147 d_Q_eighthsOf_35 d_Q_eighthsOf_38 d_Q_eighthsOf_39 d_Q_eighthsOf_41 d_Q_eighthsOf_44 (by first | decide | (dsimp only; omega)) (Nat.le_of_ble_eq_true rfl) (by first | decide | (dsimp only; omega)) (by first | decide | (dsimp only; omega)) (by exact ⟨rfl, by unfold inE; rw [decide_eq_false (by omega)]; rfl, rfl⟩) (by first | decide | (dsimp only; omega)) (by first | decide | (dsimp only; omega))
  · rw [cv_lt, hkn] at c1
    refine lv_dload_n hx hb d_Q_eighthsOf_8 rfl (lv_at hl 0 rfl) ?_
    refine lv_iload_n hx hb d_Q_eighthsOf_9 rfl (lv_at hl 1 rfl) ?_
    refine lv_i2d hx hb d_Q_eighthsOf_10 ?_
    refine lv_dcmp hx hb d_Q_eighthsOf_11 ?_
    rw [e2]
    refine lv_if_gt (tgt := 35) hx hb d_Q_eighthsOf_12 (by decide) (fun c2 => ?_) (fun c2 => ?_)
    · rw [cv_gt] at c2
      exact kt_throw (own := R_Q) (cls := "java/lang/IllegalArgumentException") (ik := 143) (is := 207) (ic := 147) 0 hl9 hx hb htab hlocks hml hl.1 ht hown hw (by decide) gw_159 gw_51 rfl at_Q_147 d_Q_eighthsOf_35 d_Q_eighthsOf_38 d_Q_eighthsOf_39 d_Q_eighthsOf_41 d_Q_eighthsOf_44 (by first | decide | (dsimp only; omega)) (Nat.le_of_ble_eq_true rfl) (by first | decide | (dsimp only; omega)) (by first | decide | (dsimp only; omega)) (by exact ⟨rfl, by unfold inE; rw [decide_eq_false (p := i.toInt ≤ 8 * k.toInt) (by omega), Bool.and_false], rfl⟩) (by first | decide | (dsimp only; omega)) (by first | decide | (dsimp only; omega))
    · rw [cv_gt] at c2
      refine lv_dload_n hx hb d_Q_eighthsOf_15 rfl (lv_at hl 0 rfl) ?_
      refine lv_ldc2d (v := 4620693217682128896) hx hb hown (ht _ gw_158) d_Q_eighthsOf_16 ?_
      refine lv_dmul hx hb d_Q_eighthsOf_19 (by rw [e8_8]; exact l2d_n _) ?_
      rw [e8_8]
      refine lv_d2l hx hb d_Q_eighthsOf_20 ?_
      rw [e8_d2l]
      refine lv_lstore_n (lv' := [(3, .long i.toInt64), (0, .double (e8 i)), (2, .int k)]) hx hb d_Q_eighthsOf_21 rfl hl (by decide) rfl (fun ls hl => ?_)
      refine lv_lload_n hx hb d_Q_eighthsOf_22 rfl (lv_at hl 0 rfl) ?_
      refine lv_l2d hx hb d_Q_eighthsOf_23 ?_
      refine lv_dload_n hx hb d_Q_eighthsOf_24 rfl (lv_at hl 1 rfl) ?_
      refine lv_ldc2d (v := 4620693217682128896) hx hb hown (ht _ gw_158) d_Q_eighthsOf_25 ?_
      refine lv_dmul hx hb d_Q_eighthsOf_28 (by rw [e8_8]; exact l2d_n _) ?_
      rw [e8_8]
      refine lv_dcmp hx hb d_Q_eighthsOf_29 ?_
      refine lv_if_ne (tgt := 35) hx hb d_Q_eighthsOf_30 (by decide) (fun c3 => ?_) (fun c3 => ?_)
      · rw [e8_same] at c3; exact absurd rfl c3
      · refine lv_lload_n hx hb d_Q_eighthsOf_33 rfl (lv_at hl 0 rfl) ?_
        exact kt_l hx hb hr hlocks hw d_Q_eighthsOf_34 (by exact ⟨rfl, by unfold inE; rw [decide_eq_true (by omega), decide_eq_true (by omega)]; rfl, rfl⟩) (by first | decide | (dsimp only; omega)) (by first | decide | (dsimp only; omega))
set_option maxHeartbeats 4000000 in
set_option maxRecDepth 100000 in
theorem c_Q_numberOf (l : Launch) (G : GT) (A : Nat → Prop) (u : WT) (x : Int64) : Kt l y_Q_numberOf b_Q_numberOf 2 (some .double) 0 0 0 0 0 0 0 0 G A u [.long x] (KQ G A (Rd (fun r u' => r = FP.ddiv (FP.l2d x) 4652218415073722368 ∧ u' = u))) (NX) := by
  refine k_of (by decide) (Nat.le_of_ble_eq_true rfl) (fun p e st m below meth c ls hx hb hr hlocks hml htab hname hown ht hw hl => ?_)
  have hl : lv_has ls 2 [(0, .long x)] := hl
  refine lv_lload_n hx hb d_Q_numberOf_0 rfl (lv_at hl 0 rfl) ?_
  refine lv_l2d hx hb d_Q_numberOf_1 ?_
  refine lv_ldc2d (v := 4652218415073722368) hx hb hown (ht _ gw_716) d_Q_numberOf_2 ?_
  refine lv_ddiv hx hb d_Q_numberOf_5 (num_n x) ?_
  exact kt_d hx hb hr hlocks hw d_Q_numberOf_6 (by exact ⟨rfl, rfl⟩) (by first | decide | (dsimp only; omega)) (by first | decide | (dsimp only; omega))
set_option maxHeartbeats 4000000 in
set_option maxRecDepth 100000 in
theorem c_Qt_sort (l : Launch) (G : GT) (A : Nat → Prop) (u : WT) (a : Nat) : Kt l y_Qt_sort b_Qt_sort 1 (some .int) 0 0 0 0 0 0 0 0 G A u [.ref a] (KQ G A (Ri (fun r u' => r = 0 ∧ u' = u))) (NX) := by
  refine k_of (by decide) (Nat.le_of_ble_eq_true rfl) (fun p e st m below meth c ls hx hb hr hlocks hml htab hname hown ht hw hl => ?_)
  have hl : lv_has ls 1 [(0, .ref a)] := hl
  refine lv_iconst (v := 0) hx hb d_Qt_sort_0 (by decide) ?_
  exact kt_i hx hb hr hlocks hw d_Qt_sort_1 (by exact ⟨rfl, rfl⟩) (by first | decide | (dsimp only; omega)) (by first | decide | (dsimp only; omega))
set_option maxHeartbeats 4000000 in
set_option maxRecDepth 100000 in
theorem c_Bl_sort (l : Launch) (G : GT) (A : Nat → Prop) (u : WT) (a : Nat) : Kt l y_Bl_sort b_Bl_sort 1 (some .int) 0 0 0 0 0 0 0 0 G A u [.ref a] (KQ G A (Ri (fun r u' => r = 1 ∧ u' = u))) (NX) := by
  refine k_of (by decide) (Nat.le_of_ble_eq_true rfl) (fun p e st m below meth c ls hx hb hr hlocks hml htab hname hown ht hw hl => ?_)
  have hl : lv_has ls 1 [(0, .ref a)] := hl
  refine lv_iconst (v := 1) hx hb d_Bl_sort_0 (by decide) ?_
  exact kt_i hx hb hr hlocks hw d_Bl_sort_1 (by exact ⟨rfl, rfl⟩) (by first | decide | (dsimp only; omega)) (by first | decide | (dsimp only; omega))
set_option maxHeartbeats 4000000 in
set_option maxRecDepth 100000 in
theorem c_Gr_sort (l : Launch) (G : GT) (A : Nat → Prop) (u : WT) (a : Nat) : Kt l y_Gr_sort b_Gr_sort 1 (some .int) 0 0 0 0 0 0 0 0 G A u [.ref a] (KQ G A (Ri (fun r u' => r = 2 ∧ u' = u))) (NX) := by
  refine k_of (by decide) (Nat.le_of_ble_eq_true rfl) (fun p e st m below meth c ls hx hb hr hlocks hml htab hname hown ht hw hl => ?_)
  have hl : lv_has ls 1 [(0, .ref a)] := hl
  refine lv_iconst (v := 2) hx hb d_Gr_sort_0 (by decide) ?_
  exact kt_i hx hb hr hlocks hw d_Gr_sort_1 (by exact ⟨rfl, rfl⟩) (by first | decide | (dsimp only; omega)) (by first | decide | (dsimp only; omega))
set_option maxHeartbeats 4000000 in
set_option maxRecDepth 100000 in
theorem c_Op_sort (l : Launch) (G : GT) (A : Nat → Prop) (u : WT) (a : Nat) : Kt l y_Op_sort b_Op_sort 1 (some .int) 0 0 0 0 0 0 0 0 G A u [.ref a] (KQ G A (Ri (fun r u' => r = 3 ∧ u' = u))) (NX) := by
  refine k_of (by decide) (Nat.le_of_ble_eq_true rfl) (fun p e st m below meth c ls hx hb hr hlocks hml htab hname hown ht hw hl => ?_)
  have hl : lv_has ls 1 [(0, .ref a)] := hl
  refine lv_iconst (v := 3) hx hb d_Op_sort_0 (by decide) ?_
  exact kt_i hx hb hr hlocks hw d_Op_sort_1 (by exact ⟨rfl, rfl⟩) (by first | decide | (dsimp only; omega)) (by first | decide | (dsimp only; omega))
set_option maxHeartbeats 4000000 in
set_option maxRecDepth 100000 in
theorem c_Q_checkNotFrozen (l : Launch) (hl9 : l.stackTraces = false) (G : GT) (A : Nat → Prop) (lc : Nat → Nat) (s : QS) (z : ZS) (u : WT) (hR : rQ G lc s z u) (j : Nat) (hj : j < q_n s) : Kt l y_Q_checkNotFrozen b_Q_checkNotFrozen 1 none 6 100 1 6 0 0 1 6 G A u [.ref (lc (8 + j))] (KQ G A (Rv (fun u' => q_fr s j = false ∧ u' = u))) (fun E u' => E = "java/lang/IllegalStateException" ∧ q_fr s j = true ∧ u' = u) := by
  refine k_of (by decide) (Nat.le_of_ble_eq_true rfl) (fun p e st m below meth c ls hx hb hr hlocks hml htab hname hown ht hw hl => ?_)
  have hl : lv_has ls 1 [(0, .ref (lc (8 + j)))] := hl
  obtain ⟨n0, hn0⟩ : ∃ n0, q_n s = n0 := ⟨_, rfl⟩
  have hw : Sk G A lc s z n0 u u st st.heap [] := ⟨hw, hR, fQ.rf, hn0⟩
  rw [hn0] at hj
  refine lv_aload_n hx hb d_Q_checkNotFrozen_0 rfl (lv_at hl 0 rfl) ?_
  refine kg_N (j := j) 5 (by decide) hx hb ht hown hw hj gw_286 (Or.inr gw_287) rfl d_Q_checkNotFrozen_1 ?_
  refine lv_if_eq (tgt := 17) hx hb d_Q_checkNotFrozen_4 (by decide) (fun c1 => ?_) (fun c1 => ?_)
  · exact kt_v hx hb hr hlocks hw.1 d_Q_checkNotFrozen_17 (by exact ⟨(bI_eq _).mp c1, rfl⟩) (by first | decide | (dsimp only; omega)) (by first | decide | (dsimp only; omega))
  · exact kt_throw (own := R_Q) (cls := "java/lang/IllegalStateException") (ik := 153) (is := 201) (ic := 157) 6 hl9 hx hb htab hlocks hml hl.1 ht hown hw.1 (by decide) gw_232 gw_52 rfl at_Q_157 d_Q_checkNotFrozen_7 d_Q_checkNotFrozen_10 d_Q_checkNotFrozen_11 d_Q_checkNotFrozen_13 d_Q_checkNotFrozen_16 (by first | decide | (dsimp only; omega)) (Nat.le_of_ble_eq_true rfl) (by first | decide | (dsimp only; omega)) (by first | decide | (dsimp only; omega)) (by exact ⟨rfl, (bI_ne _).mp c1, rfl⟩) (by first | decide | (dsimp only; omega)) (by first | decide | (dsimp only; omega))
set_option maxHeartbeats 4000000 in
set_option maxRecDepth 100000 in
theorem c_Nd_remember (l : Launch) (G : GT) (A : Nat → Prop) (lc : Nat → Nat) (s : QS) (z : ZS) (u : WT) (hR : rQ G lc s z u) (j : Nat) (hj : j < q_n s) : Kt l y_Nd_remember b_Nd_remember 1 none 0 0 0 0 0 0 0 0 G A u [.ref (lc (8 + j))] (KQ G A (Rv (fun u' => rQ G lc s (zS_rv (zS_ra z (va_up (z_ra z) j (q_am s j))) (va_up (z_rv z) j (q_va s j))) u' ∧ fQ lc (q_n s) u u'))) (NX) := by
  refine k_of (by decide) (Nat.le_of_ble_eq_true rfl) (fun p e st m below meth c ls hx hb hr hlocks hml htab hname hown ht hw hl => ?_)
  have hl : lv_has ls 1 [(0, .ref (lc (8 + j)))] := hl
  obtain ⟨n0, hn0⟩ : ∃ n0, q_n s = n0 := ⟨_, rfl⟩
  have hw : Sk G A lc s z n0 u u st st.heap [] := ⟨hw, hR, fQ.rf, hn0⟩
  rw [hn0] at hj
  refine lv_aload_n hx hb d_Nd_remember_0 rfl (lv_at hl 0 rfl) ?_
  refine lv_aload_n hx hb d_Nd_remember_1 rfl (lv_at hl 0 rfl) ?_
  refine kg_N (j := j) 3 (by decide) hx hb ht hown hw hj gw_278 (Or.inl rfl) rfl d_Nd_remember_2 ?_
  refine kp_rememberedAmount (j := j) (q_am s j) hx hb ht hown hw hj gw_290 (Or.inl rfl) d_Nd_remember_5 (fun H1 locs1 u1 hw => ?_)
  refine lv_aload_n hx hb d_Nd_remember_8 rfl (lv_at hl 0 rfl) ?_
  refine lv_aload_n hx hb d_Nd_remember_9 rfl (lv_at hl 0 rfl) ?_
  refine kg_N (j := j) 4 (by decide) hx hb ht hown hw hj gw_283 (Or.inl rfl) rfl d_Nd_remember_10 ?_
  refine kp_rememberedValid (j := j) (q_va s j) hx hb ht hown hw hj gw_291 (Or.inl rfl) d_Nd_remember_13 (fun H2 locs2 u2 hw => ?_)
  exact kt_v hx hb hr hlocks hw.1 d_Nd_remember_16 (by rw [hn0]; exact ⟨hw.2.1, hw.2.2.1⟩) (by first | decide | (dsimp only; omega)) (by first | decide | (dsimp only; omega))
set_option maxHeartbeats 4000000 in
set_option maxRecDepth 100000 in
theorem c_Nd_restore (l : Launch) (G : GT) (A : Nat → Prop) (lc : Nat → Nat) (s : QS) (z : ZS) (u : WT) (hR : rQ G lc s z u) (j : Nat) (hj : j < q_n s) : Kt l y_Nd_restore b_Nd_restore 1 none 0 0 0 0 0 0 0 0 G A u [.ref (lc (8 + j))] (KQ G A (Rv (fun u' => rQ G lc (qS_va (qS_am s (va_up (q_am s) j (z_ra z j))) (va_up (q_va s) j (z_rv z j))) z u' ∧ fQ lc (q_n s) u u'))) (NX) := by
  refine k_of (by decide) (Nat.le_of_ble_eq_true rfl) (fun p e st m below meth c ls hx hb hr hlocks hml htab hname hown ht hw hl => ?_)
  have hl : lv_has ls 1 [(0, .ref (lc (8 + j)))] := hl
  obtain ⟨n0, hn0⟩ : ∃ n0, q_n s = n0 := ⟨_, rfl⟩
  have hw : Sk G A lc s z n0 u u st st.heap [] := ⟨hw, hR, fQ.rf, hn0⟩
  rw [hn0] at hj
  refine lv_aload_n hx hb d_Nd_restore_0 rfl (lv_at hl 0 rfl) ?_
  refine lv_aload_n hx hb d_Nd_restore_1 rfl (lv_at hl 0 rfl) ?_
  refine kg_N (j := j) 8 (by decide) hx hb ht hown hw hj gw_290 (Or.inl rfl) rfl d_Nd_restore_2 ?_
  refine kp_amount (j := j) (z_ra z j) hx hb ht hown hw hj gw_278 (Or.inl rfl) d_Nd_restore_5 (fun H1 locs1 u1 hw => ?_)
  refine lv_aload_n hx hb d_Nd_restore_8 rfl (lv_at hl 0 rfl) ?_
  refine lv_aload_n hx hb d_Nd_restore_9 rfl (lv_at hl 0 rfl) ?_
  refine kg_N (j := j) 9 (by decide) hx hb ht hown hw hj gw_291 (Or.inl rfl) rfl d_Nd_restore_10 ?_
  refine kp_valid (j := j) (z_rv z j) hx hb ht hown hw hj gw_283 (Or.inl rfl) d_Nd_restore_13 (fun H2 locs2 u2 hw => ?_)
  exact kt_v hx hb hr hlocks hw.1 d_Nd_restore_16 (by rw [hn0]; exact ⟨hw.2.1, hw.2.2.1⟩) (by first | decide | (dsimp only; omega)) (by first | decide | (dsimp only; omega))
set_option maxHeartbeats 4000000 in
set_option maxRecDepth 100000 in
theorem c_Q_rememberAll (l : Launch) (G : GT) (A : Nat → Prop) (lc : Nat → Nat) (s : QS) (z : ZS) (u : WT) (hR : rQ G lc s z u) : Kt l y_Q_rememberAll b_Q_rememberAll 2 none 1 20 0 0 0 0 0 0 G A u [.ref (lc 0)] (KQ G A (Rv (fun u' => rQ G lc s (zRm s z (q_n s)) u' ∧ fQ lc (q_n s) u u'))) (NX) := by
  refine k_of (by decide) (Nat.le_of_ble_eq_true rfl) (fun p e st m below meth c ls hx hb hr hlocks hml htab hname hown ht hw hl => ?_)
  have hl : lv_has ls 2 [(0, .ref (lc 0))] := hl
  obtain ⟨n0, hn0⟩ : ∃ n0, q_n s = n0 := ⟨_, rfl⟩
  have hw : Sk G A lc s z n0 u u st st.heap [] := ⟨hw, hR, fQ.rf, hn0⟩
  have h16 : n0 ≤ 16 := by rw [← hn0]; exact hR.1.1
  refine lv_iconst (v := 0) hx hb d_Q_rememberAll_0 (by decide) ?_
  refine lv_istore_n (lv' := [(1, .int (0 : Int32)), (0, .ref (lc 0))]) hx hb d_Q_rememberAll_1 rfl hl (by decide) rfl (fun ls hl => ?_)
  refine k_cntH (n0) (fun i ls H locs => lv_has ls 2 [(0, .ref (lc 0)), (1, .int (nI i))] ∧ ∃ u9, Sk G A lc s (zRm s z i) n0 u u9 st H locs) (k0 := 0) (Nat.zero_le _) (⟨lv_sub hl [1, 0] rfl, u, hw⟩) (fun ls H locs hJ => ?_) (fun i ls H locs hi hJ ih => ?_)
  · obtain ⟨hl, hw⟩ := hJ
    obtain ⟨u9, hw⟩ := hw
    refine lv_iload_n hx hb d_Q_rememberAll_2 rfl (lv_at hl 1 rfl) ?_
    refine lv_aload_n hx hb d_Q_rememberAll_3 rfl (lv_at hl 0 rfl) ?_
    refine kg_Q 2 (by decide) hx hb ht hown hw gw_123 rfl rfl d_Q_rememberAll_4 ?_
    refine lv_icmp_ge (tgt := 25) hx hb d_Q_rememberAll_7 (by decide) (fun c1 => ?_) (fun c1 => ?_)
    · exact kt_v hx hb hr hlocks hw.1 d_Q_rememberAll_25 (by rw [hn0]; exact ⟨hw.2.1, hw.2.2.1⟩) (by first | decide | (dsimp only; omega)) (by first | decide | (dsimp only; omega))
    · exact absurd (nI_le (Nat.le_refl _) (by omega)) c1
  · obtain ⟨hl, hw⟩ := hJ
    obtain ⟨u9, hw⟩ := hw
    have hN : q_n s = n0 := hn0
    refine lv_iload_n hx hb d_Q_rememberAll_2 rfl (lv_at hl 1 rfl) ?_
    refine lv_aload_n hx hb d_Q_rememberAll_3 rfl (lv_at hl 0 rfl) ?_
    refine kg_Q 2 (by decide) hx hb ht hown hw gw_123 rfl rfl d_Q_rememberAll_4 ?_
    refine lv_icmp_ge (tgt := 25) hx hb d_Q_rememberAll_7 (by decide) (fun c1 => ?_) (fun c1 => ?_)
    · exact absurd c1 (nI_ge hi (by omega))
    · refine lv_aload_n hx hb d_Q_rememberAll_10 rfl (lv_at hl 0 rfl) ?_
      refine kg_Q 0 (by decide) hx hb ht hown hw gw_121 rfl rfl d_Q_rememberAll_11 ?_
      refine lv_iload_n hx hb d_Q_rememberAll_14 rfl (lv_at hl 1 rfl) ?_
      refine ka_nodes (k := i) rfl hi hx hb hw d_Q_rememberAll_15 ?_
      refine kc_v (kr_V 0 (C := ndC (q_so s i)) (As := []) (rest := []) (c_Nd_remember l G A lc _ _ u9 hw.2.1 i (by rw [hN]; exact hi)) hx hb hml hown ht hw.1 gw_737 gw_738 (sel_remember _ (hw.nj hi).2.2) gw_53 gw_744 ⟨⟨by decide, by decide⟩, by decide +kernel⟩ ⟨by first | decide | (dsimp only; omega), by first | decide | (dsimp only; omega)⟩ (kr_N hw hi) rfl hl.1 rfl (lv_room (Nat.le_of_ble_eq_true rfl)) d_Q_rememberAll_16 ⟨by first | decide | (dsimp only; omega), by first | decide | (dsimp only; omega)⟩) hw.1 (fun _ _ _ _ _ _ h => h.elim) (fun u1 H1 locs1 hp1 hw1 => ?_)
      obtain ⟨g1, g2⟩ := hp1
      have hw : Sk G A lc s (zRm s z (i + 1)) n0 u u1 st H1 locs1 := ⟨hw1, g1, hw.2.2.1.tr (by rw [← hN]; exact g2), hN⟩
      obtain ⟨i2, ei2⟩ : ∃ y : Int32, y = (nI i) + 1 := ⟨_, rfl⟩
      refine lv_iinc (v := i2) (lv' := [(1, .int i2), (0, .ref (lc 0))]) hx hb d_Q_rememberAll_19 hl (k := 1) rfl (by rw [ei2]; rfl) (by decide) rfl (fun ls hl => ?_)
      rw [nI_1] at ei2; subst ei2
      refine lv_goto (tgt := 2) hx hb d_Q_rememberAll_22 (by decide) ?_
      exact ih ls H1 locs1 ⟨lv_sub hl [1, 0] rfl, u1, hw⟩
set_option maxHeartbeats 4000000 in
set_option maxRecDepth 100000 in
theorem c_Q_restoreAll (l : Launch) (G : GT) (A : Nat → Prop) (lc : Nat → Nat) (s : QS) (z : ZS) (u : WT) (hR : rQ G lc s z u) : Kt l y_Q_restoreAll b_Q_restoreAll 2 none 1 20 0 0 0 0 0 0 G A u [.ref (lc 0)] (KQ G A (Rv (fun u' => rQ G lc (qRs s z (q_n s)) z u' ∧ fQ lc (q_n s) u u'))) (NX) := by
  refine k_of (by decide) (Nat.le_of_ble_eq_true rfl) (fun p e st m below meth c ls hx hb hr hlocks hml htab hname hown ht hw hl => ?_)
  have hl : lv_has ls 2 [(0, .ref (lc 0))] := hl
  obtain ⟨n0, hn0⟩ : ∃ n0, q_n s = n0 := ⟨_, rfl⟩
  have hw : Sk G A lc s z n0 u u st st.heap [] := ⟨hw, hR, fQ.rf, hn0⟩
  have h16 : n0 ≤ 16 := by rw [← hn0]; exact hR.1.1
  refine lv_iconst (v := 0) hx hb d_Q_restoreAll_0 (by decide) ?_
  refine lv_istore_n (lv' := [(1, .int (0 : Int32)), (0, .ref (lc 0))]) hx hb d_Q_restoreAll_1 rfl hl (by decide) rfl (fun ls hl => ?_)
  refine k_cntH (n0) (fun i ls H locs => lv_has ls 2 [(0, .ref (lc 0)), (1, .int (nI i))] ∧ ∃ u9, Sk G A lc (qRs s z i) z n0 u u9 st H locs) (k0 := 0) (Nat.zero_le _) (⟨lv_sub hl [1, 0] rfl, u, hw⟩) (fun ls H locs hJ => ?_) (fun i ls H locs hi hJ ih => ?_)
  · obtain ⟨hl, hw⟩ := hJ
    obtain ⟨u9, hw⟩ := hw
    refine lv_iload_n hx hb d_Q_restoreAll_2 rfl (lv_at hl 1 rfl) ?_
    refine lv_aload_n hx hb d_Q_restoreAll_3 rfl (lv_at hl 0 rfl) ?_
    refine kg_Q 2 (by decide) hx hb ht hown hw gw_123 rfl rfl d_Q_restoreAll_4 ?_
    refine lv_icmp_ge (tgt := 25) hx hb d_Q_restoreAll_7 (by decide) (fun c1 => ?_) (fun c1 => ?_)
    · exact kt_v hx hb hr hlocks hw.1 d_Q_restoreAll_25 (by rw [hn0]; exact ⟨hw.2.1, hw.2.2.1⟩) (by first | decide | (dsimp only; omega)) (by first | decide | (dsimp only; omega))
    · exact absurd (nI_le (Nat.le_refl _) (by omega)) c1
  · obtain ⟨hl, hw⟩ := hJ
    obtain ⟨u9, hw⟩ := hw
    have hN : q_n (qRs s z i) = n0 := by rw [qRs_n]; exact hn0
    refine lv_iload_n hx hb d_Q_restoreAll_2 rfl (lv_at hl 1 rfl) ?_
    refine lv_aload_n hx hb d_Q_restoreAll_3 rfl (lv_at hl 0 rfl) ?_
    refine kg_Q 2 (by decide) hx hb ht hown hw gw_123 rfl rfl d_Q_restoreAll_4 ?_
    refine lv_icmp_ge (tgt := 25) hx hb d_Q_restoreAll_7 (by decide) (fun c1 => ?_) (fun c1 => ?_)
    · exact absurd c1 (nI_ge hi (by omega))
    · refine lv_aload_n hx hb d_Q_restoreAll_10 rfl (lv_at hl 0 rfl) ?_
      refine kg_Q 0 (by decide) hx hb ht hown hw gw_121 rfl rfl d_Q_restoreAll_11 ?_
      refine lv_iload_n hx hb d_Q_restoreAll_14 rfl (lv_at hl 1 rfl) ?_
      refine ka_nodes (k := i) rfl hi hx hb hw d_Q_restoreAll_15 ?_
      refine kc_v (kr_V 0 (C := ndC (q_so (qRs s z i) i)) (As := []) (rest := []) (c_Nd_restore l G A lc _ _ u9 hw.2.1 i (by rw [hN]; exact hi)) hx hb hml hown ht hw.1 gw_753 gw_754 (sel_restore _ (hw.nj hi).2.2) gw_53 gw_760 ⟨⟨by decide, by decide⟩, by decide +kernel⟩ ⟨by first | decide | (dsimp only; omega), by first | decide | (dsimp only; omega)⟩ (kr_N hw hi) rfl hl.1 rfl (lv_room (Nat.le_of_ble_eq_true rfl)) d_Q_restoreAll_16 ⟨by first | decide | (dsimp only; omega), by first | decide | (dsimp only; omega)⟩) hw.1 (fun _ _ _ _ _ _ h => h.elim) (fun u1 H1 locs1 hp1 hw1 => ?_)
      obtain ⟨g1, g2⟩ := hp1
      have hw : Sk G A lc (qRs s z (i + 1)) z n0 u u1 st H1 locs1 := ⟨hw1, g1, hw.2.2.1.tr (by rw [← hN]; exact g2), hN⟩
      obtain ⟨i2, ei2⟩ : ∃ y : Int32, y = (nI i) + 1 := ⟨_, rfl⟩
      refine lv_iinc (v := i2) (lv' := [(1, .int i2), (0, .ref (lc 0))]) hx hb d_Q_restoreAll_19 hl (k := 1) rfl (by rw [ei2]; rfl) (by decide) rfl (fun ls hl => ?_)
      rw [nI_1] at ei2; subst ei2
      refine lv_goto (tgt := 2) hx hb d_Q_restoreAll_22 (by decide) ?_
      exact ih ls H1 locs1 ⟨lv_sub hl [1, 0] rfl, u1, hw⟩
set_option maxHeartbeats 4000000 in
set_option maxRecDepth 100000 in
theorem c_Q_makeUsersStale (l : Launch) (G : GT) (A : Nat → Prop) (lc : Nat → Nat) (s : QS) (z : ZS) (u : WT) (hR : rQ G lc s z u) (j : Nat) (hj : j < q_n s) : Kt l y_Q_makeUsersStale b_Q_makeUsersStale 3 none 4 88 0 0 0 0 0 0 G A u [.ref (lc 0), .ref (lc (8 + j))] (KQ G A (Rv (fun u' => rQ G lc (qSt j s (q_n s)) z u' ∧ fQ lc (q_n s) u u'))) (NX) := by
  refine k_of (by decide) (Nat.le_of_ble_eq_true rfl) (fun p e st m below meth c ls hx hb hr hlocks hml htab hname hown ht hw hl => ?_)
  have hl : lv_has ls 3 [(0, .ref (lc 0)), (1, .ref (lc (8 + j)))] := hl
  obtain ⟨n0, hn0⟩ : ∃ n0, q_n s = n0 := ⟨_, rfl⟩
  have hw : Sk G A lc s z n0 u u st st.heap [] := ⟨hw, hR, fQ.rf, hn0⟩
  have h16 : n0 ≤ 16 := by rw [← hn0]; exact hR.1.1
  rw [hn0] at hj
  refine lv_iconst (v := 0) hx hb d_Q_makeUsersStale_0 (by decide) ?_
  refine lv_istore_n (lv' := [(2, .int (0 : Int32)), (0, .ref (lc 0)), (1, .ref (lc (8 + j)))]) hx hb d_Q_makeUsersStale_1 rfl hl (by decide) rfl (fun ls hl => ?_)
  refine k_cntH (n0) (fun i ls H locs => lv_has ls 3 [(0, .ref (lc 0)), (1, .ref (lc (8 + j))), (2, .int (nI i))] ∧ ∃ u9, Sk G A lc (qSt j s i) z n0 u u9 st H locs) (k0 := 0) (Nat.zero_le _) (⟨lv_sub hl [1, 2, 0] rfl, u, hw⟩) (fun ls H locs hJ => ?_) (fun i ls H locs hi hJ ih => ?_)
  · obtain ⟨hl, hw⟩ := hJ
    obtain ⟨u9, hw⟩ := hw
    refine lv_iload_n hx hb d_Q_makeUsersStale_2 rfl (lv_at hl 2 rfl) ?_
    refine lv_aload_n hx hb d_Q_makeUsersStale_3 rfl (lv_at hl 0 rfl) ?_
    refine kg_Q 2 (by decide) hx hb ht hown hw gw_123 rfl rfl d_Q_makeUsersStale_4 ?_
    refine lv_icmp_ge (tgt := 52) hx hb d_Q_makeUsersStale_7 (by decide) (fun c1 => ?_) (fun c1 => ?_)
    · exact kt_v hx hb hr hlocks hw.1 d_Q_makeUsersStale_52 (by rw [hn0]; exact ⟨hw.2.1, hw.2.2.1⟩) (by first | decide | (dsimp only; omega)) (by first | decide | (dsimp only; omega))
    · exact absurd (nI_le (Nat.le_refl _) (by omega)) c1
  · obtain ⟨hl, hw⟩ := hJ
    obtain ⟨u9, hw⟩ := hw
    have hN : q_n (qSt j s i) = n0 := by rw [qSt_n]; exact hn0
    have eS : qSt j s (i + 1) = (if q_fr (qSt j s i) i = true then qSt j s i else if usesC (qSt j s i) i j = true then qS_va (qSt j s i) (va_up (q_va (qSt j s i)) i false) else qSt j s i) := rfl
    refine lv_iload_n hx hb d_Q_makeUsersStale_2 rfl (lv_at hl 2 rfl) ?_
    refine lv_aload_n hx hb d_Q_makeUsersStale_3 rfl (lv_at hl 0 rfl) ?_
    refine kg_Q 2 (by decide) hx hb ht hown hw gw_123 rfl rfl d_Q_makeUsersStale_4 ?_
    refine lv_icmp_ge (tgt := 52) hx hb d_Q_makeUsersStale_7 (by decide) (fun c1 => ?_) (fun c1 => ?_)
    · exact absurd c1 (nI_ge hi (by omega))
    · refine lv_aload_n hx hb d_Q_makeUsersStale_10 rfl (lv_at hl 0 rfl) ?_
      refine kg_Q 0 (by decide) hx hb ht hown hw gw_121 rfl rfl d_Q_makeUsersStale_11 ?_
      refine lv_iload_n hx hb d_Q_makeUsersStale_14 rfl (lv_at hl 2 rfl) ?_
      refine ka_nodes (k := i) rfl hi hx hb hw d_Q_makeUsersStale_15 ?_
      refine kg_N (j := i) 5 (by decide) hx hb ht hown hw hi gw_285 (Or.inl rfl) rfl d_Q_makeUsersStale_16 ?_
      refine lv_if_ne (tgt := 46) hx hb d_Q_makeUsersStale_19 (by decide) (fun c1 => ?_) (fun c1 => ?_)
      · rw [if_pos ((bI_ne _).mp c1)] at eS; rw [← eS] at hw
        obtain ⟨i2, ei2⟩ : ∃ y : Int32, y = (nI i) + 1 := ⟨_, rfl⟩
        refine lv_iinc (v := i2) (lv' := [(2, .int i2), (0, .ref (lc 0)), (1, .ref (lc (8 + j)))]) hx hb d_Q_makeUsersStale_46 hl (k := 2) rfl (by rw [ei2]; rfl) (by decide) rfl (fun ls hl => ?_)
        rw [nI_1] at ei2; subst ei2
        refine lv_goto (tgt := 2) hx hb d_Q_makeUsersStale_49 (by decide) ?_
        exact ih ls H locs ⟨lv_sub hl [1, 2, 0] rfl, u9, hw⟩
      · rw [if_neg (by rw [(bI_eq _).mp c1]; decide)] at eS
        refine lv_aload_n hx hb d_Q_makeUsersStale_22 rfl (lv_at hl 0 rfl) ?_
        refine lv_aload_n hx hb d_Q_makeUsersStale_23 rfl (lv_at hl 0 rfl) ?_
        refine kg_Q 0 (by decide) hx hb ht hown hw gw_121 rfl rfl d_Q_makeUsersStale_24 ?_
        refine lv_iload_n hx hb d_Q_makeUsersStale_27 rfl (lv_at hl 2 rfl) ?_
        refine ka_nodes (k := i) rfl hi hx hb hw d_Q_makeUsersStale_28 ?_
        refine lv_aload_n hx hb d_Q_makeUsersStale_29 rfl (lv_at hl 1 rfl) ?_
        refine kc_i (kr_V 2 (C := "QuoteGraph") (As := [.ref (lc (8 + i)), .ref (lc (8 + j))]) (rest := []) (c_Q_hangsOn l G A lc _ z u9 hw.2.1 i j (by rw [hN]; exact hi) (by rw [hN]; exact hj)) hx hb hml hown ht hw.1 gw_474 gw_476 gw_7 gw_42 gw_477 ⟨⟨by decide, by decide⟩, by decide +kernel⟩ ⟨by first | decide | (dsimp only; omega), by first | decide | (dsimp only; omega)⟩ (kr_Q hw) rfl hl.1 rfl (lv_room (Nat.le_of_ble_eq_true rfl)) d_Q_makeUsersStale_30 ⟨by first | decide | (dsimp only; omega), by first | decide | (dsimp only; omega)⟩) hw.1 (fun _ _ _ _ _ _ h => h.elim) (fun r3 u3 H3 locs3 hp3 hw3 => ?_)
        obtain ⟨er3, hq3⟩ := hp3
        replace hq3 := hq3.symm; subst hq3
        subst er3
        have hw : Sk G A lc (qSt j s i) z n0 u u9 st H3 locs3 := ⟨hw3, hw.2⟩
        refine lv_if_eq (tgt := 46) hx hb d_Q_makeUsersStale_33 (by decide) (fun c4 => ?_) (fun c4 => ?_)
        · rw [if_neg (by rw [(bI_eq _).mp c4]; decide)] at eS; rw [← eS] at hw
          obtain ⟨i5, ei5⟩ : ∃ y : Int32, y = (nI i) + 1 := ⟨_, rfl⟩
          refine lv_iinc (v := i5) (lv' := [(2, .int i5), (0, .ref (lc 0)), (1, .ref (lc (8 + j)))]) hx hb d_Q_makeUsersStale_46 hl (k := 2) rfl (by rw [ei5]; rfl) (by decide) rfl (fun ls hl => ?_)
          rw [nI_1] at ei5; subst ei5
          refine lv_goto (tgt := 2) hx hb d_Q_makeUsersStale_49 (by decide) ?_
          exact ih ls H3 locs3 ⟨lv_sub hl [1, 2, 0] rfl, u9, hw⟩
        · rw [if_pos ((bI_ne _).mp c4)] at eS
          refine lv_aload_n hx hb d_Q_makeUsersStale_36 rfl (lv_at hl 0 rfl) ?_
          refine kg_Q 0 (by decide) hx hb ht hown hw gw_121 rfl rfl d_Q_makeUsersStale_37 ?_
          refine lv_iload_n hx hb d_Q_makeUsersStale_40 rfl (lv_at hl 2 rfl) ?_
          refine ka_nodes (k := i) rfl hi hx hb hw d_Q_makeUsersStale_41 ?_
          refine lv_iconst (v := 0) hx hb d_Q_makeUsersStale_42 (by decide) ?_
          refine kp_valid (j := i) false hx hb ht hown hw hi gw_284 (Or.inl rfl) d_Q_makeUsersStale_43 (fun H6 locs6 u6 hw => ?_)
          rw [← eS] at hw
          obtain ⟨i7, ei7⟩ : ∃ y : Int32, y = (nI i) + 1 := ⟨_, rfl⟩
          refine lv_iinc (v := i7) (lv' := [(2, .int i7), (0, .ref (lc 0)), (1, .ref (lc (8 + j)))]) hx hb d_Q_makeUsersStale_46 hl (k := 2) rfl (by rw [ei7]; rfl) (by decide) rfl (fun ls hl => ?_)
          rw [nI_1] at ei7; subst ei7
          refine lv_goto (tgt := 2) hx hb d_Q_makeUsersStale_49 (by decide) ?_
          exact ih ls H6 locs6 ⟨lv_sub hl [1, 2, 0] rfl, u6, hw⟩
set_option maxHeartbeats 4000000 in
set_option maxRecDepth 100000 in
theorem c_Q_quoteAt (l : Launch) (hl9 : l.stackTraces = false) (G : GT) (A : Nat → Prop) (lc : Nat → Nat) (s : QS) (z : ZS) (u : WT) (hR : rQ G lc s z u) (k : Int32) : Kt l y_Q_quoteAt b_Q_quoteAt 4 (some (.object "QuoteGraph$Quote")) 6 100 1 6 0 0 1 6 G A u [.ref (lc 0), .int k] (KQ G A (Ra (fun r u' => ∃ j, j < q_n s ∧ k = nI j ∧ q_so s j = 0 ∧ r = lc (8 + j) ∧ u' = u))) (fun E u' => E = "java/lang/IllegalArgumentException" ∧ (isN (q_n s) k = false ∨ ∃ j, j < q_n s ∧ k = nI j ∧ q_so s j ≠ 0) ∧ u' = u) := by
  refine k_of (by decide) (Nat.le_of_ble_eq_true rfl) (fun p e st m below meth c ls hx hb hr hlocks hml htab hname hown ht hw hl => ?_)
  have hl : lv_has ls 4 [(0, .ref (lc 0)), (1, .int k)] := hl
  obtain ⟨n0, hn0⟩ : ∃ n0, q_n s = n0 := ⟨_, rfl⟩
  have hw : Sk G A lc s z n0 u u st st.heap [] := ⟨hw, hR, fQ.rf, hn0⟩
  refine lv_aload_n hx hb d_Q_quoteAt_0 rfl (lv_at hl 0 rfl) ?_
  refine lv_iload_n hx hb d_Q_quoteAt_1 rfl (lv_at hl 1 rfl) ?_
  refine kc_i (kr_V 1 (C := "QuoteGraph") (As := [.int k]) (rest := []) (c_Q_isThere l G A lc s z u hR k) hx hb hml hown ht hw.1 gw_328 gw_330 gw_4 gw_42 gw_331 ⟨⟨by decide, by decide⟩, by decide +kernel⟩ ⟨by first | decide | (dsimp only; omega), by first | decide | (dsimp only; omega)⟩ (kr_Q hw) rfl hl.1 rfl (lv_room (Nat.le_of_ble_eq_true rfl)) d_Q_quoteAt_2 ⟨by first | decide | (dsimp only; omega), by first | decide | (dsimp only; omega)⟩) hw.1 (fun _ _ _ _ _ _ h => h.elim) (fun r1 u1 H1 locs1 hp1 hw1 => ?_)
  obtain ⟨er1, hq1⟩ := hp1
  replace hq1 := hq1.symm; subst hq1
  subst er1
  have hw : Sk G A lc s z n0 u u st H1 locs1 := ⟨hw1, hw.2⟩
  refine lv_if_eq (tgt := 29) hx hb d_Q_quoteAt_5 (by decide) (fun c2 => ?_) (fun c2 => ?_)
  · exact kt_throw (own := R_Q) (cls := "java/lang/IllegalArgumentException") (ik := 143) (is := 217) (ic := 147) 7 hl9 hx hb htab hlocks hml hl.1 ht hown hw.1 (by decide) gw_159 gw_51 rfl at_Q_147 d_Q_quoteAt_29 d_Q_quoteAt_32 d_Q_quoteAt_33 d_Q_quoteAt_35 d_Q_quoteAt_38 (by first | decide | (dsimp only; omega)) (Nat.le_of_ble_eq_true rfl) (by first | decide | (dsimp only; omega)) (by first | decide | (dsimp only; omega)) (by exact ⟨rfl, Or.inl ((bI_eq _).mp c2), rfl⟩) (by first | decide | (dsimp only; omega)) (by first | decide | (dsimp only; omega))
  · obtain ⟨j, hj, rfl⟩ := isN_t ((bI_ne _).mp c2) hR.1.1
    rw [hn0] at hj
    refine lv_aload_n hx hb d_Q_quoteAt_8 rfl (lv_at hl 0 rfl) ?_
    refine kg_Q 0 (by decide) hx hb ht hown hw gw_121 rfl rfl d_Q_quoteAt_9 ?_
    refine lv_iload_n hx hb d_Q_quoteAt_12 rfl (lv_at hl 1 rfl) ?_
    refine ka_nodes (k := j) rfl hj hx hb hw d_Q_quoteAt_13 ?_
    refine lv_astore_n (lv' := [(3, .ref (lc (8 + j))), (0, .ref (lc 0)), (1, .int (nI j))]) hx hb d_Q_quoteAt_14 rfl hl (by decide) rfl (fun ls hl => ?_)
    refine lv_aload_n hx hb d_Q_quoteAt_15 rfl (lv_at hl 0 rfl) ?_
    by_cases hs3 : q_so s j = 0
    · refine va_instY (C := "QuoteGraph$Quote") hx hb hown (ht _ gw_248) (hw.1.1.2.2.2.2.1 _ (ew_of 1048 _ (by decide +kernel) rfl)) (by have h := kr_N hw hj; rw [hs3] at h; exact h) d_Q_quoteAt_16 ?_
      refine lv_if_eq (tgt := 29) hx hb d_Q_quoteAt_19 (by decide) (fun c1 => ?_) (fun c1 => ?_)
      · exact absurd c1 (by decide)
      · refine lv_aload_n hx hb d_Q_quoteAt_22 rfl (lv_at hl 0 rfl) ?_
        refine va_castY (C := "QuoteGraph$Quote") hx hb hown (ht _ gw_248) (hw.1.1.2.2.2.2.1 _ (ew_of 1048 _ (by decide +kernel) rfl)) (by have h := kr_N hw hj; rw [hs3] at h; exact h) d_Q_quoteAt_23 ?_
        refine lv_astore_n (lv' := [(2, .ref (lc (8 + j))), (3, .ref (lc (8 + j))), (0, .ref (lc 0)), (1, .int (nI j))]) hx hb d_Q_quoteAt_26 rfl hl (by decide) rfl (fun ls hl => ?_)
        refine lv_aload_n hx hb d_Q_quoteAt_27 rfl (lv_at hl 0 rfl) ?_
        exact kt_a hx hb hr hlocks hw.1 d_Q_quoteAt_28 (by exact ⟨j, by rw [hn0]; exact hj, rfl, hs3, rfl, rfl⟩) (by first | decide | (dsimp only; omega)) (by first | decide | (dsimp only; omega))
    · refine va_instNo (C := ndC (q_so s j)) hx hb hown (ht _ gw_248) (by have h4 := (hw.nj hj).2.2; have h5 : q_so s j = 1 ∨ q_so s j = 2 ∨ q_so s j = 3 := (by omega); rcases h5 with h6 | h6 | h6 <;> rw [h6]; exact hw.1.1.2.2.2.2.2.1 ("QuoteGraph$Blend", "QuoteGraph$Quote") (by decide); exact hw.1.1.2.2.2.2.2.1 ("QuoteGraph$Greater", "QuoteGraph$Quote") (by decide); exact hw.1.1.2.2.2.2.2.1 ("QuoteGraph$Option", "QuoteGraph$Quote") (by decide)) (kr_N hw hj) d_Q_quoteAt_16 ?_
      refine lv_if_eq (tgt := 29) hx hb d_Q_quoteAt_19 (by decide) (fun c1 => ?_) (fun c1 => ?_)
      · exact kt_throw (own := R_Q) (cls := "java/lang/IllegalArgumentException") (ik := 143) (is := 217) (ic := 147) 7 hl9 hx hb htab hlocks hml hl.1 ht hown hw.1 (by decide) gw_159 gw_51 rfl at_Q_147 d_Q_quoteAt_29 d_Q_quoteAt_32 d_Q_quoteAt_33 d_Q_quoteAt_35 d_Q_quoteAt_38 (by first | decide | (dsimp only; omega)) (Nat.le_of_ble_eq_true rfl) (by first | decide | (dsimp only; omega)) (by first | decide | (dsimp only; omega)) (by exact ⟨rfl, Or.inr ⟨j, by rw [hn0]; exact hj, rfl, hs3⟩, rfl⟩) (by first | decide | (dsimp only; omega)) (by first | decide | (dsimp only; omega))
      · exact absurd rfl c1
set_option maxHeartbeats 4000000 in
set_option maxRecDepth 100000 in
theorem c_Q_optionAt (l : Launch) (hl9 : l.stackTraces = false) (G : GT) (A : Nat → Prop) (lc : Nat → Nat) (s : QS) (z : ZS) (u : WT) (hR : rQ G lc s z u) (k : Int32) : Kt l y_Q_optionAt b_Q_optionAt 4 (some (.object "QuoteGraph$Option")) 6 100 1 6 0 0 1 6 G A u [.ref (lc 0), .int k] (KQ G A (Ra (fun r u' => ∃ j, j < q_n s ∧ k = nI j ∧ q_so s j = 3 ∧ r = lc (8 + j) ∧ u' = u))) (fun E u' => E = "java/lang/IllegalArgumentException" ∧ (isN (q_n s) k = false ∨ ∃ j, j < q_n s ∧ k = nI j ∧ q_so s j ≠ 3) ∧ u' = u) := by
  refine k_of (by decide) (Nat.le_of_ble_eq_true rfl) (fun p e st m below meth c ls hx hb hr hlocks hml htab hname hown ht hw hl => ?_)
  have hl : lv_has ls 4 [(0, .ref (lc 0)), (1, .int k)] := hl
  obtain ⟨n0, hn0⟩ : ∃ n0, q_n s = n0 := ⟨_, rfl⟩
  have hw : Sk G A lc s z n0 u u st st.heap [] := ⟨hw, hR, fQ.rf, hn0⟩
  refine lv_aload_n hx hb d_Q_optionAt_0 rfl (lv_at hl 0 rfl) ?_
  refine lv_iload_n hx hb d_Q_optionAt_1 rfl (lv_at hl 1 rfl) ?_
  refine kc_i (kr_V 1 (C := "QuoteGraph") (As := [.int k]) (rest := []) (c_Q_isThere l G A lc s z u hR k) hx hb hml hown ht hw.1 gw_328 gw_330 gw_4 gw_42 gw_331 ⟨⟨by decide, by decide⟩, by decide +kernel⟩ ⟨by first | decide | (dsimp only; omega), by first | decide | (dsimp only; omega)⟩ (kr_Q hw) rfl hl.1 rfl (lv_room (Nat.le_of_ble_eq_true rfl)) d_Q_optionAt_2 ⟨by first | decide | (dsimp only; omega), by first | decide | (dsimp only; omega)⟩) hw.1 (fun _ _ _ _ _ _ h => h.elim) (fun r1 u1 H1 locs1 hp1 hw1 => ?_)
  obtain ⟨er1, hq1⟩ := hp1
  replace hq1 := hq1.symm; subst hq1
  subst er1
  have hw : Sk G A lc s z n0 u u st H1 locs1 := ⟨hw1, hw.2⟩
  refine lv_if_eq (tgt := 29) hx hb d_Q_optionAt_5 (by decide) (fun c2 => ?_) (fun c2 => ?_)
  · exact kt_throw (own := R_Q) (cls := "java/lang/IllegalArgumentException") (ik := 143) (is := 219) (ic := 147) 4 hl9 hx hb htab hlocks hml hl.1 ht hown hw.1 (by decide) gw_159 gw_51 rfl at_Q_147 d_Q_optionAt_29 d_Q_optionAt_32 d_Q_optionAt_33 d_Q_optionAt_35 d_Q_optionAt_38 (by first | decide | (dsimp only; omega)) (Nat.le_of_ble_eq_true rfl) (by first | decide | (dsimp only; omega)) (by first | decide | (dsimp only; omega)) (by exact ⟨rfl, Or.inl ((bI_eq _).mp c2), rfl⟩) (by first | decide | (dsimp only; omega)) (by first | decide | (dsimp only; omega))
  · obtain ⟨j, hj, rfl⟩ := isN_t ((bI_ne _).mp c2) hR.1.1
    rw [hn0] at hj
    refine lv_aload_n hx hb d_Q_optionAt_8 rfl (lv_at hl 0 rfl) ?_
    refine kg_Q 0 (by decide) hx hb ht hown hw gw_121 rfl rfl d_Q_optionAt_9 ?_
    refine lv_iload_n hx hb d_Q_optionAt_12 rfl (lv_at hl 1 rfl) ?_
    refine ka_nodes (k := j) rfl hj hx hb hw d_Q_optionAt_13 ?_
    refine lv_astore_n (lv' := [(3, .ref (lc (8 + j))), (0, .ref (lc 0)), (1, .int (nI j))]) hx hb d_Q_optionAt_14 rfl hl (by decide) rfl (fun ls hl => ?_)
    refine lv_aload_n hx hb d_Q_optionAt_15 rfl (lv_at hl 0 rfl) ?_
    by_cases hs3 : q_so s j = 3
    · refine va_instY (C := "QuoteGraph$Option") hx hb hown (ht _ gw_393) (hw.1.1.2.2.2.2.1 _ (ew_of 1047 _ (by decide +kernel) rfl)) (by have h := kr_N hw hj; rw [hs3] at h; exact h) d_Q_optionAt_16 ?_
      refine lv_if_eq (tgt := 29) hx hb d_Q_optionAt_19 (by decide) (fun c1 => ?_) (fun c1 => ?_)
      · exact absurd c1 (by decide)
      · refine lv_aload_n hx hb d_Q_optionAt_22 rfl (lv_at hl 0 rfl) ?_
        refine va_castY (C := "QuoteGraph$Option") hx hb hown (ht _ gw_393) (hw.1.1.2.2.2.2.1 _ (ew_of 1047 _ (by decide +kernel) rfl)) (by have h := kr_N hw hj; rw [hs3] at h; exact h) d_Q_optionAt_23 ?_
        refine lv_astore_n (lv' := [(2, .ref (lc (8 + j))), (3, .ref (lc (8 + j))), (0, .ref (lc 0)), (1, .int (nI j))]) hx hb d_Q_optionAt_26 rfl hl (by decide) rfl (fun ls hl => ?_)
        refine lv_aload_n hx hb d_Q_optionAt_27 rfl (lv_at hl 0 rfl) ?_
        exact kt_a hx hb hr hlocks hw.1 d_Q_optionAt_28 (by exact ⟨j, by rw [hn0]; exact hj, rfl, hs3, rfl, rfl⟩) (by first | decide | (dsimp only; omega)) (by first | decide | (dsimp only; omega))
    · refine va_instNo (C := ndC (q_so s j)) hx hb hown (ht _ gw_393) (by have h4 := (hw.nj hj).2.2; have h5 : q_so s j = 0 ∨ q_so s j = 1 ∨ q_so s j = 2 := (by omega); rcases h5 with h6 | h6 | h6 <;> rw [h6]; exact hw.1.1.2.2.2.2.2.1 ("QuoteGraph$Quote", "QuoteGraph$Option") (by decide); exact hw.1.1.2.2.2.2.2.1 ("QuoteGraph$Blend", "QuoteGraph$Option") (by decide); exact hw.1.1.2.2.2.2.2.1 ("QuoteGraph$Greater", "QuoteGraph$Option") (by decide)) (kr_N hw hj) d_Q_optionAt_16 ?_
      refine lv_if_eq (tgt := 29) hx hb d_Q_optionAt_19 (by decide) (fun c1 => ?_) (fun c1 => ?_)
      · exact kt_throw (own := R_Q) (cls := "java/lang/IllegalArgumentException") (ik := 143) (is := 219) (ic := 147) 4 hl9 hx hb htab hlocks hml hl.1 ht hown hw.1 (by decide) gw_159 gw_51 rfl at_Q_147 d_Q_optionAt_29 d_Q_optionAt_32 d_Q_optionAt_33 d_Q_optionAt_35 d_Q_optionAt_38 (by first | decide | (dsimp only; omega)) (Nat.le_of_ble_eq_true rfl) (by first | decide | (dsimp only; omega)) (by first | decide | (dsimp only; omega)) (by exact ⟨rfl, Or.inr ⟨j, by rw [hn0]; exact hj, rfl, hs3⟩, rfl⟩) (by first | decide | (dsimp only; omega)) (by first | decide | (dsimp only; omega))
      · exact absurd rfl c1
theorem lc_eq {G : GT} {lc : Nat → Nat} {s : QS} {z : ZS} {u : WT} (hR : rQ G lc s z u) {i j : Nat} (hi : i < q_n s) (hj : j < q_n s) (h : lc (8 + i) = lc (8 + j)) : i = j := by have := hR.2.2.1 (8 + i) (8 + j) (liv_n hi) (liv_n hj) h; omega
set_option maxHeartbeats 4000000 in
set_option maxRecDepth 100000 in
theorem c_Q_extraPartAt (l : Launch) (hl9 : l.stackTraces = false) (G : GT) (A : Nat → Prop) (lc : Nat → Nat) (s : QS) (z : ZS) (u : WT) (hR : rQ G lc s z u) (k : Int32) (j : Nat) (hj : j < q_n s) : Kt l y_Q_extraPartAt b_Q_extraPartAt 4 (some (.object "QuoteGraph$Node")) 7 121 1 6 0 0 1 6 G A u [.ref (lc 0), .int k, .ref (lc (8 + j))] (KQ G A (Rq (fun r u' => ∃ o : Option Nat, r = o.map (fun x => lc (8 + x)) ∧ ((o = none ∧ k = -1) ∨ ∃ i, o = some i ∧ k ≠ -1 ∧ i < q_n s ∧ k = nI i ∧ i ≠ j ∧ usesC s i j = false) ∧ u' = u))) (fun E u' => E = "java/lang/IllegalArgumentException" ∧ k ≠ -1 ∧ (isN (q_n s) k = false ∨ ∃ i, i < q_n s ∧ k = nI i ∧ (i = j ∨ usesC s i j = true)) ∧ u' = u) := by
  refine k_of (by decide) (Nat.le_of_ble_eq_true rfl) (fun p e st m below meth c ls hx hb hr hlocks hml htab hname hown ht hw hl => ?_)
  have hl : lv_has ls 4 [(0, .ref (lc 0)), (1, .int k), (2, .ref (lc (8 + j)))] := hl
  obtain ⟨n0, hn0⟩ : ∃ n0, q_n s = n0 := ⟨_, rfl⟩
  have hw : Sk G A lc s z n0 u u st st.heap [] := ⟨hw, hR, fQ.rf, hn0⟩
  refine lv_iload_n hx hb d_Q_extraPartAt_0 rfl (lv_at hl 1 rfl) ?_
  refine lv_iconst (v := (-1)) hx hb d_Q_extraPartAt_1 (by decide) ?_
  refine lv_icmp_ne (tgt := 7) hx hb d_Q_extraPartAt_2 (by decide) (fun c1 => ?_) (fun c1 => ?_)
  · refine lv_aload_n hx hb d_Q_extraPartAt_7 rfl (lv_at hl 0 rfl) ?_
    refine lv_iload_n hx hb d_Q_extraPartAt_8 rfl (lv_at hl 1 rfl) ?_
    refine kc_a (kr_V 1 (C := "QuoteGraph") (As := [.int k]) (rest := []) (c_Q_nodeAt l hl9 G A lc s z u hR k) hx hb hml hown ht hw.1 gw_324 gw_326 gw_3 gw_42 gw_327 ⟨⟨by decide, by decide⟩, by decide +kernel⟩ ⟨by first | decide | (dsimp only; omega), by first | decide | (dsimp only; omega)⟩ (kr_Q hw) rfl hl.1 rfl (lv_room (Nat.le_of_ble_eq_true rfl)) d_Q_extraPartAt_9 ⟨by first | decide | (dsimp only; omega), by first | decide | (dsimp only; omega)⟩) hw.1 (fun E ce q9 u1 H1 locs1 hp hw1 hce hcv hcl => ?_) (fun r2 u2 H2 locs2 hp2 hw2 => ?_)
    · obtain ⟨rfl, hN, rfl⟩ := hp
      exact kt_out htab hlocks hw1 hce hcv hcl ⟨rfl, c1, Or.inl hN, rfl⟩ (by decide) (by decide)
    obtain ⟨i, hi, rfl, er, hq⟩ := hp2; replace hq := hq.symm; subst hq; subst er
    have hw : Sk G A lc s z n0 u u st H2 locs2 := ⟨hw2, hw.2⟩
    refine lv_astore_n (lv' := [(3, .ref (lc (8 + i))), (0, .ref (lc 0)), (1, .int (nI i)), (2, .ref (lc (8 + j)))]) hx hb d_Q_extraPartAt_12 rfl hl (by decide) rfl (fun ls hl => ?_)
    refine lv_aload_n hx hb d_Q_extraPartAt_13 rfl (lv_at hl 0 rfl) ?_
    refine lv_aload_n hx hb d_Q_extraPartAt_14 rfl (lv_at hl 3 rfl) ?_
    refine lv_acmp_eq (rx := some (lc (8 + i))) (ry := some (lc (8 + j))) (tgt := 27) hx hb d_Q_extraPartAt_15 (by decide) (fun c3 => ?_) (fun c3 => ?_)
    · exact kt_throw (own := R_Q) (cls := "java/lang/IllegalArgumentException") (ik := 143) (is := 221) (ic := 147) 5 hl9 hx hb htab hlocks hml hl.1 ht hown hw.1 (by decide) gw_159 gw_51 rfl at_Q_147 d_Q_extraPartAt_27 d_Q_extraPartAt_30 d_Q_extraPartAt_31 d_Q_extraPartAt_33 d_Q_extraPartAt_36 (by first | decide | (dsimp only; omega)) (Nat.le_of_ble_eq_true rfl) (by first | decide | (dsimp only; omega)) (by first | decide | (dsimp only; omega)) (by exact ⟨rfl, c1, Or.inr ⟨i, hi, rfl, Or.inl (lc_eq hR hi hj (Option.some.inj c3))⟩, rfl⟩) (by first | decide | (dsimp only; omega)) (by first | decide | (dsimp only; omega))
    · refine lv_aload_n hx hb d_Q_extraPartAt_18 rfl (lv_at hl 1 rfl) ?_
      refine lv_aload_n hx hb d_Q_extraPartAt_19 rfl (lv_at hl 0 rfl) ?_
      refine lv_aload_n hx hb d_Q_extraPartAt_20 rfl (lv_at hl 3 rfl) ?_
      refine kc_i (kr_V 2 (C := "QuoteGraph") (As := [.ref (lc (8 + i)), .ref (lc (8 + j))]) (rest := []) (c_Q_hangsOn l G A lc s z u hR i j hi hj) hx hb hml hown ht hw.1 gw_474 gw_476 gw_7 gw_42 gw_477 ⟨⟨by decide, by decide⟩, by decide +kernel⟩ ⟨by first | decide | (dsimp only; omega), by first | decide | (dsimp only; omega)⟩ (kr_Q hw) rfl hl.1 rfl (lv_room (Nat.le_of_ble_eq_true rfl)) d_Q_extraPartAt_21 ⟨by first | decide | (dsimp only; omega), by first | decide | (dsimp only; omega)⟩) hw.1 (fun _ _ _ _ _ _ h => h.elim) (fun r4 u4 H4 locs4 hp4 hw4 => ?_)
      obtain ⟨er4, hq4⟩ := hp4
      replace hq4 := hq4.symm; subst hq4
      subst er4
      have hw : Sk G A lc s z n0 u u st H4 locs4 := ⟨hw4, hw.2⟩
      refine lv_if_eq (tgt := 37) hx hb d_Q_extraPartAt_24 (by decide) (fun c5 => ?_) (fun c5 => ?_)
      · refine lv_aload_n hx hb d_Q_extraPartAt_37 rfl (lv_at hl 0 rfl) ?_
        exact kt_q (v := some _) hx hb hr hlocks hw.1 d_Q_extraPartAt_38 (by exact ⟨some i, rfl, Or.inr ⟨i, rfl, c1, hi, rfl, fun h => c3 (by rw [h]), (bI_eq _).mp c5⟩, rfl⟩) (by first | decide | (dsimp only; omega)) (by first | decide | (dsimp only; omega))
      · exact kt_throw (own := R_Q) (cls := "java/lang/IllegalArgumentException") (ik := 143) (is := 221) (ic := 147) 5 hl9 hx hb htab hlocks hml hl.1 ht hown hw.1 (by decide) gw_159 gw_51 rfl at_Q_147 d_Q_extraPartAt_27 d_Q_extraPartAt_30 d_Q_extraPartAt_31 d_Q_extraPartAt_33 d_Q_extraPartAt_36 (by first | decide | (dsimp only; omega)) (Nat.le_of_ble_eq_true rfl) (by first | decide | (dsimp only; omega)) (by first | decide | (dsimp only; omega)) (by exact ⟨rfl, c1, Or.inr ⟨i, hi, rfl, Or.inr ((bI_ne _).mp c5)⟩, rfl⟩) (by first | decide | (dsimp only; omega)) (by first | decide | (dsimp only; omega))
  · refine lv_null hx hb d_Q_extraPartAt_5 ?_
    exact kt_q (v := none) hx hb hr hlocks hw.1 d_Q_extraPartAt_6 (by exact ⟨none, rfl, Or.inl ⟨rfl, c1⟩, rfl⟩) (by first | decide | (dsimp only; omega)) (by first | decide | (dsimp only; omega))

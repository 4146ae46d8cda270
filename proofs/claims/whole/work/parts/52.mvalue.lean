/-! 52.mvalue: contracts of value, bump -/
theorem dc0 : FP.dconst0 = 0 := rfl
theorem qFl_eq (s : QS) : qS_fl s (q_fl s + 1) = qFl s := rfl
/-- quotes' amounts -/
def bq (s : QS) : Prop := ∀ j, j < q_n s → q_so s j = 0 → (q_am s j).toInt.natAbs ≤ 102400000
theorem bq_W (s : QS) (j : Nat) (h : bq s) : bq (askW s j).2 := by
  by_cases h0 : (wkA s j).1 = 0
  · rw [askW_0 h0]
    show bq (awQ s j (wkA s j).2)
    intro i hi h2
    rw [aw_n] at hi
    rw [aw_so] at h2
    rw [aw_am]
    by_cases hij : i = j
    · subst hij
      rw [va_up_self]
      have e : wkV s i = (0, q_am s i) := by unfold wkV; rw [if_pos h2]
      have e2 : (wkA s i).2 = q_am s i := by
        unfold wkA at h0 ⊢
        rw [e] at h0 ⊢
        rw [if_pos rfl] at h0 ⊢
        by_cases hb : bigL (q_am s i) = true
        · rw [if_pos hb] at h0; exact absurd h0 (by decide : (2 : Nat) ≠ 0)
        · rw [if_neg hb]
      rw [e2]; exact h i hi h2
    · rw [va_up_ne _ _ hij]; exact h i hi h2
  · rw [askW_x h0]; exact h
theorem us_q {s : QS} (ho : okQ s) {a y : Nat} (ha : a < q_n s) (hy : y < q_n s) (h0 : q_so s a = 0) : usesC s a y = false := by
  rcases h : usesC s a y with _ | _
  · rfl
  · exact ((usesC_lst ho ha hy).mp h (fun _ => False) (fun y ⟨k, _, e⟩ => by rw [(ho.2 a ha).2.2.1 h0 k] at e; cases e) (fun _ _ _ h _ => h)).elim
def rsQ (S B : QS) (k : Nat) : QS := qS_va (qS_am B (fun i => if i < k then q_am S i else q_am B i)) (fun i => if i < k then q_va S i else q_va B i)
theorem va_am2 (B : QS) (f f' : Nat → Int64) (g g' : Nat → Bool) : qS_va (qS_am (qS_va (qS_am B f) g) f') g' = qS_va (qS_am B f') g' := by simp only [qS_va, qS_am]
theorem va_am_a (B : QS) (f : Nat → Int64) (g : Nat → Bool) : q_am (qS_va (qS_am B f) g) = f := by simp only [qS_va, qS_am, q_am]
theorem va_am_v (B : QS) (f f' : Nat → Int64) (g : Nat → Bool) : q_va (qS_am (qS_va (qS_am B f) g) f') = g := by simp only [qS_va, qS_am, q_va]
theorem va_am_n (B : QS) (f : Nat → Int64) (g : Nat → Bool) : q_n (qS_va (qS_am B f) g) = q_n B := by simp only [qS_va, qS_am, q_n]
theorem if_up {α : Type} (a b : Nat → α) (k : Nat) : va_up (fun i => if i < k then a i else b i) k (a k) = fun i => if i < k + 1 then a i else b i := funext fun i => by
  by_cases h : i = k
  · subst h; rw [va_up_self, if_pos (by omega)]
  · rw [va_up_ne _ _ h]
    by_cases h2 : i < k
    · rw [if_pos h2, if_pos (by omega)]
    · rw [if_neg h2, if_neg (by omega)]
theorem rsQ_0 (S B : QS) : rsQ S B 0 = B := by
  unfold rsQ
  rw [show (fun i => if i < 0 then q_am S i else q_am B i) = q_am B from funext fun i => if_neg (by omega), show (fun i => if i < 0 then q_va S i else q_va B i) = q_va B from funext fun i => if_neg (by omega)]
  simp only [qS_va, qS_am, q_va, q_am]
theorem rsQ_s (S B : QS) (k : Nat) : qS_va (qS_am (rsQ S B k) (va_up (q_am (rsQ S B k)) k (q_am S k))) (va_up (q_va (qS_am (rsQ S B k) (va_up (q_am (rsQ S B k)) k (q_am S k)))) k (q_va S k)) = rsQ S B (k + 1) := by
  unfold rsQ
  rw [va_am_v, va_am_a, va_am2, if_up, if_up]
theorem rsQ_n (S B : QS) (k : Nat) : q_n (rsQ S B k) = q_n B := va_am_n _ _ _
theorem rsQ_e (S B : QS) : rsQ S B (q_n S) = bmR S B := rfl
theorem St_s (j : Nat) (s : QS) (k : Nat) : qSt j s (k + 1) = if q_fr (qSt j s k) k = true then qSt j s k else if usesC (qSt j s k) k j = true then qS_va (qSt j s k) (va_up (q_va (qSt j s k)) k false) else qSt j s k := rfl
theorem va_only_so (s : QS) (f : Nat → Bool) : q_so (qS_va s f) = q_so s := by simp only [qS_va, q_so]
theorem va_only_am (s : QS) (f : Nat → Bool) : q_am (qS_va s f) = q_am s := by simp only [qS_va, q_am]
theorem va_only_va (s : QS) (f : Nat → Bool) : q_va (qS_va s f) = f := by simp only [qS_va, q_va]
theorem va_only_n (s : QS) (f : Nat → Bool) : q_n (qS_va s f) = q_n s := by simp only [qS_va, q_n]
theorem qv_St {j : Nat} {s : QS} (hq : qv s) (ho : okQ s) (hj : j < q_n s) : ∀ k, k ≤ q_n s → qv (qSt j s k)
  | 0, _ => hq
  | k + 1, hk => by
    have ih := qv_St hq ho hj k (by omega)
    have hK := qSt_K j s k
    rw [St_s]
    split
    · exact ih
    · split
      · rename_i h1 h2
        intro i hi h0
        rw [va_only_n] at hi
        rw [va_only_so] at h0
        rw [va_only_va]
        by_cases hik : i = k
        · subst hik
          rw [us_q (ak_ok hK ho) (by rw [hK.1]; omega) (by rw [hK.1]; exact hj) h0] at h2; cases h2
        · rw [va_up_ne _ _ hik]; exact ih i hi h0
      · exact ih
theorem am_St (j : Nat) (s : QS) : ∀ k, q_am (qSt j s k) = q_am s
  | 0 => rfl
  | k + 1 => by
    rw [St_s]
    split
    · exact am_St j s k
    · split
      · rw [va_only_am]; exact am_St j s k
      · exact am_St j s k
theorem ak_bnd {s s' : QS} (h : akK s s') (ha : ∀ i, i < q_n s → (q_am s' i).toInt.natAbs ≤ 1024000000) (hb : bnd s) : bnd s' := by
  obtain ⟨a1, a2, a3, a4, a5, a6, a7, a8, a9, a10, a11, a12, a13, a14, a15⟩ := h
  intro i hi
  rw [a1] at hi
  obtain ⟨-, h2, h3, h4⟩ := hb i hi
  rw [a6, a7, a2, a10]
  exact ⟨ha i hi, h2, h3, h4⟩
theorem m128_b {i : Int32} (h : inE i 1000 = true) : (128 * i.toInt64).toInt.natAbs ≤ 1024000 := by
  unfold inE at h
  rw [Bool.and_eq_true, decide_eq_true_eq, decide_eq_true_eq] at h
  have h9 := Int32.toInt_toInt64 i
  rw [m128]; omega
/-- the state in which bump asks a second time -/
theorem aI_bm {r : Nat → Nat} {s : QS} (hI : aI r s) (hb : bq s) {q : Nat} (hq : q < q_n s) (h0 : q_so s q = 0) {m : Int64} (hm : m.toInt.natAbs ≤ 1024000) : aI r (bmA s q m) := by
  have hK := bmA_K s q m
  refine ⟨ak_ok hK hI.1, ak_rkd hK hI.2.1, ak_all hK hI.2.2.1, ak_bnd hK (fun i hi => ?_) hI.2.2.2.1, ?_⟩
  · unfold bmA
    rw [am_St]
    have e : q_am (qS_am s (va_up (q_am s) q (q_am s q + m))) = va_up (q_am s) q (q_am s q + m) := by simp only [qS_am, q_am]
    rw [e]
    by_cases hiq : i = q
    · subst hiq
      have h2 := hb i hi h0
      rw [va_up_self, l_add (by omega) (by omega)]; omega
    · rw [va_up_ne _ _ hiq]; exact (hI.2.2.2.1 i hi).1
  · unfold bmA
    exact qv_St (s := qS_am s (va_up (q_am s) q (q_am s q + m))) hI.2.2.2.2 hI.1 hq (q_n s) (Nat.le_refl _)
set_option maxHeartbeats 4000000 in
set_option maxRecDepth 100000 in
theorem c_M_value (l : Launch) (G : GT) (A : Nat → Prop) (lm : Nat → Nat) (s : QS) (m : MS) (u : WT) (hR : rM G lm s m u) (rk : Nat → Nat) (hI : aI rk s) (hr17 : ∀ j, j < q_n s → rk j < 17) (k : Int32) : Kt l y_M_value b_M_value 2 (some .double) 6 151 0 0 0 0 0 0 G A u [.ref (lm 0), .int k] (KQ G A (Rd (fun r u' => r = (pValue s k).2.1 ∧ ∃ m', m_th m' = nI (pValue s k).1 ∧ rM G lm (pValue s k).2.2 m' u' ∧ fM lm u u'))) (NX) := by
  refine k_of (by decide) (Nat.le_of_ble_eq_true rfl) (fun p e st mt below meth c ls hx hb hr hlocks hml htab hname hown ht hw hl => ?_)
  have hl : lv_has ls 2 [(0, .ref (lm 0)), (1, .int k)] := hl
  have hw : Mk G A lm s m u u st st.heap [] := ⟨hw, hR, fM.rf⟩
  refine lv_aload_n hx hb d_M_value_0 rfl (lv_at hl 0 rfl) ?_
  refine lv_aload_n hx hb d_M_value_1 rfl (lv_at hl 0 rfl) ?_
  refine lv_iload_n hx hb d_M_value_2 rfl (lv_at hl 1 rfl) ?_
  refine kc_i (kr_V 1 (C := "QuoteGraphModel") (As := [.int k]) (rest := [.ref (lm 0)]) (c_M_no l G A lm s m u hR k) hx hb hml hown ht hw.1 gw_919 gw_921 gw_25 gw_47 gw_922 ⟨⟨by decide, by decide⟩, by decide +kernel⟩ ⟨by first | decide | (dsimp only; omega), by first | decide | (dsimp only; omega)⟩ (kr_M hw) rfl hl.1 rfl (lv_room (Nat.le_of_ble_eq_true rfl)) d_M_value_3 ⟨by first | decide | (dsimp only; omega), by first | decide | (dsimp only; omega)⟩) hw.1 (fun _ _ _ _ _ _ h => h.elim) (fun r1 u1 H1 locs1 hp1 hw1 => ?_)
  obtain ⟨er1, hq1⟩ := hp1
  replace hq1 := hq1.symm; subst hq1
  subst er1
  have hw : Mk G A lm s m u u st H1 locs1 := ⟨hw1, hw.2⟩
  refine lv_if_eq (tgt := 13) hx hb d_M_value_6 (by decide) (fun c2 => ?_) (fun c2 => ?_)
  · have hNj : isN (q_n s) k = true := by have h := (bI_eq _).mp c2; rcases h2 : isN (q_n s) k with _ | _; (rw [h2] at h; cases h); rfl
    obtain ⟨j, hj, rfl⟩ := isN_t hNj hR.2.2.2
    refine lv_iconst (v := 0) hx hb d_M_value_13 (by decide) ?_
    refine mp_thrown (0 : Int32) hx hb ht hown hw gw_822 d_M_value_14 (fun H3 locs3 u3 hw => ?_)
    refine lv_aload_n hx hb d_M_value_17 rfl (lv_at hl 0 rfl) ?_
    refine mg 25 (by decide) hx hb ht hown hw gw_822 rfl rfl d_M_value_18 ?_
    refine lv_if_eq (tgt := 26) hx hb d_M_value_21 (by decide) (fun c9 => ?_) (fun c9 => ?_)
    · refine lv_aload_n hx hb d_M_value_26 rfl (lv_at hl 0 rfl) ?_
      refine lv_iload_n hx hb d_M_value_27 rfl (lv_at hl 1 rfl) ?_
      refine kc_i (kr_V 1 (C := "QuoteGraphModel") (As := [.int (nI j)]) (rest := []) (c_M_ask l G A lm s (mS_th m (0 : Int32)) u3 hw.2.1 rk hI hr17 j hj) hx hb hml hown ht hw.1 gw_968 gw_970 gw_31 gw_47 gw_971 ⟨⟨by decide, by decide⟩, by decide +kernel⟩ ⟨by first | decide | (dsimp only; omega), by first | decide | (dsimp only; omega)⟩ (kr_M hw) rfl hl.1 rfl (lv_room (Nat.le_of_ble_eq_true rfl)) d_M_value_28 ⟨by first | decide | (dsimp only; omega), by first | decide | (dsimp only; omega)⟩) hw.1 (fun _ _ _ _ _ _ h => h.elim) (fun r4 u4 H4 locs4 hp4 hw4 => ?_)
      obtain ⟨er4, m8, tr8, to8, tv8, tt8, g1, g2⟩ := hp4; subst er4
      have hw : Mk G A lm (askF 17 s j).2 m8 u u4 st H4 locs4 := ⟨hw4, g1, hw.2.2.tr g2⟩
      refine lv_if_eq (tgt := 46) hx hb d_M_value_31 (by decide) (fun c5 => ?_) (fun c5 => ?_)
      · have h0 : (askF 17 s j).1 ≠ 0 := of_decide_eq_false ((bI_eq _).mp c5)
        refine lv_aload_n hx hb d_M_value_46 rfl (lv_at hl 0 rfl) ?_
        refine lv_aload_n hx hb d_M_value_47 rfl (lv_at hl 0 rfl) ?_
        refine mg 26 (by decide) hx hb ht hown hw gw_823 rfl rfl d_M_value_48 ?_
        refine mp_thrown (m_tr m8) hx hb ht hown hw gw_822 d_M_value_51 (fun H6 locs6 u6 hw => ?_)
        refine lv_aload_n hx hb d_M_value_54 rfl (lv_at hl 0 rfl) ?_
        refine lv_dup hx hb d_M_value_55 rfl ?_
        refine mg 24 (by decide) hx hb ht hown hw gw_821 rfl rfl d_M_value_56 ?_
        refine lv_iconst (v := 1) hx hb d_M_value_59 (by decide) ?_
        refine lv_iadd hx hb d_M_value_60 ?_
        refine mp_troubles ((q_fl (askF 17 s j).2) + (1 : Int32)) hx hb ht hown hw gw_821 d_M_value_61 (fun H7 locs7 u7 hw => ?_)
        refine lv_dconst0 hx hb d_M_value_64 ?_
        exact kt_d hx hb hr hlocks hw.1 d_M_value_65 (by unfold pValue; rw [wN_t hj hR.2.2.2, if_neg h0]; exact ⟨dc0, (mS_th m8 (m_tr m8)), tr8, hw.2.1, hw.2.2⟩) (by first | decide | (dsimp only; omega)) (by first | decide | (dsimp only; omega))
      · have h0 : (askF 17 s j).1 = 0 := of_decide_eq_true ((bI_ne _).mp c5)
        refine lv_aload_n hx hb d_M_value_34 rfl (lv_at hl 0 rfl) ?_
        refine mg 2 (by decide) hx hb ht hown hw gw_799 rfl rfl d_M_value_35 ?_
        refine lv_iload_n hx hb d_M_value_38 rfl (lv_at hl 1 rfl) ?_
        refine ma_held (j := j) rfl (by have := hR.2.2.2; omega) hx hb hw d_M_value_39 ?_
        refine lv_l2d hx hb d_M_value_40 ?_
        refine lv_ldc2d (v := 4652218415073722368) hx hb hown (ht _ gw_914) d_M_value_41 ?_
        refine lv_ddiv hx hb d_M_value_44 (num_n _) ?_
        exact kt_d hx hb hr hlocks hw.1 d_M_value_45 (by unfold pValue; rw [wN_t hj hR.2.2.2,  if_pos h0]; exact ⟨rfl, m8, tt8.trans rfl, hw.2.1, hw.2.2⟩) (by first | decide | (dsimp only; omega)) (by first | decide | (dsimp only; omega))
    · exact absurd rfl c9
  · have hN : isN (q_n s) k = false := by have h := (bI_ne _).mp c2; rcases h2 : isN (q_n s) k with _ | _; rfl; rw [h2] at h; cases h
    refine lv_iconst (v := 1) hx hb d_M_value_9 (by decide) ?_
    refine lv_goto (tgt := 14) hx hb d_M_value_10 (by decide) ?_
    refine mp_thrown (1 : Int32) hx hb ht hown hw gw_822 d_M_value_14 (fun H8 locs8 u8 hw => ?_)
    refine lv_aload_n hx hb d_M_value_17 rfl (lv_at hl 0 rfl) ?_
    refine mg 25 (by decide) hx hb ht hown hw gw_822 rfl rfl d_M_value_18 ?_
    refine lv_if_eq (tgt := 26) hx hb d_M_value_21 (by decide) (fun c9 => ?_) (fun c9 => ?_)
    · exact absurd (show (1 : Int32) = 0 from c9) (by decide)
    · refine lv_dconst0 hx hb d_M_value_24 ?_
      exact kt_d hx hb hr hlocks hw.1 d_M_value_25 (by unfold pValue; rw [wN_f hN]; exact ⟨dc0, _, rfl, hw.2.1, hw.2.2⟩) (by first | decide | (dsimp only; omega)) (by first | decide | (dsimp only; omega))
set_option maxHeartbeats 4000000 in
set_option maxRecDepth 100000 in
theorem c_M_bump (l : Launch) (G : GT) (A : Nat → Prop) (lm : Nat → Nat) (s : QS) (m : MS) (u : WT) (hR : rM G lm s m u) (rk : Nat → Nat) (hI : aI rk s) (hr17 : ∀ j, j < q_n s → rk j < 17) (hbq : bq s) (k q : Int32) (i : Int32) : Kt l y_M_bump b_M_bump 11 (some .double) 6 151 0 0 0 0 0 0 G A u [.ref (lm 0), .int k, .int q, .double (e8 i)] (KQ G A (Rd (fun r u' => r = (pBump s k q i).2.1 ∧ ∃ m', m_th m' = nI (pBump s k q i).1 ∧ rM G lm (pBump s k q i).2.2 m' u' ∧ fM lm u u'))) (NX) := by
  refine k_of (by decide) (Nat.le_of_ble_eq_true rfl) (fun p e st mt below meth c ls hx hb hr hlocks hml htab hname hown ht hw hl => ?_)
  have hl : lv_has ls 11 [(0, .ref (lm 0)), (1, .int k), (2, .int q), (3, .double (e8 i))] := hl
  have hw : Mk G A lm s m u u st st.heap [] := ⟨hw, hR, fM.rf⟩
  refine lv_aload_n hx hb d_M_bump_0 rfl (lv_at hl 0 rfl) ?_
  refine lv_aload_n hx hb d_M_bump_1 rfl (lv_at hl 0 rfl) ?_
  refine lv_iload_n hx hb d_M_bump_2 rfl (lv_at hl 1 rfl) ?_
  refine kc_i (kr_V 1 (C := "QuoteGraphModel") (As := [.int k]) (rest := [.ref (lm 0)]) (c_M_no l G A lm s m u hR k) hx hb hml hown ht hw.1 gw_919 gw_921 gw_25 gw_47 gw_922 ⟨⟨by decide, by decide⟩, by decide +kernel⟩ ⟨by first | decide | (dsimp only; omega), by first | decide | (dsimp only; omega)⟩ (kr_M hw) rfl hl.1 rfl (lv_room (Nat.le_of_ble_eq_true rfl)) d_M_bump_3 ⟨by first | decide | (dsimp only; omega), by first | decide | (dsimp only; omega)⟩) hw.1 (fun _ _ _ _ _ _ h => h.elim) (fun r1 u1 H1 locs1 hp1 hw1 => ?_)
  obtain ⟨er1, hq1⟩ := hp1
  replace hq1 := hq1.symm; subst hq1
  subst er1
  have hw : Mk G A lm s m u u st H1 locs1 := ⟨hw1, hw.2⟩
  refine lv_if_ne (tgt := 37) hx hb d_M_bump_6 (by decide) (fun c2 => ?_) (fun c2 => ?_)
  · have hN : isN (q_n s) k = false := by have h := (bI_ne _).mp c2; rcases h2 : isN (q_n s) k with _ | _; rfl; rw [h2] at h; cases h
    refine lv_iconst (v := 1) hx hb d_M_bump_37 (by decide) ?_
    refine lv_goto (tgt := 42) hx hb d_M_bump_38 (by decide) ?_
    refine mp_thrown (1 : Int32) hx hb ht hown hw gw_822 d_M_bump_42 (fun H3 locs3 u3 hw => ?_)
    refine lv_aload_n hx hb d_M_bump_45 rfl (lv_at hl 0 rfl) ?_
    refine mg 25 (by decide) hx hb ht hown hw gw_822 rfl rfl d_M_bump_46 ?_
    refine lv_if_eq (tgt := 54) hx hb d_M_bump_49 (by decide) (fun c9 => ?_) (fun c9 => ?_)
    · exact absurd (show (1 : Int32) = 0 from c9) (by decide)
    · refine lv_dconst0 hx hb d_M_bump_52 ?_
      exact kt_d hx hb hr hlocks hw.1 d_M_bump_53 (by unfold pBump; rw [wN_f hN]; exact ⟨dc0, _, rfl, hw.2.1, hw.2.2⟩) (by first | decide | (dsimp only; omega)) (by first | decide | (dsimp only; omega))
  · have hNj : isN (q_n s) k = true := by have h := (bI_eq _).mp c2; rcases h2 : isN (q_n s) k with _ | _; (rw [h2] at h; cases h); rfl
    obtain ⟨j, hj, rfl⟩ := isN_t hNj hR.2.2.2
    refine lv_aload_n hx hb d_M_bump_9 rfl (lv_at hl 0 rfl) ?_
    refine lv_iload_n hx hb d_M_bump_10 rfl (lv_at hl 2 rfl) ?_
    refine kc_i (kr_V 1 (C := "QuoteGraphModel") (As := [.int q]) (rest := [.ref (lm 0)]) (c_M_no l G A lm s m u hR q) hx hb hml hown ht hw.1 gw_919 gw_921 gw_25 gw_47 gw_922 ⟨⟨by decide, by decide⟩, by decide +kernel⟩ ⟨by first | decide | (dsimp only; omega), by first | decide | (dsimp only; omega)⟩ (kr_M hw) rfl hl.1 rfl (lv_room (Nat.le_of_ble_eq_true rfl)) d_M_bump_11 ⟨by first | decide | (dsimp only; omega), by first | decide | (dsimp only; omega)⟩) hw.1 (fun _ _ _ _ _ _ h => h.elim) (fun r4 u4 H4 locs4 hp4 hw4 => ?_)
    obtain ⟨er4, hq4⟩ := hp4
    replace hq4 := hq4.symm; subst hq4
    subst er4
    have hw : Mk G A lm s m u u st H4 locs4 := ⟨hw4, hw.2⟩
    refine lv_if_ne (tgt := 37) hx hb d_M_bump_14 (by decide) (fun c5 => ?_) (fun c5 => ?_)
    · have hN : isN (q_n s) q = false := by have h := (bI_ne _).mp c5; rcases h2 : isN (q_n s) q with _ | _; rfl; rw [h2] at h; cases h
      refine lv_iconst (v := 1) hx hb d_M_bump_37 (by decide) ?_
      refine lv_goto (tgt := 42) hx hb d_M_bump_38 (by decide) ?_
      refine mp_thrown (1 : Int32) hx hb ht hown hw gw_822 d_M_bump_42 (fun H6 locs6 u6 hw => ?_)
      refine lv_aload_n hx hb d_M_bump_45 rfl (lv_at hl 0 rfl) ?_
      refine mg 25 (by decide) hx hb ht hown hw gw_822 rfl rfl d_M_bump_46 ?_
      refine lv_if_eq (tgt := 54) hx hb d_M_bump_49 (by decide) (fun c9 => ?_) (fun c9 => ?_)
      · exact absurd (show (1 : Int32) = 0 from c9) (by decide)
      · refine lv_dconst0 hx hb d_M_bump_52 ?_
        exact kt_d hx hb hr hlocks hw.1 d_M_bump_53 (by unfold pBump; rw [wN_t hj hR.2.2.2, wN_f hN]; exact ⟨dc0, _, rfl, hw.2.1, hw.2.2⟩) (by first | decide | (dsimp only; omega)) (by first | decide | (dsimp only; omega))
    · have hNh : isN (q_n s) q = true := by have h := (bI_eq _).mp c5; rcases h2 : isN (q_n s) q with _ | _; (rw [h2] at h; cases h); rfl
      obtain ⟨h, hh, rfl⟩ := isN_t hNh hR.2.2.2
      refine lv_aload_n hx hb d_M_bump_17 rfl (lv_at hl 0 rfl) ?_
      refine mg 0 (by decide) hx hb ht hown hw gw_797 rfl rfl d_M_bump_18 ?_
      refine lv_iload_n hx hb d_M_bump_21 rfl (lv_at hl 2 rfl) ?_
      refine ma_sort (j := h) rfl (by have := hR.2.2.2; omega) hx hb hw d_M_bump_22 ?_
      refine lv_if_ne (tgt := 37) hx hb d_M_bump_23 (by decide) (fun c7 => ?_) (fun c7 => ?_)
      · have h0 : q_so s h ≠ 0 := fun e => c7 (by rw [e]; rfl)
        refine lv_iconst (v := 1) hx hb d_M_bump_37 (by decide) ?_
        refine lv_goto (tgt := 42) hx hb d_M_bump_38 (by decide) ?_
        refine mp_thrown (1 : Int32) hx hb ht hown hw gw_822 d_M_bump_42 (fun H8 locs8 u8 hw => ?_)
        refine lv_aload_n hx hb d_M_bump_45 rfl (lv_at hl 0 rfl) ?_
        refine mg 25 (by decide) hx hb ht hown hw gw_822 rfl rfl d_M_bump_46 ?_
        refine lv_if_eq (tgt := 54) hx hb d_M_bump_49 (by decide) (fun c9 => ?_) (fun c9 => ?_)
        · exact absurd (show (1 : Int32) = 0 from c9) (by decide)
        · refine lv_dconst0 hx hb d_M_bump_52 ?_
          exact kt_d hx hb hr hlocks hw.1 d_M_bump_53 (by unfold pBump; rw [wN_t hj hR.2.2.2, wN_t hh hR.2.2.2, if_pos h0]; exact ⟨dc0, _, rfl, hw.2.1, hw.2.2⟩) (by first | decide | (dsimp only; omega)) (by first | decide | (dsimp only; omega))
      · have h0 : q_so s h = 0 := nI_inj9 (b := 0) c7 (by have := (hI.1.2 h hh).1; omega)
        refine lv_aload_n hx hb d_M_bump_26 rfl (lv_at hl 0 rfl) ?_
        refine lv_dload_n hx hb d_M_bump_27 rfl (lv_at hl 3 rfl) ?_
        refine lv_ldc2d (v := 4652007308841189376) hx hb hown (ht _ gw_1031) d_M_bump_28 ?_
        refine kc_i (kr_V 2 (C := "QuoteGraphModel") (As := [.double (e8 i), .double (4652007308841189376 : UInt64)]) (rest := [.ref (lm 0)]) (c_M_far l G A u (lm 0) i 1000 4652007308841189376 (by decide +kernel) (by decide +kernel) (by decide) (by decide)) hx hb hml hown ht hw.1 gw_905 gw_907 gw_23 gw_47 gw_908 ⟨⟨by decide, by decide⟩, by decide +kernel⟩ ⟨by first | decide | (dsimp only; omega), by first | decide | (dsimp only; omega)⟩ (kr_M hw) rfl hl.1 rfl (lv_room (Nat.le_of_ble_eq_true rfl)) d_M_bump_31 ⟨by first | decide | (dsimp only; omega), by first | decide | (dsimp only; omega)⟩) hw.1 (fun _ _ _ _ _ _ h => h.elim) (fun r9 u9 H9 locs9 hp9 hw9 => ?_)
        replace hp9 : _ = bI (!inE i 1000) ∧ _ := hp9
        obtain ⟨er9, hq9⟩ := hp9
        replace hq9 := hq9.symm; subst hq9
        subst er9
        have hw : Mk G A lm s m u u st H9 locs9 := ⟨hw9, hw.2⟩
        refine lv_if_eq (tgt := 41) hx hb d_M_bump_34 (by decide) (fun c10 => ?_) (fun c10 => ?_)
        · have hEi : inE i 1000 = true := by have h := (bI_eq _).mp c10; rcases h2 : inE i 1000 with _ | _; (rw [h2] at h; cases h); rfl
          refine lv_iconst (v := 0) hx hb d_M_bump_41 (by decide) ?_
          refine mp_thrown (0 : Int32) hx hb ht hown hw gw_822 d_M_bump_42 (fun H11 locs11 u11 hw => ?_)
          refine lv_aload_n hx hb d_M_bump_45 rfl (lv_at hl 0 rfl) ?_
          refine mg 25 (by decide) hx hb ht hown hw gw_822 rfl rfl d_M_bump_46 ?_
          refine lv_if_eq (tgt := 54) hx hb d_M_bump_49 (by decide) (fun c9 => ?_) (fun c9 => ?_)
          · refine lv_aload_n hx hb d_M_bump_54 rfl (lv_at hl 0 rfl) ?_
            refine lv_iload_n hx hb d_M_bump_55 rfl (lv_at hl 1 rfl) ?_
            refine kc_i (kr_V 1 (C := "QuoteGraphModel") (As := [.int (nI j)]) (rest := []) (c_M_ask l G A lm s (mS_th m (0 : Int32)) u11 hw.2.1 rk hI hr17 j hj) hx hb hml hown ht hw.1 gw_968 gw_970 gw_31 gw_47 gw_971 ⟨⟨by decide, by decide⟩, by decide +kernel⟩ ⟨by first | decide | (dsimp only; omega), by first | decide | (dsimp only; omega)⟩ (kr_M hw) rfl hl.1 rfl (lv_room (Nat.le_of_ble_eq_true rfl)) d_M_bump_56 ⟨by first | decide | (dsimp only; omega), by first | decide | (dsimp only; omega)⟩) hw.1 (fun _ _ _ _ _ _ h => h.elim) (fun r12 u12 H12 locs12 hp12 hw12 => ?_)
            obtain ⟨er12, m8, tr8, to8, tv8, tt8, g1, g2⟩ := hp12; subst er12
            have hw : Mk G A lm (askF 17 s j).2 m8 u u12 st H12 locs12 := ⟨hw12, g1, hw.2.2.tr g2⟩
            have hK1 : akK s (askF 17 s j).2 := askF_K 17 s j
            have hI1 : aI rk (askF 17 s j).2 := hI.F 17 j
            have hN1 : q_n (askF 17 s j).2 = q_n s := hK1.1
            have h16 := hR.2.2.2
            obtain ⟨S1, eS1⟩ : ∃ S1, S1 = (askF 17 s j).2 := ⟨_, rfl⟩
            rw [← eS1] at hw hK1 hI1 hN1
            have hj1 : j < q_n S1 := by rw [hN1]; exact hj
            have hh1 : h < q_n S1 := by rw [hN1]; exact hh
            refine lv_istore (lv' := [(5, .int (bI (decide ((askF 17 s j).1 = 0)))), (0, .ref (lm 0)), (1, .int (nI j)), (2, .int (nI h)), (3, .double (e8 i))]) hx hb d_M_bump_59 hl (by decide) rfl (fun ls hl => ?_)
            refine lv_aload_n hx hb d_M_bump_61 rfl (lv_at hl 1 rfl) ?_
            refine mg 2 (by decide) hx hb ht hown hw gw_799 rfl rfl d_M_bump_62 ?_
            refine lv_iload_n hx hb d_M_bump_65 rfl (lv_at hl 2 rfl) ?_
            refine ma_held (j := j) rfl (by omega) hx hb hw d_M_bump_66 ?_
            refine lv_lstore (lv' := [(6, .long (q_am S1 j)), (5, .int (bI (decide ((askF 17 s j).1 = 0)))), (0, .ref (lm 0)), (1, .int (nI j)), (2, .int (nI h)), (3, .double (e8 i))]) hx hb d_M_bump_67 hl (by decide) rfl (fun ls hl => ?_)
            refine lv_lconst (v := 0) hx hb d_M_bump_69 (by decide) ?_
            refine lv_lstore (lv' := [(8, .long (0 : Int64)), (6, .long (q_am S1 j)), (5, .int (bI (decide ((askF 17 s j).1 = 0)))), (0, .ref (lm 0)), (1, .int (nI j)), (2, .int (nI h)), (3, .double (e8 i))]) hx hb d_M_bump_70 hl (by decide) rfl (fun ls hl => ?_)
            refine lv_iload hx hb d_M_bump_72 (lv_at hl 2 rfl) ?_
            refine lv_if_eq (tgt := 255) hx hb d_M_bump_74 (by decide) (fun c13 => ?_) (fun c13 => ?_)
            · have hf : (askF 17 s j).1 ≠ 0 := of_decide_eq_false ((bI_eq _).mp c13)
              refine lv_iload hx hb d_M_bump_255 (lv_at hl 2 rfl) ?_
              refine lv_if_eq (tgt := 271) hx hb d_M_bump_257 (by decide) (fun c9 => ?_) (fun c9 => ?_)
              · refine lv_aload_n hx hb d_M_bump_271 rfl (lv_at hl 3 rfl) ?_
                refine lv_aload_n hx hb d_M_bump_272 rfl (lv_at hl 3 rfl) ?_
                refine mg 26 (by decide) hx hb ht hown hw gw_823 rfl rfl d_M_bump_273 ?_
                refine mp_thrown (m_tr m8) hx hb ht hown hw gw_822 d_M_bump_276 (fun H14 locs14 u14 hw => ?_)
                refine lv_aload_n hx hb d_M_bump_279 rfl (lv_at hl 3 rfl) ?_
                refine lv_dup hx hb d_M_bump_280 rfl ?_
                refine mg 24 (by decide) hx hb ht hown hw gw_821 rfl rfl d_M_bump_281 ?_
                refine lv_iconst (v := 1) hx hb d_M_bump_284 (by decide) ?_
                refine lv_iadd hx hb d_M_bump_285 ?_
                refine mp_troubles ((q_fl S1) + (1 : Int32)) hx hb ht hown hw gw_821 d_M_bump_286 (fun H15 locs15 u15 hw => ?_)
                refine lv_dconst0 hx hb d_M_bump_289 ?_
                exact kt_d hx hb hr hlocks hw.1 d_M_bump_290 (by unfold pBump; rw [wN_t hj hR.2.2.2, wN_t hh hR.2.2.2, if_neg (fun e => e h0), if_neg (by rw [hEi]; decide), if_neg hf, ← eS1]; exact ⟨dc0, (mS_th m8 (m_tr m8)), tr8, hw.2.1, hw.2.2⟩) (by first | decide | (dsimp only; omega)) (by first | decide | (dsimp only; omega))
              · exact absurd c13 c9
            · have hf : (askF 17 s j).1 = 0 := of_decide_eq_true ((bI_ne _).mp c13)
              refine lv_iconst (v := 0) hx hb d_M_bump_77 (by decide) ?_
              refine lv_istore (lv' := [(10, .int (0 : Int32)), (8, .long (0 : Int64)), (6, .long (q_am S1 j)), (5, .int (bI (decide ((askF 17 s j).1 = 0)))), (0, .ref (lm 0)), (1, .int (nI j)), (2, .int (nI h)), (3, .double (e8 i))]) hx hb d_M_bump_78 hl (by decide) rfl (fun ls hl => ?_)
              refine k_cntH (q_n S1) (fun tk ls H locs => ∃ (oh9 : Nat → Int64) (ov9 : Nat → Bool), lv_has ls 11 [(0, .ref (lm 0)), (1, .int (nI j)), (2, .int (nI h)), (3, .double (e8 i)), (6, .long (q_am S1 j)), (10, .int (nI tk))] ∧ (∀ a, a < tk → oh9 a = q_am S1 a ∧ ov9 a = q_va S1 a) ∧ ∃ u9, Mk G A lm S1 (mS_ov (mS_oh m8 oh9) ov9) u u9 st H locs) (k0 := 0) (Nat.zero_le _) (⟨m_oh m8, m_ov m8, lv_sub hl [4, 5, 6, 7, 2, 0] rfl, ⟨(fun a ha => absurd ha (by omega)), u12, hw⟩⟩) (fun ls H locs hJ => ?_) (fun tk ls H locs htk hJ ih => ?_)
              · obtain ⟨oh9, ov9, hl, hw⟩ := hJ
                obtain ⟨hO9, u9, hw⟩ := hw
                refine lv_iload hx hb d_M_bump_80 (lv_at hl 5 rfl) ?_
                refine lv_aload_n hx hb d_M_bump_82 rfl (lv_at hl 0 rfl) ?_
                refine mg 21 (by decide) hx hb ht hown hw gw_818 rfl rfl d_M_bump_83 ?_
                refine lv_icmp_ge (tgt := 123) hx hb d_M_bump_86 (by decide) (fun c1 => ?_) (fun c1 => ?_)
                · refine lv_aload_n hx hb d_M_bump_123 rfl (lv_at hl 0 rfl) ?_
                  refine mg 2 (by decide) hx hb ht hown hw gw_799 rfl rfl d_M_bump_124 ?_
                  refine lv_iload_n hx hb d_M_bump_127 rfl (lv_at hl 2 rfl) ?_
                  refine lv_dup2_11 hx hb d_M_bump_128 rfl rfl ?_
                  refine ma_held (j := h) rfl (by omega) hx hb hw d_M_bump_129 ?_
                  refine lv_dload_n hx hb d_M_bump_130 rfl (lv_at hl 3 rfl) ?_
                  refine lv_ldc2d (v := 4652218415073722368) hx hb hown (ht _ gw_914) d_M_bump_131 ?_
                  refine lv_dmul hx hb d_M_bump_134 (by rw [e8_1024]; exact l2d_n _) ?_
                  rw [e8_1024]
                  refine lv_d2l hx hb d_M_bump_135 ?_
                  rw [e8_dl]
                  refine lv_ladd hx hb d_M_bump_136 ?_
                  refine mp_held (j := h) ((q_am S1 h) + (128 * i.toInt64)) rfl (by omega) hx hb hw d_M_bump_137 (fun H16 locs16 u16 hw => ?_)
                  refine lv_iconst (v := 0) hx hb d_M_bump_138 (by decide) ?_
                  refine lv_istore (lv' := [(10, .int (0 : Int32)), (0, .ref (lm 0)), (1, .int (nI j)), (2, .int (nI h)), (3, .double (e8 i)), (6, .long (q_am S1 j))]) hx hb d_M_bump_139 hl (by decide) rfl (fun ls hl => ?_)
                  have ho2 : okQ (qS_am S1 (va_up (q_am S1) h (q_am S1 h + 128 * i.toInt64))) := hI1.1
                  refine k_cntH (q_n S1) (fun tk ls H locs => lv_has ls 11 [(0, .ref (lm 0)), (1, .int (nI j)), (2, .int (nI h)), (3, .double (e8 i)), (6, .long (q_am S1 j)), (10, .int (nI tk))] ∧ ∃ u9, Mk G A lm (qSt h (qS_am S1 (va_up (q_am S1) h (q_am S1 h + 128 * i.toInt64))) tk) (mS_ov (mS_oh m8 oh9) ov9) u u9 st H locs) (k0 := 0) (Nat.zero_le _) (⟨lv_sub hl [1, 2, 3, 4, 5, 0] rfl, u16, hw⟩) (fun ls H locs hJ => ?_) (fun tk ls H locs htk hJ ih2 => ?_)
                  · obtain ⟨hl, hw⟩ := hJ
                    obtain ⟨u9, hw⟩ := hw
                    have hK2 : akK (qS_am S1 (va_up (q_am S1) h (q_am S1 h + 128 * i.toInt64))) (qSt h (qS_am S1 (va_up (q_am S1) h (q_am S1 h + 128 * i.toInt64))) (q_n S1)) := qSt_K h (qS_am S1 (va_up (q_am S1) h (q_am S1 h + 128 * i.toInt64))) (q_n S1)
                    have hN2 : q_n (qSt h (qS_am S1 (va_up (q_am S1) h (q_am S1 h + 128 * i.toInt64))) (q_n S1)) = q_n S1 := hK2.1
                    refine lv_iload hx hb d_M_bump_141 (lv_at hl 5 rfl) ?_
                    refine lv_aload_n hx hb d_M_bump_143 rfl (lv_at hl 0 rfl) ?_
                    refine mg 21 (by decide) hx hb ht hown hw gw_818 rfl rfl d_M_bump_144 ?_
                    rw [hN2]
                    refine lv_icmp_ge (tgt := 194) hx hb d_M_bump_147 (by decide) (fun c2 => ?_) (fun c2 => ?_)
                    · have hw : Mk G A lm (bmA S1 h (128 * i.toInt64)) (mS_ov (mS_oh m8 oh9) ov9) u u9 st H locs := hw
                      have hIB : aI rk (bmA S1 h (128 * i.toInt64)) := aI_bm hI1 (by rw [eS1]; exact askF_ind bq_W 17 s j hbq) hh1 (by rw [hK1.2.1]; exact h0) (m128_b hEi)
                      have hKB : akK S1 (bmA S1 h (128 * i.toInt64)) := bmA_K S1 h (128 * i.toInt64)
                      refine lv_aload_n hx hb d_M_bump_194 rfl (lv_at hl 0 rfl) ?_
                      refine lv_iload_n hx hb d_M_bump_195 rfl (lv_at hl 1 rfl) ?_
                      refine kc_i (kr_V 1 (C := "QuoteGraphModel") (As := [.int (nI j)]) (rest := []) (c_M_ask l G A lm (bmA S1 h (128 * i.toInt64)) (mS_ov (mS_oh m8 oh9) ov9) u9 hw.2.1 rk hIB (fun a ha => hr17 a (by rw [hKB.1, hN1] at ha; exact ha)) j (by rw [hKB.1]; exact hj1)) hx hb hml hown ht hw.1 gw_968 gw_970 gw_31 gw_47 gw_971 ⟨⟨by decide, by decide⟩, by decide +kernel⟩ ⟨by first | decide | (dsimp only; omega), by first | decide | (dsimp only; omega)⟩ (kr_M hw) rfl hl.1 rfl (lv_room (Nat.le_of_ble_eq_true rfl)) d_M_bump_196 ⟨by first | decide | (dsimp only; omega), by first | decide | (dsimp only; omega)⟩) hw.1 (fun _ _ _ _ _ _ h => h.elim) (fun r17 u17 H17 locs17 hp17 hw17 => ?_)
                      obtain ⟨er17, m7, tr7, to7, tv7, tt7, g1, g2⟩ := hp17; subst er17
                      have hw : Mk G A lm (askF 17 (bmA S1 h (128 * i.toInt64)) j).2 m7 u u17 st H17 locs17 := ⟨hw17, g1, hw.2.2.tr g2⟩
                      have hK3 : akK S1 (askF 17 (bmA S1 h (128 * i.toInt64)) j).2 := hKB.tr (askF_K 17 (bmA S1 h (128 * i.toInt64)) j)
                      obtain ⟨B9, eB9⟩ : ∃ B9, B9 = (askF 17 (bmA S1 h (128 * i.toInt64)) j).2 := ⟨_, rfl⟩
                      rw [← eB9] at hw hK3
                      have hO7 : ∀ x, x < q_n S1 → m_oh m7 x = q_am S1 x ∧ m_ov m7 x = q_va S1 x := fun x hx => by rw [to7, tv7]; exact hO9 x hx
                      have hth7 : m_th m7 = nI 0 := tt7.trans (show m_th m8 = _ from tt8)
                      refine lv_istore (lv' := [(5, .int (bI (decide ((askF 17 (bmA S1 h (128 * i.toInt64)) j).1 = 0)))), (0, .ref (lm 0)), (1, .int (nI j)), (2, .int (nI h)), (3, .double (e8 i)), (6, .long (q_am S1 j)), (10, .int (nI (q_n S1)))]) hx hb d_M_bump_199 hl (by decide) rfl (fun ls hl => ?_)
                      refine lv_aload_n hx hb d_M_bump_201 rfl (lv_at hl 1 rfl) ?_
                      refine mg 2 (by decide) hx hb ht hown hw gw_799 rfl rfl d_M_bump_202 ?_
                      refine lv_iload_n hx hb d_M_bump_205 rfl (lv_at hl 2 rfl) ?_
                      refine ma_held (j := j) rfl (by omega) hx hb hw d_M_bump_206 ?_
                      refine lv_lstore (lv' := [(8, .long (q_am B9 j)), (5, .int (bI (decide ((askF 17 (bmA S1 h (128 * i.toInt64)) j).1 = 0)))), (0, .ref (lm 0)), (1, .int (nI j)), (2, .int (nI h)), (3, .double (e8 i)), (6, .long (q_am S1 j)), (10, .int (nI (q_n S1)))]) hx hb d_M_bump_207 hl (by decide) rfl (fun ls hl => ?_)
                      refine lv_iconst (v := 0) hx hb d_M_bump_209 (by decide) ?_
                      refine lv_istore (lv' := [(10, .int (0 : Int32)), (8, .long (q_am B9 j)), (5, .int (bI (decide ((askF 17 (bmA S1 h (128 * i.toInt64)) j).1 = 0)))), (0, .ref (lm 0)), (1, .int (nI j)), (2, .int (nI h)), (3, .double (e8 i)), (6, .long (q_am S1 j))]) hx hb d_M_bump_210 hl (by decide) rfl (fun ls hl => ?_)
                      refine k_cntH (q_n S1) (fun tk ls H locs => lv_has ls 11 [(0, .ref (lm 0)), (5, .int (bI (decide ((askF 17 (bmA S1 h (128 * i.toInt64)) j).1 = 0)))), (6, .long (q_am S1 j)), (8, .long (q_am B9 j)), (10, .int (nI tk))] ∧ ∃ u9, Mk G A lm (rsQ S1 B9 tk) m7 u u9 st H locs) (k0 := 0) (Nat.zero_le _) (⟨lv_sub hl [3, 2, 7, 1, 0] rfl, u17, (by rw [rsQ_0]; exact hw)⟩) (fun ls H locs hJ => ?_) (fun tk ls H locs htk hJ ih3 => ?_)
                      · obtain ⟨hl, hw⟩ := hJ
                        obtain ⟨u9, hw⟩ := hw
                        refine lv_iload hx hb d_M_bump_212 (lv_at hl 4 rfl) ?_
                        refine lv_aload_n hx hb d_M_bump_214 rfl (lv_at hl 0 rfl) ?_
                        refine mg 21 (by decide) hx hb ht hown hw gw_818 rfl rfl d_M_bump_215 ?_
                        rw [show q_n (rsQ S1 B9 (q_n S1)) = q_n S1 from (rsQ_n _ _ _).trans hK3.1]
                        refine lv_icmp_ge (tgt := 255) hx hb d_M_bump_218 (by decide) (fun c3 => ?_) (fun c3 => ?_)
                        · have hw : Mk G A lm (bmR S1 B9) m7 u u9 st H locs := hw
                          refine lv_iload hx hb d_M_bump_255 (lv_at hl 1 rfl) ?_
                          refine lv_if_eq (tgt := 271) hx hb d_M_bump_257 (by decide) (fun c18 => ?_) (fun c18 => ?_)
                          · have hf2 : (askF 17 (bmA S1 h (128 * i.toInt64)) j).1 ≠ 0 := of_decide_eq_false ((bI_eq _).mp c18)
                            refine lv_aload_n hx hb d_M_bump_271 rfl (lv_at hl 0 rfl) ?_
                            refine lv_aload_n hx hb d_M_bump_272 rfl (lv_at hl 0 rfl) ?_
                            refine mg 26 (by decide) hx hb ht hown hw gw_823 rfl rfl d_M_bump_273 ?_
                            refine mp_thrown (m_tr m7) hx hb ht hown hw gw_822 d_M_bump_276 (fun H19 locs19 u19 hw => ?_)
                            refine lv_aload_n hx hb d_M_bump_279 rfl (lv_at hl 0 rfl) ?_
                            refine lv_dup hx hb d_M_bump_280 rfl ?_
                            refine mg 24 (by decide) hx hb ht hown hw gw_821 rfl rfl d_M_bump_281 ?_
                            refine lv_iconst (v := 1) hx hb d_M_bump_284 (by decide) ?_
                            refine lv_iadd hx hb d_M_bump_285 ?_
                            refine mp_troubles ((q_fl (bmR S1 B9)) + (1 : Int32)) hx hb ht hown hw gw_821 d_M_bump_286 (fun H20 locs20 u20 hw => ?_)
                            refine lv_dconst0 hx hb d_M_bump_289 ?_
                            exact kt_d hx hb hr hlocks hw.1 d_M_bump_290 (by unfold pBump; rw [wN_t hj hR.2.2.2, wN_t hh hR.2.2.2, if_neg (fun e => e h0), if_neg (by rw [hEi]; decide), if_pos hf, ← eS1, ← eB9, if_neg hf2]; exact ⟨dc0, (mS_th m7 (m_tr m7)), tr7, hw.2.1, hw.2.2⟩) (by first | decide | (dsimp only; omega)) (by first | decide | (dsimp only; omega))
                          · have hf2 : (askF 17 (bmA S1 h (128 * i.toInt64)) j).1 = 0 := of_decide_eq_true ((bI_ne _).mp c18)
                            refine lv_lload hx hb d_M_bump_260 (lv_at hl 3 rfl) ?_
                            refine lv_lload hx hb d_M_bump_262 (lv_at hl 2 rfl) ?_
                            refine lv_lsub hx hb d_M_bump_264 ?_
                            refine lv_l2d hx hb d_M_bump_265 ?_
                            refine lv_ldc2d (v := 4652218415073722368) hx hb hown (ht _ gw_914) d_M_bump_266 ?_
                            refine lv_ddiv hx hb d_M_bump_269 (num_n _) ?_
                            exact kt_d hx hb hr hlocks hw.1 d_M_bump_270 (by unfold pBump; rw [wN_t hj hR.2.2.2, wN_t hh hR.2.2.2, if_neg (fun e => e h0), if_neg (by rw [hEi]; decide), if_pos hf, ← eS1, ← eB9, if_pos hf2]; exact ⟨rfl, m7, hth7, hw.2.1, hw.2.2⟩) (by first | decide | (dsimp only; omega)) (by first | decide | (dsimp only; omega))
                        · exact absurd (nI_le (Nat.le_refl _) (by omega)) c3
                      · obtain ⟨hl, hw⟩ := hJ
                        obtain ⟨u9, hw⟩ := hw
                        refine lv_iload hx hb d_M_bump_212 (lv_at hl 4 rfl) ?_
                        refine lv_aload_n hx hb d_M_bump_214 rfl (lv_at hl 0 rfl) ?_
                        refine mg 21 (by decide) hx hb ht hown hw gw_818 rfl rfl d_M_bump_215 ?_
                        rw [show q_n (rsQ S1 B9 tk) = q_n S1 from (rsQ_n _ _ _).trans hK3.1]
                        refine lv_icmp_ge (tgt := 255) hx hb d_M_bump_218 (by decide) (fun c3 => ?_) (fun c3 => ?_)
                        · exact absurd c3 (nI_ge htk (by omega))
                        · refine lv_aload_n hx hb d_M_bump_221 rfl (lv_at hl 0 rfl) ?_
                          refine mg 2 (by decide) hx hb ht hown hw gw_799 rfl rfl d_M_bump_222 ?_
                          refine lv_iload hx hb d_M_bump_225 (lv_at hl 4 rfl) ?_
                          refine lv_aload_n hx hb d_M_bump_227 rfl (lv_at hl 0 rfl) ?_
                          refine mg 17 (by decide) hx hb ht hown hw gw_814 rfl rfl d_M_bump_228 ?_
                          refine lv_iload hx hb d_M_bump_231 (lv_at hl 4 rfl) ?_
                          refine ma_oldHeld (j := tk) rfl (by omega) hx hb hw d_M_bump_233 ?_
                          rw [(hO7 tk htk).1]
                          refine mp_held (j := tk) (q_am S1 tk) rfl (by omega) hx hb hw d_M_bump_234 (fun H21 locs21 u21 hw => ?_)
                          refine lv_aload_n hx hb d_M_bump_235 rfl (lv_at hl 0 rfl) ?_
                          refine mg 3 (by decide) hx hb ht hown hw gw_800 rfl rfl d_M_bump_236 ?_
                          refine lv_iload hx hb d_M_bump_239 (lv_at hl 4 rfl) ?_
                          refine lv_aload_n hx hb d_M_bump_241 rfl (lv_at hl 0 rfl) ?_
                          refine mg 18 (by decide) hx hb ht hown hw gw_815 rfl rfl d_M_bump_242 ?_
                          refine lv_iload hx hb d_M_bump_245 (lv_at hl 4 rfl) ?_
                          refine ma_oldValid (j := tk) rfl (by omega) hx hb hw d_M_bump_247 ?_
                          rw [(hO7 tk htk).2]
                          refine mp_valid (j := tk) (q_va S1 tk) rfl (by omega) hx hb hw d_M_bump_248 (fun H22 locs22 u22 hw => ?_)
                          rw [rsQ_s] at hw
                          obtain ⟨i23, ei23⟩ : ∃ y : Int32, y = (nI tk) + 1 := ⟨_, rfl⟩
                          refine lv_iinc (v := i23) (lv' := [(10, .int i23), (0, .ref (lm 0)), (5, .int (bI (decide ((askF 17 (bmA S1 h (128 * i.toInt64)) j).1 = 0)))), (6, .long (q_am S1 j)), (8, .long (q_am B9 j))]) hx hb d_M_bump_249 hl (k := 4) rfl (by rw [ei23]; rfl) (by decide) rfl (fun ls hl => ?_)
                          rw [nI_1] at ei23; subst ei23
                          refine lv_goto (tgt := 212) hx hb d_M_bump_252 (by decide) ?_
                          exact ih3 ls H22 locs22 ⟨lv_sub hl [1, 2, 3, 4, 0] rfl, u22, hw⟩
                    · exact absurd (nI_le (Nat.le_refl _) (by omega)) c2
                  · obtain ⟨hl, hw⟩ := hJ
                    obtain ⟨u9, hw⟩ := hw
                    have hK2 : akK (qS_am S1 (va_up (q_am S1) h (q_am S1 h + 128 * i.toInt64))) (qSt h (qS_am S1 (va_up (q_am S1) h (q_am S1 h + 128 * i.toInt64))) tk) := qSt_K h (qS_am S1 (va_up (q_am S1) h (q_am S1 h + 128 * i.toInt64))) tk
                    have hN2 : q_n (qSt h (qS_am S1 (va_up (q_am S1) h (q_am S1 h + 128 * i.toInt64))) tk) = q_n S1 := hK2.1
                    refine lv_iload hx hb d_M_bump_141 (lv_at hl 5 rfl) ?_
                    refine lv_aload_n hx hb d_M_bump_143 rfl (lv_at hl 0 rfl) ?_
                    refine mg 21 (by decide) hx hb ht hown hw gw_818 rfl rfl d_M_bump_144 ?_
                    rw [hN2]
                    refine lv_icmp_ge (tgt := 194) hx hb d_M_bump_147 (by decide) (fun c2 => ?_) (fun c2 => ?_)
                    · exact absurd c2 (nI_ge htk (by omega))
                    · have ho3 : okQ (qSt h (qS_am S1 (va_up (q_am S1) h (q_am S1 h + 128 * i.toInt64))) tk) := ak_ok hK2 ho2
                      refine lv_aload_n hx hb d_M_bump_150 rfl (lv_at hl 0 rfl) ?_
                      refine mg 0 (by decide) hx hb ht hown hw gw_797 rfl rfl d_M_bump_151 ?_
                      refine lv_iload hx hb d_M_bump_154 (lv_at hl 5 rfl) ?_
                      refine ma_sort (j := tk) rfl (by omega) hx hb hw d_M_bump_156 ?_
                      refine lv_if_le (tgt := 188) hx hb d_M_bump_157 (by decide) (fun c24 => ?_) (fun c24 => ?_)
                      · have h0k : q_so (qSt h (qS_am S1 (va_up (q_am S1) h (q_am S1 h + 128 * i.toInt64))) tk) tk = 0 := nI_le0 c24 (by have := (ho3.2 tk (by rw [hN2]; exact htk)).1; omega)
                        have e7 : qSt h (qS_am S1 (va_up (q_am S1) h (q_am S1 h + 128 * i.toInt64))) (tk + 1) = (qSt h (qS_am S1 (va_up (q_am S1) h (q_am S1 h + 128 * i.toInt64))) tk) := by rw [St_s, us_q ho3 (by rw [hN2]; exact htk) (by rw [hN2]; exact hh1) h0k]; split <;> rfl
                        rw [← e7] at hw
                        obtain ⟨i25, ei25⟩ : ∃ y : Int32, y = (nI tk) + 1 := ⟨_, rfl⟩
                        refine lv_iinc (v := i25) (lv' := [(10, .int i25), (0, .ref (lm 0)), (1, .int (nI j)), (2, .int (nI h)), (3, .double (e8 i)), (6, .long (q_am S1 j))]) hx hb d_M_bump_188 hl (k := 5) rfl (by rw [ei25]; rfl) (by decide) rfl (fun ls hl => ?_)
                        rw [nI_1] at ei25; subst ei25
                        refine lv_goto (tgt := 141) hx hb d_M_bump_191 (by decide) ?_
                        exact ih2 ls H locs ⟨lv_sub hl [1, 2, 3, 4, 5, 0] rfl, u9, hw⟩
                      · refine lv_aload_n hx hb d_M_bump_160 rfl (lv_at hl 0 rfl) ?_
                        refine mg 4 (by decide) hx hb ht hown hw gw_801 rfl rfl d_M_bump_161 ?_
                        refine lv_iload hx hb d_M_bump_164 (lv_at hl 5 rfl) ?_
                        refine ma_frozen (j := tk) rfl (by omega) hx hb hw d_M_bump_166 ?_
                        refine lv_if_ne (tgt := 188) hx hb d_M_bump_167 (by decide) (fun c26 => ?_) (fun c26 => ?_)
                        · have e7 : qSt h (qS_am S1 (va_up (q_am S1) h (q_am S1 h + 128 * i.toInt64))) (tk + 1) = (qSt h (qS_am S1 (va_up (q_am S1) h (q_am S1 h + 128 * i.toInt64))) tk) := by rw [St_s, if_pos ((bI_ne _).mp c26)]
                          rw [← e7] at hw
                          obtain ⟨i27, ei27⟩ : ∃ y : Int32, y = (nI tk) + 1 := ⟨_, rfl⟩
                          refine lv_iinc (v := i27) (lv' := [(10, .int i27), (0, .ref (lm 0)), (1, .int (nI j)), (2, .int (nI h)), (3, .double (e8 i)), (6, .long (q_am S1 j))]) hx hb d_M_bump_188 hl (k := 5) rfl (by rw [ei27]; rfl) (by decide) rfl (fun ls hl => ?_)
                          rw [nI_1] at ei27; subst ei27
                          refine lv_goto (tgt := 141) hx hb d_M_bump_191 (by decide) ?_
                          exact ih2 ls H locs ⟨lv_sub hl [1, 2, 3, 4, 5, 0] rfl, u9, hw⟩
                        · refine lv_aload_n hx hb d_M_bump_170 rfl (lv_at hl 0 rfl) ?_
                          refine lv_iload hx hb d_M_bump_171 (lv_at hl 5 rfl) ?_
                          refine lv_iload_n hx hb d_M_bump_173 rfl (lv_at hl 2 rfl) ?_
                          refine kc_i (kr_V 2 (C := "QuoteGraphModel") (As := [.int (nI tk), .int (nI h)]) (rest := []) (c_M_hangs l G A lm (qSt h (qS_am S1 (va_up (q_am S1) h (q_am S1 h + 128 * i.toInt64))) tk) (mS_ov (mS_oh m8 oh9) ov9) u9 hw.2.1 ho3 tk h (by rw [hN2]; exact htk) (by rw [hN2]; exact hh1)) hx hb hml hown ht hw.1 gw_944 gw_946 gw_28 gw_47 gw_947 ⟨⟨by decide, by decide⟩, by decide +kernel⟩ ⟨by first | decide | (dsimp only; omega), by first | decide | (dsimp only; omega)⟩ (kr_M hw) rfl hl.1 rfl (lv_room (Nat.le_of_ble_eq_true rfl)) d_M_bump_174 ⟨by first | decide | (dsimp only; omega), by first | decide | (dsimp only; omega)⟩) hw.1 (fun _ _ _ _ _ _ h => h.elim) (fun r28 u28 H28 locs28 hp28 hw28 => ?_)
                          obtain ⟨er28, hq28⟩ := hp28
                          replace hq28 := hq28.symm; subst hq28
                          subst er28
                          have hw : Mk G A lm (qSt h (qS_am S1 (va_up (q_am S1) h (q_am S1 h + 128 * i.toInt64))) tk) (mS_ov (mS_oh m8 oh9) ov9) u u9 st H28 locs28 := ⟨hw28, hw.2⟩
                          rw [hg_uses ho3 (by rw [hN2]; exact htk) (by rw [hN2]; exact hh1)]
                          refine lv_if_eq (tgt := 188) hx hb d_M_bump_177 (by decide) (fun c29 => ?_) (fun c29 => ?_)
                          · have e7 : qSt h (qS_am S1 (va_up (q_am S1) h (q_am S1 h + 128 * i.toInt64))) (tk + 1) = (qSt h (qS_am S1 (va_up (q_am S1) h (q_am S1 h + 128 * i.toInt64))) tk) := by rw [St_s, if_neg (by rw [(bI_eq _).mp c26]; decide), if_neg (by rw [(bI_eq _).mp c29]; decide)]
                            rw [← e7] at hw
                            obtain ⟨i30, ei30⟩ : ∃ y : Int32, y = (nI tk) + 1 := ⟨_, rfl⟩
                            refine lv_iinc (v := i30) (lv' := [(10, .int i30), (0, .ref (lm 0)), (1, .int (nI j)), (2, .int (nI h)), (3, .double (e8 i)), (6, .long (q_am S1 j))]) hx hb d_M_bump_188 hl (k := 5) rfl (by rw [ei30]; rfl) (by decide) rfl (fun ls hl => ?_)
                            rw [nI_1] at ei30; subst ei30
                            refine lv_goto (tgt := 141) hx hb d_M_bump_191 (by decide) ?_
                            exact ih2 ls H28 locs28 ⟨lv_sub hl [1, 2, 3, 4, 5, 0] rfl, u9, hw⟩
                          · refine lv_aload_n hx hb d_M_bump_180 rfl (lv_at hl 0 rfl) ?_
                            refine mg 3 (by decide) hx hb ht hown hw gw_800 rfl rfl d_M_bump_181 ?_
                            refine lv_iload hx hb d_M_bump_184 (lv_at hl 5 rfl) ?_
                            refine lv_iconst (v := 0) hx hb d_M_bump_186 (by decide) ?_
                            refine mp_valid (j := tk) false rfl (by omega) hx hb hw d_M_bump_187 (fun H31 locs31 u31 hw => ?_)
                            have e7 : qSt h (qS_am S1 (va_up (q_am S1) h (q_am S1 h + 128 * i.toInt64))) (tk + 1) = qS_va (qSt h (qS_am S1 (va_up (q_am S1) h (q_am S1 h + 128 * i.toInt64))) tk) (va_up (q_va (qSt h (qS_am S1 (va_up (q_am S1) h (q_am S1 h + 128 * i.toInt64))) tk)) tk false) := by rw [St_s, if_neg (by rw [(bI_eq _).mp c26]; decide), if_pos ((bI_ne _).mp c29)]
                            rw [← e7] at hw
                            obtain ⟨i32, ei32⟩ : ∃ y : Int32, y = (nI tk) + 1 := ⟨_, rfl⟩
                            refine lv_iinc (v := i32) (lv' := [(10, .int i32), (0, .ref (lm 0)), (1, .int (nI j)), (2, .int (nI h)), (3, .double (e8 i)), (6, .long (q_am S1 j))]) hx hb d_M_bump_188 hl (k := 5) rfl (by rw [ei32]; rfl) (by decide) rfl (fun ls hl => ?_)
                            rw [nI_1] at ei32; subst ei32
                            refine lv_goto (tgt := 141) hx hb d_M_bump_191 (by decide) ?_
                            exact ih2 ls H31 locs31 ⟨lv_sub hl [1, 2, 3, 4, 5, 0] rfl, u31, hw⟩
                · exact absurd (nI_le (Nat.le_refl _) (by omega)) c1
              · obtain ⟨oh9, ov9, hl, hw⟩ := hJ
                obtain ⟨hO9, u9, hw⟩ := hw
                refine lv_iload hx hb d_M_bump_80 (lv_at hl 5 rfl) ?_
                refine lv_aload_n hx hb d_M_bump_82 rfl (lv_at hl 0 rfl) ?_
                refine mg 21 (by decide) hx hb ht hown hw gw_818 rfl rfl d_M_bump_83 ?_
                refine lv_icmp_ge (tgt := 123) hx hb d_M_bump_86 (by decide) (fun c1 => ?_) (fun c1 => ?_)
                · exact absurd c1 (nI_ge htk (by omega))
                · refine lv_aload_n hx hb d_M_bump_89 rfl (lv_at hl 0 rfl) ?_
                  refine mg 17 (by decide) hx hb ht hown hw gw_814 rfl rfl d_M_bump_90 ?_
                  refine lv_iload hx hb d_M_bump_93 (lv_at hl 5 rfl) ?_
                  refine lv_aload_n hx hb d_M_bump_95 rfl (lv_at hl 0 rfl) ?_
                  refine mg 2 (by decide) hx hb ht hown hw gw_799 rfl rfl d_M_bump_96 ?_
                  refine lv_iload hx hb d_M_bump_99 (lv_at hl 5 rfl) ?_
                  refine ma_held (j := tk) rfl (by omega) hx hb hw d_M_bump_101 ?_
                  refine mp_oldHeld (j := tk) (q_am S1 tk) rfl (by omega) hx hb hw d_M_bump_102 (fun H33 locs33 u33 hw => ?_)
                  refine lv_aload_n hx hb d_M_bump_103 rfl (lv_at hl 0 rfl) ?_
                  refine mg 18 (by decide) hx hb ht hown hw gw_815 rfl rfl d_M_bump_104 ?_
                  refine lv_iload hx hb d_M_bump_107 (lv_at hl 5 rfl) ?_
                  refine lv_aload_n hx hb d_M_bump_109 rfl (lv_at hl 0 rfl) ?_
                  refine mg 3 (by decide) hx hb ht hown hw gw_800 rfl rfl d_M_bump_110 ?_
                  refine lv_iload hx hb d_M_bump_113 (lv_at hl 5 rfl) ?_
                  refine ma_valid (j := tk) rfl (by omega) hx hb hw d_M_bump_115 ?_
                  refine mp_oldValid (j := tk) (q_va S1 tk) rfl (by omega) hx hb hw d_M_bump_116 (fun H34 locs34 u34 hw => ?_)
                  obtain ⟨i35, ei35⟩ : ∃ y : Int32, y = (nI tk) + 1 := ⟨_, rfl⟩
                  refine lv_iinc (v := i35) (lv' := [(10, .int i35), (0, .ref (lm 0)), (1, .int (nI j)), (2, .int (nI h)), (3, .double (e8 i)), (6, .long (q_am S1 j))]) hx hb d_M_bump_117 hl (k := 5) rfl (by rw [ei35]; rfl) (by decide) rfl (fun ls hl => ?_)
                  rw [nI_1] at ei35; subst ei35
                  refine lv_goto (tgt := 80) hx hb d_M_bump_120 (by decide) ?_
                  refine ih ls H34 locs34 ⟨va_up oh9 tk (q_am S1 tk), va_up ov9 tk (q_va S1 tk), lv_sub hl [1, 2, 3, 4, 5, 0] rfl, (fun a ha => ?_), u34, hw⟩
                  by_cases hat : a = tk
                  · subst hat; exact ⟨va_up_self _ _ _, va_up_self _ _ _⟩
                  · exact ⟨(va_up_ne _ _ hat).trans (hO9 a (by omega)).1, (va_up_ne _ _ hat).trans (hO9 a (by omega)).2⟩
          · exact absurd rfl c9
        · have hFi : inE i 1000 = false := by have h := (bI_ne _).mp c10; rcases h2 : inE i 1000 with _ | _; rfl; rw [h2] at h; cases h
          refine lv_iconst (v := 1) hx hb d_M_bump_37 (by decide) ?_
          refine lv_goto (tgt := 42) hx hb d_M_bump_38 (by decide) ?_
          refine mp_thrown (1 : Int32) hx hb ht hown hw gw_822 d_M_bump_42 (fun H36 locs36 u36 hw => ?_)
          refine lv_aload_n hx hb d_M_bump_45 rfl (lv_at hl 0 rfl) ?_
          refine mg 25 (by decide) hx hb ht hown hw gw_822 rfl rfl d_M_bump_46 ?_
          refine lv_if_eq (tgt := 54) hx hb d_M_bump_49 (by decide) (fun c9 => ?_) (fun c9 => ?_)
          · exact absurd (show (1 : Int32) = 0 from c9) (by decide)
          · refine lv_dconst0 hx hb d_M_bump_52 ?_
            exact kt_d hx hb hr hlocks hw.1 d_M_bump_53 (by unfold pBump; rw [wN_t hj hR.2.2.2, wN_t hh hR.2.2.2, if_neg (fun e => e h0), if_pos hFi]; exact ⟨dc0, _, rfl, hw.2.1, hw.2.2⟩) (by first | decide | (dsimp only; omega)) (by first | decide | (dsimp only; omega))

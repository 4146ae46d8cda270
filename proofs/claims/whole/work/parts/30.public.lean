/-! 30.public: contracts of the public methods that make no node -/
/-- the place of an int that is a node's number -/
def kN (k : Int32) : Nat := k.toNatClampNeg
theorem kN_nI {j : Nat} (h : j < 2 ^ 31) : kN (nI j) = j := nI_clamp h
/-- a call on node k: 1 (IllegalArgumentException) where there is none -/
def wN {α : Type} (s : QS) (k : Int32) (d : α) (f : Nat → Nat × α × QS) : Nat × α × QS := if isN (q_n s) k = true then f (kN k) else (1, d, s)
theorem wN_t {α : Type} {s : QS} {j : Nat} {d : α} {f : Nat → Nat × α × QS} (hj : j < q_n s) (h : q_n s ≤ 16) : wN s (nI j) d f = f j := by unfold wN; rw [if_pos (isN_nI hj h), kN_nI (by omega)]
theorem wN_f {α : Type} {s : QS} {k : Int32} {d : α} {f : Nat → Nat × α × QS} (h : isN (q_n s) k = false) : wN s k d f = (1, d, s) := by unfold wN; rw [if_neg (by rw [h]; decide)]
def exV (c : Nat) : String := if c = 1 then "java/lang/IllegalArgumentException" else if c = 3 then "java/lang/UnsupportedOperationException" else "java/lang/ArithmeticException"
def exS (c : Nat) : String := if c = 1 then "java/lang/IllegalArgumentException" else "java/lang/IllegalStateException"
def num (x : Int64) : UInt64 := FP.ddiv (FP.l2d x) 4652218415073722368
def pValue (s : QS) (k : Int32) : Nat × UInt64 × QS := wN s k 0 (fun j => if (askF 17 s j).1 = 0 then (0, num (q_am (askF 17 s j).2 j), (askF 17 s j).2) else ((askF 17 s j).1, 0, qFl (askF 17 s j).2))
def pUses (s : QS) (a b : Int32) : Nat × Bool × QS := wN s a false (fun i => wN s b false (fun j => (0, usesC s i j, s)))
def pNode (s : QS) (k w : Int32) : Nat × Int32 × QS := wN s k 0 (fun j => if w = 0 then (0, nI (q_so s j), s) else if w = 1 then (0, bI (q_va s j), s) else if w = 2 then (0, bI (q_fr s j), s) else if w = 3 then (0, bI (q_mi s j), s) else if w = 4 then (0, nI (np s j), s) else if w = 5 then (0, q_tw s j, s) else (1, 0, s))
def pCount (s : QS) (w : Int32) : Int32 := if w = 0 then nI (q_n s) else if w = 1 then q_tl s else if w = 2 then q_wk s else if w = 3 then q_fl s else -1
def pFreeze (s : QS) (k : Int32) (on : Bool) : Nat × Unit × QS := wN s k () (fun j => if q_so s j = 0 then (1, (), s) else if on = true then (if q_va s j = true then (0, (), qS_fr s (va_up (q_fr s) j true)) else (2, (), s)) else if q_mi s j = true then (0, (), tellF 17 (qS_mi (qS_fr s (va_up (q_fr s) j false)) (va_up (q_mi s) j false)) j) else (0, (), qS_fr s (va_up (q_fr s) j false)))
def pSet (s : QS) (k : Int32) (i : Int32) : Nat × Int32 × QS := wN s k 0 (fun j => if q_so s j ≠ 0 then (1, 0, s) else if inE i 100000 = false then (1, 0, s) else if 128 * i.toInt64 = q_am s j then (0, q_tl s - q_tl s, s) else (0, q_tl (tellU (tellF 17) j (qS_am s (va_up (q_am s) j (128 * i.toInt64))) (q_n s)) - q_tl s, tellU (tellF 17) j (qS_am s (va_up (q_am s) j (128 * i.toInt64))) (q_n s)))
/-- bump's trial: from the asked state s1, quote q moved by m; what is kept is s3 -/
def bmA (s1 : QS) (q : Nat) (m : Int64) : QS := qSt q (qS_am s1 (va_up (q_am s1) q (q_am s1 q + m))) (q_n s1)
/-- the amounts and marks of s1 again -/
def bmR (s1 s3 : QS) : QS := qS_va (qS_am s3 (fun i => if i < q_n s1 then q_am s1 i else q_am s3 i)) (fun i => if i < q_n s1 then q_va s1 i else q_va s3 i)
def pBump (s : QS) (k q : Int32) (i : Int32) : Nat × UInt64 × QS := wN s k 0 (fun j => wN s q 0 (fun h => if q_so s h ≠ 0 then (1, 0, s) else if inE i 1000 = false then (1, 0, s) else if (askF 17 s j).1 = 0 then (if (askF 17 (bmA (askF 17 s j).2 h (128 * i.toInt64)) j).1 = 0 then (0, num (q_am (askF 17 (bmA (askF 17 s j).2 h (128 * i.toInt64)) j).2 j - q_am (askF 17 s j).2 j), bmR (askF 17 s j).2 (askF 17 (bmA (askF 17 s j).2 h (128 * i.toInt64)) j).2) else ((askF 17 (bmA (askF 17 s j).2 h (128 * i.toInt64)) j).1, 0, qFl (bmR (askF 17 s j).2 (askF 17 (bmA (askF 17 s j).2 h (128 * i.toInt64)) j).2))) else ((askF 17 s j).1, 0, qFl (askF 17 s j).2)))
theorem zRm_ra (s : QS) (z : ZS) : ∀ k i, z_ra (zRm s z k) i = if i < k then q_am s i else z_ra z i
  | 0, i => by rw [if_neg (by omega)]; rfl
  | k + 1, i => by
    show va_up (z_ra (zRm s z k)) k (q_am s k) i = _
    by_cases h : i = k
    · subst h; rw [va_up_self, if_pos (by omega)]
    · rw [va_up_ne _ _ h, zRm_ra s z k i]; by_cases h2 : i < k
      · rw [if_pos h2, if_pos (by omega)]
      · rw [if_neg h2, if_neg (by omega)]
theorem zRm_rv (s : QS) (z : ZS) : ∀ k i, z_rv (zRm s z k) i = if i < k then q_va s i else z_rv z i
  | 0, i => by rw [if_neg (by omega)]; rfl
  | k + 1, i => by
    show va_up (z_rv (zRm s z k)) k (q_va s k) i = _
    by_cases h : i = k
    · subst h; rw [va_up_self, if_pos (by omega)]
    · rw [va_up_ne _ _ h, zRm_rv s z k i]; by_cases h2 : i < k
      · rw [if_pos h2, if_pos (by omega)]
      · rw [if_neg h2, if_neg (by omega)]
theorem qRs_eq (s : QS) (z : ZS) : ∀ k, qRs s z k = qS_va (qS_am s (fun i => if i < k then z_ra z i else q_am s i)) (fun i => if i < k then z_rv z i else q_va s i)
  | 0 => rfl
  | k + 1 => by
    show qS_va (qS_am (qRs s z k) (va_up (q_am (qRs s z k)) k (z_ra z k))) (va_up (q_va (qRs s z k)) k (z_rv z k)) = _
    rw [qRs_eq s z k]
    have e1 : va_up (fun i => if i < k then z_ra z i else q_am s i) k (z_ra z k) = (fun i => if i < k + 1 then z_ra z i else q_am s i) := by
      funext i
      by_cases h : i = k
      · subst h; rw [va_up_self, if_pos (by omega)]
      · rw [va_up_ne _ _ h]; by_cases h2 : i < k
        · rw [if_pos h2, if_pos (by omega)]
        · rw [if_neg h2, if_neg (by omega)]
    have e2 : va_up (fun i => if i < k then z_rv z i else q_va s i) k (z_rv z k) = (fun i => if i < k + 1 then z_rv z i else q_va s i) := by
      funext i
      by_cases h : i = k
      · subst h; rw [va_up_self, if_pos (by omega)]
      · rw [va_up_ne _ _ h]; by_cases h2 : i < k
        · rw [if_pos h2, if_pos (by omega)]
        · rw [if_neg h2, if_neg (by omega)]
    show qS_va (qS_am _ (va_up (fun i => if i < k then z_ra z i else q_am s i) k (z_ra z k))) (va_up (fun i => if i < k then z_rv z i else q_va s i) k (z_rv z k)) = _
    rw [e1, e2]; rfl
/-- restoring what was remembered of s1 gives the amounts and marks of s1 -/
theorem qRs_bm {s1 s3 : QS} {z z' : ZS} (hn : q_n s3 = q_n s1) (h1 : z_ra z' = z_ra (zRm s1 z (q_n s1))) (h2 : z_rv z' = z_rv (zRm s1 z (q_n s1))) : qRs s3 z' (q_n s3) = bmR s1 s3 := by
  rw [qRs_eq, hn]
  unfold bmR
  have e1 : (fun i => if i < q_n s1 then z_ra z' i else q_am s3 i) = (fun i => if i < q_n s1 then q_am s1 i else q_am s3 i) := by
    funext i; by_cases h : i < q_n s1
    · rw [if_pos h, if_pos h, h1, zRm_ra, if_pos h]
    · rw [if_neg h, if_neg h]
  have e2 : (fun i => if i < q_n s1 then z_rv z' i else q_va s3 i) = (fun i => if i < q_n s1 then q_va s1 i else q_va s3 i) := by
    funext i; by_cases h : i < q_n s1
    · rw [if_pos h, if_pos h, h2, zRm_rv, if_pos h]
    · rw [if_neg h, if_neg h]
  rw [e1, e2]
theorem vc_17 {s : QS} (h : q_n s ≤ 16) : vc (q_va s) (q_n s) < 17 := by have := vc_le (q_va s) (q_n s); omega
/-- what making stale leaves -/
theorem qSt_K (j : Nat) (s : QS) : ∀ k, akK s (qSt j s k)
  | 0 => akK.rf
  | k + 1 => by
    show akK s (if _ then _ else if _ then _ else _)
    split
    · exact qSt_K j s k
    · split
      · exact (qSt_K j s k).tr ⟨rfl, rfl, rfl, rfl, rfl, rfl, rfl, rfl, rfl, rfl, rfl, rfl, rfl, rfl, rfl⟩
      · exact qSt_K j s k
theorem bmA_K (s : QS) (q : Nat) (m : Int64) : akK s (bmA s q m) := (show akK s (qS_am s (va_up (q_am s) q (q_am s q + m))) from ⟨rfl, rfl, rfl, rfl, rfl, rfl, rfl, rfl, rfl, rfl, rfl, rfl, rfl, rfl, rfl⟩).tr (qSt_K q _ _)
theorem ak_rnk {s s' : QS} (h : akK s s') (hr : rnk s) : rnk s' := by
  obtain ⟨r, h1, h2⟩ := hr
  exact ⟨r, ak_rkd h h1, by rw [h.1]; exact h2⟩
set_option maxHeartbeats 4000000 in
set_option maxRecDepth 100000 in
theorem c_Q_tryToAsk (l : Launch) (hl9 : l.stackTraces = false) (G : GT) (A : Nat → Prop) (lc : Nat → Nat) (s : QS) (z : ZS) (u : WT) (hR : rQ G lc s z u) (hrn : rnk s) (hI : allI s) (j : Nat) (hj : j < q_n s) : KtW l y_Q_tryToAsk b_Q_tryToAsk 3 (some (.object "QuoteGraph$Trouble")) [(0, 5, 8, 246), (0, 5, 13, 254)] 29 945 1 6 1 6 0 0 G A u [.ref (lc 0), .ref (lc (8 + j))] (KQ G A (Ra (fun r u' => r = G.2.2.2 (trN (askF 17 s j).1) ∧ ∃ z', zK z z' ∧ rQ G lc (askF 17 s j).2 z' u' ∧ fQ lc (q_n s) u u'))) (NX) := by
  refine k_ofH (by decide) (Nat.le_of_ble_eq_true rfl) (fun p e st m below meth c ls hx hb hr hlocks hml htab hname hown ht hw hl => ?_)
  have hl : lv_has ls 3 [(0, .ref (lc 0)), (1, .ref (lc (8 + j)))] := hl
  obtain ⟨n0, hn0⟩ : ∃ n0, q_n s = n0 := ⟨_, rfl⟩
  have hw : Sk G A lc s z n0 u u st st.heap [] := ⟨hw, hR, fQ.rf, hn0⟩
  obtain ⟨r, hrk, hr17⟩ := hrn
  refine lv_aload_n hx hb d_Q_tryToAsk_0 rfl (lv_at hl 0 rfl) ?_
  refine lv_aload_n hx hb d_Q_tryToAsk_1 rfl (lv_at hl 1 rfl) ?_
  refine kc_v (kr_V 1 (C := "QuoteGraph") (As := [.ref (lc (8 + j))]) (rest := []) ((by have h := c_ask l hl9 G A lc 17 s z u r hR hrk hI j hj (hr17 j hj); exact h)) hx hb hml hown ht hw.1 gw_550 gw_552 gw_13 gw_42 gw_553 ⟨⟨by decide, by decide⟩, by decide +kernel⟩ ⟨by first | decide | (dsimp only; omega), by first | decide | (dsimp only; omega)⟩ (kr_Q hw) rfl hl.1 rfl (lv_room (Nat.le_of_ble_eq_true rfl)) d_Q_tryToAsk_2 ⟨by first | decide | (dsimp only; omega), by first | decide | (dsimp only; omega)⟩) hw.1 (fun E ce q9 u1 H1 locs1 hp hw1 hce hcv hcl => ?_) (fun u1 H1 locs1 hp1 hw1 => ?_)
  · obtain ⟨hne, hE, z2, hz2, hr2, hf2⟩ := hp
    rcases askF_c 17 s j with h0 | h2 | h3
    · exact absurd h0 hne
    · have hE : E = "java/lang/ArithmeticException" := by rw [hE, h2]; rfl
      subst hE
      refine k_catch (E := "java/lang/ArithmeticException") (name := "java/lang/ArithmeticException") htab hown ht hw1 [] (0, 5, 8, 246) [(0, 5, 13, 254)] rfl (fun z hz => nomatch hz) (by decide) (by decide) gw_548 (ew_of 570 _ (by decide +kernel) rfl) hce hcv hcl ?_
      refine lv_astore_n (lv' := [(2, .ref q9), (0, .ref (lc 0)), (1, .ref (lc (8 + j)))]) hx hb d_Q_tryToAsk_8 rfl hl (by decide) rfl (fun ls hl => ?_)
      refine k_enum 1 hx hb ht hown hw1 rfl gw_700 d_Q_tryToAsk_9 ?_
      exact kt_a hx hb hr hlocks hw1 d_Q_tryToAsk_12 (by exact ⟨by rw [h2]; rfl, z2, hz2, hr2, hf2⟩) (by first | decide | (dsimp only; omega)) (by first | decide | (dsimp only; omega))
    · have hE : E = "java/lang/UnsupportedOperationException" := by rw [hE, h3]; rfl
      subst hE
      refine k_catch (E := "java/lang/UnsupportedOperationException") (name := "java/lang/UnsupportedOperationException") htab hown ht hw1 [(0, 5, 8, 246)] (0, 5, 13, 254) [] rfl (fun z hz => by simp only [List.mem_cons, List.not_mem_nil, or_false] at hz; subst hz; exact Or.inr ⟨by decide, "java/lang/ArithmeticException", ht _ gw_548, hw1.1.2.2.2.2.2.1 ("java/lang/UnsupportedOperationException", "java/lang/ArithmeticException") (by decide)⟩) (by decide) (by decide) gw_549 (ew_of 610 _ (by decide +kernel) rfl) hce hcv hcl ?_
      refine lv_astore_n (lv' := [(2, .ref q9), (0, .ref (lc 0)), (1, .ref (lc (8 + j)))]) hx hb d_Q_tryToAsk_13 rfl hl (by decide) rfl (fun ls hl => ?_)
      refine k_enum 2 hx hb ht hown hw1 rfl gw_702 d_Q_tryToAsk_14 ?_
      exact kt_a hx hb hr hlocks hw1 d_Q_tryToAsk_17 (by exact ⟨by rw [h3]; rfl, z2, hz2, hr2, hf2⟩) (by first | decide | (dsimp only; omega)) (by first | decide | (dsimp only; omega))
  obtain ⟨h0, z2, hz2, hr2, hf2⟩ := hp1
  refine lv_goto (tgt := 18) hx hb d_Q_tryToAsk_5 (by decide) ?_
  refine k_enum 0 hx hb ht hown hw1 rfl gw_704 d_Q_tryToAsk_18 ?_
  exact kt_a hx hb hr hlocks hw1 d_Q_tryToAsk_21 (by exact ⟨by rw [h0]; rfl, z2, hz2, hr2, hf2⟩) (by first | decide | (dsimp only; omega)) (by first | decide | (dsimp only; omega))
set_option maxHeartbeats 4000000 in
set_option maxRecDepth 100000 in
theorem c_Q_raise (l : Launch) (hl9 : l.stackTraces = false) (G : GT) (A : Nat → Prop) (lc : Nat → Nat) (s : QS) (z : ZS) (u : WT) (hR : rQ G lc s z u) (c9 : Nat) (h1 : c9 ≠ 1) : Kt l y_Q_raise b_Q_raise 2 none 6 100 1 6 0 0 1 6 G A u [.ref (lc 0), .ref (G.2.2.2 (trN c9))] (KQ G A (Rv (fun u' => c9 = 0 ∧ u' = u))) (fun E u' => c9 ≠ 0 ∧ E = exV c9 ∧ rQ G lc (qFl s) z u' ∧ fQ lc (q_n s) u u') := by
  refine k_of (by decide) (Nat.le_of_ble_eq_true rfl) (fun p e st m below meth c ls hx hb hr hlocks hml htab hname hown ht hw hl => ?_)
  have hl : lv_has ls 2 [(0, .ref (lc 0)), (1, .ref (G.2.2.2 (trN c9)))] := hl
  obtain ⟨n0, hn0⟩ : ∃ n0, q_n s = n0 := ⟨_, rfl⟩
  have hw : Sk G A lc s z n0 u u st st.heap [] := ⟨hw, hR, fQ.rf, hn0⟩
  refine lv_aload_n hx hb d_Q_raise_0 rfl (lv_at hl 1 rfl) ?_
  refine k_enum 0 hx hb ht hown hw.1 rfl gw_704 d_Q_raise_1 ?_
  refine lv_acmp_ne (rx := some (G.2.2.2 (trN c9))) (ry := some (G.2.2.2 0)) (tgt := 8) hx hb d_Q_raise_4 (by decide) (fun c1 => ?_) (fun c1 => ?_)
  · have hne : c9 ≠ 0 := fun h => c1 (by rw [h]; rfl)
    refine lv_aload_n hx hb d_Q_raise_8 rfl (lv_at hl 0 rfl) ?_
    refine lv_dup hx hb d_Q_raise_9 rfl ?_
    refine kg_Q 5 (by decide) hx hb ht hown hw gw_126 rfl rfl d_Q_raise_10 ?_
    refine lv_iconst (v := 1) hx hb d_Q_raise_13 (by decide) ?_
    refine lv_iadd hx hb d_Q_raise_14 ?_
    refine kp_failureCount ((q_fl s) + (1 : Int32)) hx hb ht hown hw gw_126 d_Q_raise_15 (fun H2 locs2 u2 hw => ?_)
    refine lv_aload_n hx hb d_Q_raise_18 rfl (lv_at hl 1 rfl) ?_
    refine k_enum 2 hx hb ht hown hw.1 rfl gw_702 d_Q_raise_19 ?_
    refine lv_acmp_ne (rx := some (G.2.2.2 (trN c9))) (ry := some (G.2.2.2 2)) (tgt := 36) hx hb d_Q_raise_22 (by decide) (fun c3 => ?_) (fun c3 => ?_)
    · have h3 : c9 ≠ 3 := fun h => c3 (by rw [h]; rfl)
      exact kt_throwW (own := R_Q) (cls := "java/lang/ArithmeticException") (ik := 246) (is := 265) (ic := 267) 14 hl9 hx hb htab hlocks hml hl.1 ht hown hw.1 (by decide) gw_548 gw_58 rfl at_Q_267 d_Q_raise_36 d_Q_raise_39 d_Q_raise_40 d_Q_raise_43 d_Q_raise_46 (by first | decide | (dsimp only; omega)) (Nat.le_of_ble_eq_true rfl) (by first | decide | (dsimp only; omega)) (by first | decide | (dsimp only; omega)) (by exact ⟨hne, by unfold exV; rw [if_neg h1, if_neg h3], by rw [hn0]; exact ⟨hw.2.1, hw.2.2.1⟩⟩) (by first | decide | (dsimp only; omega)) (by first | decide | (dsimp only; omega))
    · have h3 : c9 = 3 := by by_cases h : c9 = 3; exact h; exact absurd (hw.1.1.2.2.2.2.2.2.2.2.2 _ _ (by unfold trN; rw [if_neg hne, if_neg h]; decide) (by decide) (Option.some.inj c3)) (by unfold trN; rw [if_neg hne, if_neg h]; decide)
      exact kt_throwW (own := R_Q) (cls := "java/lang/UnsupportedOperationException") (ik := 254) (is := 262) (ic := 264) 13 hl9 hx hb htab hlocks hml hl.1 ht hown hw.1 (by decide) gw_549 gw_60 rfl at_Q_264 d_Q_raise_25 d_Q_raise_28 d_Q_raise_29 d_Q_raise_32 d_Q_raise_35 (by first | decide | (dsimp only; omega)) (Nat.le_of_ble_eq_true rfl) (by first | decide | (dsimp only; omega)) (by first | decide | (dsimp only; omega)) (by exact ⟨hne, by rw [h3]; rfl, by rw [hn0]; exact ⟨hw.2.1, hw.2.2.1⟩⟩) (by first | decide | (dsimp only; omega)) (by first | decide | (dsimp only; omega))
  · have h0 : c9 = 0 := by by_cases h : c9 = 0; exact h; exact absurd (hw.1.1.2.2.2.2.2.2.2.2.2 _ _ (by unfold trN; rw [if_neg h]; split <;> decide) (by decide) (Option.some.inj c1)) (by unfold trN; rw [if_neg h]; split <;> decide)
    exact kt_v hx hb hr hlocks hw.1 d_Q_raise_7 (by exact ⟨h0, rfl⟩) (by first | decide | (dsimp only; omega)) (by first | decide | (dsimp only; omega))
set_option maxHeartbeats 4000000 in
set_option maxRecDepth 100000 in
theorem c_Q_value (l : Launch) (hl9 : l.stackTraces = false) (G : GT) (A : Nat → Prop) (lc : Nat → Nat) (s : QS) (z : ZS) (u : WT) (hR : rQ G lc s z u) (hrn : rnk s) (hI : allI s) (k : Int32) : Kt l y_Q_value b_Q_value 3 (some .double) 30 967 2 12 1 6 2 12 G A u [.ref (lc 0), .int k] (KQ G A (Rd (fun r u' => (pValue s k).1 = 0 ∧ r = (pValue s k).2.1 ∧ ∃ z', rQ G lc (pValue s k).2.2 z' u' ∧ fQ lc (q_n s) u u'))) (fun E u' => (pValue s k).1 ≠ 0 ∧ E = exV (pValue s k).1 ∧ ∃ z', rQ G lc (pValue s k).2.2 z' u' ∧ fQ lc (q_n s) u u') := by
  refine k_of (by decide) (Nat.le_of_ble_eq_true rfl) (fun p e st m below meth c ls hx hb hr hlocks hml htab hname hown ht hw hl => ?_)
  have hl : lv_has ls 3 [(0, .ref (lc 0)), (1, .int k)] := hl
  obtain ⟨n0, hn0⟩ : ∃ n0, q_n s = n0 := ⟨_, rfl⟩
  have hw : Sk G A lc s z n0 u u st st.heap [] := ⟨hw, hR, fQ.rf, hn0⟩
  refine lv_aload_n hx hb d_Q_value_0 rfl (lv_at hl 0 rfl) ?_
  refine lv_iload_n hx hb d_Q_value_1 rfl (lv_at hl 1 rfl) ?_
  refine kc_a (kr_V 1 (C := "QuoteGraph") (As := [.int k]) (rest := []) (c_Q_nodeAt l hl9 G A lc s z u hw.2.1 k) hx hb hml hown ht hw.1 gw_324 gw_326 gw_3 gw_42 gw_327 ⟨⟨by decide, by decide⟩, by decide +kernel⟩ ⟨by first | decide | (dsimp only; omega), by first | decide | (dsimp only; omega)⟩ (kr_Q hw) rfl hl.1 rfl (lv_room (Nat.le_of_ble_eq_true rfl)) d_Q_value_2 ⟨by first | decide | (dsimp only; omega), by first | decide | (dsimp only; omega)⟩) hw.1 (fun E ce q9 u1 H1 locs1 hp hw1 hce hcv hcl => ?_) (fun r1 u1 H1 locs1 hp1 hw1 => ?_)
  · obtain ⟨rfl, hN, hq9⟩ := hp
    replace hq9 := hq9.symm; subst hq9
    exact kt_out htab hlocks hw1 hce hcv hcl (by rw [show pValue s k = (1, 0, s) from wN_f hN]; exact ⟨(by decide : (1 : Nat) ≠ 0), rfl, z, hR, fQ.rf⟩) (by decide) (by decide)
  obtain ⟨j, hj, rfl, er1, hq1⟩ := hp1; replace hq1 := hq1.symm; subst hq1; subst er1
  rw [hn0] at hj
  have hw : Sk G A lc s z n0 u u st H1 locs1 := ⟨hw1, hw.2⟩
  have eP : pValue s (nI j) = (if (askF 17 s j).1 = 0 then (0, num (q_am (askF 17 s j).2 j), (askF 17 s j).2) else ((askF 17 s j).1, 0, qFl (askF 17 s j).2)) := wN_t (by rw [hn0]; exact hj) hR.1.1
  have hK : akK s (askF 17 s j).2 := askF_K 17 s j
  refine lv_astore_n (lv' := [(2, .ref (lc (8 + j))), (0, .ref (lc 0)), (1, .int (nI j))]) hx hb d_Q_value_5 rfl hl (by decide) rfl (fun ls hl => ?_)
  refine lv_aload_n hx hb d_Q_value_6 rfl (lv_at hl 1 rfl) ?_
  refine lv_aload_n hx hb d_Q_value_7 rfl (lv_at hl 1 rfl) ?_
  refine lv_aload_n hx hb d_Q_value_8 rfl (lv_at hl 0 rfl) ?_
  refine kc_a (kr_VW 1 (C := "QuoteGraph") (As := [.ref (lc (8 + j))]) (rest := [.ref (lc 0)]) (c_Q_tryToAsk l hl9 G A lc s z u hR hrn hI j (by rw [hn0]; exact hj)) hx hb hml hown ht hw.1 gw_544 gw_546 gw_12 gw_42 gw_547 ⟨⟨by decide, by decide⟩, by decide +kernel⟩ ⟨by first | decide | (dsimp only; omega), by first | decide | (dsimp only; omega)⟩ (kr_Q hw) rfl hl.1 rfl (lv_room (Nat.le_of_ble_eq_true rfl)) d_Q_value_9 ⟨by first | decide | (dsimp only; omega), by first | decide | (dsimp only; omega)⟩) hw.1 (fun _ _ _ _ _ _ h => h.elim) (fun r2 u2 H2 locs2 hp2 hw2 => ?_)
  obtain ⟨er, z2, hz2, hr2, hf2⟩ := hp2; subst er
  have hw : Sk G A lc (askF 17 s j).2 z2 n0 u u2 st H2 locs2 := ⟨hw2, hr2, by rw [← hn0]; exact hf2, by rw [hK.1]; exact hn0⟩
  refine kc_v (kr_V 1 (C := "QuoteGraph") (As := [.ref (G.2.2.2 (trN (askF 17 s j).1))]) (rest := []) (c_Q_raise l hl9 G A lc _ z2 u2 hr2 (askF 17 s j).1 (by rcases askF_c 17 s j with h | h | h <;> rw [h] <;> decide)) hx hb hml hown ht hw.1 gw_706 gw_708 gw_19 gw_42 gw_709 ⟨⟨by decide, by decide⟩, by decide +kernel⟩ ⟨by first | decide | (dsimp only; omega), by first | decide | (dsimp only; omega)⟩ (kr_Q hw) rfl hl.1 rfl (lv_room (Nat.le_of_ble_eq_true rfl)) d_Q_value_12 ⟨by first | decide | (dsimp only; omega), by first | decide | (dsimp only; omega)⟩) hw.1 (fun E ce q9 u1 H1 locs1 hp hw1 hce hcv hcl => ?_) (fun u3 H3 locs3 hp3 hw3 => ?_)
  · obtain ⟨hne, rfl, hr3, hf3⟩ := hp
    exact kt_out htab hlocks hw1 hce hcv hcl (by rw [eP, if_neg hne]; exact ⟨hne, rfl, z2, hr3, hf2.tr (by rw [← hK.1]; exact hf3)⟩) (by decide) (by decide)
  obtain ⟨h0, hq3⟩ := hp3; replace hq3 := hq3.symm; subst hq3
  have hw : Sk G A lc (askF 17 s j).2 z2 n0 u u2 st H3 locs3 := ⟨hw3, hw.2⟩
  refine lv_aload_n hx hb d_Q_value_15 rfl (lv_at hl 0 rfl) ?_
  refine kg_N (j := j) 3 (by decide) hx hb ht hown hw hj gw_280 (Or.inl rfl) rfl d_Q_value_16 ?_
  refine kc_d (kr_S 1 (As := [.long (q_am (askF 17 s j).2 j)]) (rest := []) (c_Q_numberOf l G A u2 (q_am (askF 17 s j).2 j)) hx hb hml hown ht hw.1 gw_713 gw_714 gw_42 gw_715 ⟨⟨by decide, by decide⟩, by decide +kernel⟩ ⟨by first | decide | (dsimp only; omega), by first | decide | (dsimp only; omega)⟩ rfl hl.1 rfl (lv_room (Nat.le_of_ble_eq_true rfl)) d_Q_value_19 ⟨by first | decide | (dsimp only; omega), by first | decide | (dsimp only; omega)⟩) hw.1 (fun _ _ _ _ _ _ h => h.elim) (fun r4 u4 H4 locs4 hp4 hw4 => ?_)
  obtain ⟨er4, hq4⟩ := hp4
  replace hq4 := hq4.symm; subst hq4
  have hw : Sk G A lc (askF 17 s j).2 z2 n0 u u2 st H4 locs4 := ⟨hw4, hw.2⟩
  subst er4
  exact kt_d hx hb hr hlocks hw.1 d_Q_value_22 (by rw [eP, if_pos h0]; exact ⟨rfl, rfl, z2, hr2, hf2⟩) (by first | decide | (dsimp only; omega)) (by first | decide | (dsimp only; omega))
set_option maxHeartbeats 4000000 in
set_option maxRecDepth 100000 in
theorem c_Q_uses (l : Launch) (hl9 : l.stackTraces = false) (G : GT) (A : Nat → Prop) (lc : Nat → Nat) (s : QS) (z : ZS) (u : WT) (hR : rQ G lc s z u) (a b : Int32) : Kt l y_Q_uses b_Q_uses 3 (some .boolean) 7 121 1 6 0 0 1 6 G A u [.ref (lc 0), .int a, .int b] (KQ G A (Ri (fun r u' => (pUses s a b).1 = 0 ∧ r = bI (pUses s a b).2.1 ∧ ∃ z', rQ G lc (pUses s a b).2.2 z' u' ∧ fQ lc (q_n s) u u'))) (fun E u' => (pUses s a b).1 ≠ 0 ∧ E = exS (pUses s a b).1 ∧ ∃ z', rQ G lc (pUses s a b).2.2 z' u' ∧ fQ lc (q_n s) u u') := by
  refine k_of (by decide) (Nat.le_of_ble_eq_true rfl) (fun p e st m below meth c ls hx hb hr hlocks hml htab hname hown ht hw hl => ?_)
  have hl : lv_has ls 3 [(0, .ref (lc 0)), (1, .int a), (2, .int b)] := hl
  obtain ⟨n0, hn0⟩ : ∃ n0, q_n s = n0 := ⟨_, rfl⟩
  have hw : Sk G A lc s z n0 u u st st.heap [] := ⟨hw, hR, fQ.rf, hn0⟩
  refine lv_aload_n hx hb d_Q_uses_0 rfl (lv_at hl 0 rfl) ?_
  refine lv_aload_n hx hb d_Q_uses_1 rfl (lv_at hl 0 rfl) ?_
  refine lv_iload_n hx hb d_Q_uses_2 rfl (lv_at hl 1 rfl) ?_
  refine kc_a (kr_V 1 (C := "QuoteGraph") (As := [.int a]) (rest := [.ref (lc 0)]) (c_Q_nodeAt l hl9 G A lc s z u hw.2.1 a) hx hb hml hown ht hw.1 gw_324 gw_326 gw_3 gw_42 gw_327 ⟨⟨by decide, by decide⟩, by decide +kernel⟩ ⟨by first | decide | (dsimp only; omega), by first | decide | (dsimp only; omega)⟩ (kr_Q hw) rfl hl.1 rfl (lv_room (Nat.le_of_ble_eq_true rfl)) d_Q_uses_3 ⟨by first | decide | (dsimp only; omega), by first | decide | (dsimp only; omega)⟩) hw.1 (fun E ce q9 u1 H1 locs1 hp hw1 hce hcv hcl => ?_) (fun r1 u1 H1 locs1 hp1 hw1 => ?_)
  · obtain ⟨rfl, hN, hq9⟩ := hp
    replace hq9 := hq9.symm; subst hq9
    exact kt_out htab hlocks hw1 hce hcv hcl (by rw [show pUses s a b = (1, false, s) from wN_f hN]; exact ⟨(by decide : (1 : Nat) ≠ 0), rfl, z, hR, fQ.rf⟩) (by decide) (by decide)
  obtain ⟨i, hi, rfl, er1, hq1⟩ := hp1; replace hq1 := hq1.symm; subst hq1; subst er1
  rw [hn0] at hi
  have hw : Sk G A lc s z n0 u u st H1 locs1 := ⟨hw1, hw.2⟩
  have eP : pUses s (nI i) b = wN s b false (fun j => (0, usesC s i j, s)) := wN_t (by rw [hn0]; exact hi) hR.1.1
  refine lv_aload_n hx hb d_Q_uses_6 rfl (lv_at hl 0 rfl) ?_
  refine lv_iload_n hx hb d_Q_uses_7 rfl (lv_at hl 2 rfl) ?_
  refine kc_a (kr_V 1 (C := "QuoteGraph") (As := [.int b]) (rest := [.ref (lc (8 + i)), .ref (lc 0)]) (c_Q_nodeAt l hl9 G A lc s z u hw.2.1 b) hx hb hml hown ht hw.1 gw_324 gw_326 gw_3 gw_42 gw_327 ⟨⟨by decide, by decide⟩, by decide +kernel⟩ ⟨by first | decide | (dsimp only; omega), by first | decide | (dsimp only; omega)⟩ (kr_Q hw) rfl hl.1 rfl (lv_room (Nat.le_of_ble_eq_true rfl)) d_Q_uses_8 ⟨by first | decide | (dsimp only; omega), by first | decide | (dsimp only; omega)⟩) hw.1 (fun E ce q9 u1 H1 locs1 hp hw1 hce hcv hcl => ?_) (fun r2 u2 H2 locs2 hp2 hw2 => ?_)
  · obtain ⟨rfl, hN, hq9⟩ := hp
    replace hq9 := hq9.symm; subst hq9
    exact kt_out htab hlocks hw1 hce hcv hcl (by rw [eP, show wN s b false (fun j => (0, usesC s i j, s)) = (1, false, s) from wN_f hN]; exact ⟨(by decide : (1 : Nat) ≠ 0), rfl, z, hR, fQ.rf⟩) (by decide) (by decide)
  obtain ⟨j, hj, rfl, er2, hq2⟩ := hp2; replace hq2 := hq2.symm; subst hq2; subst er2
  rw [hn0] at hj
  have hw : Sk G A lc s z n0 u u st H2 locs2 := ⟨hw2, hw.2⟩
  rw [wN_t (by rw [hn0]; exact hj) hR.1.1] at eP
  refine kc_i (kr_V 2 (C := "QuoteGraph") (As := [.ref (lc (8 + i)), .ref (lc (8 + j))]) (rest := []) (c_Q_hangsOn l G A lc s z u hR i j (by rw [hn0]; exact hi) (by rw [hn0]; exact hj)) hx hb hml hown ht hw.1 gw_474 gw_476 gw_7 gw_42 gw_477 ⟨⟨by decide, by decide⟩, by decide +kernel⟩ ⟨by first | decide | (dsimp only; omega), by first | decide | (dsimp only; omega)⟩ (kr_Q hw) rfl hl.1 rfl (lv_room (Nat.le_of_ble_eq_true rfl)) d_Q_uses_11 ⟨by first | decide | (dsimp only; omega), by first | decide | (dsimp only; omega)⟩) hw.1 (fun _ _ _ _ _ _ h => h.elim) (fun r3 u3 H3 locs3 hp3 hw3 => ?_)
  obtain ⟨er3, hq3⟩ := hp3
  replace hq3 := hq3.symm; subst hq3
  subst er3
  have hw : Sk G A lc s z n0 u u st H3 locs3 := ⟨hw3, hw.2⟩
  exact kt_z hx hb hr hlocks hw.1 d_Q_uses_14 (by rw [eP]; exact ⟨rfl, rfl, z, hR, fQ.rf⟩) (bI_01 _) (by first | decide | (dsimp only; omega)) (by first | decide | (dsimp only; omega))
set_option maxHeartbeats 4000000 in
set_option maxRecDepth 100000 in
theorem c_Q_node (l : Launch) (hl9 : l.stackTraces = false) (G : GT) (A : Nat → Prop) (lc : Nat → Nat) (s : QS) (z : ZS) (u : WT) (hR : rQ G lc s z u) (k v : Int32) : Kt l y_Q_node b_Q_node 4 (some .int) 7 121 1 6 0 0 1 6 G A u [.ref (lc 0), .int k, .int v] (KQ G A (Ri (fun r u' => (pNode s k v).1 = 0 ∧ r = (pNode s k v).2.1 ∧ ∃ z', rQ G lc (pNode s k v).2.2 z' u' ∧ fQ lc (q_n s) u u'))) (fun E u' => (pNode s k v).1 ≠ 0 ∧ E = exS (pNode s k v).1 ∧ ∃ z', rQ G lc (pNode s k v).2.2 z' u' ∧ fQ lc (q_n s) u u') := by
  refine k_of (by decide) (Nat.le_of_ble_eq_true rfl) (fun p e st m below meth c ls hx hb hr hlocks hml htab hname hown ht hw hl => ?_)
  have hl : lv_has ls 4 [(0, .ref (lc 0)), (1, .int k), (2, .int v)] := hl
  obtain ⟨n0, hn0⟩ : ∃ n0, q_n s = n0 := ⟨_, rfl⟩
  have hw : Sk G A lc s z n0 u u st st.heap [] := ⟨hw, hR, fQ.rf, hn0⟩
  refine lv_aload_n hx hb d_Q_node_0 rfl (lv_at hl 0 rfl) ?_
  refine lv_iload_n hx hb d_Q_node_1 rfl (lv_at hl 1 rfl) ?_
  refine kc_a (kr_V 1 (C := "QuoteGraph") (As := [.int k]) (rest := []) (c_Q_nodeAt l hl9 G A lc s z u hw.2.1 k) hx hb hml hown ht hw.1 gw_324 gw_326 gw_3 gw_42 gw_327 ⟨⟨by decide, by decide⟩, by decide +kernel⟩ ⟨by first | decide | (dsimp only; omega), by first | decide | (dsimp only; omega)⟩ (kr_Q hw) rfl hl.1 rfl (lv_room (Nat.le_of_ble_eq_true rfl)) d_Q_node_2 ⟨by first | decide | (dsimp only; omega), by first | decide | (dsimp only; omega)⟩) hw.1 (fun E ce q9 u1 H1 locs1 hp hw1 hce hcv hcl => ?_) (fun r1 u1 H1 locs1 hp1 hw1 => ?_)
  · obtain ⟨rfl, hN, hq9⟩ := hp
    replace hq9 := hq9.symm; subst hq9
    exact kt_out htab hlocks hw1 hce hcv hcl (by rw [show pNode s k v = (1, 0, s) from wN_f hN]; exact ⟨(by decide : (1 : Nat) ≠ 0), rfl, z, hR, fQ.rf⟩) (by decide) (by decide)
  obtain ⟨j, hj, rfl, er1, hq1⟩ := hp1; replace hq1 := hq1.symm; subst hq1; subst er1
  rw [hn0] at hj
  have hw : Sk G A lc s z n0 u u st H1 locs1 := ⟨hw1, hw.2⟩
  have eP : pNode s (nI j) v = (if v = 0 then (0, nI (q_so s j), s) else if v = 1 then (0, bI (q_va s j), s) else if v = 2 then (0, bI (q_fr s j), s) else if v = 3 then (0, bI (q_mi s j), s) else if v = 4 then (0, nI (np s j), s) else if v = 5 then (0, q_tw s j, s) else (1, 0, s)) := wN_t (by rw [hn0]; exact hj) hR.1.1
  refine lv_astore_n (lv' := [(3, .ref (lc (8 + j))), (0, .ref (lc 0)), (1, .int (nI j)), (2, .int v)]) hx hb d_Q_node_5 rfl hl (by decide) rfl (fun ls hl => ?_)
  refine lv_iload_n hx hb d_Q_node_6 rfl (lv_at hl 3 rfl) ?_
  by_cases hk0 : v = 0
  · refine lv_tableIn (tgt := 44) hx hb d_Q_node_7 (by rw [hk0]; decide) (by rw [hk0]; decide) (by rw [hk0]; rfl) (by decide) ?_
    have hs4 : q_so s j = 0 ∨ q_so s j = 1 ∨ q_so s j = 2 ∨ q_so s j = 3 := by have := (hw.nj hj).2.2; omega
    rcases hs4 with h9 | h9 | h9 | h9
    · refine lv_aload_n hx hb d_Q_node_44 rfl (lv_at hl 0 rfl) ?_
      refine kc_i (kr_U 0 (x := ⟨"QuoteGraph$Node", "sort", "()I"⟩) (owner := "QuoteGraph$Node") (C := "QuoteGraph$Quote") (As := []) (rest := []) (c_Qt_sort l G A u (lc (8 + j))) hx hb hml hown ht hw.1 gw_775 gw_777 (va_Decl.abs (hw.1.1.2.2.2.2.1 _ (ew_of 776 _ (by decide +kernel) rfl))) gw_787 gw_788 gw_54 gw_789 ⟨⟨by decide, by decide⟩, by decide +kernel⟩ ⟨by first | decide | (dsimp only; omega), by first | decide | (dsimp only; omega)⟩ (by have h := kr_N hw hj; rw [h9] at h; exact h) rfl hl.1 rfl (lv_room (Nat.le_of_ble_eq_true rfl)) d_Q_node_45 ⟨by first | decide | (dsimp only; omega), by first | decide | (dsimp only; omega)⟩) hw.1 (fun _ _ _ _ _ _ h => h.elim) (fun r2 u2 H2 locs2 hp2 hw2 => ?_)
      obtain ⟨er2, hq2⟩ := hp2
      replace hq2 := hq2.symm; subst hq2
      subst er2
      have hw : Sk G A lc s z n0 u u st H2 locs2 := ⟨hw2, hw.2⟩
      exact kt_i hx hb hr hlocks hw.1 d_Q_node_48 (by rw [eP, if_pos hk0, h9]; exact ⟨rfl, rfl, z, hR, fQ.rf⟩) (by first | decide | (dsimp only; omega)) (by first | decide | (dsimp only; omega))
    · refine lv_aload_n hx hb d_Q_node_44 rfl (lv_at hl 0 rfl) ?_
      refine kc_i (kr_U 0 (x := ⟨"QuoteGraph$Node", "sort", "()I"⟩) (owner := "QuoteGraph$Node") (C := "QuoteGraph$Blend") (As := []) (rest := []) (c_Bl_sort l G A u (lc (8 + j))) hx hb hml hown ht hw.1 gw_775 gw_777 (va_Decl.abs (hw.1.1.2.2.2.2.1 _ (ew_of 776 _ (by decide +kernel) rfl))) gw_778 gw_779 gw_55 gw_780 ⟨⟨by decide, by decide⟩, by decide +kernel⟩ ⟨by first | decide | (dsimp only; omega), by first | decide | (dsimp only; omega)⟩ (by have h := kr_N hw hj; rw [h9] at h; exact h) rfl hl.1 rfl (lv_room (Nat.le_of_ble_eq_true rfl)) d_Q_node_45 ⟨by first | decide | (dsimp only; omega), by first | decide | (dsimp only; omega)⟩) hw.1 (fun _ _ _ _ _ _ h => h.elim) (fun r3 u3 H3 locs3 hp3 hw3 => ?_)
      obtain ⟨er3, hq3⟩ := hp3
      replace hq3 := hq3.symm; subst hq3
      subst er3
      have hw : Sk G A lc s z n0 u u st H3 locs3 := ⟨hw3, hw.2⟩
      exact kt_i hx hb hr hlocks hw.1 d_Q_node_48 (by rw [eP, if_pos hk0, h9]; exact ⟨rfl, rfl, z, hR, fQ.rf⟩) (by first | decide | (dsimp only; omega)) (by first | decide | (dsimp only; omega))
    · refine lv_aload_n hx hb d_Q_node_44 rfl (lv_at hl 0 rfl) ?_
      refine kc_i (kr_U 0 (x := ⟨"QuoteGraph$Node", "sort", "()I"⟩) (owner := "QuoteGraph$Node") (C := "QuoteGraph$Greater") (As := []) (rest := []) (c_Gr_sort l G A u (lc (8 + j))) hx hb hml hown ht hw.1 gw_775 gw_777 (va_Decl.abs (hw.1.1.2.2.2.2.1 _ (ew_of 776 _ (by decide +kernel) rfl))) gw_781 gw_782 gw_56 gw_783 ⟨⟨by decide, by decide⟩, by decide +kernel⟩ ⟨by first | decide | (dsimp only; omega), by first | decide | (dsimp only; omega)⟩ (by have h := kr_N hw hj; rw [h9] at h; exact h) rfl hl.1 rfl (lv_room (Nat.le_of_ble_eq_true rfl)) d_Q_node_45 ⟨by first | decide | (dsimp only; omega), by first | decide | (dsimp only; omega)⟩) hw.1 (fun _ _ _ _ _ _ h => h.elim) (fun r4 u4 H4 locs4 hp4 hw4 => ?_)
      obtain ⟨er4, hq4⟩ := hp4
      replace hq4 := hq4.symm; subst hq4
      subst er4
      have hw : Sk G A lc s z n0 u u st H4 locs4 := ⟨hw4, hw.2⟩
      exact kt_i hx hb hr hlocks hw.1 d_Q_node_48 (by rw [eP, if_pos hk0, h9]; exact ⟨rfl, rfl, z, hR, fQ.rf⟩) (by first | decide | (dsimp only; omega)) (by first | decide | (dsimp only; omega))
    · refine lv_aload_n hx hb d_Q_node_44 rfl (lv_at hl 0 rfl) ?_
      refine kc_i (kr_U 0 (x := ⟨"QuoteGraph$Node", "sort", "()I"⟩) (owner := "QuoteGraph$Node") (C := "QuoteGraph$Option") (As := []) (rest := []) (c_Op_sort l G A u (lc (8 + j))) hx hb hml hown ht hw.1 gw_775 gw_777 (va_Decl.abs (hw.1.1.2.2.2.2.1 _ (ew_of 776 _ (by decide +kernel) rfl))) gw_784 gw_785 gw_57 gw_786 ⟨⟨by decide, by decide⟩, by decide +kernel⟩ ⟨by first | decide | (dsimp only; omega), by first | decide | (dsimp only; omega)⟩ (by have h := kr_N hw hj; rw [h9] at h; exact h) rfl hl.1 rfl (lv_room (Nat.le_of_ble_eq_true rfl)) d_Q_node_45 ⟨by first | decide | (dsimp only; omega), by first | decide | (dsimp only; omega)⟩) hw.1 (fun _ _ _ _ _ _ h => h.elim) (fun r5 u5 H5 locs5 hp5 hw5 => ?_)
      obtain ⟨er5, hq5⟩ := hp5
      replace hq5 := hq5.symm; subst hq5
      subst er5
      have hw : Sk G A lc s z n0 u u st H5 locs5 := ⟨hw5, hw.2⟩
      exact kt_i hx hb hr hlocks hw.1 d_Q_node_48 (by rw [eP, if_pos hk0, h9]; exact ⟨rfl, rfl, z, hR, fQ.rf⟩) (by first | decide | (dsimp only; omega)) (by first | decide | (dsimp only; omega))
  by_cases hk1 : v = 1
  · refine lv_tableIn (tgt := 49) hx hb d_Q_node_7 (by rw [hk1]; decide) (by rw [hk1]; decide) (by rw [hk1]; rfl) (by decide) ?_
    refine lv_aload_n hx hb d_Q_node_49 rfl (lv_at hl 0 rfl) ?_
    refine kg_N (j := j) 4 (by decide) hx hb ht hown hw hj gw_284 (Or.inl rfl) rfl d_Q_node_50 ?_
    refine lv_if_eq (tgt := 60) hx hb d_Q_node_53 (by decide) (fun c6 => ?_) (fun c6 => ?_)
    · refine lv_iconst (v := 0) hx hb d_Q_node_60 (by decide) ?_
      exact kt_i hx hb hr hlocks hw.1 d_Q_node_61 (by rw [eP, if_neg hk0, if_pos hk1]; exact ⟨rfl, by rw [(bI_eq _).mp c6]; rfl, z, hR, fQ.rf⟩) (by first | decide | (dsimp only; omega)) (by first | decide | (dsimp only; omega))
    · refine lv_iconst (v := 1) hx hb d_Q_node_56 (by decide) ?_
      refine lv_goto (tgt := 61) hx hb d_Q_node_57 (by decide) ?_
      exact kt_i hx hb hr hlocks hw.1 d_Q_node_61 (by rw [eP, if_neg hk0, if_pos hk1]; exact ⟨rfl, by rw [(bI_ne _).mp c6]; rfl, z, hR, fQ.rf⟩) (by first | decide | (dsimp only; omega)) (by first | decide | (dsimp only; omega))
  by_cases hk2 : v = 2
  · refine lv_tableIn (tgt := 62) hx hb d_Q_node_7 (by rw [hk2]; decide) (by rw [hk2]; decide) (by rw [hk2]; rfl) (by decide) ?_
    refine lv_aload_n hx hb d_Q_node_62 rfl (lv_at hl 0 rfl) ?_
    refine kg_N (j := j) 5 (by decide) hx hb ht hown hw hj gw_285 (Or.inl rfl) rfl d_Q_node_63 ?_
    refine lv_if_eq (tgt := 73) hx hb d_Q_node_66 (by decide) (fun c7 => ?_) (fun c7 => ?_)
    · refine lv_iconst (v := 0) hx hb d_Q_node_73 (by decide) ?_
      exact kt_i hx hb hr hlocks hw.1 d_Q_node_74 (by rw [eP, if_neg hk0, if_neg hk1, if_pos hk2]; exact ⟨rfl, by rw [(bI_eq _).mp c7]; rfl, z, hR, fQ.rf⟩) (by first | decide | (dsimp only; omega)) (by first | decide | (dsimp only; omega))
    · refine lv_iconst (v := 1) hx hb d_Q_node_69 (by decide) ?_
      refine lv_goto (tgt := 74) hx hb d_Q_node_70 (by decide) ?_
      exact kt_i hx hb hr hlocks hw.1 d_Q_node_74 (by rw [eP, if_neg hk0, if_neg hk1, if_pos hk2]; exact ⟨rfl, by rw [(bI_ne _).mp c7]; rfl, z, hR, fQ.rf⟩) (by first | decide | (dsimp only; omega)) (by first | decide | (dsimp only; omega))
  by_cases hk3 : v = 3
  · refine lv_tableIn (tgt := 75) hx hb d_Q_node_7 (by rw [hk3]; decide) (by rw [hk3]; decide) (by rw [hk3]; rfl) (by decide) ?_
    refine lv_aload_n hx hb d_Q_node_75 rfl (lv_at hl 0 rfl) ?_
    refine kg_N (j := j) 6 (by decide) hx hb ht hown hw hj gw_288 (Or.inl rfl) rfl d_Q_node_76 ?_
    refine lv_if_eq (tgt := 86) hx hb d_Q_node_79 (by decide) (fun c8 => ?_) (fun c8 => ?_)
    · refine lv_iconst (v := 0) hx hb d_Q_node_86 (by decide) ?_
      exact kt_i hx hb hr hlocks hw.1 d_Q_node_87 (by rw [eP, if_neg hk0, if_neg hk1, if_neg hk2, if_pos hk3]; exact ⟨rfl, by rw [(bI_eq _).mp c8]; rfl, z, hR, fQ.rf⟩) (by first | decide | (dsimp only; omega)) (by first | decide | (dsimp only; omega))
    · refine lv_iconst (v := 1) hx hb d_Q_node_82 (by decide) ?_
      refine lv_goto (tgt := 87) hx hb d_Q_node_83 (by decide) ?_
      exact kt_i hx hb hr hlocks hw.1 d_Q_node_87 (by rw [eP, if_neg hk0, if_neg hk1, if_neg hk2, if_pos hk3]; exact ⟨rfl, by rw [(bI_ne _).mp c8]; rfl, z, hR, fQ.rf⟩) (by first | decide | (dsimp only; omega)) (by first | decide | (dsimp only; omega))
  by_cases hk4 : v = 4
  · refine lv_tableIn (tgt := 88) hx hb d_Q_node_7 (by rw [hk4]; decide) (by rw [hk4]; decide) (by rw [hk4]; rfl) (by decide) ?_
    refine lv_aload_n hx hb d_Q_node_88 rfl (lv_at hl 0 rfl) ?_
    refine kg_N (j := j) 2 (by decide) hx hb ht hown hw hj gw_271 (Or.inl rfl) rfl d_Q_node_89 ?_
    exact kt_i hx hb hr hlocks hw.1 d_Q_node_92 (by rw [eP, if_neg hk0, if_neg hk1, if_neg hk2, if_neg hk3, if_pos hk4]; exact ⟨rfl, rfl, z, hR, fQ.rf⟩) (by first | decide | (dsimp only; omega)) (by first | decide | (dsimp only; omega))
  by_cases hk5 : v = 5
  · refine lv_tableIn (tgt := 93) hx hb d_Q_node_7 (by rw [hk5]; decide) (by rw [hk5]; decide) (by rw [hk5]; rfl) (by decide) ?_
    refine lv_aload_n hx hb d_Q_node_93 rfl (lv_at hl 0 rfl) ?_
    refine kg_N (j := j) 7 (by decide) hx hb ht hown hw hj gw_289 (Or.inl rfl) rfl d_Q_node_94 ?_
    exact kt_i hx hb hr hlocks hw.1 d_Q_node_97 (by rw [eP, if_neg hk0, if_neg hk1, if_neg hk2, if_neg hk3, if_neg hk4, if_pos hk5]; exact ⟨rfl, rfl, z, hR, fQ.rf⟩) (by first | decide | (dsimp only; omega)) (by first | decide | (dsimp only; omega))
  · refine lv_tableOut (tgt := 98) hx hb d_Q_node_7 (sw_out6 hk0 hk1 hk2 hk3 hk4 hk5) (by decide) ?_
    exact kt_throw (own := R_Q) (cls := "java/lang/IllegalArgumentException") (ik := 143) (is := 187) (ic := 147) 17 hl9 hx hb htab hlocks hml hl.1 ht hown hw.1 (by decide) gw_159 gw_51 rfl at_Q_147 d_Q_node_98 d_Q_node_101 d_Q_node_102 d_Q_node_104 d_Q_node_107 (by first | decide | (dsimp only; omega)) (Nat.le_of_ble_eq_true rfl) (by first | decide | (dsimp only; omega)) (by first | decide | (dsimp only; omega)) (by rw [eP, if_neg hk0, if_neg hk1, if_neg hk2, if_neg hk3, if_neg hk4, if_neg hk5]; exact ⟨(by decide : (1 : Nat) ≠ 0), rfl, z, hR, fQ.rf⟩) (by first | decide | (dsimp only; omega)) (by first | decide | (dsimp only; omega))
set_option maxHeartbeats 4000000 in
set_option maxRecDepth 100000 in
theorem c_Q_count (l : Launch) (G : GT) (A : Nat → Prop) (lc : Nat → Nat) (s : QS) (z : ZS) (u : WT) (hR : rQ G lc s z u) (v : Int32) : Kt l y_Q_count b_Q_count 2 (some .int) 0 0 0 0 0 0 0 0 G A u [.ref (lc 0), .int v] (KQ G A (Ri (fun r u' => r = pCount s v ∧ u' = u))) (NX) := by
  refine k_of (by decide) (Nat.le_of_ble_eq_true rfl) (fun p e st m below meth c ls hx hb hr hlocks hml htab hname hown ht hw hl => ?_)
  have hl : lv_has ls 2 [(0, .ref (lc 0)), (1, .int v)] := hl
  obtain ⟨n0, hn0⟩ : ∃ n0, q_n s = n0 := ⟨_, rfl⟩
  have hw : Sk G A lc s z n0 u u st st.heap [] := ⟨hw, hR, fQ.rf, hn0⟩
  refine lv_iload_n hx hb d_Q_count_0 rfl (lv_at hl 1 rfl) ?_
  by_cases hk0 : v = 0
  · refine lv_tableIn (tgt := 32) hx hb d_Q_count_1 (by rw [hk0]; decide) (by rw [hk0]; decide) (by rw [hk0]; rfl) (by decide) ?_
    refine lv_aload_n hx hb d_Q_count_32 rfl (lv_at hl 0 rfl) ?_
    refine kg_Q 2 (by decide) hx hb ht hown hw gw_123 rfl rfl d_Q_count_33 ?_
    exact kt_i hx hb hr hlocks hw.1 d_Q_count_36 (by exact ⟨by unfold pCount; rw [if_pos hk0]; rw [hn0], rfl⟩) (by first | decide | (dsimp only; omega)) (by first | decide | (dsimp only; omega))
  by_cases hk1 : v = 1
  · refine lv_tableIn (tgt := 37) hx hb d_Q_count_1 (by rw [hk1]; decide) (by rw [hk1]; decide) (by rw [hk1]; rfl) (by decide) ?_
    refine lv_aload_n hx hb d_Q_count_37 rfl (lv_at hl 0 rfl) ?_
    refine kg_Q 3 (by decide) hx hb ht hown hw gw_124 rfl rfl d_Q_count_38 ?_
    exact kt_i hx hb hr hlocks hw.1 d_Q_count_41 (by exact ⟨by unfold pCount; rw [if_neg hk0, if_pos hk1], rfl⟩) (by first | decide | (dsimp only; omega)) (by first | decide | (dsimp only; omega))
  by_cases hk2 : v = 2
  · refine lv_tableIn (tgt := 42) hx hb d_Q_count_1 (by rw [hk2]; decide) (by rw [hk2]; decide) (by rw [hk2]; rfl) (by decide) ?_
    refine lv_aload_n hx hb d_Q_count_42 rfl (lv_at hl 0 rfl) ?_
    refine kg_Q 4 (by decide) hx hb ht hown hw gw_125 rfl rfl d_Q_count_43 ?_
    exact kt_i hx hb hr hlocks hw.1 d_Q_count_46 (by exact ⟨by unfold pCount; rw [if_neg hk0, if_neg hk1, if_pos hk2], rfl⟩) (by first | decide | (dsimp only; omega)) (by first | decide | (dsimp only; omega))
  by_cases hk3 : v = 3
  · refine lv_tableIn (tgt := 47) hx hb d_Q_count_1 (by rw [hk3]; decide) (by rw [hk3]; decide) (by rw [hk3]; rfl) (by decide) ?_
    refine lv_aload_n hx hb d_Q_count_47 rfl (lv_at hl 0 rfl) ?_
    refine kg_Q 5 (by decide) hx hb ht hown hw gw_126 rfl rfl d_Q_count_48 ?_
    exact kt_i hx hb hr hlocks hw.1 d_Q_count_51 (by exact ⟨by unfold pCount; rw [if_neg hk0, if_neg hk1, if_neg hk2, if_pos hk3], rfl⟩) (by first | decide | (dsimp only; omega)) (by first | decide | (dsimp only; omega))
  · refine lv_tableOut (tgt := 52) hx hb d_Q_count_1 (sw_out4 hk0 hk1 hk2 hk3) (by decide) ?_
    refine lv_iconst (v := (-1)) hx hb d_Q_count_52 (by decide) ?_
    exact kt_i hx hb hr hlocks hw.1 d_Q_count_53 (by exact ⟨by unfold pCount; rw [if_neg hk0, if_neg hk1, if_neg hk2, if_neg hk3], rfl⟩) (by first | decide | (dsimp only; omega)) (by first | decide | (dsimp only; omega))
set_option maxHeartbeats 4000000 in
set_option maxRecDepth 100000 in
theorem c_Q_freeze (l : Launch) (hl9 : l.stackTraces = false) (G : GT) (A : Nat → Prop) (lc : Nat → Nat) (s : QS) (z : ZS) (u : WT) (hR : rQ G lc s z u) (k : Int32) (on : Bool) : Kt l y_Q_freeze b_Q_freeze 4 none 37 921 1 6 0 0 1 6 G A u [.ref (lc 0), .int k, .int (bI on)] (KQ G A (Rv (fun u' => (pFreeze s k on).1 = 0 ∧ ∃ z', rQ G lc (pFreeze s k on).2.2 z' u' ∧ fQ lc (q_n s) u u'))) (fun E u' => (pFreeze s k on).1 ≠ 0 ∧ E = exS (pFreeze s k on).1 ∧ ∃ z', rQ G lc (pFreeze s k on).2.2 z' u' ∧ fQ lc (q_n s) u u') := by
  refine k_of (by decide) (Nat.le_of_ble_eq_true rfl) (fun p e st m below meth c ls hx hb hr hlocks hml htab hname hown ht hw hl => ?_)
  have hl : lv_has ls 4 [(0, .ref (lc 0)), (1, .int k), (2, .int (bI on))] := hl
  obtain ⟨n0, hn0⟩ : ∃ n0, q_n s = n0 := ⟨_, rfl⟩
  have hw : Sk G A lc s z n0 u u st st.heap [] := ⟨hw, hR, fQ.rf, hn0⟩
  refine lv_aload_n hx hb d_Q_freeze_0 rfl (lv_at hl 0 rfl) ?_
  refine lv_iload_n hx hb d_Q_freeze_1 rfl (lv_at hl 1 rfl) ?_
  refine kc_a (kr_V 1 (C := "QuoteGraph") (As := [.int k]) (rest := []) (c_Q_nodeAt l hl9 G A lc s z u hw.2.1 k) hx hb hml hown ht hw.1 gw_324 gw_326 gw_3 gw_42 gw_327 ⟨⟨by decide, by decide⟩, by decide +kernel⟩ ⟨by first | decide | (dsimp only; omega), by first | decide | (dsimp only; omega)⟩ (kr_Q hw) rfl hl.1 rfl (lv_room (Nat.le_of_ble_eq_true rfl)) d_Q_freeze_2 ⟨by first | decide | (dsimp only; omega), by first | decide | (dsimp only; omega)⟩) hw.1 (fun E ce q9 u1 H1 locs1 hp hw1 hce hcv hcl => ?_) (fun r1 u1 H1 locs1 hp1 hw1 => ?_)
  · obtain ⟨rfl, hN, hq9⟩ := hp
    replace hq9 := hq9.symm; subst hq9
    exact kt_out htab hlocks hw1 hce hcv hcl (by rw [show pFreeze s k on = (1, (), s) from wN_f hN]; exact ⟨(by decide : (1 : Nat) ≠ 0), rfl, z, hR, fQ.rf⟩) (by decide) (by decide)
  obtain ⟨j, hj, rfl, er1, hq1⟩ := hp1; replace hq1 := hq1.symm; subst hq1; subst er1
  rw [hn0] at hj
  have hw : Sk G A lc s z n0 u u st H1 locs1 := ⟨hw1, hw.2⟩
  have eP : pFreeze s (nI j) on = (if q_so s j = 0 then (1, (), s) else if on = true then (if q_va s j = true then (0, (), qS_fr s (va_up (q_fr s) j true)) else (2, (), s)) else if q_mi s j = true then (0, (), tellF 17 (qS_mi (qS_fr s (va_up (q_fr s) j false)) (va_up (q_mi s) j false)) j) else (0, (), qS_fr s (va_up (q_fr s) j false))) := wN_t (by rw [hn0]; exact hj) hR.1.1
  refine lv_astore_n (lv' := [(3, .ref (lc (8 + j))), (0, .ref (lc 0)), (1, .int (nI j)), (2, .int (bI on))]) hx hb d_Q_freeze_5 rfl hl (by decide) rfl (fun ls hl => ?_)
  refine lv_aload_n hx hb d_Q_freeze_6 rfl (lv_at hl 0 rfl) ?_
  by_cases hs2 : q_so s j = 0
  · refine va_instY (C := "QuoteGraph$Quote") hx hb hown (ht _ gw_248) (hw.1.1.2.2.2.2.1 _ (ew_of 1048 _ (by decide +kernel) rfl)) (by have h := kr_N hw hj; rw [hs2] at h; exact h) d_Q_freeze_7 ?_
    refine lv_if_eq (tgt := 23) hx hb d_Q_freeze_10 (by decide) (fun c1 => ?_) (fun c1 => ?_)
    · exact absurd c1 (by decide)
    · exact kt_throw (own := R_Q) (cls := "java/lang/IllegalArgumentException") (ik := 143) (is := 145) (ic := 147) 15 hl9 hx hb htab hlocks hml hl.1 ht hown hw.1 (by decide) gw_159 gw_51 rfl at_Q_147 d_Q_freeze_13 d_Q_freeze_16 d_Q_freeze_17 d_Q_freeze_19 d_Q_freeze_22 (by first | decide | (dsimp only; omega)) (Nat.le_of_ble_eq_true rfl) (by first | decide | (dsimp only; omega)) (by first | decide | (dsimp only; omega)) (by rw [eP, if_pos hs2]; exact ⟨(by decide : (1 : Nat) ≠ 0), rfl, z, hR, fQ.rf⟩) (by first | decide | (dsimp only; omega)) (by first | decide | (dsimp only; omega))
  · refine va_instNo (C := ndC (q_so s j)) hx hb hown (ht _ gw_248) (by have h4 := (hw.nj hj).2.2; have h5 : q_so s j = 1 ∨ q_so s j = 2 ∨ q_so s j = 3 := (by omega); rcases h5 with h6 | h6 | h6 <;> rw [h6]; exact hw.1.1.2.2.2.2.2.1 ("QuoteGraph$Blend", "QuoteGraph$Quote") (by decide); exact hw.1.1.2.2.2.2.2.1 ("QuoteGraph$Greater", "QuoteGraph$Quote") (by decide); exact hw.1.1.2.2.2.2.2.1 ("QuoteGraph$Option", "QuoteGraph$Quote") (by decide)) (kr_N hw hj) d_Q_freeze_7 ?_
    refine lv_if_eq (tgt := 23) hx hb d_Q_freeze_10 (by decide) (fun c1 => ?_) (fun c1 => ?_)
    · rw [if_neg hs2] at eP
      refine lv_iload_n hx hb d_Q_freeze_23 rfl (lv_at hl 3 rfl) ?_
      refine lv_if_eq (tgt := 44) hx hb d_Q_freeze_24 (by decide) (fun c3 => ?_) (fun c3 => ?_)
      · have ho : on = false := (bI_eq _).mp c3
        subst ho
        rw [if_neg (by decide)] at eP
        refine lv_aload_n hx hb d_Q_freeze_44 rfl (lv_at hl 0 rfl) ?_
        refine lv_iload_n hx hb d_Q_freeze_45 rfl (lv_at hl 3 rfl) ?_
        refine kp_frozen (j := j) false hx hb ht hown hw hj gw_285 (Or.inl rfl) d_Q_freeze_46 (fun H4 locs4 u4 hw => ?_)
        refine lv_iload_n hx hb d_Q_freeze_49 rfl (lv_at hl 3 rfl) ?_
        refine lv_if_ne (tgt := 70) hx hb d_Q_freeze_50 (by decide) (fun c5 => ?_) (fun c5 => ?_)
        · exact absurd (by decide) c5
        · refine lv_aload_n hx hb d_Q_freeze_53 rfl (lv_at hl 0 rfl) ?_
          refine kg_N (j := j) 6 (by decide) hx hb ht hown hw hj gw_288 (Or.inl rfl) rfl d_Q_freeze_54 ?_
          refine lv_if_eq (tgt := 70) hx hb d_Q_freeze_57 (by decide) (fun c6 => ?_) (fun c6 => ?_)
          · have hm : q_mi s j = false := (bI_eq _).mp c6
            exact kt_v hx hb hr hlocks hw.1 d_Q_freeze_70 (by rw [eP, if_neg (by rw [hm]; decide)]; exact ⟨rfl, z, hw.2.1, by rw [hn0]; exact hw.2.2.1⟩) (by first | decide | (dsimp only; omega)) (by first | decide | (dsimp only; omega))
          · have hm : q_mi s j = true := (bI_ne _).mp c6
            refine lv_aload_n hx hb d_Q_freeze_60 rfl (lv_at hl 0 rfl) ?_
            refine lv_iconst (v := 0) hx hb d_Q_freeze_61 (by decide) ?_
            refine kp_missed (j := j) false hx hb ht hown hw hj gw_288 (Or.inl rfl) d_Q_freeze_62 (fun H7 locs7 u7 hw => ?_)
            refine lv_aload_n hx hb d_Q_freeze_65 rfl (lv_at hl 1 rfl) ?_
            refine lv_aload_n hx hb d_Q_freeze_66 rfl (lv_at hl 0 rfl) ?_
            refine kc_v (kr_V 1 (C := "QuoteGraph") (As := [.ref (lc (8 + j))]) (rest := []) (c_tell l G A lc 17 (qS_mi (qS_fr s (va_up (q_fr s) j false)) (va_up (q_mi (qS_fr s (va_up (q_fr s) j false))) j false)) z u7 hw.2.1 (vc_17 hR.1.1) j (by show j < q_n s; rw [hn0]; exact hj)) hx hb hml hown ht hw.1 gw_508 gw_510 gw_9 gw_42 gw_511 ⟨⟨by decide, by decide⟩, by decide +kernel⟩ ⟨by first | decide | (dsimp only; omega), by first | decide | (dsimp only; omega)⟩ (kr_Q hw) rfl hl.1 rfl (lv_room (Nat.le_of_ble_eq_true rfl)) d_Q_freeze_67 ⟨by first | decide | (dsimp only; omega), by first | decide | (dsimp only; omega)⟩) hw.1 (fun _ _ _ _ _ _ h => h.elim) (fun u8 H8 locs8 hp8 hw8 => ?_)
            obtain ⟨g1, g2⟩ := hp8
            exact kt_v hx hb hr hlocks hw8 d_Q_freeze_70 (by rw [eP, if_pos hm]; exact ⟨rfl, z, g1, by rw [hn0]; exact hw.2.2.1.tr (by rw [← hn0]; exact g2)⟩) (by first | decide | (dsimp only; omega)) (by first | decide | (dsimp only; omega))
      · have ho : on = true := (bI_ne _).mp c3
        subst ho
        rw [if_pos rfl] at eP
        refine lv_aload_n hx hb d_Q_freeze_27 rfl (lv_at hl 0 rfl) ?_
        refine kg_N (j := j) 4 (by decide) hx hb ht hown hw hj gw_284 (Or.inl rfl) rfl d_Q_freeze_28 ?_
        refine lv_if_ne (tgt := 44) hx hb d_Q_freeze_31 (by decide) (fun c9 => ?_) (fun c9 => ?_)
        · rw [if_pos ((bI_ne _).mp c9)] at eP
          refine lv_aload_n hx hb d_Q_freeze_44 rfl (lv_at hl 0 rfl) ?_
          refine lv_iload_n hx hb d_Q_freeze_45 rfl (lv_at hl 3 rfl) ?_
          refine kp_frozen (j := j) true hx hb ht hown hw hj gw_285 (Or.inl rfl) d_Q_freeze_46 (fun H10 locs10 u10 hw => ?_)
          refine lv_iload_n hx hb d_Q_freeze_49 rfl (lv_at hl 3 rfl) ?_
          refine lv_if_ne (tgt := 70) hx hb d_Q_freeze_50 (by decide) (fun c11 => ?_) (fun c11 => ?_)
          · exact kt_v hx hb hr hlocks hw.1 d_Q_freeze_70 (by rw [eP]; exact ⟨rfl, z, hw.2.1, by rw [hn0]; exact hw.2.2.1⟩) (by first | decide | (dsimp only; omega)) (by first | decide | (dsimp only; omega))
          · exact absurd c11 (by decide)
        · exact kt_throw (own := R_Q) (cls := "java/lang/IllegalStateException") (ik := 153) (is := 155) (ic := 157) 16 hl9 hx hb htab hlocks hml hl.1 ht hown hw.1 (by decide) gw_232 gw_52 rfl at_Q_157 d_Q_freeze_34 d_Q_freeze_37 d_Q_freeze_38 d_Q_freeze_40 d_Q_freeze_43 (by first | decide | (dsimp only; omega)) (Nat.le_of_ble_eq_true rfl) (by first | decide | (dsimp only; omega)) (by first | decide | (dsimp only; omega)) (by rw [eP, if_neg (by rw [(bI_eq _).mp c9]; decide)]; exact ⟨(by decide : (2 : Nat) ≠ 0), rfl, z, hR, fQ.rf⟩) (by first | decide | (dsimp only; omega)) (by first | decide | (dsimp only; omega))
    · exact absurd rfl c1
set_option maxHeartbeats 4000000 in
set_option maxRecDepth 100000 in
theorem c_Q_set (l : Launch) (hl9 : l.stackTraces = false) (G : GT) (A : Nat → Prop) (lc : Nat → Nat) (s : QS) (z : ZS) (u : WT) (hR : rQ G lc s z u) (k i : Int32) : Kt l y_Q_set b_Q_set 8 (some .int) 38 947 1 6 0 0 1 6 G A u [.ref (lc 0), .int k, .double (e8 i)] (KQ G A (Ri (fun r u' => (pSet s k i).1 = 0 ∧ r = (pSet s k i).2.1 ∧ ∃ z', rQ G lc (pSet s k i).2.2 z' u' ∧ fQ lc (q_n s) u u'))) (fun E u' => (pSet s k i).1 ≠ 0 ∧ E = exS (pSet s k i).1 ∧ ∃ z', rQ G lc (pSet s k i).2.2 z' u' ∧ fQ lc (q_n s) u u') := by
  refine k_of (by decide) (Nat.le_of_ble_eq_true rfl) (fun p e st m below meth c ls hx hb hr hlocks hml htab hname hown ht hw hl => ?_)
  have hl : lv_has ls 8 [(0, .ref (lc 0)), (1, .int k), (2, .double (e8 i))] := hl
  obtain ⟨n0, hn0⟩ : ∃ n0, q_n s = n0 := ⟨_, rfl⟩
  have hw : Sk G A lc s z n0 u u st st.heap [] := ⟨hw, hR, fQ.rf, hn0⟩
  refine lv_aload_n hx hb d_Q_set_0 rfl (lv_at hl 0 rfl) ?_
  refine lv_iload_n hx hb d_Q_set_1 rfl (lv_at hl 1 rfl) ?_
  refine kc_a (kr_V 1 (C := "QuoteGraph") (As := [.int k]) (rest := []) (c_Q_quoteAt l hl9 G A lc s z u hw.2.1 k) hx hb hml hown ht hw.1 gw_530 gw_532 gw_11 gw_42 gw_533 ⟨⟨by decide, by decide⟩, by decide +kernel⟩ ⟨by first | decide | (dsimp only; omega), by first | decide | (dsimp only; omega)⟩ (kr_Q hw) rfl hl.1 rfl (lv_room (Nat.le_of_ble_eq_true rfl)) d_Q_set_2 ⟨by first | decide | (dsimp only; omega), by first | decide | (dsimp only; omega)⟩) hw.1 (fun E ce q9 u1 H1 locs1 hp hw1 hce hcv hcl => ?_) (fun r1 u1 H1 locs1 hp1 hw1 => ?_)
  · obtain ⟨rfl, hN, hq9⟩ := hp
    replace hq9 := hq9.symm; subst hq9
    rcases hN with hN | ⟨j, hj, rfl, hso⟩
    · exact kt_out htab hlocks hw1 hce hcv hcl (by rw [show pSet s k i = (1, 0, s) from wN_f hN]; exact ⟨(by decide : (1 : Nat) ≠ 0), rfl, z, hR, fQ.rf⟩) (by decide) (by decide)
    · exact kt_out htab hlocks hw1 hce hcv hcl (by rw [show pSet s (nI j) i = (1, 0, s) from (wN_t hj hR.1.1).trans (if_pos hso)]; exact ⟨(by decide : (1 : Nat) ≠ 0), rfl, z, hR, fQ.rf⟩) (by decide) (by decide)
  obtain ⟨j, hj, rfl, hsoj, er1, hq1⟩ := hp1; replace hq1 := hq1.symm; subst hq1; subst er1
  rw [hn0] at hj
  have hw : Sk G A lc s z n0 u u st H1 locs1 := ⟨hw1, hw.2⟩
  have eP : pSet s (nI j) i = (if inE i 100000 = false then (1, 0, s) else if 128 * i.toInt64 = q_am s j then (0, q_tl s - q_tl s, s) else (0, q_tl (tellU (tellF 17) j (qS_am s (va_up (q_am s) j (128 * i.toInt64))) (q_n s)) - q_tl s, (tellU (tellF 17) j (qS_am s (va_up (q_am s) j (128 * i.toInt64))) (q_n s)))) := (wN_t (by rw [hn0]; exact hj) hR.1.1).trans (if_neg (by rw [Classical.not_not]; exact hsoj))
  refine lv_astore (lv' := [(4, .ref (lc (8 + j))), (0, .ref (lc 0)), (1, .int (nI j)), (2, .double (e8 i))]) hx hb d_Q_set_5 hl (by decide) rfl (fun ls hl => ?_)
  refine lv_ldc2 (v := 128) hx hb hown (ht _ gw_153) d_Q_set_7 ?_
  refine lv_dload_n hx hb d_Q_set_10 rfl (lv_at hl 3 rfl) ?_
  refine lv_ldc (v := 100000) hx hb hown (ht _ gw_154) d_Q_set_11 ?_
  refine kc_l (kr_S 2 (As := [.double (e8 i), .int (100000 : Int32)]) (rest := [.long (128 : Int64)]) (c_Q_eighthsOf l hl9 G A u i 100000 (by decide) (by decide)) hx hb hml hown ht hw.1 gw_155 gw_156 gw_42 gw_157 ⟨⟨by decide, by decide⟩, by decide +kernel⟩ ⟨by first | decide | (dsimp only; omega), by first | decide | (dsimp only; omega)⟩ rfl hl.1 rfl (lv_room (Nat.le_of_ble_eq_true rfl)) d_Q_set_13 ⟨by first | decide | (dsimp only; omega), by first | decide | (dsimp only; omega)⟩) hw.1 (fun E ce q9 u1 H1 locs1 hp hw1 hce hcv hcl => ?_) (fun r2 u2 H2 locs2 hp2 hw2 => ?_)
  · obtain ⟨rfl, hN, hq9⟩ := hp
    replace hN : inE i 100000 = false := hN
    replace hq9 := hq9.symm; subst hq9
    exact kt_out htab hlocks hw1 hce hcv hcl (by rw [eP, if_pos hN]; exact ⟨(by decide : (1 : Nat) ≠ 0), rfl, z, hR, fQ.rf⟩) (by decide) (by decide)
  obtain ⟨er2, hin, hq2⟩ := hp2
  replace hq2 := hq2.symm; subst hq2
  have hw : Sk G A lc s z n0 u u st H2 locs2 := ⟨hw2, hw.2⟩
  subst er2
  replace hin : inE i 100000 = true := hin
  rw [if_neg (by rw [hin]; decide)] at eP
  refine lv_lmul hx hb d_Q_set_16 ?_
  refine lv_lstore (lv' := [(5, .long ((128 : Int64) * i.toInt64)), (4, .ref (lc (8 + j))), (0, .ref (lc 0)), (1, .int (nI j)), (2, .double (e8 i))]) hx hb d_Q_set_17 hl (by decide) rfl (fun ls hl => ?_)
  refine lv_aload_n hx hb d_Q_set_19 rfl (lv_at hl 2 rfl) ?_
  refine kg_Q 3 (by decide) hx hb ht hown hw gw_124 rfl rfl d_Q_set_20 ?_
  refine lv_istore (lv' := [(7, .int (q_tl s)), (5, .long ((128 : Int64) * i.toInt64)), (4, .ref (lc (8 + j))), (0, .ref (lc 0)), (1, .int (nI j)), (2, .double (e8 i))]) hx hb d_Q_set_23 hl (by decide) rfl (fun ls hl => ?_)
  refine lv_lload hx hb d_Q_set_25 (lv_at hl 1 rfl) ?_
  refine lv_aload hx hb d_Q_set_27 (lv_at hl 2 rfl) ?_
  refine kg_N (j := j) 3 (by decide) hx hb ht hown hw hj gw_279 (Or.inr gw_273) rfl d_Q_set_29 ?_
  refine W.lcmp hx hb d_Q_set_32 ?_
  refine lv_if_eq (tgt := 49) hx hb d_Q_set_33 (by decide) (fun c3 => ?_) (fun c3 => ?_)
  · rw [if_pos ((lg_cmp_eq _ _).mp c3)] at eP
    refine lv_aload_n hx hb d_Q_set_49 rfl (lv_at hl 3 rfl) ?_
    refine kg_Q 3 (by decide) hx hb ht hown hw gw_124 rfl rfl d_Q_set_50 ?_
    refine lv_iload hx hb d_Q_set_53 (lv_at hl 0 rfl) ?_
    refine lv_isub hx hb d_Q_set_55 ?_
    exact kt_i hx hb hr hlocks hw.1 d_Q_set_56 (by rw [eP]; exact ⟨rfl, rfl, z, hw.2.1, by rw [hn0]; exact hw.2.2.1⟩) (by first | decide | (dsimp only; omega)) (by first | decide | (dsimp only; omega))
  · rw [if_neg (fun h => c3 ((lg_cmp_eq _ _).mpr h))] at eP
    refine lv_aload hx hb d_Q_set_36 (lv_at hl 2 rfl) ?_
    refine lv_lload hx hb d_Q_set_38 (lv_at hl 1 rfl) ?_
    refine kp_amount (j := j) ((128 : Int64) * i.toInt64) hx hb ht hown hw hj gw_279 (Or.inr gw_273) d_Q_set_40 (fun H4 locs4 u4 hw => ?_)
    refine lv_aload_n hx hb d_Q_set_43 rfl (lv_at hl 3 rfl) ?_
    refine lv_aload hx hb d_Q_set_44 (lv_at hl 2 rfl) ?_
    refine kc_v (kr_V 1 (C := "QuoteGraph") (As := [.ref (lc (8 + j))]) (rest := []) (c_tellU l G A lc 17 (qS_am s (va_up (q_am s) j (128 * i.toInt64))) z u4 hw.2.1 (vc_17 hR.1.1) j (by show j < q_n s; rw [hn0]; exact hj)) hx hb hml hown ht hw.1 gw_512 gw_514 gw_10 gw_42 gw_515 ⟨⟨by decide, by decide⟩, by decide +kernel⟩ ⟨by first | decide | (dsimp only; omega), by first | decide | (dsimp only; omega)⟩ (kr_Q hw) rfl hl.1 rfl (lv_room (Nat.le_of_ble_eq_true rfl)) d_Q_set_46 ⟨by first | decide | (dsimp only; omega), by first | decide | (dsimp only; omega)⟩) hw.1 (fun _ _ _ _ _ _ h => h.elim) (fun u5 H5 locs5 hp5 hw5 => ?_)
    obtain ⟨g1, g2⟩ := hp5
    have hw : Sk G A lc (tellU (tellF 17) j (qS_am s (va_up (q_am s) j (128 * i.toInt64))) (q_n s)) z n0 u u5 st H5 locs5 := ⟨hw5, g1, hw.2.2.1.tr (by rw [← hn0]; exact g2), by rw [(tellU_K (fun s i => tellF_K 17 s i) _).1.1]; exact hn0⟩
    refine lv_aload_n hx hb d_Q_set_49 rfl (lv_at hl 3 rfl) ?_
    refine kg_Q 3 (by decide) hx hb ht hown hw gw_124 rfl rfl d_Q_set_50 ?_
    refine lv_iload hx hb d_Q_set_53 (lv_at hl 0 rfl) ?_
    refine lv_isub hx hb d_Q_set_55 ?_
    exact kt_i hx hb hr hlocks hw.1 d_Q_set_56 (by rw [eP]; exact ⟨rfl, rfl, z, hw.2.1, by rw [hn0]; exact hw.2.2.1⟩) (by first | decide | (dsimp only; omega)) (by first | decide | (dsimp only; omega))
set_option maxHeartbeats 4000000 in
set_option maxRecDepth 100000 in
theorem c_Q_bump (l : Launch) (hl9 : l.stackTraces = false) (G : GT) (A : Nat → Prop) (lc : Nat → Nat) (s : QS) (z : ZS) (u : WT) (hR : rQ G lc s z u) (hrn : rnk s) (hI : allI s) (k q i : Int32) : Kt l y_Q_bump b_Q_bump 14 (some .double) 30 967 3 18 2 12 3 18 G A u [.ref (lc 0), .int k, .int q, .double (e8 i)] (KQ G A (Rd (fun r u' => (pBump s k q i).1 = 0 ∧ r = (pBump s k q i).2.1 ∧ ∃ z', rQ G lc (pBump s k q i).2.2 z' u' ∧ fQ lc (q_n s) u u'))) (fun E u' => (pBump s k q i).1 ≠ 0 ∧ E = exV (pBump s k q i).1 ∧ ∃ z', rQ G lc (pBump s k q i).2.2 z' u' ∧ fQ lc (q_n s) u u') := by
  refine k_of (by decide) (Nat.le_of_ble_eq_true rfl) (fun p e st m below meth c ls hx hb hr hlocks hml htab hname hown ht hw hl => ?_)
  have hl : lv_has ls 14 [(0, .ref (lc 0)), (1, .int k), (2, .int q), (3, .double (e8 i))] := hl
  obtain ⟨n0, hn0⟩ : ∃ n0, q_n s = n0 := ⟨_, rfl⟩
  have hw : Sk G A lc s z n0 u u st st.heap [] := ⟨hw, hR, fQ.rf, hn0⟩
  refine lv_aload_n hx hb d_Q_bump_0 rfl (lv_at hl 0 rfl) ?_
  refine lv_iload_n hx hb d_Q_bump_1 rfl (lv_at hl 1 rfl) ?_
  refine kc_a (kr_V 1 (C := "QuoteGraph") (As := [.int k]) (rest := []) (c_Q_nodeAt l hl9 G A lc s z u hw.2.1 k) hx hb hml hown ht hw.1 gw_324 gw_326 gw_3 gw_42 gw_327 ⟨⟨by decide, by decide⟩, by decide +kernel⟩ ⟨by first | decide | (dsimp only; omega), by first | decide | (dsimp only; omega)⟩ (kr_Q hw) rfl hl.1 rfl (lv_room (Nat.le_of_ble_eq_true rfl)) d_Q_bump_2 ⟨by first | decide | (dsimp only; omega), by first | decide | (dsimp only; omega)⟩) hw.1 (fun E ce q9 u1 H1 locs1 hp hw1 hce hcv hcl => ?_) (fun r1 u1 H1 locs1 hp1 hw1 => ?_)
  · obtain ⟨rfl, hN, hq9⟩ := hp
    replace hq9 := hq9.symm; subst hq9
    exact kt_out htab hlocks hw1 hce hcv hcl (by rw [show pBump s k q i = (1, 0, s) from wN_f hN]; exact ⟨(by decide : (1 : Nat) ≠ 0), rfl, z, hR, fQ.rf⟩) (by decide) (by decide)
  obtain ⟨j, hj, rfl, er1, hq1⟩ := hp1; replace hq1 := hq1.symm; subst hq1; subst er1
  rw [hn0] at hj
  have hw : Sk G A lc s z n0 u u st H1 locs1 := ⟨hw1, hw.2⟩
  have eP0 : pBump s (nI j) q i = wN s q 0 (fun h => (if q_so s h ≠ 0 then (1, 0, s) else if inE i 1000 = false then (1, 0, s) else if (askF 17 s j).1 = 0 then (if (askF 17 (bmA (askF 17 s j).2 h (128 * i.toInt64)) j).1 = 0 then (0, num (q_am (askF 17 (bmA (askF 17 s j).2 h (128 * i.toInt64)) j).2 j - q_am (askF 17 s j).2 j), (bmR (askF 17 s j).2 (askF 17 (bmA (askF 17 s j).2 h (128 * i.toInt64)) j).2)) else ((askF 17 (bmA (askF 17 s j).2 h (128 * i.toInt64)) j).1, 0, qFl (bmR (askF 17 s j).2 (askF 17 (bmA (askF 17 s j).2 h (128 * i.toInt64)) j).2))) else ((askF 17 s j).1, 0, qFl (askF 17 s j).2))) := wN_t (by rw [hn0]; exact hj) hR.1.1
  refine lv_astore (lv' := [(5, .ref (lc (8 + j))), (0, .ref (lc 0)), (1, .int (nI j)), (2, .int q), (3, .double (e8 i))]) hx hb d_Q_bump_5 hl (by decide) rfl (fun ls hl => ?_)
  refine lv_aload_n hx hb d_Q_bump_7 rfl (lv_at hl 1 rfl) ?_
  refine lv_iload_n hx hb d_Q_bump_8 rfl (lv_at hl 3 rfl) ?_
  refine kc_a (kr_V 1 (C := "QuoteGraph") (As := [.int q]) (rest := []) (c_Q_quoteAt l hl9 G A lc s z u hw.2.1 q) hx hb hml hown ht hw.1 gw_530 gw_532 gw_11 gw_42 gw_533 ⟨⟨by decide, by decide⟩, by decide +kernel⟩ ⟨by first | decide | (dsimp only; omega), by first | decide | (dsimp only; omega)⟩ (kr_Q hw) rfl hl.1 rfl (lv_room (Nat.le_of_ble_eq_true rfl)) d_Q_bump_9 ⟨by first | decide | (dsimp only; omega), by first | decide | (dsimp only; omega)⟩) hw.1 (fun E ce q9 u1 H1 locs1 hp hw1 hce hcv hcl => ?_) (fun r2 u2 H2 locs2 hp2 hw2 => ?_)
  · obtain ⟨rfl, hN, hq9⟩ := hp
    replace hq9 := hq9.symm; subst hq9
    rcases hN with hN | ⟨h, hh, rfl, hso⟩
    · exact kt_out htab hlocks hw1 hce hcv hcl (by rw [eP0, wN_f hN]; exact ⟨(by decide : (1 : Nat) ≠ 0), rfl, z, hR, fQ.rf⟩) (by decide) (by decide)
    · exact kt_out htab hlocks hw1 hce hcv hcl (by rw [eP0, wN_t hh hR.1.1, if_pos hso]; exact ⟨(by decide : (1 : Nat) ≠ 0), rfl, z, hR, fQ.rf⟩) (by decide) (by decide)
  obtain ⟨h, hh, rfl, hsoh, er2, hq2⟩ := hp2; replace hq2 := hq2.symm; subst hq2; subst er2
  rw [hn0] at hh
  have hw : Sk G A lc s z n0 u u st H2 locs2 := ⟨hw2, hw.2⟩
  have eP : pBump s (nI j) (nI h) i = (if q_so s h ≠ 0 then (1, 0, s) else if inE i 1000 = false then (1, 0, s) else if (askF 17 s j).1 = 0 then (if (askF 17 (bmA (askF 17 s j).2 h (128 * i.toInt64)) j).1 = 0 then (0, num (q_am (askF 17 (bmA (askF 17 s j).2 h (128 * i.toInt64)) j).2 j - q_am (askF 17 s j).2 j), (bmR (askF 17 s j).2 (askF 17 (bmA (askF 17 s j).2 h (128 * i.toInt64)) j).2)) else ((askF 17 (bmA (askF 17 s j).2 h (128 * i.toInt64)) j).1, 0, qFl (bmR (askF 17 s j).2 (askF 17 (bmA (askF 17 s j).2 h (128 * i.toInt64)) j).2))) else ((askF 17 s j).1, 0, qFl (askF 17 s j).2)) := eP0.trans (wN_t (by rw [hn0]; exact hh) hR.1.1)
  rw [if_neg (by rw [Classical.not_not]; exact hsoh)] at eP
  have hK : akK s (askF 17 s j).2 := askF_K 17 s j
  refine lv_astore (lv' := [(6, .ref (lc (8 + h))), (5, .ref (lc (8 + j))), (0, .ref (lc 0)), (1, .int (nI j)), (2, .int (nI h)), (3, .double (e8 i))]) hx hb d_Q_bump_12 hl (by decide) rfl (fun ls hl => ?_)
  refine lv_ldc2 (v := 128) hx hb hown (ht _ gw_153) d_Q_bump_14 ?_
  refine lv_dload_n hx hb d_Q_bump_17 rfl (lv_at hl 5 rfl) ?_
  refine lv_sipush (v := 1000) hx hb d_Q_bump_18 (by decide) ?_
  refine kc_l (kr_S 2 (As := [.double (e8 i), .int (1000 : Int32)]) (rest := [.long (128 : Int64)]) (c_Q_eighthsOf l hl9 G A u i 1000 (by decide) (by decide)) hx hb hml hown ht hw.1 gw_155 gw_156 gw_42 gw_157 ⟨⟨by decide, by decide⟩, by decide +kernel⟩ ⟨by first | decide | (dsimp only; omega), by first | decide | (dsimp only; omega)⟩ rfl hl.1 rfl (lv_room (Nat.le_of_ble_eq_true rfl)) d_Q_bump_21 ⟨by first | decide | (dsimp only; omega), by first | decide | (dsimp only; omega)⟩) hw.1 (fun E ce q9 u1 H1 locs1 hp hw1 hce hcv hcl => ?_) (fun r3 u3 H3 locs3 hp3 hw3 => ?_)
  · obtain ⟨rfl, hN, hq9⟩ := hp
    replace hN : inE i 1000 = false := hN
    replace hq9 := hq9.symm; subst hq9
    exact kt_out htab hlocks hw1 hce hcv hcl (by rw [eP, if_pos hN]; exact ⟨(by decide : (1 : Nat) ≠ 0), rfl, z, hR, fQ.rf⟩) (by decide) (by decide)
  obtain ⟨er3, hin, hq3⟩ := hp3
  replace hq3 := hq3.symm; subst hq3
  have hw : Sk G A lc s z n0 u u st H3 locs3 := ⟨hw3, hw.2⟩
  subst er3
  replace hin : inE i 1000 = true := hin
  rw [if_neg (by rw [hin]; decide)] at eP
  refine lv_lmul hx hb d_Q_bump_24 ?_
  refine lv_lstore (lv' := [(7, .long ((128 : Int64) * i.toInt64)), (6, .ref (lc (8 + h))), (5, .ref (lc (8 + j))), (0, .ref (lc 0)), (1, .int (nI j)), (2, .int (nI h)), (3, .double (e8 i))]) hx hb d_Q_bump_25 hl (by decide) rfl (fun ls hl => ?_)
  refine lv_aload_n hx hb d_Q_bump_27 rfl (lv_at hl 3 rfl) ?_
  refine lv_aload_n hx hb d_Q_bump_28 rfl (lv_at hl 3 rfl) ?_
  refine lv_aload hx hb d_Q_bump_29 (lv_at hl 2 rfl) ?_
  refine kc_a (kr_VW 1 (C := "QuoteGraph") (As := [.ref (lc (8 + j))]) (rest := [.ref (lc 0)]) (c_Q_tryToAsk l hl9 G A lc s z u hR hrn hI j (by rw [hn0]; exact hj)) hx hb hml hown ht hw.1 gw_544 gw_546 gw_12 gw_42 gw_547 ⟨⟨by decide, by decide⟩, by decide +kernel⟩ ⟨by first | decide | (dsimp only; omega), by first | decide | (dsimp only; omega)⟩ (kr_Q hw) rfl hl.1 rfl (lv_room (Nat.le_of_ble_eq_true rfl)) d_Q_bump_31 ⟨by first | decide | (dsimp only; omega), by first | decide | (dsimp only; omega)⟩) hw.1 (fun _ _ _ _ _ _ h => h.elim) (fun r4 u4 H4 locs4 hp4 hw4 => ?_)
  obtain ⟨er, z2, hz2, hr2, hf2⟩ := hp4; subst er
  have hw : Sk G A lc (askF 17 s j).2 z2 n0 u u4 st H4 locs4 := ⟨hw4, hr2, by rw [← hn0]; exact hf2, by rw [hK.1]; exact hn0⟩
  refine kc_v (kr_V 1 (C := "QuoteGraph") (As := [.ref (G.2.2.2 (trN (askF 17 s j).1))]) (rest := []) (c_Q_raise l hl9 G A lc _ z2 u4 hr2 (askF 17 s j).1 (by rcases askF_c 17 s j with h | h | h <;> rw [h] <;> decide)) hx hb hml hown ht hw.1 gw_706 gw_708 gw_19 gw_42 gw_709 ⟨⟨by decide, by decide⟩, by decide +kernel⟩ ⟨by first | decide | (dsimp only; omega), by first | decide | (dsimp only; omega)⟩ (kr_Q hw) rfl hl.1 rfl (lv_room (Nat.le_of_ble_eq_true rfl)) d_Q_bump_34 ⟨by first | decide | (dsimp only; omega), by first | decide | (dsimp only; omega)⟩) hw.1 (fun E ce q9 u1 H1 locs1 hp hw1 hce hcv hcl => ?_) (fun u5 H5 locs5 hp5 hw5 => ?_)
  · obtain ⟨hne, rfl, hr3, hf3⟩ := hp
    exact kt_out htab hlocks hw1 hce hcv hcl (by rw [eP, if_neg hne]; exact ⟨hne, rfl, z2, hr3, hf2.tr (by rw [← hK.1]; exact hf3)⟩) (by decide) (by decide)
  obtain ⟨h0, hq5⟩ := hp5; replace hq5 := hq5.symm; subst hq5
  rw [if_pos h0] at eP
  have hw : Sk G A lc (askF 17 s j).2 z2 n0 u u4 st H5 locs5 := ⟨hw5, hw.2⟩
  have hN1 : q_n (askF 17 s j).2 = n0 := by rw [hK.1]; exact hn0
  refine lv_aload hx hb d_Q_bump_37 (lv_at hl 2 rfl) ?_
  refine kg_N (j := j) 3 (by decide) hx hb ht hown hw hj gw_280 (Or.inl rfl) rfl d_Q_bump_39 ?_
  refine lv_lstore (lv' := [(9, .long (q_am (askF 17 s j).2 j)), (7, .long ((128 : Int64) * i.toInt64)), (6, .ref (lc (8 + h))), (5, .ref (lc (8 + j))), (0, .ref (lc 0)), (1, .int (nI j)), (2, .int (nI h)), (3, .double (e8 i))]) hx hb d_Q_bump_42 hl (by decide) rfl (fun ls hl => ?_)
  refine lv_aload_n hx hb d_Q_bump_44 rfl (lv_at hl 4 rfl) ?_
  refine kc_v (kr_V 0 (C := "QuoteGraph") (As := []) (rest := []) (c_Q_rememberAll l G A lc _ z2 u4 hw.2.1) hx hb hml hown ht hw.1 gw_733 gw_735 gw_20 gw_42 gw_736 ⟨⟨by decide, by decide⟩, by decide +kernel⟩ ⟨by first | decide | (dsimp only; omega), by first | decide | (dsimp only; omega)⟩ (kr_Q hw) rfl hl.1 rfl (lv_room (Nat.le_of_ble_eq_true rfl)) d_Q_bump_45 ⟨by first | decide | (dsimp only; omega), by first | decide | (dsimp only; omega)⟩) hw.1 (fun _ _ _ _ _ _ h => h.elim) (fun u6 H6 locs6 hp6 hw6 => ?_)
  obtain ⟨g1, g2⟩ := hp6
  have hw : Sk G A lc (askF 17 s j).2 (zRm (askF 17 s j).2 z2 (q_n (askF 17 s j).2)) n0 u u6 st H6 locs6 := ⟨hw6, g1, hw.2.2.1.tr (by rw [← hN1]; exact g2), hN1⟩
  refine lv_aload hx hb d_Q_bump_48 (lv_at hl 2 rfl) ?_
  refine lv_dup hx hb d_Q_bump_50 rfl ?_
  refine kg_N (j := h) 3 (by decide) hx hb ht hown hw hh gw_279 (Or.inr gw_273) rfl d_Q_bump_51 ?_
  refine lv_lload hx hb d_Q_bump_54 (lv_at hl 1 rfl) ?_
  refine lv_ladd hx hb d_Q_bump_56 ?_
  refine kp_amount (j := h) ((q_am (askF 17 s j).2 h) + ((128 : Int64) * i.toInt64)) hx hb ht hown hw hh gw_279 (Or.inr gw_273) d_Q_bump_57 (fun H7 locs7 u7 hw => ?_)
  refine lv_aload_n hx hb d_Q_bump_60 rfl (lv_at hl 4 rfl) ?_
  refine lv_aload hx hb d_Q_bump_61 (lv_at hl 2 rfl) ?_
  refine kc_v (kr_V 1 (C := "QuoteGraph") (As := [.ref (lc (8 + h))]) (rest := []) (c_Q_makeUsersStale l G A lc _ _ u7 hw.2.1 h (by show h < q_n (askF 17 s j).2; rw [hN1]; exact hh)) hx hb hml hown ht hw.1 gw_745 gw_747 gw_21 gw_42 gw_748 ⟨⟨by decide, by decide⟩, by decide +kernel⟩ ⟨by first | decide | (dsimp only; omega), by first | decide | (dsimp only; omega)⟩ (kr_Q hw) rfl hl.1 rfl (lv_room (Nat.le_of_ble_eq_true rfl)) d_Q_bump_63 ⟨by first | decide | (dsimp only; omega), by first | decide | (dsimp only; omega)⟩) hw.1 (fun _ _ _ _ _ _ h => h.elim) (fun u8 H8 locs8 hp8 hw8 => ?_)
  obtain ⟨g3, g4⟩ := hp8
  have hK2 : akK s (bmA (askF 17 s j).2 h (128 * i.toInt64)) := hK.tr (bmA_K _ _ _)
  have hN2 : q_n (bmA (askF 17 s j).2 h (128 * i.toInt64)) = n0 := by rw [hK2.1]; exact hn0
  have hw : Sk G A lc (bmA (askF 17 s j).2 h (128 * i.toInt64)) (zRm (askF 17 s j).2 z2 (q_n (askF 17 s j).2)) n0 u u8 st H8 locs8 := ⟨hw8, g3, hw.2.2.1.tr (by rw [← hN1]; exact g4), hN2⟩
  refine lv_aload_n hx hb d_Q_bump_66 rfl (lv_at hl 4 rfl) ?_
  refine lv_aload hx hb d_Q_bump_67 (lv_at hl 3 rfl) ?_
  refine kc_a (kr_VW 1 (C := "QuoteGraph") (As := [.ref (lc (8 + j))]) (rest := []) (c_Q_tryToAsk l hl9 G A lc (bmA (askF 17 s j).2 h (128 * i.toInt64)) _ u8 hw.2.1 (ak_rnk hK2 hrn) (ak_all hK2 hI) j (by rw [hN2]; exact hj)) hx hb hml hown ht hw.1 gw_544 gw_546 gw_12 gw_42 gw_547 ⟨⟨by decide, by decide⟩, by decide +kernel⟩ ⟨by first | decide | (dsimp only; omega), by first | decide | (dsimp only; omega)⟩ (kr_Q hw) rfl hl.1 rfl (lv_room (Nat.le_of_ble_eq_true rfl)) d_Q_bump_69 ⟨by first | decide | (dsimp only; omega), by first | decide | (dsimp only; omega)⟩) hw.1 (fun _ _ _ _ _ _ h => h.elim) (fun r9 u9 H9 locs9 hp9 hw9 => ?_)
  obtain ⟨er, z4, hz4, hr4, hf4⟩ := hp9; subst er
  have hK4 : akK s (askF 17 (bmA (askF 17 s j).2 h (128 * i.toInt64)) j).2 := hK2.tr (askF_K 17 _ j)
  have hN4 : q_n (askF 17 (bmA (askF 17 s j).2 h (128 * i.toInt64)) j).2 = n0 := by rw [hK4.1]; exact hn0
  have hw : Sk G A lc (askF 17 (bmA (askF 17 s j).2 h (128 * i.toInt64)) j).2 z4 n0 u u9 st H9 locs9 := ⟨hw9, hr4, hw.2.2.1.tr (by rw [← hN2]; exact hf4), hN4⟩
  refine lv_astore (lv' := [(11, .ref (G.2.2.2 (trN (askF 17 (bmA (askF 17 s j).2 h (128 * i.toInt64)) j).1))), (9, .long (q_am (askF 17 s j).2 j)), (7, .long ((128 : Int64) * i.toInt64)), (6, .ref (lc (8 + h))), (5, .ref (lc (8 + j))), (0, .ref (lc 0)), (1, .int (nI j)), (2, .int (nI h)), (3, .double (e8 i))]) hx hb d_Q_bump_72 hl (by decide) rfl (fun ls hl => ?_)
  refine lv_aload hx hb d_Q_bump_74 (lv_at hl 4 rfl) ?_
  refine kg_N (j := j) 3 (by decide) hx hb ht hown hw hj gw_280 (Or.inl rfl) rfl d_Q_bump_76 ?_
  refine lv_lstore (lv' := [(12, .long (q_am (askF 17 (bmA (askF 17 s j).2 h (128 * i.toInt64)) j).2 j)), (11, .ref (G.2.2.2 (trN (askF 17 (bmA (askF 17 s j).2 h (128 * i.toInt64)) j).1))), (9, .long (q_am (askF 17 s j).2 j)), (7, .long ((128 : Int64) * i.toInt64)), (6, .ref (lc (8 + h))), (5, .ref (lc (8 + j))), (0, .ref (lc 0)), (1, .int (nI j)), (2, .int (nI h)), (3, .double (e8 i))]) hx hb d_Q_bump_79 hl (by decide) rfl (fun ls hl => ?_)
  refine lv_aload_n hx hb d_Q_bump_81 rfl (lv_at hl 6 rfl) ?_
  refine kc_v (kr_V 0 (C := "QuoteGraph") (As := []) (rest := []) (c_Q_restoreAll l G A lc _ z4 u9 hw.2.1) hx hb hml hown ht hw.1 gw_749 gw_751 gw_22 gw_42 gw_752 ⟨⟨by decide, by decide⟩, by decide +kernel⟩ ⟨by first | decide | (dsimp only; omega), by first | decide | (dsimp only; omega)⟩ (kr_Q hw) rfl hl.1 rfl (lv_room (Nat.le_of_ble_eq_true rfl)) d_Q_bump_82 ⟨by first | decide | (dsimp only; omega), by first | decide | (dsimp only; omega)⟩) hw.1 (fun _ _ _ _ _ _ h => h.elim) (fun u10 H10 locs10 hp10 hw10 => ?_)
  obtain ⟨g5, g6⟩ := hp10
  rw [qRs_bm (s1 := (askF 17 s j).2) (z := z2) (hN4.trans hN1.symm) hz4.1 hz4.2.1] at g5
  have hw : Sk G A lc (bmR (askF 17 s j).2 (askF 17 (bmA (askF 17 s j).2 h (128 * i.toInt64)) j).2) z4 n0 u u10 st H10 locs10 := ⟨hw10, g5, hw.2.2.1.tr (by rw [← hN4]; exact g6), hN4⟩
  refine lv_aload_n hx hb d_Q_bump_85 rfl (lv_at hl 6 rfl) ?_
  refine lv_aload hx hb d_Q_bump_86 (lv_at hl 1 rfl) ?_
  refine kc_v (kr_V 1 (C := "QuoteGraph") (As := [.ref (G.2.2.2 (trN (askF 17 (bmA (askF 17 s j).2 h (128 * i.toInt64)) j).1))]) (rest := []) (c_Q_raise l hl9 G A lc _ z4 u10 hw.2.1 (askF 17 (bmA (askF 17 s j).2 h (128 * i.toInt64)) j).1 (by rcases askF_c 17 (bmA (askF 17 s j).2 h (128 * i.toInt64)) j with h | h | h <;> rw [h] <;> decide)) hx hb hml hown ht hw.1 gw_706 gw_708 gw_19 gw_42 gw_709 ⟨⟨by decide, by decide⟩, by decide +kernel⟩ ⟨by first | decide | (dsimp only; omega), by first | decide | (dsimp only; omega)⟩ (kr_Q hw) rfl hl.1 rfl (lv_room (Nat.le_of_ble_eq_true rfl)) d_Q_bump_88 ⟨by first | decide | (dsimp only; omega), by first | decide | (dsimp only; omega)⟩) hw.1 (fun E ce q9 u1 H1 locs1 hp hw1 hce hcv hcl => ?_) (fun u11 H11 locs11 hp11 hw11 => ?_)
  · obtain ⟨hne, rfl, hr3, hf3⟩ := hp
    exact kt_out htab hlocks hw1 hce hcv hcl (by rw [eP, if_neg hne]; exact ⟨hne, rfl, z4, hr3, by rw [hn0]; exact hw.2.2.1.tr (by rw [← hN4]; exact hf3)⟩) (by decide) (by decide)
  obtain ⟨h4, hq11⟩ := hp11; replace hq11 := hq11.symm; subst hq11
  have hw : Sk G A lc (bmR (askF 17 s j).2 (askF 17 (bmA (askF 17 s j).2 h (128 * i.toInt64)) j).2) z4 n0 u u10 st H11 locs11 := ⟨hw11, hw.2⟩
  rw [if_pos h4] at eP
  refine lv_lload hx hb d_Q_bump_91 (lv_at hl 0 rfl) ?_
  refine lv_lload hx hb d_Q_bump_93 (lv_at hl 2 rfl) ?_
  refine lv_lsub hx hb d_Q_bump_95 ?_
  refine kc_d (kr_S 1 (As := [.long ((q_am (askF 17 (bmA (askF 17 s j).2 h (128 * i.toInt64)) j).2 j) - (q_am (askF 17 s j).2 j))]) (rest := []) (c_Q_numberOf l G A u10 _) hx hb hml hown ht hw.1 gw_713 gw_714 gw_42 gw_715 ⟨⟨by decide, by decide⟩, by decide +kernel⟩ ⟨by first | decide | (dsimp only; omega), by first | decide | (dsimp only; omega)⟩ rfl hl.1 rfl (lv_room (Nat.le_of_ble_eq_true rfl)) d_Q_bump_96 ⟨by first | decide | (dsimp only; omega), by first | decide | (dsimp only; omega)⟩) hw.1 (fun _ _ _ _ _ _ h => h.elim) (fun r12 u12 H12 locs12 hp12 hw12 => ?_)
  obtain ⟨er12, hq12⟩ := hp12
  replace hq12 := hq12.symm; subst hq12
  have hw : Sk G A lc (bmR (askF 17 s j).2 (askF 17 (bmA (askF 17 s j).2 h (128 * i.toInt64)) j).2) z4 n0 u u10 st H12 locs12 := ⟨hw12, hw.2⟩
  subst er12
  exact kt_d hx hb hr hlocks hw.1 d_Q_bump_99 (by rw [eP]; exact ⟨rfl, rfl, z4, hw.2.1, by rw [hn0]; exact hw.2.2.1⟩) (by first | decide | (dsimp only; omega)) (by first | decide | (dsimp only; omega))

/-! 40.mmake: contracts of what makes nodes in the reference -/
theorem va_up_same {α : Type} {f : Nat → α} {k : Nat} {v : α} (h : f k = v) : va_up f k v = f := by
  funext j; by_cases hj : j = k
  · subst hj; rw [va_up_self, h]
  · rw [va_up_ne _ _ hj]
theorem va_up_up {α : Type} {f : Nat → α} {k : Nat} {v w : α} : va_up (va_up f k v) k w = va_up f k w := by
  funext j; by_cases hj : j = k
  · subst hj; rw [va_up_self, va_up_self]
  · rw [va_up_ne _ _ hj, va_up_ne _ _ hj, va_up_ne _ _ hj]
/-- nothing lies beyond the nodes -/
def blk (s : QS) : Prop := ∀ j, q_n s ≤ j → q_am s j = 0 ∧ q_fr s j = false ∧ q_mi s j = false ∧ q_tw s j = 0 ∧ q_wa s j = 0 ∧ q_wb s j = 0 ∧ q_kd s j = 0 ∧ q_sp s j = 0 ∧ q_us s j = false ∧ q_en s j = 0 ∧ q_sz s j = 0
def ptn (pa pb : Option Nat) : Nat → Option Nat := fun k => if k = 0 then pa else if k = 1 then pb else none
theorem addQ_blk {s : QS} (h : blk s) {t : Nat} {pa pb : Option Nat} : qS_n (qS_ch (qS_va (qS_pt (qS_so s (va_up (q_so s) (q_n s) t)) (va_up (q_pt s) (q_n s) (ptn pa pb))) (va_up (q_va s) (q_n s) (decide (t = 0)))) (va_up (q_ch s) (q_n s) 8)) (q_n s + 1) = addQ s t 0 pa pb 0 0 0 0 := by
  obtain ⟨h1, h2, h3, h4, h5, h6, h7, h8, h9, h10, h11⟩ := h (q_n s) (Nat.le_refl _)
  unfold addQ
  rw [va_up_same h1, va_up_same h2, va_up_same h3, va_up_same h4, va_up_same h5, va_up_same h6, va_up_same h7, va_up_same h8, va_up_same h9, va_up_same h10, va_up_same h11]
  rfl
theorem addQ_am {s : QS} {t : Nat} {pa pb : Option Nat} {x y wa wb : Int64} {kd sp : Int32} : qS_am (addQ s t y pa pb wa wb kd sp) (va_up (q_am (addQ s t y pa pb wa wb kd sp)) (q_n s) x) = addQ s t x pa pb wa wb kd sp := by
  show (_, _, va_up (va_up (q_am s) (q_n s) y) (q_n s) x, _) = _
  rw [va_up_up]; rfl
theorem addQ_wa {s : QS} {t : Nat} {pa pb : Option Nat} {x y wa wb : Int64} {kd sp : Int32} : qS_wa (addQ s t y pa pb wa wb kd sp) (va_up (q_wa (addQ s t y pa pb wa wb kd sp)) (q_n s) x) = addQ s t y pa pb x wb kd sp := by
  show (_, _, _, _, _, _, _, _, va_up (va_up (q_wa s) (q_n s) wa) (q_n s) x, _) = _
  rw [va_up_up]; rfl
theorem addQ_wb {s : QS} {t : Nat} {pa pb : Option Nat} {x y wa wb : Int64} {kd sp : Int32} : qS_wb (addQ s t y pa pb wa wb kd sp) (va_up (q_wb (addQ s t y pa pb wa wb kd sp)) (q_n s) x) = addQ s t y pa pb wa x kd sp := by
  show (_, _, _, _, _, _, _, _, _, va_up (va_up (q_wb s) (q_n s) wb) (q_n s) x, _) = _
  rw [va_up_up]; rfl
theorem addQ_kd {s : QS} {t : Nat} {pa pb : Option Nat} {y wa wb : Int64} {x kd sp : Int32} : qS_kd (addQ s t y pa pb wa wb kd sp) (va_up (q_kd (addQ s t y pa pb wa wb kd sp)) (q_n s) x) = addQ s t y pa pb wa wb x sp := by
  show (_, _, _, _, _, _, _, _, _, _, va_up (va_up (q_kd s) (q_n s) kd) (q_n s) x, _) = _
  rw [va_up_up]; rfl
theorem addQ_sp {s : QS} {t : Nat} {pa pb : Option Nat} {y wa wb : Int64} {x kd sp : Int32} : qS_sp (addQ s t y pa pb wa wb kd sp) (va_up (q_sp (addQ s t y pa pb wa wb kd sp)) (q_n s) x) = addQ s t y pa pb wa wb kd x := by
  show (_, _, _, _, _, _, _, _, _, _, _, va_up (va_up (q_sp s) (q_n s) sp) (q_n s) x, _) = _
  rw [va_up_up]; rfl
/-- the row of parts with the first k of node n's cleared -/
def pcl (f : Nat → Int32) (n : Nat) : Nat → (Nat → Int32)
  | 0 => f
  | k + 1 => va_up (pcl f n k) (4 * n + k) (-1)
theorem pcl_o {f : Nat → Int32} {n i : Nat} (h : i < 4 * n) : ∀ k, pcl f n k i = f i
  | 0 => rfl
  | k + 1 => by show va_up _ _ _ i = _; rw [va_up_ne _ _ (by omega)]; exact pcl_o h k
theorem pcl_n {f : Nat → Int32} {n : Nat} : ∀ k i, i < k → pcl f n k (4 * n + i) = -1
  | 0, _, h => absurd h (by omega)
  | k + 1, i, h => by
    show va_up _ _ _ _ = _
    by_cases hi : i = k
    · subst hi; rw [va_up_self]
    · rw [va_up_ne _ _ (by omega)]; exact pcl_n k i (by omega)
theorem mul4 (a k : Nat) : nI a * 4 + nI k = nI (4 * a + k) := by
  rw [show (4 : Int32) = nI 4 from rfl, pk_mul, nI_add, Nat.mul_comm]
theorem mul40 (a : Nat) : nI a * 4 = nI (4 * a) := by
  rw [show (4 : Int32) = nI 4 from rfl, pk_mul, Nat.mul_comm]
set_option maxHeartbeats 4000000 in
set_option maxRecDepth 100000 in
theorem c_M_create (l : Launch) (G : GT) (A : Nat → Prop) (lm : Nat → Nat) (s : QS) (m : MS) (u : WT) (hR : rM G lm s m u) (hB : blk s) (hn : q_n s < 16) (t : Nat) (ht4 : t < 4) (pa pb : Option Nat) : Kt l y_M_create b_M_create 5 (some .int) 0 0 0 0 0 0 0 0 G A u [.ref (lm 0), .int (nI t), .int (pI pa), .int (pI pb)] (KQ G A (Ri (fun r u' => r = nI (q_n s) ∧ ∃ pt', rM G lm (addQ s t 0 pa pb 0 0 0 0) (mS_pt m pt') u' ∧ fM lm u u'))) (NX) := by
  refine k_of (by decide) (Nat.le_of_ble_eq_true rfl) (fun p e st mt below meth c ls hx hb hr hlocks hml htab hname hown ht hw hl => ?_)
  have hl : lv_has ls 5 [(0, .ref (lm 0)), (1, .int (nI t)), (2, .int (pI pa)), (3, .int (pI pb))] := hl
  have hw : Mk G A lm s m u u st st.heap [] := ⟨hw, hR, fM.rf⟩
  have h16 : q_n s ≤ 16 := hR.2.2.2
  refine lv_aload_n hx hb d_M_create_0 rfl (lv_at hl 0 rfl) ?_
  refine mg 0 (by decide) hx hb ht hown hw gw_797 rfl rfl d_M_create_1 ?_
  refine lv_aload_n hx hb d_M_create_4 rfl (lv_at hl 0 rfl) ?_
  refine mg 21 (by decide) hx hb ht hown hw gw_818 rfl rfl d_M_create_5 ?_
  refine lv_iload_n hx hb d_M_create_8 rfl (lv_at hl 1 rfl) ?_
  refine mp_sort (j := (q_n s)) t rfl (by omega) hx hb hw d_M_create_9 (fun H1 locs1 u1 hw => ?_)
  refine lv_iconst (v := 0) hx hb d_M_create_10 (by decide) ?_
  refine lv_istore (lv' := [(4, .int (0 : Int32)), (0, .ref (lm 0)), (1, .int (nI t)), (2, .int (pI pa)), (3, .int (pI pb))]) hx hb d_M_create_11 hl (by decide) rfl (fun ls hl => ?_)
  refine k_cntH (4) (fun k ls H locs => lv_has ls 5 [(0, .ref (lm 0)), (1, .int (nI t)), (2, .int (pI pa)), (3, .int (pI pb)), (4, .int (nI k))] ∧ ∃ u9, Mk G A lm (qS_so s (va_up (q_so s) (q_n s) t)) (mS_pt m (pcl (m_pt m) (q_n s) k)) u u9 st H locs) (k0 := 0) (Nat.zero_le _) (⟨lv_sub hl [1, 2, 3, 4, 0] rfl, u1, hw⟩) (fun ls H locs hJ => ?_) (fun k ls H locs hk hJ ih => ?_)
  · obtain ⟨hl, hw⟩ := hJ
    obtain ⟨u9, hw⟩ := hw
    refine lv_iload hx hb d_M_create_13 (lv_at hl 4 rfl) ?_
    refine lv_iconst (v := 4) hx hb d_M_create_15 (by decide) ?_
    refine lv_icmp_ge (tgt := 40) hx hb d_M_create_16 (by decide) (fun c1 => ?_) (fun c1 => ?_)
    · refine lv_aload_n hx hb d_M_create_40 rfl (lv_at hl 0 rfl) ?_
      refine mg 1 (by decide) hx hb ht hown hw gw_798 rfl rfl d_M_create_41 ?_
      refine lv_aload_n hx hb d_M_create_44 rfl (lv_at hl 0 rfl) ?_
      refine mg 21 (by decide) hx hb ht hown hw gw_818 rfl rfl d_M_create_45 ?_
      refine lv_iconst (v := 4) hx hb d_M_create_48 (by decide) ?_
      refine lv_imul hx hb d_M_create_49 ?_
      refine lv_iload_n hx hb d_M_create_50 rfl (lv_at hl 2 rfl) ?_
      refine mp_part (j := (4 * q_n s)) (pI pa) (s' := (qS_so s (va_up (q_so s) (q_n s) t))) rfl (fun i k h1 h2 => by rw [va_up_ne _ _ (by have h : i < q_n s := h1; omega)]; exact hw.2.1.2.2.1 i k h1 h2) (mul40 _) (by omega) hx hb hw d_M_create_51 (fun H2 locs2 u2 hw => ?_)
      refine lv_aload_n hx hb d_M_create_52 rfl (lv_at hl 0 rfl) ?_
      refine mg 1 (by decide) hx hb ht hown hw gw_798 rfl rfl d_M_create_53 ?_
      refine lv_aload_n hx hb d_M_create_56 rfl (lv_at hl 0 rfl) ?_
      refine mg 21 (by decide) hx hb ht hown hw gw_818 rfl rfl d_M_create_57 ?_
      refine lv_iconst (v := 4) hx hb d_M_create_60 (by decide) ?_
      refine lv_imul hx hb d_M_create_61 ?_
      refine lv_iconst (v := 1) hx hb d_M_create_62 (by decide) ?_
      refine lv_iadd hx hb d_M_create_63 ?_
      refine lv_iload_n hx hb d_M_create_64 rfl (lv_at hl 3 rfl) ?_
      refine mp_part (j := (4 * q_n s + 1)) (pI pb) (s' := (qS_pt (qS_so s (va_up (q_so s) (q_n s) t)) (va_up (q_pt s) (q_n s) (ptn pa pb)))) rfl (fun i k h1 h2 => by have h : i < q_n s := h1; show _ = pI (va_up (q_pt s) (q_n s) (ptn pa pb) i k); rw [va_up_ne _ _ (by omega), va_up_ne _ _ (by omega)]; exact hw.2.1.2.2.1 i k h1 h2) (mul4 _ 1) (by omega) hx hb hw d_M_create_65 (fun H3 locs3 u3 hw => ?_)
      refine lv_aload_n hx hb d_M_create_66 rfl (lv_at hl 0 rfl) ?_
      refine mg 3 (by decide) hx hb ht hown hw gw_800 rfl rfl d_M_create_67 ?_
      refine lv_aload_n hx hb d_M_create_70 rfl (lv_at hl 0 rfl) ?_
      refine mg 21 (by decide) hx hb ht hown hw gw_818 rfl rfl d_M_create_71 ?_
      refine lv_iload_n hx hb d_M_create_74 rfl (lv_at hl 1 rfl) ?_
      refine lv_if_ne (tgt := 82) hx hb d_M_create_75 (by decide) (fun c4 => ?_) (fun c4 => ?_)
      · have hb9 : decide (t = 0) = false := decide_eq_false (fun h => c4 (by rw [h]; rfl))
        refine lv_iconst (v := 0) hx hb d_M_create_82 (by decide) ?_
        refine mp_valid (j := (q_n s)) false rfl (by show q_n s < 16; omega) hx hb hw d_M_create_83 (fun H5 locs5 u5 hw => ?_)
        refine lv_aload_n hx hb d_M_create_84 rfl (lv_at hl 0 rfl) ?_
        refine mg 11 (by decide) hx hb ht hown hw gw_808 rfl rfl d_M_create_85 ?_
        refine lv_aload_n hx hb d_M_create_88 rfl (lv_at hl 0 rfl) ?_
        refine mg 21 (by decide) hx hb ht hown hw gw_818 rfl rfl d_M_create_89 ?_
        refine lv_bipush (v := 8) hx hb d_M_create_92 (by decide) ?_
        refine mp_chance (j := (q_n s)) (8 : Int32) rfl (by show q_n s < 16; omega) hx hb hw d_M_create_94 (fun H6 locs6 u6 hw => ?_)
        refine lv_aload_n hx hb d_M_create_95 rfl (lv_at hl 0 rfl) ?_
        refine lv_dup hx hb d_M_create_96 rfl ?_
        refine mg 21 (by decide) hx hb ht hown hw gw_818 rfl rfl d_M_create_97 ?_
        refine lv_iconst (v := 1) hx hb d_M_create_100 (by decide) ?_
        refine lv_iadd hx hb d_M_create_101 ?_
        rw [show (nI (q_n (qS_ch (qS_va (qS_pt (qS_so s (va_up (q_so s) (q_n s) t)) (va_up (q_pt s) (q_n s) (ptn pa pb))) (va_up (q_va (qS_pt (qS_so s (va_up (q_so s) (q_n s) t)) (va_up (q_pt s) (q_n s) (ptn pa pb)))) (q_n s) false)) (va_up (q_ch (qS_va (qS_pt (qS_so s (va_up (q_so s) (q_n s) t)) (va_up (q_pt s) (q_n s) (ptn pa pb))) (va_up (q_va (qS_pt (qS_so s (va_up (q_so s) (q_n s) t)) (va_up (q_pt s) (q_n s) (ptn pa pb)))) (q_n s) false))) (q_n s) (8 : Int32)))) + 1 : Int32) = nI (q_n s + 1) from nI_1 _]
        refine mp_nodes (q_n s + 1) (by omega) (fun i k h1 h2 => by show va_up (va_up (pcl (m_pt m) (q_n s) 4) (4 * q_n s) (pI pa)) (4 * q_n s + 1) (pI pb) (4 * i + k) = pI (va_up (q_pt s) (q_n s) (ptn pa pb) i k); by_cases hi : i = q_n s; (subst hi; rw [va_up_self]; have h9 : k = 0 ∨ k = 1 ∨ k = 2 ∨ k = 3 := (by omega); rcases h9 with rfl | rfl | rfl | rfl; (rw [va_up_ne _ _ (by omega)]; exact va_up_self _ _ _); (exact va_up_self _ _ _); (rw [va_up_ne _ _ (by omega), va_up_ne _ _ (by omega)]; exact pcl_n 4 2 (by omega)); (rw [va_up_ne _ _ (by omega), va_up_ne _ _ (by omega)]; exact pcl_n 4 3 (by omega))); (rw [va_up_ne _ _ (by omega), va_up_ne _ _ (by omega), va_up_ne _ _ hi, pcl_o (by omega)]; exact hR.2.2.1 i k (by omega) h2)) hx hb ht hown hw gw_818 d_M_create_102 (fun H7 locs7 u7 hw => ?_)
        refine lv_aload_n hx hb d_M_create_105 rfl (lv_at hl 0 rfl) ?_
        refine mg 21 (by decide) hx hb ht hown hw gw_818 rfl rfl d_M_create_106 ?_
        refine lv_iconst (v := 1) hx hb d_M_create_109 (by decide) ?_
        have e9 := addQ_blk hB (t := t) (pa := pa) (pb := pb)
        refine lv_isub hx hb d_M_create_110 ?_
        rw [show (nI (q_n (qS_n (qS_ch (qS_va (qS_pt (qS_so s (va_up (q_so s) (q_n s) t)) (va_up (q_pt s) (q_n s) (ptn pa pb))) (va_up (q_va (qS_pt (qS_so s (va_up (q_so s) (q_n s) t)) (va_up (q_pt s) (q_n s) (ptn pa pb)))) (q_n s) false)) (va_up (q_ch (qS_va (qS_pt (qS_so s (va_up (q_so s) (q_n s) t)) (va_up (q_pt s) (q_n s) (ptn pa pb))) (va_up (q_va (qS_pt (qS_so s (va_up (q_so s) (q_n s) t)) (va_up (q_pt s) (q_n s) (ptn pa pb)))) (q_n s) false))) (q_n s) (8 : Int32))) (q_n s + 1))) - 1 : Int32) = nI (q_n s) from pk_sub (a := q_n s + 1) (b := 1) (by omega)]
        exact kt_i hx hb hr hlocks hw.1 d_M_create_111 (by rw [← e9]; exact ⟨rfl, _, by rw [hb9]; exact hw.2.1, hw.2.2⟩) (by first | decide | (dsimp only; omega)) (by first | decide | (dsimp only; omega))
      · have hb9 : decide (t = 0) = true := decide_eq_true (nI_inj9 c4)
        refine lv_iconst (v := 1) hx hb d_M_create_78 (by decide) ?_
        refine lv_goto (tgt := 83) hx hb d_M_create_79 (by decide) ?_
        refine mp_valid (j := (q_n s)) true rfl (by show q_n s < 16; omega) hx hb hw d_M_create_83 (fun H8 locs8 u8 hw => ?_)
        refine lv_aload_n hx hb d_M_create_84 rfl (lv_at hl 0 rfl) ?_
        refine mg 11 (by decide) hx hb ht hown hw gw_808 rfl rfl d_M_create_85 ?_
        refine lv_aload_n hx hb d_M_create_88 rfl (lv_at hl 0 rfl) ?_
        refine mg 21 (by decide) hx hb ht hown hw gw_818 rfl rfl d_M_create_89 ?_
        refine lv_bipush (v := 8) hx hb d_M_create_92 (by decide) ?_
        refine mp_chance (j := (q_n s)) (8 : Int32) rfl (by show q_n s < 16; omega) hx hb hw d_M_create_94 (fun H9 locs9 u9 hw => ?_)
        refine lv_aload_n hx hb d_M_create_95 rfl (lv_at hl 0 rfl) ?_
        refine lv_dup hx hb d_M_create_96 rfl ?_
        refine mg 21 (by decide) hx hb ht hown hw gw_818 rfl rfl d_M_create_97 ?_
        refine lv_iconst (v := 1) hx hb d_M_create_100 (by decide) ?_
        refine lv_iadd hx hb d_M_create_101 ?_
        rw [show (nI (q_n (qS_ch (qS_va (qS_pt (qS_so s (va_up (q_so s) (q_n s) t)) (va_up (q_pt s) (q_n s) (ptn pa pb))) (va_up (q_va (qS_pt (qS_so s (va_up (q_so s) (q_n s) t)) (va_up (q_pt s) (q_n s) (ptn pa pb)))) (q_n s) true)) (va_up (q_ch (qS_va (qS_pt (qS_so s (va_up (q_so s) (q_n s) t)) (va_up (q_pt s) (q_n s) (ptn pa pb))) (va_up (q_va (qS_pt (qS_so s (va_up (q_so s) (q_n s) t)) (va_up (q_pt s) (q_n s) (ptn pa pb)))) (q_n s) true))) (q_n s) (8 : Int32)))) + 1 : Int32) = nI (q_n s + 1) from nI_1 _]
        refine mp_nodes (q_n s + 1) (by omega) (fun i k h1 h2 => by show va_up (va_up (pcl (m_pt m) (q_n s) 4) (4 * q_n s) (pI pa)) (4 * q_n s + 1) (pI pb) (4 * i + k) = pI (va_up (q_pt s) (q_n s) (ptn pa pb) i k); by_cases hi : i = q_n s; (subst hi; rw [va_up_self]; have h9 : k = 0 ∨ k = 1 ∨ k = 2 ∨ k = 3 := (by omega); rcases h9 with rfl | rfl | rfl | rfl; (rw [va_up_ne _ _ (by omega)]; exact va_up_self _ _ _); (exact va_up_self _ _ _); (rw [va_up_ne _ _ (by omega), va_up_ne _ _ (by omega)]; exact pcl_n 4 2 (by omega)); (rw [va_up_ne _ _ (by omega), va_up_ne _ _ (by omega)]; exact pcl_n 4 3 (by omega))); (rw [va_up_ne _ _ (by omega), va_up_ne _ _ (by omega), va_up_ne _ _ hi, pcl_o (by omega)]; exact hR.2.2.1 i k (by omega) h2)) hx hb ht hown hw gw_818 d_M_create_102 (fun H10 locs10 u10 hw => ?_)
        refine lv_aload_n hx hb d_M_create_105 rfl (lv_at hl 0 rfl) ?_
        refine mg 21 (by decide) hx hb ht hown hw gw_818 rfl rfl d_M_create_106 ?_
        refine lv_iconst (v := 1) hx hb d_M_create_109 (by decide) ?_
        have e9 := addQ_blk hB (t := t) (pa := pa) (pb := pb)
        refine lv_isub hx hb d_M_create_110 ?_
        rw [show (nI (q_n (qS_n (qS_ch (qS_va (qS_pt (qS_so s (va_up (q_so s) (q_n s) t)) (va_up (q_pt s) (q_n s) (ptn pa pb))) (va_up (q_va (qS_pt (qS_so s (va_up (q_so s) (q_n s) t)) (va_up (q_pt s) (q_n s) (ptn pa pb)))) (q_n s) true)) (va_up (q_ch (qS_va (qS_pt (qS_so s (va_up (q_so s) (q_n s) t)) (va_up (q_pt s) (q_n s) (ptn pa pb))) (va_up (q_va (qS_pt (qS_so s (va_up (q_so s) (q_n s) t)) (va_up (q_pt s) (q_n s) (ptn pa pb)))) (q_n s) true))) (q_n s) (8 : Int32))) (q_n s + 1))) - 1 : Int32) = nI (q_n s) from pk_sub (a := q_n s + 1) (b := 1) (by omega)]
        exact kt_i hx hb hr hlocks hw.1 d_M_create_111 (by rw [← e9]; exact ⟨rfl, _, by rw [hb9]; exact hw.2.1, hw.2.2⟩) (by first | decide | (dsimp only; omega)) (by first | decide | (dsimp only; omega))
    · exact absurd (nI_le (Nat.le_refl 4) (by omega)) c1
  · obtain ⟨hl, hw⟩ := hJ
    obtain ⟨u9, hw⟩ := hw
    refine lv_iload hx hb d_M_create_13 (lv_at hl 4 rfl) ?_
    refine lv_iconst (v := 4) hx hb d_M_create_15 (by decide) ?_
    refine lv_icmp_ge (tgt := 40) hx hb d_M_create_16 (by decide) (fun c1 => ?_) (fun c1 => ?_)
    · exact absurd c1 (show ¬ ((4 : Int32) ≤ nI k) from nI_ge (show k < 4 from hk) (by decide))
    · refine lv_aload_n hx hb d_M_create_19 rfl (lv_at hl 0 rfl) ?_
      refine mg 1 (by decide) hx hb ht hown hw gw_798 rfl rfl d_M_create_20 ?_
      refine lv_aload_n hx hb d_M_create_23 rfl (lv_at hl 0 rfl) ?_
      refine mg 21 (by decide) hx hb ht hown hw gw_818 rfl rfl d_M_create_24 ?_
      refine lv_iconst (v := 4) hx hb d_M_create_27 (by decide) ?_
      refine lv_imul hx hb d_M_create_28 ?_
      refine lv_iload hx hb d_M_create_29 (lv_at hl 4 rfl) ?_
      refine lv_iadd hx hb d_M_create_31 ?_
      refine lv_iconst (v := (-1)) hx hb d_M_create_32 (by decide) ?_
      refine mp_part (j := (4 * q_n s + k)) (-1 : Int32) (s' := (qS_so s (va_up (q_so s) (q_n s) t))) rfl (fun i k h1 h2 => by rw [va_up_ne _ _ (by have h : i < q_n s := h1; omega)]; exact hw.2.1.2.2.1 i k h1 h2) (mul4 _ k) (by omega) hx hb hw d_M_create_33 (fun H11 locs11 u11 hw => ?_)
      obtain ⟨i12, ei12⟩ : ∃ y : Int32, y = (nI k) + 1 := ⟨_, rfl⟩
      refine lv_iinc (v := i12) (lv' := [(4, .int i12), (0, .ref (lm 0)), (1, .int (nI t)), (2, .int (pI pa)), (3, .int (pI pb))]) hx hb d_M_create_34 hl (k := 4) rfl (by rw [ei12]; rfl) (by decide) rfl (fun ls hl => ?_)
      rw [nI_1] at ei12; subst ei12
      refine lv_goto (tgt := 13) hx hb d_M_create_37 (by decide) ?_
      exact ih ls H11 locs11 ⟨lv_sub hl [1, 2, 3, 4, 0] rfl, u11, hw⟩
theorem e8_dl (i : Int32) : FP.d2l (FP.l2d (128 * i.toInt64)) = 128 * i.toInt64 := FP.Core.d2l_l2d_small (by have h := m128 i; have := i_abs i; unfold FP.Core.Small53; omega)
theorem room_t {s s' : QS} (h : q_n s < 16) : room s s' = (0, nI (q_n s), s') := by unfold room; rw [if_pos h]
theorem room_f {s s' : QS} (h : ¬ q_n s < 16) : room s s' = (2, 0, s) := by unfold room; rw [if_neg h]
set_option maxHeartbeats 4000000 in
set_option maxRecDepth 100000 in
theorem c_M_quote (l : Launch) (G : GT) (A : Nat → Prop) (lm : Nat → Nat) (s : QS) (m : MS) (u : WT) (hR : rM G lm s m u) (hB : blk s) (i : Int32) : Kt l y_M_quote b_M_quote 4 (some .int) 1 24 0 0 0 0 0 0 G A u [.ref (lm 0), .double (e8 i)] (KQ G A (Ri (fun r u' => r = (pQuote s i).2.1 ∧ ∃ m', m_th m' = nI (pQuote s i).1 ∧ rM G lm (pQuote s i).2.2 m' u' ∧ fM lm u u'))) (NX) := by
  refine k_of (by decide) (Nat.le_of_ble_eq_true rfl) (fun p e st mt below meth c ls hx hb hr hlocks hml htab hname hown ht hw hl => ?_)
  have hl : lv_has ls 4 [(0, .ref (lm 0)), (1, .double (e8 i))] := hl
  have hw : Mk G A lm s m u u st st.heap [] := ⟨hw, hR, fM.rf⟩
  refine lv_aload_n hx hb d_M_quote_0 rfl (lv_at hl 0 rfl) ?_
  refine lv_aload_n hx hb d_M_quote_1 rfl (lv_at hl 0 rfl) ?_
  refine lv_dload_n hx hb d_M_quote_2 rfl (lv_at hl 1 rfl) ?_
  refine lv_ldc2d (v := 4681608360884174848) hx hb hown (ht _ gw_904) d_M_quote_3 ?_
  refine kc_i (kr_V 2 (C := "QuoteGraphModel") (As := [.double (e8 i), .double (4681608360884174848 : UInt64)]) (rest := [.ref (lm 0)]) (c_M_far l G A u (lm 0) i 100000 4681608360884174848 (by decide +kernel) (by decide +kernel) (by decide) (by decide)) hx hb hml hown ht hw.1 gw_905 gw_907 gw_23 gw_47 gw_908 ⟨⟨by decide, by decide⟩, by decide +kernel⟩ ⟨by first | decide | (dsimp only; omega), by first | decide | (dsimp only; omega)⟩ (kr_M hw) rfl hl.1 rfl (lv_room (Nat.le_of_ble_eq_true rfl)) d_M_quote_6 ⟨by first | decide | (dsimp only; omega), by first | decide | (dsimp only; omega)⟩) hw.1 (fun _ _ _ _ _ _ h => h.elim) (fun r1 u1 H1 locs1 hp1 hw1 => ?_)
  replace hp1 : _ = bI (!inE i 100000) ∧ _ := hp1
  obtain ⟨er1, hq1⟩ := hp1
  replace hq1 := hq1.symm; subst hq1
  subst er1
  have hw : Mk G A lm s m u u st H1 locs1 := ⟨hw1, hw.2⟩
  refine lv_if_eq (tgt := 16) hx hb d_M_quote_9 (by decide) (fun c2 => ?_) (fun c2 => ?_)
  · have hEi : inE i 100000 = true := by have h := (bI_eq _).mp c2; rcases h2 : inE i 100000 with _ | _; (rw [h2] at h; cases h); rfl
    refine lv_aload_n hx hb d_M_quote_16 rfl (lv_at hl 0 rfl) ?_
    refine mg 21 (by decide) hx hb ht hown hw gw_818 rfl rfl d_M_quote_17 ?_
    refine lv_bipush (v := 16) hx hb d_M_quote_20 (by decide) ?_
    refine lv_icmp_ne (tgt := 29) hx hb d_M_quote_22 (by decide) (fun c3 => ?_) (fun c3 => ?_)
    · have hlt : q_n s < 16 := by have h16 := hR.2.2.2; have : q_n s ≠ 16 := fun h => c3 (by rw [h]; rfl); omega
      refine lv_iconst (v := 0) hx hb d_M_quote_29 (by decide) ?_
      refine mp_thrown (0 : Int32) hx hb ht hown hw gw_822 d_M_quote_30 (fun H4 locs4 u4 hw => ?_)
      refine lv_aload_n hx hb d_M_quote_33 rfl (lv_at hl 0 rfl) ?_
      refine mg 25 (by decide) hx hb ht hown hw gw_822 rfl rfl d_M_quote_34 ?_
      refine lv_if_eq (tgt := 42) hx hb d_M_quote_37 (by decide) (fun c9 => ?_) (fun c9 => ?_)
      · refine lv_aload_n hx hb d_M_quote_42 rfl (lv_at hl 0 rfl) ?_
        refine lv_iconst (v := 0) hx hb d_M_quote_43 (by decide) ?_
        refine lv_iconst (v := (-1)) hx hb d_M_quote_44 (by decide) ?_
        refine lv_iconst (v := (-1)) hx hb d_M_quote_45 (by decide) ?_
        refine kc_i (kr_V 3 (C := "QuoteGraphModel") (As := [.int (0 : Int32), .int (-1 : Int32), .int (-1 : Int32)]) (rest := []) (c_M_create l G A lm s (mS_th m (0 : Int32)) u4 hw.2.1 hB hlt 0 (by decide) none none) hx hb hml hown ht hw.1 gw_910 gw_912 gw_24 gw_47 gw_913 ⟨⟨by decide, by decide⟩, by decide +kernel⟩ ⟨by first | decide | (dsimp only; omega), by first | decide | (dsimp only; omega)⟩ (kr_M hw) rfl hl.1 rfl (lv_room (Nat.le_of_ble_eq_true rfl)) d_M_quote_46 ⟨by first | decide | (dsimp only; omega), by first | decide | (dsimp only; omega)⟩) hw.1 (fun _ _ _ _ _ _ h => h.elim) (fun r5 u5 H5 locs5 hp5 hw5 => ?_)
        obtain ⟨er5, pt9, g1, g2⟩ := hp5; subst er5
        have hw : Mk G A lm (addQ s 0 0 none none 0 0 0 0) (mS_pt (mS_th m (0 : Int32)) pt9) u u5 st H5 locs5 := ⟨hw5, g1, hw.2.2.tr g2⟩
        refine lv_istore_n (lv' := [(3, .int (nI (q_n s))), (0, .ref (lm 0)), (1, .double (e8 i))]) hx hb d_M_quote_49 rfl hl (by decide) rfl (fun ls hl => ?_)
        refine lv_aload_n hx hb d_M_quote_50 rfl (lv_at hl 1 rfl) ?_
        refine mg 2 (by decide) hx hb ht hown hw gw_799 rfl rfl d_M_quote_51 ?_
        refine lv_iload_n hx hb d_M_quote_54 rfl (lv_at hl 0 rfl) ?_
        refine lv_dload_n hx hb d_M_quote_55 rfl (lv_at hl 2 rfl) ?_
        refine lv_ldc2d (v := 4652218415073722368) hx hb hown (ht _ gw_914) d_M_quote_56 ?_
        refine lv_dmul hx hb d_M_quote_59 (by rw [e8_1024]; exact l2d_n _) ?_
        rw [e8_1024]
        refine lv_d2l hx hb d_M_quote_60 ?_
        rw [e8_dl]
        refine mp_held (j := (q_n s)) (128 * i.toInt64) rfl (by omega) hx hb hw d_M_quote_61 (fun H6 locs6 u6 hw => ?_)
        rw [addQ_am] at hw
        refine lv_iload_n hx hb d_M_quote_62 rfl (lv_at hl 0 rfl) ?_
        exact kt_i hx hb hr hlocks hw.1 d_M_quote_63 (by unfold pQuote; rw [if_neg (by rw [hEi]; decide), room_t hlt]; exact ⟨rfl, _, rfl, hw.2.1, hw.2.2⟩) (by first | decide | (dsimp only; omega)) (by first | decide | (dsimp only; omega))
      · exact absurd rfl c9
    · have hge : ¬ q_n s < 16 := by have := nI_inj9 (b := 16) c3 (by have := hR.2.2.2; omega); omega
      refine lv_iconst (v := 2) hx hb d_M_quote_25 (by decide) ?_
      refine lv_goto (tgt := 30) hx hb d_M_quote_26 (by decide) ?_
      refine mp_thrown (2 : Int32) hx hb ht hown hw gw_822 d_M_quote_30 (fun H7 locs7 u7 hw => ?_)
      refine lv_aload_n hx hb d_M_quote_33 rfl (lv_at hl 0 rfl) ?_
      refine mg 25 (by decide) hx hb ht hown hw gw_822 rfl rfl d_M_quote_34 ?_
      refine lv_if_eq (tgt := 42) hx hb d_M_quote_37 (by decide) (fun c9 => ?_) (fun c9 => ?_)
      · exact absurd (show (2 : Int32) = 0 from c9) (by decide)
      · refine lv_iconst (v := 0) hx hb d_M_quote_40 (by decide) ?_
        exact kt_i hx hb hr hlocks hw.1 d_M_quote_41 (by unfold pQuote; rw [if_neg (by rw [hEi]; decide), room_f hge]; exact ⟨rfl, _, rfl, hw.2.1, hw.2.2⟩) (by first | decide | (dsimp only; omega)) (by first | decide | (dsimp only; omega))
  · have hFi : inE i 100000 = false := by have h := (bI_ne _).mp c2; rcases h2 : inE i 100000 with _ | _; rfl; rw [h2] at h; cases h
    refine lv_iconst (v := 1) hx hb d_M_quote_12 (by decide) ?_
    refine lv_goto (tgt := 30) hx hb d_M_quote_13 (by decide) ?_
    refine mp_thrown (1 : Int32) hx hb ht hown hw gw_822 d_M_quote_30 (fun H8 locs8 u8 hw => ?_)
    refine lv_aload_n hx hb d_M_quote_33 rfl (lv_at hl 0 rfl) ?_
    refine mg 25 (by decide) hx hb ht hown hw gw_822 rfl rfl d_M_quote_34 ?_
    refine lv_if_eq (tgt := 42) hx hb d_M_quote_37 (by decide) (fun c9 => ?_) (fun c9 => ?_)
    · exact absurd (show (1 : Int32) = 0 from c9) (by decide)
    · refine lv_iconst (v := 0) hx hb d_M_quote_40 (by decide) ?_
      exact kt_i hx hb hr hlocks hw.1 d_M_quote_41 (by unfold pQuote; rw [if_pos hFi]; exact ⟨rfl, _, rfl, hw.2.1, hw.2.2⟩) (by first | decide | (dsimp only; omega)) (by first | decide | (dsimp only; omega))
set_option maxHeartbeats 4000000 in
set_option maxRecDepth 100000 in
theorem c_M_greater (l : Launch) (G : GT) (A : Nat → Prop) (lm : Nat → Nat) (s : QS) (m : MS) (u : WT) (hR : rM G lm s m u) (hB : blk s) (a0 b0 : Int32) : Kt l y_M_greater b_M_greater 3 (some .int) 1 24 0 0 0 0 0 0 G A u [.ref (lm 0), .int a0, .int b0] (KQ G A (Ri (fun r u' => r = (pGreater s a0 b0).2.1 ∧ ∃ m', m_th m' = nI (pGreater s a0 b0).1 ∧ rM G lm (pGreater s a0 b0).2.2 m' u' ∧ fM lm u u'))) (NX) := by
  refine k_of (by decide) (Nat.le_of_ble_eq_true rfl) (fun p e st mt below meth c ls hx hb hr hlocks hml htab hname hown ht hw hl => ?_)
  have hl : lv_has ls 3 [(0, .ref (lm 0)), (1, .int a0), (2, .int b0)] := hl
  have hw : Mk G A lm s m u u st st.heap [] := ⟨hw, hR, fM.rf⟩
  refine lv_aload_n hx hb d_M_greater_0 rfl (lv_at hl 0 rfl) ?_
  refine lv_aload_n hx hb d_M_greater_1 rfl (lv_at hl 0 rfl) ?_
  refine lv_iload_n hx hb d_M_greater_2 rfl (lv_at hl 1 rfl) ?_
  refine kc_i (kr_V 1 (C := "QuoteGraphModel") (As := [.int a0]) (rest := [.ref (lm 0)]) (c_M_no l G A lm s m u hR a0) hx hb hml hown ht hw.1 gw_919 gw_921 gw_25 gw_47 gw_922 ⟨⟨by decide, by decide⟩, by decide +kernel⟩ ⟨by first | decide | (dsimp only; omega), by first | decide | (dsimp only; omega)⟩ (kr_M hw) rfl hl.1 rfl (lv_room (Nat.le_of_ble_eq_true rfl)) d_M_greater_3 ⟨by first | decide | (dsimp only; omega), by first | decide | (dsimp only; omega)⟩) hw.1 (fun _ _ _ _ _ _ h => h.elim) (fun r1 u1 H1 locs1 hp1 hw1 => ?_)
  obtain ⟨er1, hq1⟩ := hp1
  replace hq1 := hq1.symm; subst hq1
  subst er1
  have hw : Mk G A lm s m u u st H1 locs1 := ⟨hw1, hw.2⟩
  refine lv_if_ne (tgt := 17) hx hb d_M_greater_6 (by decide) (fun c2 => ?_) (fun c2 => ?_)
  · have hN : isN (q_n s) a0 = false := by have h := (bI_ne _).mp c2; rcases h2 : isN (q_n s) a0 with _ | _; rfl; rw [h2] at h; cases h
    refine lv_iconst (v := 1) hx hb d_M_greater_17 (by decide) ?_
    refine lv_goto (tgt := 35) hx hb d_M_greater_18 (by decide) ?_
    refine mp_thrown (1 : Int32) hx hb ht hown hw gw_822 d_M_greater_35 (fun H3 locs3 u3 hw => ?_)
    refine lv_aload_n hx hb d_M_greater_38 rfl (lv_at hl 0 rfl) ?_
    refine mg 25 (by decide) hx hb ht hown hw gw_822 rfl rfl d_M_greater_39 ?_
    refine lv_if_eq (tgt := 49) hx hb d_M_greater_42 (by decide) (fun c9 => ?_) (fun c9 => ?_)
    · exact absurd (show (1 : Int32) = 0 from c9) (by decide)
    · refine lv_iconst (v := 0) hx hb d_M_greater_45 (by decide) ?_
      refine lv_goto (tgt := 56) hx hb d_M_greater_46 (by decide) ?_
      exact kt_i hx hb hr hlocks hw.1 d_M_greater_56 (by unfold pGreater; rw [wN_f hN]; exact ⟨rfl, _, rfl, hw.2.1, hw.2.2⟩) (by first | decide | (dsimp only; omega)) (by first | decide | (dsimp only; omega))
  · have hNi : isN (q_n s) a0 = true := by have h := (bI_eq _).mp c2; rcases h2 : isN (q_n s) a0 with _ | _; (rw [h2] at h; cases h); rfl
    obtain ⟨i, hi, rfl⟩ := isN_t hNi hR.2.2.2
    refine lv_aload_n hx hb d_M_greater_9 rfl (lv_at hl 0 rfl) ?_
    refine lv_iload_n hx hb d_M_greater_10 rfl (lv_at hl 2 rfl) ?_
    refine kc_i (kr_V 1 (C := "QuoteGraphModel") (As := [.int b0]) (rest := [.ref (lm 0)]) (c_M_no l G A lm s m u hR b0) hx hb hml hown ht hw.1 gw_919 gw_921 gw_25 gw_47 gw_922 ⟨⟨by decide, by decide⟩, by decide +kernel⟩ ⟨by first | decide | (dsimp only; omega), by first | decide | (dsimp only; omega)⟩ (kr_M hw) rfl hl.1 rfl (lv_room (Nat.le_of_ble_eq_true rfl)) d_M_greater_11 ⟨by first | decide | (dsimp only; omega), by first | decide | (dsimp only; omega)⟩) hw.1 (fun _ _ _ _ _ _ h => h.elim) (fun r4 u4 H4 locs4 hp4 hw4 => ?_)
    obtain ⟨er4, hq4⟩ := hp4
    replace hq4 := hq4.symm; subst hq4
    subst er4
    have hw : Mk G A lm s m u u st H4 locs4 := ⟨hw4, hw.2⟩
    refine lv_if_eq (tgt := 21) hx hb d_M_greater_14 (by decide) (fun c5 => ?_) (fun c5 => ?_)
    · have hNj : isN (q_n s) b0 = true := by have h := (bI_eq _).mp c5; rcases h2 : isN (q_n s) b0 with _ | _; (rw [h2] at h; cases h); rfl
      obtain ⟨j, hj, rfl⟩ := isN_t hNj hR.2.2.2
      refine lv_aload_n hx hb d_M_greater_21 rfl (lv_at hl 0 rfl) ?_
      refine mg 21 (by decide) hx hb ht hown hw gw_818 rfl rfl d_M_greater_22 ?_
      refine lv_bipush (v := 16) hx hb d_M_greater_25 (by decide) ?_
      refine lv_icmp_ne (tgt := 34) hx hb d_M_greater_27 (by decide) (fun c6 => ?_) (fun c6 => ?_)
      · have hlt : q_n s < 16 := by have h16 := hR.2.2.2; have : q_n s ≠ 16 := fun h => c6 (by rw [h]; rfl); omega
        refine lv_iconst (v := 0) hx hb d_M_greater_34 (by decide) ?_
        refine mp_thrown (0 : Int32) hx hb ht hown hw gw_822 d_M_greater_35 (fun H7 locs7 u7 hw => ?_)
        refine lv_aload_n hx hb d_M_greater_38 rfl (lv_at hl 0 rfl) ?_
        refine mg 25 (by decide) hx hb ht hown hw gw_822 rfl rfl d_M_greater_39 ?_
        refine lv_if_eq (tgt := 49) hx hb d_M_greater_42 (by decide) (fun c9 => ?_) (fun c9 => ?_)
        · refine lv_aload_n hx hb d_M_greater_49 rfl (lv_at hl 0 rfl) ?_
          refine lv_iconst (v := 2) hx hb d_M_greater_50 (by decide) ?_
          refine lv_iload_n hx hb d_M_greater_51 rfl (lv_at hl 1 rfl) ?_
          refine lv_iload_n hx hb d_M_greater_52 rfl (lv_at hl 2 rfl) ?_
          refine kc_i (kr_V 3 (C := "QuoteGraphModel") (As := [.int (2 : Int32), .int (nI i), .int (nI j)]) (rest := []) (c_M_create l G A lm s (mS_th m (0 : Int32)) u7 hw.2.1 hB hlt 2 (by decide) (some i) (some j)) hx hb hml hown ht hw.1 gw_910 gw_912 gw_24 gw_47 gw_913 ⟨⟨by decide, by decide⟩, by decide +kernel⟩ ⟨by first | decide | (dsimp only; omega), by first | decide | (dsimp only; omega)⟩ (kr_M hw) rfl hl.1 rfl (lv_room (Nat.le_of_ble_eq_true rfl)) d_M_greater_53 ⟨by first | decide | (dsimp only; omega), by first | decide | (dsimp only; omega)⟩) hw.1 (fun _ _ _ _ _ _ h => h.elim) (fun r8 u8 H8 locs8 hp8 hw8 => ?_)
          obtain ⟨er8, pt9, g1, g2⟩ := hp8; subst er8
          have hw : Mk G A lm (addQ s 2 0 (some i) (some j) 0 0 0 0) (mS_pt (mS_th m (0 : Int32)) pt9) u u8 st H8 locs8 := ⟨hw8, g1, hw.2.2.tr g2⟩
          exact kt_i hx hb hr hlocks hw.1 d_M_greater_56 (by unfold pGreater; rw [wN_t hi hR.2.2.2, wN_t hj hR.2.2.2, room_t hlt]; exact ⟨rfl, _, rfl, hw.2.1, hw.2.2⟩) (by first | decide | (dsimp only; omega)) (by first | decide | (dsimp only; omega))
        · exact absurd rfl c9
      · have hge : ¬ q_n s < 16 := by have := nI_inj9 (b := 16) c6 (by have := hR.2.2.2; omega); omega
        refine lv_iconst (v := 2) hx hb d_M_greater_30 (by decide) ?_
        refine lv_goto (tgt := 35) hx hb d_M_greater_31 (by decide) ?_
        refine mp_thrown (2 : Int32) hx hb ht hown hw gw_822 d_M_greater_35 (fun H9 locs9 u9 hw => ?_)
        refine lv_aload_n hx hb d_M_greater_38 rfl (lv_at hl 0 rfl) ?_
        refine mg 25 (by decide) hx hb ht hown hw gw_822 rfl rfl d_M_greater_39 ?_
        refine lv_if_eq (tgt := 49) hx hb d_M_greater_42 (by decide) (fun c9 => ?_) (fun c9 => ?_)
        · exact absurd (show (2 : Int32) = 0 from c9) (by decide)
        · refine lv_iconst (v := 0) hx hb d_M_greater_45 (by decide) ?_
          refine lv_goto (tgt := 56) hx hb d_M_greater_46 (by decide) ?_
          exact kt_i hx hb hr hlocks hw.1 d_M_greater_56 (by unfold pGreater; rw [wN_t hi hR.2.2.2, wN_t hj hR.2.2.2, room_f hge]; exact ⟨rfl, _, rfl, hw.2.1, hw.2.2⟩) (by first | decide | (dsimp only; omega)) (by first | decide | (dsimp only; omega))
    · have hN : isN (q_n s) b0 = false := by have h := (bI_ne _).mp c5; rcases h2 : isN (q_n s) b0 with _ | _; rfl; rw [h2] at h; cases h
      refine lv_iconst (v := 1) hx hb d_M_greater_17 (by decide) ?_
      refine lv_goto (tgt := 35) hx hb d_M_greater_18 (by decide) ?_
      refine mp_thrown (1 : Int32) hx hb ht hown hw gw_822 d_M_greater_35 (fun H10 locs10 u10 hw => ?_)
      refine lv_aload_n hx hb d_M_greater_38 rfl (lv_at hl 0 rfl) ?_
      refine mg 25 (by decide) hx hb ht hown hw gw_822 rfl rfl d_M_greater_39 ?_
      refine lv_if_eq (tgt := 49) hx hb d_M_greater_42 (by decide) (fun c9 => ?_) (fun c9 => ?_)
      · exact absurd (show (1 : Int32) = 0 from c9) (by decide)
      · refine lv_iconst (v := 0) hx hb d_M_greater_45 (by decide) ?_
        refine lv_goto (tgt := 56) hx hb d_M_greater_46 (by decide) ?_
        exact kt_i hx hb hr hlocks hw.1 d_M_greater_56 (by unfold pGreater; rw [wN_t hi hR.2.2.2, wN_f hN]; exact ⟨rfl, _, rfl, hw.2.1, hw.2.2⟩) (by first | decide | (dsimp only; omega)) (by first | decide | (dsimp only; omega))
set_option maxHeartbeats 4000000 in
set_option maxRecDepth 100000 in
theorem c_M_blend (l : Launch) (G : GT) (A : Nat → Prop) (lm : Nat → Nat) (s : QS) (m : MS) (u : WT) (hR : rM G lm s m u) (hB : blk s) (a0 b0 x y : Int32) : Kt l y_M_blend b_M_blend 8 (some .int) 1 24 0 0 0 0 0 0 G A u [.ref (lm 0), .int a0, .int b0, .double (e8 x), .double (e8 y)] (KQ G A (Ri (fun r u' => r = (pBlend s a0 b0 x y).2.1 ∧ ∃ m', m_th m' = nI (pBlend s a0 b0 x y).1 ∧ rM G lm (pBlend s a0 b0 x y).2.2 m' u' ∧ fM lm u u'))) (NX) := by
  refine k_of (by decide) (Nat.le_of_ble_eq_true rfl) (fun p e st mt below meth c ls hx hb hr hlocks hml htab hname hown ht hw hl => ?_)
  have hl : lv_has ls 8 [(0, .ref (lm 0)), (1, .int a0), (2, .int b0), (3, .double (e8 x)), (5, .double (e8 y))] := hl
  have hw : Mk G A lm s m u u st st.heap [] := ⟨hw, hR, fM.rf⟩
  refine lv_aload_n hx hb d_M_blend_0 rfl (lv_at hl 0 rfl) ?_
  refine lv_aload_n hx hb d_M_blend_1 rfl (lv_at hl 0 rfl) ?_
  refine lv_iload_n hx hb d_M_blend_2 rfl (lv_at hl 1 rfl) ?_
  refine kc_i (kr_V 1 (C := "QuoteGraphModel") (As := [.int a0]) (rest := [.ref (lm 0)]) (c_M_no l G A lm s m u hR a0) hx hb hml hown ht hw.1 gw_919 gw_921 gw_25 gw_47 gw_922 ⟨⟨by decide, by decide⟩, by decide +kernel⟩ ⟨by first | decide | (dsimp only; omega), by first | decide | (dsimp only; omega)⟩ (kr_M hw) rfl hl.1 rfl (lv_room (Nat.le_of_ble_eq_true rfl)) d_M_blend_3 ⟨by first | decide | (dsimp only; omega), by first | decide | (dsimp only; omega)⟩) hw.1 (fun _ _ _ _ _ _ h => h.elim) (fun r1 u1 H1 locs1 hp1 hw1 => ?_)
  obtain ⟨er1, hq1⟩ := hp1
  replace hq1 := hq1.symm; subst hq1
  subst er1
  have hw : Mk G A lm s m u u st H1 locs1 := ⟨hw1, hw.2⟩
  refine lv_if_ne (tgt := 40) hx hb d_M_blend_6 (by decide) (fun c2 => ?_) (fun c2 => ?_)
  · have hN : isN (q_n s) a0 = false := by have h := (bI_ne _).mp c2; rcases h2 : isN (q_n s) a0 with _ | _; rfl; rw [h2] at h; cases h
    refine lv_iconst (v := 1) hx hb d_M_blend_40 (by decide) ?_
    refine lv_goto (tgt := 58) hx hb d_M_blend_41 (by decide) ?_
    refine mp_thrown (1 : Int32) hx hb ht hown hw gw_822 d_M_blend_58 (fun H3 locs3 u3 hw => ?_)
    refine lv_aload_n hx hb d_M_blend_61 rfl (lv_at hl 0 rfl) ?_
    refine mg 25 (by decide) hx hb ht hown hw gw_822 rfl rfl d_M_blend_62 ?_
    refine lv_if_eq (tgt := 70) hx hb d_M_blend_65 (by decide) (fun c9 => ?_) (fun c9 => ?_)
    · exact absurd (show (1 : Int32) = 0 from c9) (by decide)
    · refine lv_iconst (v := 0) hx hb d_M_blend_68 (by decide) ?_
      exact kt_i hx hb hr hlocks hw.1 d_M_blend_69 (by unfold pBlend; rw [wN_f hN]; exact ⟨rfl, _, rfl, hw.2.1, hw.2.2⟩) (by first | decide | (dsimp only; omega)) (by first | decide | (dsimp only; omega))
  · have hNi : isN (q_n s) a0 = true := by have h := (bI_eq _).mp c2; rcases h2 : isN (q_n s) a0 with _ | _; (rw [h2] at h; cases h); rfl
    obtain ⟨i, hi, rfl⟩ := isN_t hNi hR.2.2.2
    refine lv_aload_n hx hb d_M_blend_9 rfl (lv_at hl 0 rfl) ?_
    refine lv_iload_n hx hb d_M_blend_10 rfl (lv_at hl 2 rfl) ?_
    refine kc_i (kr_V 1 (C := "QuoteGraphModel") (As := [.int b0]) (rest := [.ref (lm 0)]) (c_M_no l G A lm s m u hR b0) hx hb hml hown ht hw.1 gw_919 gw_921 gw_25 gw_47 gw_922 ⟨⟨by decide, by decide⟩, by decide +kernel⟩ ⟨by first | decide | (dsimp only; omega), by first | decide | (dsimp only; omega)⟩ (kr_M hw) rfl hl.1 rfl (lv_room (Nat.le_of_ble_eq_true rfl)) d_M_blend_11 ⟨by first | decide | (dsimp only; omega), by first | decide | (dsimp only; omega)⟩) hw.1 (fun _ _ _ _ _ _ h => h.elim) (fun r4 u4 H4 locs4 hp4 hw4 => ?_)
    obtain ⟨er4, hq4⟩ := hp4
    replace hq4 := hq4.symm; subst hq4
    subst er4
    have hw : Mk G A lm s m u u st H4 locs4 := ⟨hw4, hw.2⟩
    refine lv_if_ne (tgt := 40) hx hb d_M_blend_14 (by decide) (fun c5 => ?_) (fun c5 => ?_)
    · have hN : isN (q_n s) b0 = false := by have h := (bI_ne _).mp c5; rcases h2 : isN (q_n s) b0 with _ | _; rfl; rw [h2] at h; cases h
      refine lv_iconst (v := 1) hx hb d_M_blend_40 (by decide) ?_
      refine lv_goto (tgt := 58) hx hb d_M_blend_41 (by decide) ?_
      refine mp_thrown (1 : Int32) hx hb ht hown hw gw_822 d_M_blend_58 (fun H6 locs6 u6 hw => ?_)
      refine lv_aload_n hx hb d_M_blend_61 rfl (lv_at hl 0 rfl) ?_
      refine mg 25 (by decide) hx hb ht hown hw gw_822 rfl rfl d_M_blend_62 ?_
      refine lv_if_eq (tgt := 70) hx hb d_M_blend_65 (by decide) (fun c9 => ?_) (fun c9 => ?_)
      · exact absurd (show (1 : Int32) = 0 from c9) (by decide)
      · refine lv_iconst (v := 0) hx hb d_M_blend_68 (by decide) ?_
        exact kt_i hx hb hr hlocks hw.1 d_M_blend_69 (by unfold pBlend; rw [wN_t hi hR.2.2.2, wN_f hN]; exact ⟨rfl, _, rfl, hw.2.1, hw.2.2⟩) (by first | decide | (dsimp only; omega)) (by first | decide | (dsimp only; omega))
    · have hNj : isN (q_n s) b0 = true := by have h := (bI_eq _).mp c5; rcases h2 : isN (q_n s) b0 with _ | _; (rw [h2] at h; cases h); rfl
      obtain ⟨j, hj, rfl⟩ := isN_t hNj hR.2.2.2
      refine lv_aload_n hx hb d_M_blend_17 rfl (lv_at hl 0 rfl) ?_
      refine lv_dload_n hx hb d_M_blend_18 rfl (lv_at hl 3 rfl) ?_
      refine lv_ldc2d (v := 4625196817309499392) hx hb hown (ht _ gw_923) d_M_blend_19 ?_
      refine kc_i (kr_V 2 (C := "QuoteGraphModel") (As := [.double (e8 x), .double (4625196817309499392 : UInt64)]) (rest := [.ref (lm 0)]) (c_M_far l G A u (lm 0) x 16 4625196817309499392 (by decide +kernel) (by decide +kernel) (by decide) (by decide)) hx hb hml hown ht hw.1 gw_905 gw_907 gw_23 gw_47 gw_908 ⟨⟨by decide, by decide⟩, by decide +kernel⟩ ⟨by first | decide | (dsimp only; omega), by first | decide | (dsimp only; omega)⟩ (kr_M hw) rfl hl.1 rfl (lv_room (Nat.le_of_ble_eq_true rfl)) d_M_blend_22 ⟨by first | decide | (dsimp only; omega), by first | decide | (dsimp only; omega)⟩) hw.1 (fun _ _ _ _ _ _ h => h.elim) (fun r7 u7 H7 locs7 hp7 hw7 => ?_)
      replace hp7 : _ = bI (!inE x 16) ∧ _ := hp7
      obtain ⟨er7, hq7⟩ := hp7
      replace hq7 := hq7.symm; subst hq7
      subst er7
      have hw : Mk G A lm s m u u st H7 locs7 := ⟨hw7, hw.2⟩
      refine lv_if_ne (tgt := 40) hx hb d_M_blend_25 (by decide) (fun c8 => ?_) (fun c8 => ?_)
      · have hFx : inE x 16 = false := by have h := (bI_ne _).mp c8; rcases h2 : inE x 16 with _ | _; rfl; rw [h2] at h; cases h
        refine lv_iconst (v := 1) hx hb d_M_blend_40 (by decide) ?_
        refine lv_goto (tgt := 58) hx hb d_M_blend_41 (by decide) ?_
        refine mp_thrown (1 : Int32) hx hb ht hown hw gw_822 d_M_blend_58 (fun H9 locs9 u9 hw => ?_)
        refine lv_aload_n hx hb d_M_blend_61 rfl (lv_at hl 0 rfl) ?_
        refine mg 25 (by decide) hx hb ht hown hw gw_822 rfl rfl d_M_blend_62 ?_
        refine lv_if_eq (tgt := 70) hx hb d_M_blend_65 (by decide) (fun c9 => ?_) (fun c9 => ?_)
        · exact absurd (show (1 : Int32) = 0 from c9) (by decide)
        · refine lv_iconst (v := 0) hx hb d_M_blend_68 (by decide) ?_
          exact kt_i hx hb hr hlocks hw.1 d_M_blend_69 (by unfold pBlend; rw [wN_t hi hR.2.2.2, wN_t hj hR.2.2.2, if_pos hFx]; exact ⟨rfl, _, rfl, hw.2.1, hw.2.2⟩) (by first | decide | (dsimp only; omega)) (by first | decide | (dsimp only; omega))
      · have hEx : inE x 16 = true := by have h := (bI_eq _).mp c8; rcases h2 : inE x 16 with _ | _; (rw [h2] at h; cases h); rfl
        refine lv_aload_n hx hb d_M_blend_28 rfl (lv_at hl 0 rfl) ?_
        refine lv_dload hx hb d_M_blend_29 (lv_at hl 4 rfl) ?_
        refine lv_ldc2d (v := 4625196817309499392) hx hb hown (ht _ gw_923) d_M_blend_31 ?_
        refine kc_i (kr_V 2 (C := "QuoteGraphModel") (As := [.double (e8 y), .double (4625196817309499392 : UInt64)]) (rest := [.ref (lm 0)]) (c_M_far l G A u (lm 0) y 16 4625196817309499392 (by decide +kernel) (by decide +kernel) (by decide) (by decide)) hx hb hml hown ht hw.1 gw_905 gw_907 gw_23 gw_47 gw_908 ⟨⟨by decide, by decide⟩, by decide +kernel⟩ ⟨by first | decide | (dsimp only; omega), by first | decide | (dsimp only; omega)⟩ (kr_M hw) rfl hl.1 rfl (lv_room (Nat.le_of_ble_eq_true rfl)) d_M_blend_34 ⟨by first | decide | (dsimp only; omega), by first | decide | (dsimp only; omega)⟩) hw.1 (fun _ _ _ _ _ _ h => h.elim) (fun r10 u10 H10 locs10 hp10 hw10 => ?_)
        replace hp10 : _ = bI (!inE y 16) ∧ _ := hp10
        obtain ⟨er10, hq10⟩ := hp10
        replace hq10 := hq10.symm; subst hq10
        subst er10
        have hw : Mk G A lm s m u u st H10 locs10 := ⟨hw10, hw.2⟩
        refine lv_if_eq (tgt := 44) hx hb d_M_blend_37 (by decide) (fun c11 => ?_) (fun c11 => ?_)
        · have hEy : inE y 16 = true := by have h := (bI_eq _).mp c11; rcases h2 : inE y 16 with _ | _; (rw [h2] at h; cases h); rfl
          refine lv_aload_n hx hb d_M_blend_44 rfl (lv_at hl 0 rfl) ?_
          refine mg 21 (by decide) hx hb ht hown hw gw_818 rfl rfl d_M_blend_45 ?_
          refine lv_bipush (v := 16) hx hb d_M_blend_48 (by decide) ?_
          refine lv_icmp_ne (tgt := 57) hx hb d_M_blend_50 (by decide) (fun c12 => ?_) (fun c12 => ?_)
          · have hlt : q_n s < 16 := by have h16 := hR.2.2.2; have : q_n s ≠ 16 := fun h => c12 (by rw [h]; rfl); omega
            refine lv_iconst (v := 0) hx hb d_M_blend_57 (by decide) ?_
            refine mp_thrown (0 : Int32) hx hb ht hown hw gw_822 d_M_blend_58 (fun H13 locs13 u13 hw => ?_)
            refine lv_aload_n hx hb d_M_blend_61 rfl (lv_at hl 0 rfl) ?_
            refine mg 25 (by decide) hx hb ht hown hw gw_822 rfl rfl d_M_blend_62 ?_
            refine lv_if_eq (tgt := 70) hx hb d_M_blend_65 (by decide) (fun c9 => ?_) (fun c9 => ?_)
            · refine lv_aload_n hx hb d_M_blend_70 rfl (lv_at hl 0 rfl) ?_
              refine lv_iconst (v := 1) hx hb d_M_blend_71 (by decide) ?_
              refine lv_iload_n hx hb d_M_blend_72 rfl (lv_at hl 1 rfl) ?_
              refine lv_iload_n hx hb d_M_blend_73 rfl (lv_at hl 2 rfl) ?_
              refine kc_i (kr_V 3 (C := "QuoteGraphModel") (As := [.int (1 : Int32), .int (nI i), .int (nI j)]) (rest := []) (c_M_create l G A lm s (mS_th m (0 : Int32)) u13 hw.2.1 hB hlt 1 (by decide) (some i) (some j)) hx hb hml hown ht hw.1 gw_910 gw_912 gw_24 gw_47 gw_913 ⟨⟨by decide, by decide⟩, by decide +kernel⟩ ⟨by first | decide | (dsimp only; omega), by first | decide | (dsimp only; omega)⟩ (kr_M hw) rfl hl.1 rfl (lv_room (Nat.le_of_ble_eq_true rfl)) d_M_blend_74 ⟨by first | decide | (dsimp only; omega), by first | decide | (dsimp only; omega)⟩) hw.1 (fun _ _ _ _ _ _ h => h.elim) (fun r14 u14 H14 locs14 hp14 hw14 => ?_)
              obtain ⟨er14, pt9, g1, g2⟩ := hp14; subst er14
              have hw : Mk G A lm (addQ s 1 0 (some i) (some j) 0 0 0 0) (mS_pt (mS_th m (0 : Int32)) pt9) u u14 st H14 locs14 := ⟨hw14, g1, hw.2.2.tr g2⟩
              refine lv_istore (lv' := [(7, .int (nI (q_n s))), (0, .ref (lm 0)), (1, .int (nI i)), (2, .int (nI j)), (3, .double (e8 x)), (5, .double (e8 y))]) hx hb d_M_blend_77 hl (by decide) rfl (fun ls hl => ?_)
              refine lv_aload_n hx hb d_M_blend_79 rfl (lv_at hl 1 rfl) ?_
              refine mg 7 (by decide) hx hb ht hown hw gw_804 rfl rfl d_M_blend_80 ?_
              refine lv_iload hx hb d_M_blend_83 (lv_at hl 0 rfl) ?_
              refine lv_dload_n hx hb d_M_blend_85 rfl (lv_at hl 4 rfl) ?_
              refine lv_ldc2d (v := 4620693217682128896) hx hb hown (ht _ gw_909) d_M_blend_86 ?_
              refine lv_dmul hx hb d_M_blend_89 (by rw [e8_8]; exact l2d_n _) ?_
              rw [e8_8]
              refine lv_d2l hx hb d_M_blend_90 ?_
              rw [e8_d2l]
              refine mp_weightA (j := (q_n s)) x.toInt64 rfl (by omega) hx hb hw d_M_blend_91 (fun H15 locs15 u15 hw => ?_)
              rw [addQ_wa] at hw
              refine lv_aload_n hx hb d_M_blend_92 rfl (lv_at hl 1 rfl) ?_
              refine mg 8 (by decide) hx hb ht hown hw gw_805 rfl rfl d_M_blend_93 ?_
              refine lv_iload hx hb d_M_blend_96 (lv_at hl 0 rfl) ?_
              refine lv_dload hx hb d_M_blend_98 (lv_at hl 5 rfl) ?_
              refine lv_ldc2d (v := 4620693217682128896) hx hb hown (ht _ gw_909) d_M_blend_100 ?_
              refine lv_dmul hx hb d_M_blend_103 (by rw [e8_8]; exact l2d_n _) ?_
              rw [e8_8]
              refine lv_d2l hx hb d_M_blend_104 ?_
              rw [e8_d2l]
              refine mp_weightB (j := (q_n s)) y.toInt64 rfl (by omega) hx hb hw d_M_blend_105 (fun H16 locs16 u16 hw => ?_)
              rw [addQ_wb] at hw
              refine lv_iload hx hb d_M_blend_106 (lv_at hl 0 rfl) ?_
              exact kt_i hx hb hr hlocks hw.1 d_M_blend_108 (by unfold pBlend; rw [wN_t hi hR.2.2.2, wN_t hj hR.2.2.2, if_neg (by rw [hEx]; decide), if_neg (by rw [hEy]; decide), room_t hlt]; exact ⟨rfl, _, rfl, hw.2.1, hw.2.2⟩) (by first | decide | (dsimp only; omega)) (by first | decide | (dsimp only; omega))
            · exact absurd rfl c9
          · have hge : ¬ q_n s < 16 := by have := nI_inj9 (b := 16) c12 (by have := hR.2.2.2; omega); omega
            refine lv_iconst (v := 2) hx hb d_M_blend_53 (by decide) ?_
            refine lv_goto (tgt := 58) hx hb d_M_blend_54 (by decide) ?_
            refine mp_thrown (2 : Int32) hx hb ht hown hw gw_822 d_M_blend_58 (fun H17 locs17 u17 hw => ?_)
            refine lv_aload_n hx hb d_M_blend_61 rfl (lv_at hl 0 rfl) ?_
            refine mg 25 (by decide) hx hb ht hown hw gw_822 rfl rfl d_M_blend_62 ?_
            refine lv_if_eq (tgt := 70) hx hb d_M_blend_65 (by decide) (fun c9 => ?_) (fun c9 => ?_)
            · exact absurd (show (2 : Int32) = 0 from c9) (by decide)
            · refine lv_iconst (v := 0) hx hb d_M_blend_68 (by decide) ?_
              exact kt_i hx hb hr hlocks hw.1 d_M_blend_69 (by unfold pBlend; rw [wN_t hi hR.2.2.2, wN_t hj hR.2.2.2, if_neg (by rw [hEx]; decide), if_neg (by rw [hEy]; decide), room_f hge]; exact ⟨rfl, _, rfl, hw.2.1, hw.2.2⟩) (by first | decide | (dsimp only; omega)) (by first | decide | (dsimp only; omega))
        · have hFy : inE y 16 = false := by have h := (bI_ne _).mp c11; rcases h2 : inE y 16 with _ | _; rfl; rw [h2] at h; cases h
          refine lv_iconst (v := 1) hx hb d_M_blend_40 (by decide) ?_
          refine lv_goto (tgt := 58) hx hb d_M_blend_41 (by decide) ?_
          refine mp_thrown (1 : Int32) hx hb ht hown hw gw_822 d_M_blend_58 (fun H18 locs18 u18 hw => ?_)
          refine lv_aload_n hx hb d_M_blend_61 rfl (lv_at hl 0 rfl) ?_
          refine mg 25 (by decide) hx hb ht hown hw gw_822 rfl rfl d_M_blend_62 ?_
          refine lv_if_eq (tgt := 70) hx hb d_M_blend_65 (by decide) (fun c9 => ?_) (fun c9 => ?_)
          · exact absurd (show (1 : Int32) = 0 from c9) (by decide)
          · refine lv_iconst (v := 0) hx hb d_M_blend_68 (by decide) ?_
            exact kt_i hx hb hr hlocks hw.1 d_M_blend_69 (by unfold pBlend; rw [wN_t hi hR.2.2.2, wN_t hj hR.2.2.2, if_neg (by rw [hEx]; decide), if_pos hFy]; exact ⟨rfl, _, rfl, hw.2.1, hw.2.2⟩) (by first | decide | (dsimp only; omega)) (by first | decide | (dsimp only; omega))
set_option maxHeartbeats 4000000 in
set_option maxRecDepth 100000 in
theorem c_M_option (l : Launch) (G : GT) (A : Nat → Prop) (lm : Nat → Nat) (s : QS) (m : MS) (u : WT) (hR : rM G lm s m u) (hB : blk s) (a0 b0 kd x sp : Int32) : Kt l y_M_option b_M_option 8 (some .int) 1 24 0 0 0 0 0 0 G A u [.ref (lm 0), .int a0, .int b0, .int kd, .double (e8 x), .int sp] (KQ G A (Ri (fun r u' => r = (pOption s a0 b0 kd x sp).2.1 ∧ ∃ m', m_th m' = nI (pOption s a0 b0 kd x sp).1 ∧ rM G lm (pOption s a0 b0 kd x sp).2.2 m' u' ∧ fM lm u u'))) (NX) := by
  refine k_of (by decide) (Nat.le_of_ble_eq_true rfl) (fun p e st mt below meth c ls hx hb hr hlocks hml htab hname hown ht hw hl => ?_)
  have hl : lv_has ls 8 [(0, .ref (lm 0)), (1, .int a0), (2, .int b0), (3, .int kd), (4, .double (e8 x)), (6, .int sp)] := hl
  have hw : Mk G A lm s m u u st st.heap [] := ⟨hw, hR, fM.rf⟩
  refine lv_aload_n hx hb d_M_option_0 rfl (lv_at hl 0 rfl) ?_
  refine lv_aload_n hx hb d_M_option_1 rfl (lv_at hl 0 rfl) ?_
  refine lv_iload_n hx hb d_M_option_2 rfl (lv_at hl 1 rfl) ?_
  refine kc_i (kr_V 1 (C := "QuoteGraphModel") (As := [.int a0]) (rest := [.ref (lm 0)]) (c_M_no l G A lm s m u hR a0) hx hb hml hown ht hw.1 gw_919 gw_921 gw_25 gw_47 gw_922 ⟨⟨by decide, by decide⟩, by decide +kernel⟩ ⟨by first | decide | (dsimp only; omega), by first | decide | (dsimp only; omega)⟩ (kr_M hw) rfl hl.1 rfl (lv_room (Nat.le_of_ble_eq_true rfl)) d_M_option_3 ⟨by first | decide | (dsimp only; omega), by first | decide | (dsimp only; omega)⟩) hw.1 (fun _ _ _ _ _ _ h => h.elim) (fun r1 u1 H1 locs1 hp1 hw1 => ?_)
  obtain ⟨er1, hq1⟩ := hp1
  replace hq1 := hq1.symm; subst hq1
  subst er1
  have hw : Mk G A lm s m u u st H1 locs1 := ⟨hw1, hw.2⟩
  refine lv_if_ne (tgt := 51) hx hb d_M_option_6 (by decide) (fun c2 => ?_) (fun c2 => ?_)
  · have hN : isN (q_n s) a0 = false := by have h := (bI_ne _).mp c2; rcases h2 : isN (q_n s) a0 with _ | _; rfl; rw [h2] at h; cases h
    refine lv_iconst (v := 1) hx hb d_M_option_51 (by decide) ?_
    refine lv_goto (tgt := 69) hx hb d_M_option_52 (by decide) ?_
    refine mp_thrown (1 : Int32) hx hb ht hown hw gw_822 d_M_option_69 (fun H3 locs3 u3 hw => ?_)
    refine lv_aload_n hx hb d_M_option_72 rfl (lv_at hl 0 rfl) ?_
    refine mg 25 (by decide) hx hb ht hown hw gw_822 rfl rfl d_M_option_73 ?_
    refine lv_if_eq (tgt := 81) hx hb d_M_option_76 (by decide) (fun c9 => ?_) (fun c9 => ?_)
    · exact absurd (show (1 : Int32) = 0 from c9) (by decide)
    · refine lv_iconst (v := 0) hx hb d_M_option_79 (by decide) ?_
      exact kt_i hx hb hr hlocks hw.1 d_M_option_80 (by unfold pOption; rw [wN_f hN]; exact ⟨rfl, _, rfl, hw.2.1, hw.2.2⟩) (by first | decide | (dsimp only; omega)) (by first | decide | (dsimp only; omega))
  · have hNi : isN (q_n s) a0 = true := by have h := (bI_eq _).mp c2; rcases h2 : isN (q_n s) a0 with _ | _; (rw [h2] at h; cases h); rfl
    obtain ⟨i, hi, rfl⟩ := isN_t hNi hR.2.2.2
    refine lv_aload_n hx hb d_M_option_9 rfl (lv_at hl 0 rfl) ?_
    refine lv_iload_n hx hb d_M_option_10 rfl (lv_at hl 2 rfl) ?_
    refine kc_i (kr_V 1 (C := "QuoteGraphModel") (As := [.int b0]) (rest := [.ref (lm 0)]) (c_M_no l G A lm s m u hR b0) hx hb hml hown ht hw.1 gw_919 gw_921 gw_25 gw_47 gw_922 ⟨⟨by decide, by decide⟩, by decide +kernel⟩ ⟨by first | decide | (dsimp only; omega), by first | decide | (dsimp only; omega)⟩ (kr_M hw) rfl hl.1 rfl (lv_room (Nat.le_of_ble_eq_true rfl)) d_M_option_11 ⟨by first | decide | (dsimp only; omega), by first | decide | (dsimp only; omega)⟩) hw.1 (fun _ _ _ _ _ _ h => h.elim) (fun r4 u4 H4 locs4 hp4 hw4 => ?_)
    obtain ⟨er4, hq4⟩ := hp4
    replace hq4 := hq4.symm; subst hq4
    subst er4
    have hw : Mk G A lm s m u u st H4 locs4 := ⟨hw4, hw.2⟩
    refine lv_if_ne (tgt := 51) hx hb d_M_option_14 (by decide) (fun c5 => ?_) (fun c5 => ?_)
    · have hN : isN (q_n s) b0 = false := by have h := (bI_ne _).mp c5; rcases h2 : isN (q_n s) b0 with _ | _; rfl; rw [h2] at h; cases h
      refine lv_iconst (v := 1) hx hb d_M_option_51 (by decide) ?_
      refine lv_goto (tgt := 69) hx hb d_M_option_52 (by decide) ?_
      refine mp_thrown (1 : Int32) hx hb ht hown hw gw_822 d_M_option_69 (fun H6 locs6 u6 hw => ?_)
      refine lv_aload_n hx hb d_M_option_72 rfl (lv_at hl 0 rfl) ?_
      refine mg 25 (by decide) hx hb ht hown hw gw_822 rfl rfl d_M_option_73 ?_
      refine lv_if_eq (tgt := 81) hx hb d_M_option_76 (by decide) (fun c9 => ?_) (fun c9 => ?_)
      · exact absurd (show (1 : Int32) = 0 from c9) (by decide)
      · refine lv_iconst (v := 0) hx hb d_M_option_79 (by decide) ?_
        exact kt_i hx hb hr hlocks hw.1 d_M_option_80 (by unfold pOption; rw [wN_t hi hR.2.2.2, wN_f hN]; exact ⟨rfl, _, rfl, hw.2.1, hw.2.2⟩) (by first | decide | (dsimp only; omega)) (by first | decide | (dsimp only; omega))
    · have hNj : isN (q_n s) b0 = true := by have h := (bI_eq _).mp c5; rcases h2 : isN (q_n s) b0 with _ | _; (rw [h2] at h; cases h); rfl
      obtain ⟨j, hj, rfl⟩ := isN_t hNj hR.2.2.2
      refine lv_iload_n hx hb d_M_option_17 rfl (lv_at hl 3 rfl) ?_
      refine lv_if_lt (tgt := 51) hx hb d_M_option_18 (by decide) (fun c7 => ?_) (fun c7 => ?_)
      · have hkd : inR kd 0 3 = false := inR_f (Or.inl c7)
        refine lv_iconst (v := 1) hx hb d_M_option_51 (by decide) ?_
        refine lv_goto (tgt := 69) hx hb d_M_option_52 (by decide) ?_
        refine mp_thrown (1 : Int32) hx hb ht hown hw gw_822 d_M_option_69 (fun H8 locs8 u8 hw => ?_)
        refine lv_aload_n hx hb d_M_option_72 rfl (lv_at hl 0 rfl) ?_
        refine mg 25 (by decide) hx hb ht hown hw gw_822 rfl rfl d_M_option_73 ?_
        refine lv_if_eq (tgt := 81) hx hb d_M_option_76 (by decide) (fun c9 => ?_) (fun c9 => ?_)
        · exact absurd (show (1 : Int32) = 0 from c9) (by decide)
        · refine lv_iconst (v := 0) hx hb d_M_option_79 (by decide) ?_
          exact kt_i hx hb hr hlocks hw.1 d_M_option_80 (by unfold pOption; rw [wN_t hi hR.2.2.2, wN_t hj hR.2.2.2, if_pos hkd]; exact ⟨rfl, _, rfl, hw.2.1, hw.2.2⟩) (by first | decide | (dsimp only; omega)) (by first | decide | (dsimp only; omega))
      · refine lv_iload_n hx hb d_M_option_21 rfl (lv_at hl 3 rfl) ?_
        refine lv_iconst (v := 3) hx hb d_M_option_22 (by decide) ?_
        refine lv_icmp_gt (tgt := 51) hx hb d_M_option_23 (by decide) (fun c9 => ?_) (fun c9 => ?_)
        · have hkd : inR kd 0 3 = false := inR_f (Or.inr (by first | exact c9 | exact i_nle.mp c9))
          refine lv_iconst (v := 1) hx hb d_M_option_51 (by decide) ?_
          refine lv_goto (tgt := 69) hx hb d_M_option_52 (by decide) ?_
          refine mp_thrown (1 : Int32) hx hb ht hown hw gw_822 d_M_option_69 (fun H10 locs10 u10 hw => ?_)
          refine lv_aload_n hx hb d_M_option_72 rfl (lv_at hl 0 rfl) ?_
          refine mg 25 (by decide) hx hb ht hown hw gw_822 rfl rfl d_M_option_73 ?_
          refine lv_if_eq (tgt := 81) hx hb d_M_option_76 (by decide) (fun c9 => ?_) (fun c9 => ?_)
          · exact absurd (show (1 : Int32) = 0 from c9) (by decide)
          · refine lv_iconst (v := 0) hx hb d_M_option_79 (by decide) ?_
            exact kt_i hx hb hr hlocks hw.1 d_M_option_80 (by unfold pOption; rw [wN_t hi hR.2.2.2, wN_t hj hR.2.2.2, if_pos hkd]; exact ⟨rfl, _, rfl, hw.2.1, hw.2.2⟩) (by first | decide | (dsimp only; omega)) (by first | decide | (dsimp only; omega))
        · have hkd : inR kd 0 3 = true := inR_t (by first | exact c7 | exact i_nlt.mpr c7) (by first | exact c9 | exact i_nlt.mp c9)
          refine lv_aload_n hx hb d_M_option_26 rfl (lv_at hl 0 rfl) ?_
          refine lv_dload hx hb d_M_option_27 (lv_at hl 4 rfl) ?_
          refine lv_ldc2d (v := 4681608360884174848) hx hb hown (ht _ gw_904) d_M_option_29 ?_
          refine kc_i (kr_V 2 (C := "QuoteGraphModel") (As := [.double (e8 x), .double (4681608360884174848 : UInt64)]) (rest := [.ref (lm 0)]) (c_M_far l G A u (lm 0) x 100000 4681608360884174848 (by decide +kernel) (by decide +kernel) (by decide) (by decide)) hx hb hml hown ht hw.1 gw_905 gw_907 gw_23 gw_47 gw_908 ⟨⟨by decide, by decide⟩, by decide +kernel⟩ ⟨by first | decide | (dsimp only; omega), by first | decide | (dsimp only; omega)⟩ (kr_M hw) rfl hl.1 rfl (lv_room (Nat.le_of_ble_eq_true rfl)) d_M_option_32 ⟨by first | decide | (dsimp only; omega), by first | decide | (dsimp only; omega)⟩) hw.1 (fun _ _ _ _ _ _ h => h.elim) (fun r11 u11 H11 locs11 hp11 hw11 => ?_)
          replace hp11 : _ = bI (!inE x 100000) ∧ _ := hp11
          obtain ⟨er11, hq11⟩ := hp11
          replace hq11 := hq11.symm; subst hq11
          subst er11
          have hw : Mk G A lm s m u u st H11 locs11 := ⟨hw11, hw.2⟩
          refine lv_if_ne (tgt := 51) hx hb d_M_option_35 (by decide) (fun c12 => ?_) (fun c12 => ?_)
          · have hFx : inE x 100000 = false := by have h := (bI_ne _).mp c12; rcases h2 : inE x 100000 with _ | _; rfl; rw [h2] at h; cases h
            refine lv_iconst (v := 1) hx hb d_M_option_51 (by decide) ?_
            refine lv_goto (tgt := 69) hx hb d_M_option_52 (by decide) ?_
            refine mp_thrown (1 : Int32) hx hb ht hown hw gw_822 d_M_option_69 (fun H13 locs13 u13 hw => ?_)
            refine lv_aload_n hx hb d_M_option_72 rfl (lv_at hl 0 rfl) ?_
            refine mg 25 (by decide) hx hb ht hown hw gw_822 rfl rfl d_M_option_73 ?_
            refine lv_if_eq (tgt := 81) hx hb d_M_option_76 (by decide) (fun c9 => ?_) (fun c9 => ?_)
            · exact absurd (show (1 : Int32) = 0 from c9) (by decide)
            · refine lv_iconst (v := 0) hx hb d_M_option_79 (by decide) ?_
              exact kt_i hx hb hr hlocks hw.1 d_M_option_80 (by unfold pOption; rw [wN_t hi hR.2.2.2, wN_t hj hR.2.2.2, if_neg (by rw [hkd]; decide), if_pos hFx]; exact ⟨rfl, _, rfl, hw.2.1, hw.2.2⟩) (by first | decide | (dsimp only; omega)) (by first | decide | (dsimp only; omega))
          · have hEx : inE x 100000 = true := by have h := (bI_eq _).mp c12; rcases h2 : inE x 100000 with _ | _; (rw [h2] at h; cases h); rfl
            refine lv_iload hx hb d_M_option_38 (lv_at hl 5 rfl) ?_
            refine lv_iconst (v := 1) hx hb d_M_option_40 (by decide) ?_
            refine lv_icmp_lt (tgt := 51) hx hb d_M_option_41 (by decide) (fun c14 => ?_) (fun c14 => ?_)
            · have hr2 : inR sp 1 20 = false := inR_f (Or.inl c14)
              refine lv_iconst (v := 1) hx hb d_M_option_51 (by decide) ?_
              refine lv_goto (tgt := 69) hx hb d_M_option_52 (by decide) ?_
              refine mp_thrown (1 : Int32) hx hb ht hown hw gw_822 d_M_option_69 (fun H15 locs15 u15 hw => ?_)
              refine lv_aload_n hx hb d_M_option_72 rfl (lv_at hl 0 rfl) ?_
              refine mg 25 (by decide) hx hb ht hown hw gw_822 rfl rfl d_M_option_73 ?_
              refine lv_if_eq (tgt := 81) hx hb d_M_option_76 (by decide) (fun c9 => ?_) (fun c9 => ?_)
              · exact absurd (show (1 : Int32) = 0 from c9) (by decide)
              · refine lv_iconst (v := 0) hx hb d_M_option_79 (by decide) ?_
                exact kt_i hx hb hr hlocks hw.1 d_M_option_80 (by unfold pOption; rw [wN_t hi hR.2.2.2, wN_t hj hR.2.2.2, if_neg (by rw [hkd]; decide), if_neg (by rw [hEx]; decide), if_pos hr2]; exact ⟨rfl, _, rfl, hw.2.1, hw.2.2⟩) (by first | decide | (dsimp only; omega)) (by first | decide | (dsimp only; omega))
            · refine lv_iload hx hb d_M_option_44 (lv_at hl 5 rfl) ?_
              refine lv_bipush (v := 20) hx hb d_M_option_46 (by decide) ?_
              refine lv_icmp_le (tgt := 55) hx hb d_M_option_48 (by decide) (fun c16 => ?_) (fun c16 => ?_)
              · have hr2 : inR sp 1 20 = true := inR_t (by first | exact c14 | exact i_nlt.mpr c14) (by first | exact c16 | exact i_nlt.mp c16)
                refine lv_aload_n hx hb d_M_option_55 rfl (lv_at hl 0 rfl) ?_
                refine mg 21 (by decide) hx hb ht hown hw gw_818 rfl rfl d_M_option_56 ?_
                refine lv_bipush (v := 16) hx hb d_M_option_59 (by decide) ?_
                refine lv_icmp_ne (tgt := 68) hx hb d_M_option_61 (by decide) (fun c17 => ?_) (fun c17 => ?_)
                · have hlt : q_n s < 16 := by have h16 := hR.2.2.2; have : q_n s ≠ 16 := fun h => c17 (by rw [h]; rfl); omega
                  refine lv_iconst (v := 0) hx hb d_M_option_68 (by decide) ?_
                  refine mp_thrown (0 : Int32) hx hb ht hown hw gw_822 d_M_option_69 (fun H18 locs18 u18 hw => ?_)
                  refine lv_aload_n hx hb d_M_option_72 rfl (lv_at hl 0 rfl) ?_
                  refine mg 25 (by decide) hx hb ht hown hw gw_822 rfl rfl d_M_option_73 ?_
                  refine lv_if_eq (tgt := 81) hx hb d_M_option_76 (by decide) (fun c9 => ?_) (fun c9 => ?_)
                  · refine lv_aload_n hx hb d_M_option_81 rfl (lv_at hl 0 rfl) ?_
                    refine lv_iconst (v := 3) hx hb d_M_option_82 (by decide) ?_
                    refine lv_iload_n hx hb d_M_option_83 rfl (lv_at hl 1 rfl) ?_
                    refine lv_iload_n hx hb d_M_option_84 rfl (lv_at hl 2 rfl) ?_
                    refine kc_i (kr_V 3 (C := "QuoteGraphModel") (As := [.int (3 : Int32), .int (nI i), .int (nI j)]) (rest := []) (c_M_create l G A lm s (mS_th m (0 : Int32)) u18 hw.2.1 hB hlt 3 (by decide) (some i) (some j)) hx hb hml hown ht hw.1 gw_910 gw_912 gw_24 gw_47 gw_913 ⟨⟨by decide, by decide⟩, by decide +kernel⟩ ⟨by first | decide | (dsimp only; omega), by first | decide | (dsimp only; omega)⟩ (kr_M hw) rfl hl.1 rfl (lv_room (Nat.le_of_ble_eq_true rfl)) d_M_option_85 ⟨by first | decide | (dsimp only; omega), by first | decide | (dsimp only; omega)⟩) hw.1 (fun _ _ _ _ _ _ h => h.elim) (fun r19 u19 H19 locs19 hp19 hw19 => ?_)
                    obtain ⟨er19, pt9, g1, g2⟩ := hp19; subst er19
                    have hw : Mk G A lm (addQ s 3 0 (some i) (some j) 0 0 0 0) (mS_pt (mS_th m (0 : Int32)) pt9) u u19 st H19 locs19 := ⟨hw19, g1, hw.2.2.tr g2⟩
                    refine lv_istore (lv' := [(7, .int (nI (q_n s))), (0, .ref (lm 0)), (1, .int (nI i)), (2, .int (nI j)), (3, .int kd), (4, .double (e8 x)), (6, .int sp)]) hx hb d_M_option_88 hl (by decide) rfl (fun ls hl => ?_)
                    refine lv_aload_n hx hb d_M_option_90 rfl (lv_at hl 1 rfl) ?_
                    refine mg 9 (by decide) hx hb ht hown hw gw_806 rfl rfl d_M_option_91 ?_
                    refine lv_iload hx hb d_M_option_94 (lv_at hl 0 rfl) ?_
                    refine lv_iload_n hx hb d_M_option_96 rfl (lv_at hl 4 rfl) ?_
                    refine mp_kind (j := (q_n s)) kd rfl (by omega) hx hb hw d_M_option_97 (fun H20 locs20 u20 hw => ?_)
                    rw [addQ_kd] at hw
                    refine lv_aload_n hx hb d_M_option_98 rfl (lv_at hl 1 rfl) ?_
                    refine mg 7 (by decide) hx hb ht hown hw gw_804 rfl rfl d_M_option_99 ?_
                    refine lv_iload hx hb d_M_option_102 (lv_at hl 0 rfl) ?_
                    refine lv_dload hx hb d_M_option_104 (lv_at hl 5 rfl) ?_
                    refine lv_ldc2d (v := 4652218415073722368) hx hb hown (ht _ gw_914) d_M_option_106 ?_
                    refine lv_dmul hx hb d_M_option_109 (by rw [e8_1024]; exact l2d_n _) ?_
                    rw [e8_1024]
                    refine lv_d2l hx hb d_M_option_110 ?_
                    rw [e8_dl]
                    refine mp_weightA (j := (q_n s)) (128 * x.toInt64) rfl (by omega) hx hb hw d_M_option_111 (fun H21 locs21 u21 hw => ?_)
                    rw [addQ_wa] at hw
                    refine lv_aload_n hx hb d_M_option_112 rfl (lv_at hl 1 rfl) ?_
                    refine mg 10 (by decide) hx hb ht hown hw gw_807 rfl rfl d_M_option_113 ?_
                    refine lv_iload hx hb d_M_option_116 (lv_at hl 0 rfl) ?_
                    refine lv_iload hx hb d_M_option_118 (lv_at hl 6 rfl) ?_
                    refine mp_steps (j := (q_n s)) sp rfl (by omega) hx hb hw d_M_option_120 (fun H22 locs22 u22 hw => ?_)
                    rw [addQ_sp] at hw
                    refine lv_iload hx hb d_M_option_121 (lv_at hl 0 rfl) ?_
                    exact kt_i hx hb hr hlocks hw.1 d_M_option_123 (by unfold pOption; rw [wN_t hi hR.2.2.2, wN_t hj hR.2.2.2, if_neg (by rw [hkd]; decide), if_neg (by rw [hEx]; decide), if_neg (by rw [hr2]; decide), room_t hlt]; exact ⟨rfl, _, rfl, hw.2.1, hw.2.2⟩) (by first | decide | (dsimp only; omega)) (by first | decide | (dsimp only; omega))
                  · exact absurd rfl c9
                · have hge : ¬ q_n s < 16 := by have := nI_inj9 (b := 16) c17 (by have := hR.2.2.2; omega); omega
                  refine lv_iconst (v := 2) hx hb d_M_option_64 (by decide) ?_
                  refine lv_goto (tgt := 69) hx hb d_M_option_65 (by decide) ?_
                  refine mp_thrown (2 : Int32) hx hb ht hown hw gw_822 d_M_option_69 (fun H23 locs23 u23 hw => ?_)
                  refine lv_aload_n hx hb d_M_option_72 rfl (lv_at hl 0 rfl) ?_
                  refine mg 25 (by decide) hx hb ht hown hw gw_822 rfl rfl d_M_option_73 ?_
                  refine lv_if_eq (tgt := 81) hx hb d_M_option_76 (by decide) (fun c9 => ?_) (fun c9 => ?_)
                  · exact absurd (show (2 : Int32) = 0 from c9) (by decide)
                  · refine lv_iconst (v := 0) hx hb d_M_option_79 (by decide) ?_
                    exact kt_i hx hb hr hlocks hw.1 d_M_option_80 (by unfold pOption; rw [wN_t hi hR.2.2.2, wN_t hj hR.2.2.2, if_neg (by rw [hkd]; decide), if_neg (by rw [hEx]; decide), if_neg (by rw [hr2]; decide), room_f hge]; exact ⟨rfl, _, rfl, hw.2.1, hw.2.2⟩) (by first | decide | (dsimp only; omega)) (by first | decide | (dsimp only; omega))
              · have hr2 : inR sp 1 20 = false := inR_f (Or.inr (by first | exact c16 | exact i_nle.mp c16))
                refine lv_iconst (v := 1) hx hb d_M_option_51 (by decide) ?_
                refine lv_goto (tgt := 69) hx hb d_M_option_52 (by decide) ?_
                refine mp_thrown (1 : Int32) hx hb ht hown hw gw_822 d_M_option_69 (fun H24 locs24 u24 hw => ?_)
                refine lv_aload_n hx hb d_M_option_72 rfl (lv_at hl 0 rfl) ?_
                refine mg 25 (by decide) hx hb ht hown hw gw_822 rfl rfl d_M_option_73 ?_
                refine lv_if_eq (tgt := 81) hx hb d_M_option_76 (by decide) (fun c9 => ?_) (fun c9 => ?_)
                · exact absurd (show (1 : Int32) = 0 from c9) (by decide)
                · refine lv_iconst (v := 0) hx hb d_M_option_79 (by decide) ?_
                  exact kt_i hx hb hr hlocks hw.1 d_M_option_80 (by unfold pOption; rw [wN_t hi hR.2.2.2, wN_t hj hR.2.2.2, if_neg (by rw [hkd]; decide), if_neg (by rw [hEx]; decide), if_pos hr2]; exact ⟨rfl, _, rfl, hw.2.1, hw.2.2⟩) (by first | decide | (dsimp only; omega)) (by first | decide | (dsimp only; omega))
/-- how many of the first k parts there are -/
def pcn (f : Nat → Option Nat) : Nat → Nat
  | 0 => 0
  | k + 1 => pcn f k + (if (f k).isSome then 1 else 0)
theorem pcn4 {s : QS} (h : okQ s) {j : Nat} (hj : j < q_n s) : pcn (q_pt s j) 4 = np s j := by
  obtain ⟨b1, b2, b3, b4, b5, b6⟩ := h.2 j hj
  unfold np
  show 0 + (if (q_pt s j 0).isSome then 1 else 0) + (if (q_pt s j 1).isSome then 1 else 0) + (if (q_pt s j 2).isSome then 1 else 0) + (if (q_pt s j 3).isSome then 1 else 0) = _
  by_cases h0 : q_so s j = 0
  · rw [b3 h0 0, b3 h0 1, if_pos h0]; rfl
  · obtain ⟨x, e1, -⟩ := b2 0 (by omega) h0
    obtain ⟨y, e2, -⟩ := b2 1 (by omega) h0
    rw [e1, e2, if_neg h0]; rfl
theorem pI_lt {q : Option Nat} (h : ∀ x, q = some x → x < 2 ^ 31) : pI q < 0 ↔ q = none := by
  rcases q with _ | x
  · exact ⟨fun _ => rfl, fun _ => by decide⟩
  · exact ⟨fun h2 => absurd h2 (nI_pos (h x rfl)), fun h => by cases h⟩
set_option maxHeartbeats 4000000 in
set_option maxRecDepth 100000 in
theorem c_M_node (l : Launch) (G : GT) (A : Nat → Prop) (lm : Nat → Nat) (s : QS) (m : MS) (u : WT) (hR : rM G lm s m u) (hok : okQ s) (k0 v : Int32) : Kt l y_M_node b_M_node 5 (some .int) 1 21 0 0 0 0 0 0 G A u [.ref (lm 0), .int k0, .int v] (KQ G A (Ri (fun r u' => r = (pNode s k0 v).2.1 ∧ ∃ m', m_th m' = nI (pNode s k0 v).1 ∧ rM G lm (pNode s k0 v).2.2 m' u' ∧ fM lm u u'))) (NX) := by
  refine k_of (by decide) (Nat.le_of_ble_eq_true rfl) (fun p e st mt below meth c ls hx hb hr hlocks hml htab hname hown ht hw hl => ?_)
  have hl : lv_has ls 5 [(0, .ref (lm 0)), (1, .int k0), (2, .int v)] := hl
  have hw : Mk G A lm s m u u st st.heap [] := ⟨hw, hR, fM.rf⟩
  refine lv_aload_n hx hb d_M_node_0 rfl (lv_at hl 0 rfl) ?_
  refine lv_aload_n hx hb d_M_node_1 rfl (lv_at hl 0 rfl) ?_
  refine lv_iload_n hx hb d_M_node_2 rfl (lv_at hl 1 rfl) ?_
  refine kc_i (kr_V 1 (C := "QuoteGraphModel") (As := [.int k0]) (rest := [.ref (lm 0)]) (c_M_no l G A lm s m u hR k0) hx hb hml hown ht hw.1 gw_919 gw_921 gw_25 gw_47 gw_922 ⟨⟨by decide, by decide⟩, by decide +kernel⟩ ⟨by first | decide | (dsimp only; omega), by first | decide | (dsimp only; omega)⟩ (kr_M hw) rfl hl.1 rfl (lv_room (Nat.le_of_ble_eq_true rfl)) d_M_node_3 ⟨by first | decide | (dsimp only; omega), by first | decide | (dsimp only; omega)⟩) hw.1 (fun _ _ _ _ _ _ h => h.elim) (fun r1 u1 H1 locs1 hp1 hw1 => ?_)
  obtain ⟨er1, hq1⟩ := hp1
  replace hq1 := hq1.symm; subst hq1
  subst er1
  have hw : Mk G A lm s m u u st H1 locs1 := ⟨hw1, hw.2⟩
  refine lv_if_ne (tgt := 18) hx hb d_M_node_6 (by decide) (fun c2 => ?_) (fun c2 => ?_)
  · have hN : isN (q_n s) k0 = false := by have h := (bI_ne _).mp c2; rcases h2 : isN (q_n s) k0 with _ | _; rfl; rw [h2] at h; cases h
    refine lv_iconst (v := 1) hx hb d_M_node_18 (by decide) ?_
    refine lv_goto (tgt := 23) hx hb d_M_node_19 (by decide) ?_
    refine mp_thrown (1 : Int32) hx hb ht hown hw gw_822 d_M_node_23 (fun H3 locs3 u3 hw => ?_)
    refine lv_aload_n hx hb d_M_node_26 rfl (lv_at hl 0 rfl) ?_
    refine mg 25 (by decide) hx hb ht hown hw gw_822 rfl rfl d_M_node_27 ?_
    refine lv_if_eq (tgt := 35) hx hb d_M_node_30 (by decide) (fun c9 => ?_) (fun c9 => ?_)
    · exact absurd (show (1 : Int32) = 0 from c9) (by decide)
    · refine lv_iconst (v := 0) hx hb d_M_node_33 (by decide) ?_
      exact kt_i hx hb hr hlocks hw.1 d_M_node_34 (by unfold pNode; rw [wN_f hN]; exact ⟨rfl, _, rfl, hw.2.1, hw.2.2⟩) (by first | decide | (dsimp only; omega)) (by first | decide | (dsimp only; omega))
  · have hNj : isN (q_n s) k0 = true := by have h := (bI_eq _).mp c2; rcases h2 : isN (q_n s) k0 with _ | _; (rw [h2] at h; cases h); rfl
    obtain ⟨j, hj, rfl⟩ := isN_t hNj hR.2.2.2
    refine lv_iload_n hx hb d_M_node_9 rfl (lv_at hl 2 rfl) ?_
    refine lv_if_lt (tgt := 18) hx hb d_M_node_10 (by decide) (fun c4 => ?_) (fun c4 => ?_)
    · have hv : v.toInt < 0 := by rw [Int32.lt_iff_toInt_lt] at c4; exact c4
      refine lv_iconst (v := 1) hx hb d_M_node_18 (by decide) ?_
      refine lv_goto (tgt := 23) hx hb d_M_node_19 (by decide) ?_
      refine mp_thrown (1 : Int32) hx hb ht hown hw gw_822 d_M_node_23 (fun H5 locs5 u5 hw => ?_)
      refine lv_aload_n hx hb d_M_node_26 rfl (lv_at hl 0 rfl) ?_
      refine mg 25 (by decide) hx hb ht hown hw gw_822 rfl rfl d_M_node_27 ?_
      refine lv_if_eq (tgt := 35) hx hb d_M_node_30 (by decide) (fun c9 => ?_) (fun c9 => ?_)
      · exact absurd (show (1 : Int32) = 0 from c9) (by decide)
      · refine lv_iconst (v := 0) hx hb d_M_node_33 (by decide) ?_
        exact kt_i hx hb hr hlocks hw.1 d_M_node_34 (by unfold pNode; rw [wN_t hj hR.2.2.2, if_neg (fun h => by rw [h] at hv; exact absurd hv (by decide)), if_neg (fun h => by rw [h] at hv; exact absurd hv (by decide)), if_neg (fun h => by rw [h] at hv; exact absurd hv (by decide)), if_neg (fun h => by rw [h] at hv; exact absurd hv (by decide)), if_neg (fun h => by rw [h] at hv; exact absurd hv (by decide)), if_neg (fun h => by rw [h] at hv; exact absurd hv (by decide))]; exact ⟨rfl, _, rfl, hw.2.1, hw.2.2⟩) (by first | decide | (dsimp only; omega)) (by first | decide | (dsimp only; omega))
    · refine lv_iload_n hx hb d_M_node_13 rfl (lv_at hl 2 rfl) ?_
      refine lv_iconst (v := 5) hx hb d_M_node_14 (by decide) ?_
      refine lv_icmp_le (tgt := 22) hx hb d_M_node_15 (by decide) (fun c6 => ?_) (fun c6 => ?_)
      · have hv0 : 0 ≤ v.toInt := by have h := (by first | exact c4 | exact i_nlt.mpr c4 : ¬ v < 0); rw [Int32.lt_iff_toInt_lt] at h; have h : ¬ v.toInt < 0 := h; omega
        have hv5 : v.toInt ≤ 5 := by have h := (by first | exact c6 | exact i_nlt.mp c6 : v ≤ 5); rw [Int32.le_iff_toInt_le] at h; exact h
        refine lv_iconst (v := 0) hx hb d_M_node_22 (by decide) ?_
        refine mp_thrown (0 : Int32) hx hb ht hown hw gw_822 d_M_node_23 (fun H7 locs7 u7 hw => ?_)
        refine lv_aload_n hx hb d_M_node_26 rfl (lv_at hl 0 rfl) ?_
        refine mg 25 (by decide) hx hb ht hown hw gw_822 rfl rfl d_M_node_27 ?_
        refine lv_if_eq (tgt := 35) hx hb d_M_node_30 (by decide) (fun c9 => ?_) (fun c9 => ?_)
        · refine lv_iload_n hx hb d_M_node_35 rfl (lv_at hl 2 rfl) ?_
          refine lv_if_ne (tgt := 46) hx hb d_M_node_36 (by decide) (fun c8 => ?_) (fun c8 => ?_)
          · refine lv_iload_n hx hb d_M_node_46 rfl (lv_at hl 2 rfl) ?_
            refine lv_iconst (v := 1) hx hb d_M_node_47 (by decide) ?_
            refine lv_icmp_ne (tgt := 66) hx hb d_M_node_48 (by decide) (fun c9 => ?_) (fun c9 => ?_)
            · refine lv_iload_n hx hb d_M_node_66 rfl (lv_at hl 2 rfl) ?_
              refine lv_iconst (v := 2) hx hb d_M_node_67 (by decide) ?_
              refine lv_icmp_ne (tgt := 86) hx hb d_M_node_68 (by decide) (fun c10 => ?_) (fun c10 => ?_)
              · refine lv_iload_n hx hb d_M_node_86 rfl (lv_at hl 2 rfl) ?_
                refine lv_iconst (v := 3) hx hb d_M_node_87 (by decide) ?_
                refine lv_icmp_ne (tgt := 106) hx hb d_M_node_88 (by decide) (fun c11 => ?_) (fun c11 => ?_)
                · refine lv_iload_n hx hb d_M_node_106 rfl (lv_at hl 2 rfl) ?_
                  refine lv_iconst (v := 5) hx hb d_M_node_107 (by decide) ?_
                  refine lv_icmp_ne (tgt := 118) hx hb d_M_node_108 (by decide) (fun c12 => ?_) (fun c12 => ?_)
                  · have h4 : v = 4 := Int32.toInt_inj.mp (by have d0 : v.toInt ≠ 0 := fun h => c8 (Int32.toInt_inj.mp h); have d1 : v.toInt ≠ 1 := fun h => c9 (Int32.toInt_inj.mp h); have d2 : v.toInt ≠ 2 := fun h => c10 (Int32.toInt_inj.mp h); have d3 : v.toInt ≠ 3 := fun h => c11 (Int32.toInt_inj.mp h); have d5 : v.toInt ≠ 5 := fun h => c12 (Int32.toInt_inj.mp h); show v.toInt = 4; omega)
                    refine lv_iconst (v := 0) hx hb d_M_node_118 (by decide) ?_
                    refine lv_istore_n (lv' := [(3, .int (0 : Int32)), (0, .ref (lm 0)), (1, .int (nI j)), (2, .int v)]) hx hb d_M_node_119 rfl hl (by decide) rfl (fun ls hl => ?_)
                    refine lv_iconst (v := 0) hx hb d_M_node_120 (by decide) ?_
                    refine lv_istore (lv' := [(4, .int (0 : Int32)), (3, .int (0 : Int32)), (0, .ref (lm 0)), (1, .int (nI j)), (2, .int v)]) hx hb d_M_node_121 hl (by decide) rfl (fun ls hl => ?_)
                    refine k_cnt (4) (fun k ls => lv_has ls 5 [(0, .ref (lm 0)), (1, .int (nI j)), (2, .int v), (3, .int (nI (pcn (q_pt s j) k))), (4, .int (nI k))]) (k0 := 0) (Nat.zero_le _) (lv_sub hl [2, 3, 4, 1, 0] rfl) (fun ls hl => ?_) (fun k ls hk hl ih => ?_)
                    · refine lv_iload hx hb d_M_node_123 (lv_at hl 4 rfl) ?_
                      refine lv_iconst (v := 4) hx hb d_M_node_125 (by decide) ?_
                      refine lv_icmp_ge (tgt := 152) hx hb d_M_node_126 (by decide) (fun c1 => ?_) (fun c1 => ?_)
                      · refine lv_iload_n hx hb d_M_node_152 rfl (lv_at hl 3 rfl) ?_
                        exact kt_i hx hb hr hlocks hw.1 d_M_node_153 (by unfold pNode; rw [wN_t hj hR.2.2.2, if_neg c8, if_neg c9, if_neg c10, if_neg c11, if_pos h4]; exact ⟨by rw [pcn4 hok hj], _, rfl, hw.2.1, hw.2.2⟩) (by first | decide | (dsimp only; omega)) (by first | decide | (dsimp only; omega))
                      · exact absurd (nI_le (Nat.le_refl 4) (by omega)) c1
                    · refine lv_iload hx hb d_M_node_123 (lv_at hl 4 rfl) ?_
                      refine lv_iconst (v := 4) hx hb d_M_node_125 (by decide) ?_
                      refine lv_icmp_ge (tgt := 152) hx hb d_M_node_126 (by decide) (fun c1 => ?_) (fun c1 => ?_)
                      · exact absurd c1 (show ¬ ((4 : Int32) ≤ nI k) from nI_ge (show k < 4 from hk) (by decide))
                      · refine lv_aload_n hx hb d_M_node_129 rfl (lv_at hl 0 rfl) ?_
                        refine mg 1 (by decide) hx hb ht hown hw gw_798 rfl rfl d_M_node_130 ?_
                        refine lv_iload_n hx hb d_M_node_133 rfl (lv_at hl 1 rfl) ?_
                        refine lv_iconst (v := 4) hx hb d_M_node_134 (by decide) ?_
                        refine lv_imul hx hb d_M_node_135 ?_
                        refine lv_iload hx hb d_M_node_136 (lv_at hl 4 rfl) ?_
                        refine lv_iadd hx hb d_M_node_138 ?_
                        refine ma_part (j := (4 * j + k)) (mul4 _ k) (by have h16 := hR.2.2.2; omega) hx hb hw d_M_node_139 ?_
                        rw [show m_pt (mS_th m (0 : Int32)) (4 * j + k) = pI (q_pt s j k) from hR.2.2.1 j k hj hk]
                        have hlt9 := pI_lt (q := q_pt s j k) (fun x hx => by have := (hok.2 j hj).2.2.2.2.1 k x hx; have := hR.2.2.2; omega)
                        refine lv_if_lt (tgt := 146) hx hb d_M_node_140 (by decide) (fun c13 => ?_) (fun c13 => ?_)
                        · have e8 : pcn (q_pt s j) (k + 1) = pcn (q_pt s j) k := by show _ + _ = _; rw [hlt9.mp c13]; rfl
                          obtain ⟨i14, ei14⟩ : ∃ y : Int32, y = (nI k) + 1 := ⟨_, rfl⟩
                          refine lv_iinc (v := i14) (lv' := [(4, .int i14), (0, .ref (lm 0)), (1, .int (nI j)), (2, .int v), (3, .int (nI (pcn (q_pt s j) k)))]) hx hb d_M_node_146 hl (k := 4) rfl (by rw [ei14]; rfl) (by decide) rfl (fun ls hl => ?_)
                          rw [nI_1] at ei14; subst ei14
                          refine lv_goto (tgt := 123) hx hb d_M_node_149 (by decide) ?_
                          rw [← e8] at hl
                          exact ih ls (lv_sub hl [1, 2, 3, 4, 0] rfl)
                        · have e8 : pcn (q_pt s j) (k + 1) = pcn (q_pt s j) k + 1 := by show _ + _ = _; rcases h2 : q_pt s j k with _ | x; (exact absurd (hlt9.mpr h2) (by first | exact c13 | exact i_nlt.mpr c13)); rfl
                          obtain ⟨i15, ei15⟩ : ∃ y : Int32, y = (nI (pcn (q_pt s j) k)) + 1 := ⟨_, rfl⟩
                          refine lv_iinc (v := i15) (lv' := [(3, .int i15), (0, .ref (lm 0)), (1, .int (nI j)), (2, .int v), (4, .int (nI k))]) hx hb d_M_node_143 hl (k := 3) rfl (by rw [ei15]; rfl) (by decide) rfl (fun ls hl => ?_)
                          rw [nI_1, ← e8] at ei15; subst ei15
                          obtain ⟨i16, ei16⟩ : ∃ y : Int32, y = (nI k) + 1 := ⟨_, rfl⟩
                          refine lv_iinc (v := i16) (lv' := [(4, .int i16), (3, .int (nI (pcn (q_pt s j) (k + 1)))), (0, .ref (lm 0)), (1, .int (nI j)), (2, .int v)]) hx hb d_M_node_146 hl (k := 4) rfl (by rw [ei16]; rfl) (by decide) rfl (fun ls hl => ?_)
                          rw [nI_1] at ei16; subst ei16
                          refine lv_goto (tgt := 123) hx hb d_M_node_149 (by decide) ?_
                          exact ih ls (lv_sub hl [2, 3, 4, 1, 0] rfl)
                  · have h4 : v ≠ 4 := fun h => by rw [c12] at h; exact absurd h (by decide)
                    refine lv_aload_n hx hb d_M_node_111 rfl (lv_at hl 0 rfl) ?_
                    refine mg 6 (by decide) hx hb ht hown hw gw_803 rfl rfl d_M_node_112 ?_
                    refine lv_iload_n hx hb d_M_node_115 rfl (lv_at hl 1 rfl) ?_
                    refine ma_worked (j := j) rfl (by have h16 := hR.2.2.2; omega) hx hb hw d_M_node_116 ?_
                    exact kt_i hx hb hr hlocks hw.1 d_M_node_117 (by unfold pNode; rw [wN_t hj hR.2.2.2, if_neg c8, if_neg c9, if_neg c10, if_neg c11, if_neg h4, if_pos c12]; exact ⟨rfl, _, rfl, hw.2.1, hw.2.2⟩) (by first | decide | (dsimp only; omega)) (by first | decide | (dsimp only; omega))
                · refine lv_aload_n hx hb d_M_node_91 rfl (lv_at hl 0 rfl) ?_
                  refine mg 5 (by decide) hx hb ht hown hw gw_802 rfl rfl d_M_node_92 ?_
                  refine lv_iload_n hx hb d_M_node_95 rfl (lv_at hl 1 rfl) ?_
                  refine ma_missed (j := j) rfl (by have h16 := hR.2.2.2; omega) hx hb hw d_M_node_96 ?_
                  refine lv_if_eq (tgt := 104) hx hb d_M_node_97 (by decide) (fun c17 => ?_) (fun c17 => ?_)
                  · refine lv_iconst (v := 0) hx hb d_M_node_104 (by decide) ?_
                    exact kt_i hx hb hr hlocks hw.1 d_M_node_105 (by unfold pNode; rw [wN_t hj hR.2.2.2, if_neg c8, if_neg c9, if_neg c10, if_pos c11]; exact ⟨by rw [(bI_eq _).mp c17]; rfl, _, rfl, hw.2.1, hw.2.2⟩) (by first | decide | (dsimp only; omega)) (by first | decide | (dsimp only; omega))
                  · refine lv_iconst (v := 1) hx hb d_M_node_100 (by decide) ?_
                    refine lv_goto (tgt := 105) hx hb d_M_node_101 (by decide) ?_
                    exact kt_i hx hb hr hlocks hw.1 d_M_node_105 (by unfold pNode; rw [wN_t hj hR.2.2.2, if_neg c8, if_neg c9, if_neg c10, if_pos c11]; exact ⟨by rw [(bI_ne _).mp c17]; rfl, _, rfl, hw.2.1, hw.2.2⟩) (by first | decide | (dsimp only; omega)) (by first | decide | (dsimp only; omega))
              · refine lv_aload_n hx hb d_M_node_71 rfl (lv_at hl 0 rfl) ?_
                refine mg 4 (by decide) hx hb ht hown hw gw_801 rfl rfl d_M_node_72 ?_
                refine lv_iload_n hx hb d_M_node_75 rfl (lv_at hl 1 rfl) ?_
                refine ma_frozen (j := j) rfl (by have h16 := hR.2.2.2; omega) hx hb hw d_M_node_76 ?_
                refine lv_if_eq (tgt := 84) hx hb d_M_node_77 (by decide) (fun c18 => ?_) (fun c18 => ?_)
                · refine lv_iconst (v := 0) hx hb d_M_node_84 (by decide) ?_
                  exact kt_i hx hb hr hlocks hw.1 d_M_node_85 (by unfold pNode; rw [wN_t hj hR.2.2.2, if_neg c8, if_neg c9, if_pos c10]; exact ⟨by rw [(bI_eq _).mp c18]; rfl, _, rfl, hw.2.1, hw.2.2⟩) (by first | decide | (dsimp only; omega)) (by first | decide | (dsimp only; omega))
                · refine lv_iconst (v := 1) hx hb d_M_node_80 (by decide) ?_
                  refine lv_goto (tgt := 85) hx hb d_M_node_81 (by decide) ?_
                  exact kt_i hx hb hr hlocks hw.1 d_M_node_85 (by unfold pNode; rw [wN_t hj hR.2.2.2, if_neg c8, if_neg c9, if_pos c10]; exact ⟨by rw [(bI_ne _).mp c18]; rfl, _, rfl, hw.2.1, hw.2.2⟩) (by first | decide | (dsimp only; omega)) (by first | decide | (dsimp only; omega))
            · refine lv_aload_n hx hb d_M_node_51 rfl (lv_at hl 0 rfl) ?_
              refine mg 3 (by decide) hx hb ht hown hw gw_800 rfl rfl d_M_node_52 ?_
              refine lv_iload_n hx hb d_M_node_55 rfl (lv_at hl 1 rfl) ?_
              refine ma_valid (j := j) rfl (by have h16 := hR.2.2.2; omega) hx hb hw d_M_node_56 ?_
              refine lv_if_eq (tgt := 64) hx hb d_M_node_57 (by decide) (fun c19 => ?_) (fun c19 => ?_)
              · refine lv_iconst (v := 0) hx hb d_M_node_64 (by decide) ?_
                exact kt_i hx hb hr hlocks hw.1 d_M_node_65 (by unfold pNode; rw [wN_t hj hR.2.2.2, if_neg c8, if_pos c9]; exact ⟨by rw [(bI_eq _).mp c19]; rfl, _, rfl, hw.2.1, hw.2.2⟩) (by first | decide | (dsimp only; omega)) (by first | decide | (dsimp only; omega))
              · refine lv_iconst (v := 1) hx hb d_M_node_60 (by decide) ?_
                refine lv_goto (tgt := 65) hx hb d_M_node_61 (by decide) ?_
                exact kt_i hx hb hr hlocks hw.1 d_M_node_65 (by unfold pNode; rw [wN_t hj hR.2.2.2, if_neg c8, if_pos c9]; exact ⟨by rw [(bI_ne _).mp c19]; rfl, _, rfl, hw.2.1, hw.2.2⟩) (by first | decide | (dsimp only; omega)) (by first | decide | (dsimp only; omega))
          · refine lv_aload_n hx hb d_M_node_39 rfl (lv_at hl 0 rfl) ?_
            refine mg 0 (by decide) hx hb ht hown hw gw_797 rfl rfl d_M_node_40 ?_
            refine lv_iload_n hx hb d_M_node_43 rfl (lv_at hl 1 rfl) ?_
            refine ma_sort (j := j) rfl (by have h16 := hR.2.2.2; omega) hx hb hw d_M_node_44 ?_
            exact kt_i hx hb hr hlocks hw.1 d_M_node_45 (by unfold pNode; rw [wN_t hj hR.2.2.2, if_pos c8]; exact ⟨rfl, _, rfl, hw.2.1, hw.2.2⟩) (by first | decide | (dsimp only; omega)) (by first | decide | (dsimp only; omega))
        · exact absurd rfl c9
      · have hv : 5 < v.toInt := by have h := (by first | exact c6 | exact i_nle.mp c6 : (5 : Int32) < v); rw [Int32.lt_iff_toInt_lt] at h; exact h
        refine lv_iconst (v := 1) hx hb d_M_node_18 (by decide) ?_
        refine lv_goto (tgt := 23) hx hb d_M_node_19 (by decide) ?_
        refine mp_thrown (1 : Int32) hx hb ht hown hw gw_822 d_M_node_23 (fun H20 locs20 u20 hw => ?_)
        refine lv_aload_n hx hb d_M_node_26 rfl (lv_at hl 0 rfl) ?_
        refine mg 25 (by decide) hx hb ht hown hw gw_822 rfl rfl d_M_node_27 ?_
        refine lv_if_eq (tgt := 35) hx hb d_M_node_30 (by decide) (fun c9 => ?_) (fun c9 => ?_)
        · exact absurd (show (1 : Int32) = 0 from c9) (by decide)
        · refine lv_iconst (v := 0) hx hb d_M_node_33 (by decide) ?_
          exact kt_i hx hb hr hlocks hw.1 d_M_node_34 (by unfold pNode; rw [wN_t hj hR.2.2.2, if_neg (fun h => by rw [h] at hv; exact absurd hv (by decide)), if_neg (fun h => by rw [h] at hv; exact absurd hv (by decide)), if_neg (fun h => by rw [h] at hv; exact absurd hv (by decide)), if_neg (fun h => by rw [h] at hv; exact absurd hv (by decide)), if_neg (fun h => by rw [h] at hv; exact absurd hv (by decide)), if_neg (fun h => by rw [h] at hv; exact absurd hv (by decide))]; exact ⟨rfl, _, rfl, hw.2.1, hw.2.2⟩) (by first | decide | (dsimp only; omega)) (by first | decide | (dsimp only; omega))

/-! 40.mmake: contracts of what makes nodes in the reference -/
theorem va_up_same {α : Type} {f : Nat → α} {k : Nat} {v : α} (h : f k = v) : va_up f k v = f := by
  funext j; by_cases hj : j = k
  · subst hj; rw [va_up_self, h]
  · rw [va_up_ne _ _ hj]
theorem va_up_up {α : Type} {f : Nat → α} {k : Nat} {v w : α} : va_up (va_up f k v) k w = va_up f k w := by
  funext j; by_cases hj : j = k
  · subst hj; rw [va_up_self, va_up_self]
  · rw [va_up_ne _ _ hj, va_up_ne _ _ hj, va_up_ne _ _ hj]
/-- nothing lies beyond the nodes -/
def blk (s : QS) : Prop := ∀ j, q_n s ≤ j → q_am s j = 0 ∧ q_fr s j = false ∧ q_mi s j = false ∧ q_tw s j = 0 ∧ q_wa s j = 0 ∧ q_wb s j = 0 ∧ q_kd s j = 0 ∧ q_sp s j = 0 ∧ q_us s j = false ∧ q_en s j = 0 ∧ q_sz s j = 0
def ptn (pa pb : Option Nat) : Nat → Option Nat := fun k => if k = 0 then pa else if k = 1 then pb else none
theorem addQ_blk {s : QS} (h : blk s) {t : Nat} {pa pb : Option Nat} : qS_n (qS_ch (qS_va (qS_pt (qS_so s (va_up (q_so s) (q_n s) t)) (va_up (q_pt s) (q_n s) (ptn pa pb))) (va_up (q_va s) (q_n s) (decide (t = 0)))) (va_up (q_ch s) (q_n s) 8)) (q_n s + 1) = addQ s t 0 pa pb 0 0 0 0 := by
  obtain ⟨h1, h2, h3, h4, h5, h6, h7, h8, h9, h10, h11⟩ := h (q_n s) (Nat.le_refl _)
  unfold addQ
  rw [va_up_same h1, va_up_same h2, va_up_same h3, va_up_same h4, va_up_same h5, va_up_same h6, va_up_same h7, va_up_same h8, va_up_same h9, va_up_same h10, va_up_same h11]
  rfl
theorem addQ_am {s : QS} {t : Nat} {pa pb : Option Nat} {x y wa wb : Int64} {kd sp : Int32} : qS_am (addQ s t y pa pb wa wb kd sp) (va_up (q_am (addQ s t y pa pb wa wb kd sp)) (q_n s) x) = addQ s t x pa pb wa wb kd sp := by
  show (_, _, va_up (va_up (q_am s) (q_n s) y) (q_n s) x, _) = _
  rw [va_up_up]; rfl
theorem addQ_wa {s : QS} {t : Nat} {pa pb : Option Nat} {x y wa wb : Int64} {kd sp : Int32} : qS_wa (addQ s t y pa pb wa wb kd sp) (va_up (q_wa (addQ s t y pa pb wa wb kd sp)) (q_n s) x) = addQ s t y pa pb x wb kd sp := by
  show (_, _, _, _, _, _, _, _, va_up (va_up (q_wa s) (q_n s) wa) (q_n s) x, _) = _
  rw [va_up_up]; rfl
theorem addQ_wb {s : QS} {t : Nat} {pa pb : Option Nat} {x y wa wb : Int64} {kd sp : Int32} : qS_wb (addQ s t y pa pb wa wb kd sp) (va_up (q_wb (addQ s t y pa pb wa wb kd sp)) (q_n s) x) = addQ s t y pa pb wa x kd sp := by
  show (_, _, _, _, _, _, _, _, _, va_up (va_up (q_wb s) (q_n s) wb) (q_n s) x, _) = _
  rw [va_up_up]; rfl
theorem addQ_kd {s : QS} {t : Nat} {pa pb : Option Nat} {y wa wb : Int64} {x kd sp : Int32} : qS_kd (addQ s t y pa pb wa wb kd sp) (va_up (q_kd (addQ s t y pa pb wa wb kd sp)) (q_n s) x) = addQ s t y pa pb wa wb x sp := by
  show (_, _, _, _, _, _, _, _, _, _, va_up (va_up (q_kd s) (q_n s) kd) (q_n s) x, _) = _
  rw [va_up_up]; rfl
theorem addQ_sp {s : QS} {t : Nat} {pa pb : Option Nat} {y wa wb : Int64} {x kd sp : Int32} : qS_sp (addQ s t y pa pb wa wb kd sp) (va_up (q_sp (addQ s t y pa pb wa wb kd sp)) (q_n s) x) = addQ s t y pa pb wa wb kd x := by
  show (_, _, _, _, _, _, _, _, _, _, _, va_up (va_up (q_sp s) (q_n s) sp) (q_n s) x, _) = _
  rw [va_up_up]; rfl
/-- the row of parts with the first k of node n's cleared -/
def pcl (f : Nat → Int32) (n : Nat) : Nat → (Nat → Int32)
  | 0 => f
  | k + 1 => va_up (pcl f n k) (4 * n + k) (-1)
theorem pcl_o {f : Nat → Int32} {n i : Nat} (h : i < 4 * n) : ∀ k, pcl f n k i = f i
  | 0 => rfl
  | k + 1 => by show va_up _ _ _ i = _; rw [va_up_ne _ _ (by omega)]; exact pcl_o h k
theorem pcl_n {f : Nat → Int32} {n : Nat} : ∀ k i, i < k → pcl f n k (4 * n + i) = -1
  | 0, _, h => absurd h (by omega)
  | k + 1, i, h => by
    show va_up _ _ _ _ = _
    by_cases hi : i = k
    · subst hi; rw [va_up_self]
    · rw [va_up_ne _ _ (by omega)]; exact pcl_n k i (by omega)
theorem mul4 (a k : Nat) : nI a * 4 + nI k = nI (4 * a + k) := by
  rw [show (4 : Int32) = nI 4 from rfl, pk_mul, nI_add, Nat.mul_comm]
theorem mul40 (a : Nat) : nI a * 4 = nI (4 * a) := by
  rw [show (4 : Int32) = nI 4 from rfl, pk_mul, Nat.mul_comm]
set_option maxHeartbeats 4000000 in
set_option maxRecDepth 100000 in
theorem c_M_create (l : Launch) (G : GT) (A : Nat → Prop) (lm : Nat → Nat) (s : QS) (m : MS) (u : WT) (hR : rM G lm s m u) (hB : blk s) (hn : q_n s < 16) (t : Nat) (ht4 : t < 4) (pa pb : Option Nat) : Kt l y_M_create b_M_create 5 (some .int) 0 0 0 0 0 0 0 0 G A u [.ref (lm 0), .int (nI t), .int (pI pa), .int (pI pb)] (KQ G A (Ri (fun r u' => r = nI (q_n s) ∧ ∃ pt', rM G lm (addQ s t 0 pa pb 0 0 0 0) (mS_pt m pt') u' ∧ fM lm u u'))) (NX) := by
  refine k_of (by decide) (Nat.le_of_ble_eq_true rfl) (fun p e st mt below meth c ls hx hb hr hlocks hml htab hname hown ht hw hl => ?_)
  have hl : lv_has ls 5 [(0, .ref (lm 0)), (1, .int (nI t)), (2, .int (pI pa)), (3, .int (pI pb))] := hl
  have hw : Mk G A lm s m u u st st.heap [] := ⟨hw, hR, fM.rf⟩
  have h16 : q_n s ≤ 16 := hR.2.2.2
  refine lv_aload_n hx hb d_M_create_0 rfl (lv_at hl 0 rfl) ?_
  refine mg 0 (by decide) hx hb ht hown hw gw_797 rfl rfl d_M_create_1 ?_
  refine lv_aload_n hx hb d_M_create_4 rfl (lv_at hl 0 rfl) ?_
  refine mg 21 (by decide) hx hb ht hown hw gw_818 rfl rfl d_M_create_5 ?_
  refine lv_iload_n hx hb d_M_create_8 rfl (lv_at hl 1 rfl) ?_
  refine mp_sort (j := (q_n s)) t rfl (by omega) hx hb hw d_M_create_9 (fun H1 locs1 u1 hw => ?_)
  refine lv_iconst (v := 0) hx hb d_M_create_10 (by decide) ?_
  refine lv_istore (lv' := [(4, .int (0 : Int32)), (0, .ref (lm 0)), (1, .int (nI t)), (2, .int (pI pa)), (3, .int (pI pb))]) hx hb d_M_create_11 hl (by decide) rfl (fun ls hl => ?_)
  refine k_cntH (4) (fun k ls H locs => lv_has ls 5 [(0, .ref (lm 0)), (1, .int (nI t)), (2, .int (pI pa)), (3, .int (pI pb)), (4, .int (nI k))] ∧ ∃ u9, Mk G A lm (qS_so s (va_up (q_so s) (q_n s) t)) (mS_pt m (pcl (m_pt m) (q_n s) k)) u u9 st H locs) (k0 := 0) (Nat.zero_le _) (⟨lv_sub hl [1, 2, 3, 4, 0] rfl, u1, hw⟩) (fun ls H locs hJ => ?_) (fun k ls H locs hk hJ ih => ?_)
  · obtain ⟨hl, hw⟩ := hJ
    obtain ⟨u9, hw⟩ := hw
    refine lv_iload hx hb d_M_create_13 (lv_at hl 4 rfl) ?_
    refine lv_iconst (v := 4) hx hb d_M_create_15 (by decide) ?_
    refine lv_icmp_ge (tgt := 40) hx hb d_M_create_16 (by decide) (fun c1 => ?_) (fun c1 => ?_)
    · refine lv_aload_n hx hb d_M_create_40 rfl (lv_at hl 0 rfl) ?_
      refine mg 1 (by decide) hx hb ht hown hw gw_798 rfl rfl d_M_create_41 ?_
      refine lv_aload_n hx hb d_M_create_44 rfl (lv_at hl 0 rfl) ?_
      refine mg 21 (by decide) hx hb ht hown hw gw_818 rfl rfl d_M_create_45 ?_
      refine lv_iconst (v := 4) hx hb d_M_create_48 (by decide) ?_
      refine lv_imul hx hb d_M_create_49 ?_
      refine lv_iload_n hx hb d_M_create_50 rfl (lv_at hl 2 rfl) ?_
      refine mp_part (j := (4 * q_n s)) (pI pa) (s' := (qS_so s (va_up (q_so s) (q_n s) t))) rfl (fun i k h1 h2 => by rw [va_up_ne _ _ (by have h : i < q_n s := h1; omega)]; exact hw.2.1.2.2.1 i k h1 h2) (mul40 _) (by omega) hx hb hw d_M_create_51 (fun H2 locs2 u2 hw => ?_)
      refine lv_aload_n hx hb d_M_create_52 rfl (lv_at hl 0 rfl) ?_
      refine mg 1 (by decide) hx hb ht hown hw gw_798 rfl rfl d_M_create_53 ?_
      refine lv_aload_n hx hb d_M_create_56 rfl (lv_at hl 0 rfl) ?_
      refine mg 21 (by decide) hx hb ht hown hw gw_818 rfl rfl d_M_create_57 ?_
      refine lv_iconst (v := 4) hx hb d_M_create_60 (by decide) ?_
      refine lv_imul hx hb d_M_create_61 ?_
      refine lv_iconst (v := 1) hx hb d_M_create_62 (by decide) ?_
      refine lv_iadd hx hb d_M_create_63 ?_
      refine lv_iload_n hx hb d_M_create_64 rfl (lv_at hl 3 rfl) ?_
      refine mp_part (j := (4 * q_n s + 1)) (pI pb) (s' := (qS_pt (qS_so s (va_up (q_so s) (q_n s) t)) (va_up (q_pt s) (q_n s) (ptn pa pb)))) rfl (fun i k h1 h2 => by have h : i < q_n s := h1; show _ = pI (va_up (q_pt s) (q_n s) (ptn pa pb) i k); rw [va_up_ne _ _ (by omega), va_up_ne _ _ (by omega)]; exact hw.2.1.2.2.1 i k h1 h2) (mul4 _ 1) (by omega) hx hb hw d_M_create_65 (fun H3 locs3 u3 hw => ?_)
      refine lv_aload_n hx hb d_M_create_66 rfl (lv_at hl 0 rfl) ?_
      refine mg 3 (by decide) hx hb ht hown hw gw_800 rfl rfl d_M_create_67 ?_
      refine lv_aload_n hx hb d_M_create_70 rfl (lv_at hl 0 rfl) ?_
      refine mg 21 (by decide) hx hb ht hown hw gw_818 rfl rfl d_M_create_71 ?_
      refine lv_iload_n hx hb d_M_create_74 rfl (lv_at hl 1 rfl) ?_
      refine lv_if_ne (tgt := 82) hx hb d_M_create_75 (by decide) (fun c4 => ?_) (fun c4 => ?_)
      · have hb9 : decide (t = 0) = false := decide_eq_false (fun h => c4 (by rw [h]; rfl))
        refine lv_iconst (v := 0) hx hb d_M_create_82 (by decide) ?_
        refine mp_valid (j := (q_n s)) false rfl (by show q_n s < 16; omega) hx hb hw d_M_create_83 (fun H5 locs5 u5 hw => ?_)
        refine lv_aload_n hx hb d_M_create_84 rfl (lv_at hl 0 rfl) ?_
        refine mg 11 (by decide) hx hb ht hown hw gw_808 rfl rfl d_M_create_85 ?_
        refine lv_aload_n hx hb d_M_create_88 rfl (lv_at hl 0 rfl) ?_
        refine mg 21 (by decide) hx hb ht hown hw gw_818 rfl rfl d_M_create_89 ?_
        refine lv_bipush (v := 8) hx hb d_M_create_92 (by decide) ?_
        refine mp_chance (j := (q_n s)) (8 : Int32) rfl (by show q_n s < 16; omega) hx hb hw d_M_create_94 (fun H6 locs6 u6 hw => ?_)
        refine lv_aload_n hx hb d_M_create_95 rfl (lv_at hl 0 rfl) ?_
        refine lv_dup hx hb d_M_create_96 rfl ?_
        refine mg 21 (by decide) hx hb ht hown hw gw_818 rfl rfl d_M_create_97 ?_
        refine lv_iconst (v := 1) hx hb d_M_create_100 (by decide) ?_
        refine lv_iadd hx hb d_M_create_101 ?_
        rw [show (nI (q_n (qS_ch (qS_va (qS_pt (qS_so s (va_up (q_so s) (q_n s) t)) (va_up (q_pt s) (q_n s) (ptn pa pb))) (va_up (q_va (qS_pt (qS_so s (va_up (q_so s) (q_n s) t)) (va_up (q_pt s) (q_n s) (ptn pa pb)))) (q_n s) false)) (va_up (q_ch (qS_va (qS_pt (qS_so s (va_up (q_so s) (q_n s) t)) (va_up (q_pt s) (q_n s) (ptn pa pb))) (va_up (q_va (qS_pt (qS_so s (va_up (q_so s) (q_n s) t)) (va_up (q_pt s) (q_n s) (ptn pa pb)))) (q_n s) false))) (q_n s) (8 : Int32)))) + 1 : Int32) = nI (q_n s + 1) from nI_1 _]
        refine mp_nodes (q_n s + 1) (by omega) (fun i k h1 h2 => by show va_up (va_up (pcl (m_pt m) (q_n s) 4) (4 * q_n s) (pI pa)) (4 * q_n s + 1) (pI pb) (4 * i + k) = pI (va_up (q_pt s) (q_n s) (ptn pa pb) i k); by_cases hi : i = q_n s; (subst hi; rw [va_up_self]; have h9 : k = 0 ∨ k = 1 ∨ k = 2 ∨ k = 3 := (by omega); rcases h9 with rfl | rfl | rfl | rfl; (rw [va_up_ne _ _ (by omega)]; exact va_up_self _ _ _); (exact va_up_self _ _ _); (rw [va_up_ne _ _ (by omega), va_up_ne _ _ (by omega)]; exact pcl_n 4 2 (by omega)); (rw [va_up_ne _ _ (by omega), va_up_ne _ _ (by omega)]; exact pcl_n 4 3 (by omega))); (rw [va_up_ne _ _ (by omega), va_up_ne _ _ (by omega), va_up_ne _ _ hi, pcl_o (by omega)]; exact hR.2.2.1 i k (by omega) h2)) hx hb ht hown hw gw_818 d_M_create_102 (fun H7 locs7 u7 hw => ?_)
        refine lv_aload_n hx hb d_M_create_105 rfl (lv_at hl 0 rfl) ?_
        refine mg 21 (by decide) hx hb ht hown hw gw_818 rfl rfl d_M_create_106 ?_
        refine lv_iconst (v := 1) hx hb d_M_create_109 (by decide) ?_
        have e9 := addQ_blk hB (t := t) (pa := pa) (pb := pb)
        refine lv_isub hx hb d_M_create_110 ?_
        rw [show (nI (q_n (qS_n (qS_ch (qS_va (qS_pt (qS_so s (va_up (q_so s) (q_n s) t)) (va_up (q_pt s) (q_n s) (ptn pa pb))) (va_up (q_va (qS_pt (qS_so s (va_up (q_so s) (q_n s) t)) (va_up (q_pt s) (q_n s) (ptn pa pb)))) (q_n s) false)) (va_up (q_ch (qS_va (qS_pt (qS_so s (va_up (q_so s) (q_n s) t)) (va_up (q_pt s) (q_n s) (ptn pa pb))) (va_up (q_va (qS_pt (qS_so s (va_up (q_so s) (q_n s) t)) (va_up (q_pt s) (q_n s) (ptn pa pb)))) (q_n s) false))) (q_n s) (8 : Int32))) (q_n s + 1))) - 1 : Int32) = nI (q_n s) from pk_sub (a := q_n s + 1) (b := 1) (by omega)]
        exact kt_i hx hb hr hlocks hw.1 d_M_create_111 (by rw [← e9]; exact ⟨rfl, _, by rw [hb9]; exact hw.2.1, hw.2.2⟩) (by first | decide | (dsimp only; omega)) (by first | decide | (dsimp only; omega))
      · have hb9 : decide (t = 0) = true := decide_eq_true (nI_inj9 c4)
        refine lv_iconst (v := 1) hx hb d_M_create_78 (by decide) ?_
        refine lv_goto (tgt := 83) hx hb d_M_create_79 (by decide) ?_
        refine mp_valid (j := (q_n s)) true rfl (by show q_n s < 16; omega) hx hb hw d_M_create_83 (fun H8 locs8 u8 hw => ?_)
        refine lv_aload_n hx hb d_M_create_84 rfl (lv_at hl 0 rfl) ?_
        refine mg 11 (by decide) hx hb ht hown hw gw_808 rfl rfl d_M_create_85 ?_
        refine lv_aload_n hx hb d_M_create_88 rfl (lv_at hl 0 rfl) ?_
        refine mg 21 (by decide) hx hb ht hown hw gw_818 rfl rfl d_M_create_89 ?_
        refine lv_bipush (v := 8) hx hb d_M_create_92 (by decide) ?_
        refine mp_chance (j := (q_n s)) (8 : Int32) rfl (by show q_n s < 16; omega) hx hb hw d_M_create_94 (fun H9 locs9 u9 hw => ?_)
        refine lv_aload_n hx hb d_M_create_95 rfl (lv_at hl 0 rfl) ?_
        refine lv_dup hx hb d_M_create_96 rfl ?_
        refine mg 21 (by decide) hx hb ht hown hw gw_818 rfl rfl d_M_create_97 ?_
        refine lv_iconst (v := 1) hx hb d_M_create_100 (by decide) ?_
        refine lv_iadd hx hb d_M_create_101 ?_
        rw [show (nI (q_n (qS_ch (qS_va (qS_pt (qS_so s (va_up (q_so s) (q_n s) t)) (va_up (q_pt s) (q_n s) (ptn pa pb))) (va_up (q_va (qS_pt (qS_so s (va_up (q_so s) (q_n s) t)) (va_up (q_pt s) (q_n s) (ptn pa pb)))) (q_n s) true)) (va_up (q_ch (qS_va (qS_pt (qS_so s (va_up (q_so s) (q_n s) t)) (va_up (q_pt s) (q_n s) (ptn pa pb))) (va_up (q_va (qS_pt (qS_so s (va_up (q_so s) (q_n s) t)) (va_up (q_pt s) (q_n s) (ptn pa pb)))) (q_n s) true))) (q_n s) (8 : Int32)))) + 1 : Int32) = nI (q_n s + 1) from nI_1 _]
        refine mp_nodes (q_n s + 1) (by omega) (fun i k h1 h2 => by show va_up (va_up (pcl (m_pt m) (q_n s) 4) (4 * q_n s) (pI pa)) (4 * q_n s + 1) (pI pb) (4 * i + k) = pI (va_up (q_pt s) (q_n s) (ptn pa pb) i k); by_cases hi : i = q_n s; (subst hi; rw [va_up_self]; have h9 : k = 0 ∨ k = 1 ∨ k = 2 ∨ k = 3 := (by omega); rcases h9 with rfl | rfl | rfl | rfl; (rw [va_up_ne _ _ (by omega)]; exact va_up_self _ _ _); (exact va_up_self _ _ _); (rw [va_up_ne _ _ (by omega), va_up_ne _ _ (by omega)]; exact pcl_n 4 2 (by omega)); (rw [va_up_ne _ _ (by omega), va_up_ne _ _ (by omega)]; exact pcl_n 4 3 (by omega))); (rw [va_up_ne _ _ (by omega), va_up_ne _ _ (by omega), va_up_ne _ _ hi, pcl_o (by omega)]; exact hR.2.2.1 i k (by omega) h2)) hx hb ht hown hw gw_818 d_M_create_102 (fun H10 locs10 u10 hw => ?_)
        refine lv_aload_n hx hb d_M_create_105 rfl (lv_at hl 0 rfl) ?_
        refine mg 21 (by decide) hx hb ht hown hw gw_818 rfl rfl d_M_create_106 ?_
        refine lv_iconst (v := 1) hx hb d_M_create_109 (by decide) ?_
        have e9 := addQ_blk hB (t := t) (pa := pa) (pb := pb)
        refine lv_isub hx hb d_M_create_110 ?_
        rw [show (nI (q_n (qS_n (qS_ch (qS_va (qS_pt (qS_so s (va_up (q_so s) (q_n s) t)) (va_up (q_pt s) (q_n s) (ptn pa pb))) (va_up (q_va (qS_pt (qS_so s (va_up (q_so s) (q_n s) t)) (va_up (q_pt s) (q_n s) (ptn pa pb)))) (q_n s) true)) (va_up (q_ch (qS_va (qS_pt (qS_so s (va_up (q_so s) (q_n s) t)) (va_up (q_pt s) (q_n s) (ptn pa pb))) (va_up (q_va (qS_pt (qS_so s (va_up (q_so s) (q_n s) t)) (va_up (q_pt s) (q_n s) (ptn pa pb)))) (q_n s) true))) (q_n s) (8 : Int32))) (q_n s + 1))) - 1 : Int32) = nI (q_n s) from pk_sub (a := q_n s + 1) (b := 1) (by omega)]
        exact kt_i hx hb hr hlocks hw.1 d_M_create_111 (by rw [← e9]; exact ⟨rfl, _, by rw [hb9]; exact hw.2.1, hw.2.2⟩) (by first | decide | (dsimp only; omega)) (by first | decide | (dsimp only; omega))
    · exact absurd (nI_le (Nat.le_refl 4) (by omega)) c1
  · obtain ⟨hl, hw⟩ := hJ
    obtain ⟨u9, hw⟩ := hw
    refine lv_iload hx hb d_M_create_13 (lv_at hl 4 rfl) ?_
    refine lv_iconst (v := 4) hx hb d_M_create_15 (by decide) ?_
    refine lv_icmp_ge (tgt := 40) hx hb d_M_create_16 (by decide) (fun c1 => ?_) (fun c1 => ?_)
    · exact absurd c1 (show ¬ ((4 : Int32) ≤ nI k) from nI_ge (show k < 4 from hk) (by decide))
    · refine lv_aload_n hx hb d_M_create_19 rfl (lv_at hl 0 rfl) ?_
      refine mg 1 (by decide) hx hb ht hown hw gw_798 rfl rfl d_M_create_20 ?_
      refine lv_aload_n hx hb d_M_create_23 rfl (lv_at hl 0 rfl) ?_
      refine mg 21 (by decide) hx hb ht hown hw gw_818 rfl rfl d_M_create_24 ?_
      refine lv_iconst (v := 4) hx hb d_M_create_27 (by decide) ?_
      refine lv_imul hx hb d_M_create_28 ?_
      refine lv_iload hx hb d_M_create_29 (lv_at hl 4 rfl) ?_
      refine lv_iadd hx hb d_M_create_31 ?_
      refine lv_iconst (v := (-1)) hx hb d_M_create_32 (by decide) ?_
      refine mp_part (j := (4 * q_n s + k)) (-1 : Int32) (s' := (qS_so s (va_up (q_so s) (q_n s) t))) rfl (fun i k h1 h2 => by rw [va_up_ne _ _ (by have h : i < q_n s := h1; omega)]; exact hw.2.1.2.2.1 i k h1 h2) (mul4 _ k) (by omega) hx hb hw d_M_create_33 (fun H11 locs11 u11 hw => ?_)
      obtain ⟨i12, ei12⟩ : ∃ y : Int32, y = (nI k) + 1 := ⟨_, rfl⟩
      refine lv_iinc (v := i12) (lv' := [(4, .int i12), (0, .ref (lm 0)), (1, .int (nI t)), (2, .int (pI pa)), (3, .int (pI pb))]) hx hb d_M_create_34 hl (k := 4) rfl (by rw [ei12]; rfl) (by decide) rfl (fun ls hl => ?_)
      rw [nI_1] at ei12; subst ei12
      refine lv_goto (tgt := 13) hx hb d_M_create_37 (by decide) ?_
      exact ih ls H11 locs11 ⟨lv_sub hl [1, 2, 3, 4, 0] rfl, u11, hw⟩

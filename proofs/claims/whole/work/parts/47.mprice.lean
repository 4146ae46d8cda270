/-! 47.mprice: contracts of payoff, earlier, lattice -/
set_option maxHeartbeats 4000000 in
set_option maxRecDepth 100000 in
theorem c_M_payoff (l : Launch) (G : GT) (A : Nat → Prop) (lm : Nat → Nat) (s : QS) (m : MS) (u : WT) (hR : rM G lm s m u) (hok : okQ s) (o : Nat) (ho : o < q_n s) (hnw : m_nw m = nI o) (hkn : ∀ k, q_pt s o 3 = some k → m_kn m = q_am s k) (x : Int64) (hx8 : x.toInt.natAbs < 2 ^ 60) (hwa : (q_wa s o).toInt.natAbs < 2 ^ 60) : Kt l y_M_payoff b_M_payoff 5 (some .long) 0 0 0 0 0 0 0 0 G A u [.ref (lm 0), .long x] (KQ G A (Rl (fun r u' => r = oPay s o x ∧ u' = u))) (NX) := by
  refine k_of (by decide) (Nat.le_of_ble_eq_true rfl) (fun p e st mt below meth c ls hx hb hr hlocks hml htab hname hown ht hw hl => ?_)
  have hl : lv_has ls 5 [(0, .ref (lm 0)), (1, .long x)] := hl
  have hw : Mk G A lm s m u u st st.heap [] := ⟨hw, hR, fM.rf⟩
  refine lv_lload_n hx hb d_M_payoff_0 rfl (lv_at hl 1 rfl) ?_
  refine lv_aload_n hx hb d_M_payoff_1 rfl (lv_at hl 0 rfl) ?_
  refine mg 7 (by decide) hx hb ht hown hw gw_804 rfl rfl d_M_payoff_2 ?_
  refine lv_aload_n hx hb d_M_payoff_5 rfl (lv_at hl 0 rfl) ?_
  refine mg 27 (by decide) hx hb ht hown hw gw_824 rfl rfl d_M_payoff_6 ?_
  rw [show m_nw m = nI o from hnw]
  refine ma_weightA (j := o) rfl (by have := hR.2.2.2; omega) hx hb hw d_M_payoff_9 ?_
  refine lv_lsub hx hb d_M_payoff_10 ?_
  refine lv_lstore_n (lv' := [(3, .long (x - (q_wa s o))), (0, .ref (lm 0)), (1, .long x)]) hx hb d_M_payoff_11 rfl hl (by decide) rfl (fun ls hl => ?_)
  refine lv_aload_n hx hb d_M_payoff_12 rfl (lv_at hl 1 rfl) ?_
  refine mg 1 (by decide) hx hb ht hown hw gw_798 rfl rfl d_M_payoff_13 ?_
  refine lv_aload_n hx hb d_M_payoff_16 rfl (lv_at hl 1 rfl) ?_
  refine mg 27 (by decide) hx hb ht hown hw gw_824 rfl rfl d_M_payoff_17 ?_
  rw [show m_nw m = nI o from hnw]
  refine lv_iconst (v := 4) hx hb d_M_payoff_20 (by decide) ?_
  refine lv_imul hx hb d_M_payoff_21 ?_
  refine lv_iconst (v := 3) hx hb d_M_payoff_22 (by decide) ?_
  refine lv_iadd hx hb d_M_payoff_23 ?_
  refine ma_part (j := (4 * o + 3)) (mul4 _ 3) (by have := hR.2.2.2; omega) hx hb hw d_M_payoff_24 ?_
  rw [show m_pt m (4 * o + 3) = pI (q_pt s o 3) from hR.2.2.1 o 3 ho (by decide)]
  rcases hq1 : q_pt s o 3 with _ | k2
  · refine lv_if_lt (tgt := 39) hx hb d_M_payoff_25 (by decide) (fun c4 => ?_) (fun c4 => ?_)
    · have hO3 : oOut s o (x) = false := oOut_n hq1
      refine lv_aload_n hx hb d_M_payoff_39 rfl (lv_at hl 1 rfl) ?_
      refine mg 9 (by decide) hx hb ht hown hw gw_806 rfl rfl d_M_payoff_40 ?_
      refine lv_aload_n hx hb d_M_payoff_43 rfl (lv_at hl 1 rfl) ?_
      refine mg 27 (by decide) hx hb ht hown hw gw_824 rfl rfl d_M_payoff_44 ?_
      rw [show m_nw m = nI o from hnw]
      refine ma_kind (j := o) rfl (by have := hR.2.2.2; omega) hx hb hw d_M_payoff_47 ?_
      refine lv_if_ne (tgt := 63) hx hb d_M_payoff_48 (by decide) (fun c5 => ?_) (fun c5 => ?_)
      · refine lv_aload_n hx hb d_M_payoff_63 rfl (lv_at hl 1 rfl) ?_
        refine mg 9 (by decide) hx hb ht hown hw gw_806 rfl rfl d_M_payoff_64 ?_
        refine lv_aload_n hx hb d_M_payoff_67 rfl (lv_at hl 1 rfl) ?_
        refine mg 27 (by decide) hx hb ht hown hw gw_824 rfl rfl d_M_payoff_68 ?_
        rw [show m_nw m = nI o from hnw]
        refine ma_kind (j := o) rfl (by have := hR.2.2.2; omega) hx hb hw d_M_payoff_71 ?_
        refine lv_iconst (v := 1) hx hb d_M_payoff_72 (by decide) ?_
        refine lv_icmp_ne (tgt := 89) hx hb d_M_payoff_73 (by decide) (fun c6 => ?_) (fun c6 => ?_)
        · refine lv_aload_n hx hb d_M_payoff_89 rfl (lv_at hl 1 rfl) ?_
          refine mg 9 (by decide) hx hb ht hown hw gw_806 rfl rfl d_M_payoff_90 ?_
          refine lv_aload_n hx hb d_M_payoff_93 rfl (lv_at hl 1 rfl) ?_
          refine mg 27 (by decide) hx hb ht hown hw gw_824 rfl rfl d_M_payoff_94 ?_
          rw [show m_nw m = nI o from hnw]
          refine ma_kind (j := o) rfl (by have := hR.2.2.2; omega) hx hb hw d_M_payoff_97 ?_
          refine lv_iconst (v := 2) hx hb d_M_payoff_98 (by decide) ?_
          refine lv_icmp_ne (tgt := 118) hx hb d_M_payoff_99 (by decide) (fun c7 => ?_) (fun c7 => ?_)
          · refine lv_lload_n hx hb d_M_payoff_118 rfl (lv_at hl 0 rfl) ?_
            exact kt_l hx hb hr hlocks hw.1 d_M_payoff_119 (by exact ⟨by unfold oPay oPI; rw [if_neg (by rw [hO3]; decide), if_neg c5, if_neg c6, if_neg c7], rfl⟩) (by first | decide | (dsimp only; omega)) (by first | decide | (dsimp only; omega))
          · refine lv_lload_n hx hb d_M_payoff_102 rfl (lv_at hl 0 rfl) ?_
            refine lv_lconst (v := 0) hx hb d_M_payoff_103 (by decide) ?_
            refine W.lcmp hx hb d_M_payoff_104 ?_
            refine lv_if_lt (tgt := 114) hx hb d_M_payoff_105 (by decide) (fun c8 => ?_) (fun c8 => ?_)
            · refine lv_lconst (v := 0) hx hb d_M_payoff_114 (by decide) ?_
              refine lv_goto (tgt := 119) hx hb d_M_payoff_115 (by decide) ?_
              exact kt_l hx hb hr hlocks hw.1 d_M_payoff_119 (by exact ⟨by unfold oPay oPI; rw [if_neg (by rw [hO3]; decide), if_neg c5, if_neg c6, if_pos c7, if_pos ((pay2 (by omega) (by omega)).mp ((lg_cmp_lt _ _).mp c8))], rfl⟩) (by first | decide | (dsimp only; omega)) (by first | decide | (dsimp only; omega))
            · refine lv_ldc2 (v := 102400) hx hb hown (ht _ gw_995) d_M_payoff_108 ?_
              refine lv_goto (tgt := 119) hx hb d_M_payoff_111 (by decide) ?_
              exact kt_l hx hb hr hlocks hw.1 d_M_payoff_119 (by exact ⟨by unfold oPay oPI; rw [if_neg (by rw [hO3]; decide), if_neg c5, if_neg c6, if_pos c7, if_neg (fun h => c8 ((lg_cmp_lt _ _).mpr ((pay2 (by omega) (by omega)).mpr h)))], rfl⟩) (by first | decide | (dsimp only; omega)) (by first | decide | (dsimp only; omega))
        · refine lv_lload_n hx hb d_M_payoff_76 rfl (lv_at hl 0 rfl) ?_
          refine lv_lconst (v := 0) hx hb d_M_payoff_77 (by decide) ?_
          refine W.lcmp hx hb d_M_payoff_78 ?_
          refine lv_if_ge (tgt := 87) hx hb d_M_payoff_79 (by decide) (fun c9 => ?_) (fun c9 => ?_)
          · refine lv_lconst (v := 0) hx hb d_M_payoff_87 (by decide) ?_
            exact kt_l hx hb hr hlocks hw.1 d_M_payoff_88 (by exact ⟨by unfold oPay oPI; rw [if_neg (by rw [hO3]; decide), if_neg c5, if_pos c6, ← pay1 (by omega) (by omega), if_neg (fun h => absurd ((lg_cmp_lt _ _).mpr h) (by rw [i_nlt]; exact c9))], rfl⟩) (by first | decide | (dsimp only; omega)) (by first | decide | (dsimp only; omega))
          · refine lv_lload_n hx hb d_M_payoff_82 rfl (lv_at hl 0 rfl) ?_
            refine lv_lneg hx hb d_M_payoff_83 ?_
            refine lv_goto (tgt := 88) hx hb d_M_payoff_84 (by decide) ?_
            exact kt_l hx hb hr hlocks hw.1 d_M_payoff_88 (by exact ⟨by unfold oPay oPI; rw [if_neg (by rw [hO3]; decide), if_neg c5, if_pos c6, ← pay1 (by omega) (by omega), if_pos ((lg_cmp_lt _ _).mp (by rw [← i_nle]; exact c9))], rfl⟩) (by first | decide | (dsimp only; omega)) (by first | decide | (dsimp only; omega))
      · refine lv_lload_n hx hb d_M_payoff_51 rfl (lv_at hl 0 rfl) ?_
        refine lv_lconst (v := 0) hx hb d_M_payoff_52 (by decide) ?_
        refine W.lcmp hx hb d_M_payoff_53 ?_
        refine lv_if_le (tgt := 61) hx hb d_M_payoff_54 (by decide) (fun c10 => ?_) (fun c10 => ?_)
        · refine lv_lconst (v := 0) hx hb d_M_payoff_61 (by decide) ?_
          exact kt_l hx hb hr hlocks hw.1 d_M_payoff_62 (by exact ⟨by unfold oPay oPI; rw [if_neg (by rw [hO3]; decide), if_pos c5]; unfold mxL; rw [if_neg (fun h => absurd ((lg_cmp_gt _ _).mpr h) (by rw [i_nlt]; exact c10))], rfl⟩) (by first | decide | (dsimp only; omega)) (by first | decide | (dsimp only; omega))
        · refine lv_lload_n hx hb d_M_payoff_57 rfl (lv_at hl 0 rfl) ?_
          refine lv_goto (tgt := 62) hx hb d_M_payoff_58 (by decide) ?_
          exact kt_l hx hb hr hlocks hw.1 d_M_payoff_62 (by exact ⟨by unfold oPay oPI; rw [if_neg (by rw [hO3]; decide), if_pos c5]; unfold mxL; rw [if_pos ((lg_cmp_gt _ _).mp (by rw [← i_nle]; exact c10))], rfl⟩) (by first | decide | (dsimp only; omega)) (by first | decide | (dsimp only; omega))
    · exact absurd (show pI none < 0 from by decide) c4
  · have hk8 : k2 < 2 ^ 31 := by have h1 := (hok.2 o ho).2.2.2.2.1 3 k2 hq1; have h2 := hok.1; omega
    refine lv_if_lt (tgt := 39) hx hb d_M_payoff_25 (by decide) (fun c4 => ?_) (fun c4 => ?_)
    · exact absurd c4 (nI_pos hk8)
    · refine lv_lload_n hx hb d_M_payoff_28 rfl (lv_at hl 2 rfl) ?_
      refine lv_aload_n hx hb d_M_payoff_29 rfl (lv_at hl 1 rfl) ?_
      refine mg 30 (by decide) hx hb ht hown hw gw_827 rfl rfl d_M_payoff_30 ?_
      rw [show m_kn m = q_am s k2 from hkn k2 hq1]
      refine W.lcmp hx hb d_M_payoff_33 ?_
      refine lv_if_lt (tgt := 39) hx hb d_M_payoff_34 (by decide) (fun c11 => ?_) (fun c11 => ?_)
      · have hO3 : oOut s o (x) = false := by rw [oOut_s hq1]; exact decide_eq_false (fun h => h ((lg_cmp_lt _ _).mp c11))
        refine lv_aload_n hx hb d_M_payoff_39 rfl (lv_at hl 1 rfl) ?_
        refine mg 9 (by decide) hx hb ht hown hw gw_806 rfl rfl d_M_payoff_40 ?_
        refine lv_aload_n hx hb d_M_payoff_43 rfl (lv_at hl 1 rfl) ?_
        refine mg 27 (by decide) hx hb ht hown hw gw_824 rfl rfl d_M_payoff_44 ?_
        rw [show m_nw m = nI o from hnw]
        refine ma_kind (j := o) rfl (by have := hR.2.2.2; omega) hx hb hw d_M_payoff_47 ?_
        refine lv_if_ne (tgt := 63) hx hb d_M_payoff_48 (by decide) (fun c12 => ?_) (fun c12 => ?_)
        · refine lv_aload_n hx hb d_M_payoff_63 rfl (lv_at hl 1 rfl) ?_
          refine mg 9 (by decide) hx hb ht hown hw gw_806 rfl rfl d_M_payoff_64 ?_
          refine lv_aload_n hx hb d_M_payoff_67 rfl (lv_at hl 1 rfl) ?_
          refine mg 27 (by decide) hx hb ht hown hw gw_824 rfl rfl d_M_payoff_68 ?_
          rw [show m_nw m = nI o from hnw]
          refine ma_kind (j := o) rfl (by have := hR.2.2.2; omega) hx hb hw d_M_payoff_71 ?_
          refine lv_iconst (v := 1) hx hb d_M_payoff_72 (by decide) ?_
          refine lv_icmp_ne (tgt := 89) hx hb d_M_payoff_73 (by decide) (fun c13 => ?_) (fun c13 => ?_)
          · refine lv_aload_n hx hb d_M_payoff_89 rfl (lv_at hl 1 rfl) ?_
            refine mg 9 (by decide) hx hb ht hown hw gw_806 rfl rfl d_M_payoff_90 ?_
            refine lv_aload_n hx hb d_M_payoff_93 rfl (lv_at hl 1 rfl) ?_
            refine mg 27 (by decide) hx hb ht hown hw gw_824 rfl rfl d_M_payoff_94 ?_
            rw [show m_nw m = nI o from hnw]
            refine ma_kind (j := o) rfl (by have := hR.2.2.2; omega) hx hb hw d_M_payoff_97 ?_
            refine lv_iconst (v := 2) hx hb d_M_payoff_98 (by decide) ?_
            refine lv_icmp_ne (tgt := 118) hx hb d_M_payoff_99 (by decide) (fun c14 => ?_) (fun c14 => ?_)
            · refine lv_lload_n hx hb d_M_payoff_118 rfl (lv_at hl 0 rfl) ?_
              exact kt_l hx hb hr hlocks hw.1 d_M_payoff_119 (by exact ⟨by unfold oPay oPI; rw [if_neg (by rw [hO3]; decide), if_neg c12, if_neg c13, if_neg c14], rfl⟩) (by first | decide | (dsimp only; omega)) (by first | decide | (dsimp only; omega))
            · refine lv_lload_n hx hb d_M_payoff_102 rfl (lv_at hl 0 rfl) ?_
              refine lv_lconst (v := 0) hx hb d_M_payoff_103 (by decide) ?_
              refine W.lcmp hx hb d_M_payoff_104 ?_
              refine lv_if_lt (tgt := 114) hx hb d_M_payoff_105 (by decide) (fun c15 => ?_) (fun c15 => ?_)
              · refine lv_lconst (v := 0) hx hb d_M_payoff_114 (by decide) ?_
                refine lv_goto (tgt := 119) hx hb d_M_payoff_115 (by decide) ?_
                exact kt_l hx hb hr hlocks hw.1 d_M_payoff_119 (by exact ⟨by unfold oPay oPI; rw [if_neg (by rw [hO3]; decide), if_neg c12, if_neg c13, if_pos c14, if_pos ((pay2 (by omega) (by omega)).mp ((lg_cmp_lt _ _).mp c15))], rfl⟩) (by first | decide | (dsimp only; omega)) (by first | decide | (dsimp only; omega))
              · refine lv_ldc2 (v := 102400) hx hb hown (ht _ gw_995) d_M_payoff_108 ?_
                refine lv_goto (tgt := 119) hx hb d_M_payoff_111 (by decide) ?_
                exact kt_l hx hb hr hlocks hw.1 d_M_payoff_119 (by exact ⟨by unfold oPay oPI; rw [if_neg (by rw [hO3]; decide), if_neg c12, if_neg c13, if_pos c14, if_neg (fun h => c15 ((lg_cmp_lt _ _).mpr ((pay2 (by omega) (by omega)).mpr h)))], rfl⟩) (by first | decide | (dsimp only; omega)) (by first | decide | (dsimp only; omega))
          · refine lv_lload_n hx hb d_M_payoff_76 rfl (lv_at hl 0 rfl) ?_
            refine lv_lconst (v := 0) hx hb d_M_payoff_77 (by decide) ?_
            refine W.lcmp hx hb d_M_payoff_78 ?_
            refine lv_if_ge (tgt := 87) hx hb d_M_payoff_79 (by decide) (fun c16 => ?_) (fun c16 => ?_)
            · refine lv_lconst (v := 0) hx hb d_M_payoff_87 (by decide) ?_
              exact kt_l hx hb hr hlocks hw.1 d_M_payoff_88 (by exact ⟨by unfold oPay oPI; rw [if_neg (by rw [hO3]; decide), if_neg c12, if_pos c13, ← pay1 (by omega) (by omega), if_neg (fun h => absurd ((lg_cmp_lt _ _).mpr h) (by rw [i_nlt]; exact c16))], rfl⟩) (by first | decide | (dsimp only; omega)) (by first | decide | (dsimp only; omega))
            · refine lv_lload_n hx hb d_M_payoff_82 rfl (lv_at hl 0 rfl) ?_
              refine lv_lneg hx hb d_M_payoff_83 ?_
              refine lv_goto (tgt := 88) hx hb d_M_payoff_84 (by decide) ?_
              exact kt_l hx hb hr hlocks hw.1 d_M_payoff_88 (by exact ⟨by unfold oPay oPI; rw [if_neg (by rw [hO3]; decide), if_neg c12, if_pos c13, ← pay1 (by omega) (by omega), if_pos ((lg_cmp_lt _ _).mp (by rw [← i_nle]; exact c16))], rfl⟩) (by first | decide | (dsimp only; omega)) (by first | decide | (dsimp only; omega))
        · refine lv_lload_n hx hb d_M_payoff_51 rfl (lv_at hl 0 rfl) ?_
          refine lv_lconst (v := 0) hx hb d_M_payoff_52 (by decide) ?_
          refine W.lcmp hx hb d_M_payoff_53 ?_
          refine lv_if_le (tgt := 61) hx hb d_M_payoff_54 (by decide) (fun c17 => ?_) (fun c17 => ?_)
          · refine lv_lconst (v := 0) hx hb d_M_payoff_61 (by decide) ?_
            exact kt_l hx hb hr hlocks hw.1 d_M_payoff_62 (by exact ⟨by unfold oPay oPI; rw [if_neg (by rw [hO3]; decide), if_pos c12]; unfold mxL; rw [if_neg (fun h => absurd ((lg_cmp_gt _ _).mpr h) (by rw [i_nlt]; exact c17))], rfl⟩) (by first | decide | (dsimp only; omega)) (by first | decide | (dsimp only; omega))
          · refine lv_lload_n hx hb d_M_payoff_57 rfl (lv_at hl 0 rfl) ?_
            refine lv_goto (tgt := 62) hx hb d_M_payoff_58 (by decide) ?_
            exact kt_l hx hb hr hlocks hw.1 d_M_payoff_62 (by exact ⟨by unfold oPay oPI; rw [if_neg (by rw [hO3]; decide), if_pos c12]; unfold mxL; rw [if_pos ((lg_cmp_gt _ _).mp (by rw [← i_nle]; exact c17))], rfl⟩) (by first | decide | (dsimp only; omega)) (by first | decide | (dsimp only; omega))
      · have hO3 : oOut s o (x) = true := by rw [oOut_s hq1]; exact decide_eq_true (fun h => c11 ((lg_cmp_lt _ _).mpr h))
        refine lv_lconst (v := 0) hx hb d_M_payoff_37 (by decide) ?_
        exact kt_l hx hb hr hlocks hw.1 d_M_payoff_38 (by exact ⟨by unfold oPay; rw [if_pos hO3], rfl⟩) (by first | decide | (dsimp only; omega)) (by first | decide | (dsimp only; omega))
theorem bd_eq (m : MS) (v : Int64) : (if bigL v = true then mS_tr m 2 else m) = mS_tr m (bdT (m_tr m) v) := by
  unfold bdT; split <;> rfl
set_option maxHeartbeats 4000000 in
set_option maxRecDepth 100000 in
theorem c_M_earlier (l : Launch) (G : GT) (A : Nat → Prop) (lm : Nat → Nat) (s : QS) (m : MS) (u : WT) (hR : rM G lm s m u) (hok : okQ s) (o : Nat) (ho : o < q_n s) (hnw : m_nw m = nI o) (hkn : ∀ k, q_pt s o 3 = some k → m_kn m = q_am s k) (D : Int64) (hD : 0 ≤ D.toInt ∧ D.toInt ≤ 1024) (hs0 : m_sp m = oS s o) (hm0 : m_mv m = oM s o) (hd0 : m_dc m = D) (hbn : bnO s o) (y x : Int64) (hx8 : x.toInt.natAbs ≤ 21504000000) : Kt l y_M_earlier b_M_earlier 9 (some .long) 1 24 0 0 0 0 0 0 G A u [.ref (lm 0), .long y, .long x] (KQ G A (Rl (fun r u' => r = oHeld s o x (flr (D * y + 8192) 16384) ∧ rM G lm s (mS_tr m (bdT (m_tr m) (flr (D * y + 8192) 16384))) u' ∧ fM lm u u'))) (NX) := by
  refine k_of (by decide) (Nat.le_of_ble_eq_true rfl) (fun p e st mt below meth c ls hx hb hr hlocks hml htab hname hown ht hw hl => ?_)
  have hl : lv_has ls 9 [(0, .ref (lm 0)), (1, .long y), (3, .long x)] := hl
  have hw : Mk G A lm s m u u st st.heap [] := ⟨hw, hR, fM.rf⟩
  refine lv_aload_n hx hb d_M_earlier_0 rfl (lv_at hl 0 rfl) ?_
  refine lv_aload_n hx hb d_M_earlier_1 rfl (lv_at hl 0 rfl) ?_
  refine lv_aload_n hx hb d_M_earlier_2 rfl (lv_at hl 0 rfl) ?_
  refine mg 31 (by decide) hx hb ht hown hw gw_828 rfl rfl d_M_earlier_3 ?_
  rw [show m_dc m = D from hd0]
  refine lv_lload_n hx hb d_M_earlier_6 rfl (lv_at hl 1 rfl) ?_
  refine lv_lmul hx hb d_M_earlier_7 ?_
  refine lv_ldc2 (v := 8192) hx hb hown (ht _ gw_1001) d_M_earlier_8 ?_
  refine lv_ladd hx hb d_M_earlier_11 ?_
  refine lv_ldc2 (v := 16384) hx hb hown (ht _ gw_1002) d_M_earlier_12 ?_
  refine kc_l (kr_V 2 (C := "QuoteGraphModel") (As := [.long ((D * y) + (8192 : Int64)), .long (16384 : Int64)]) (rest := [.ref (lm 0)]) (c_M_floored l G A u (lm 0) (D * y + 8192) (16384) (by decide)) hx hb hml hown ht hw.1 gw_978 gw_980 gw_33 gw_47 gw_981 ⟨⟨by decide, by decide⟩, by decide +kernel⟩ ⟨by first | decide | (dsimp only; omega), by first | decide | (dsimp only; omega)⟩ (kr_M hw) rfl hl.1 rfl (lv_room (Nat.le_of_ble_eq_true rfl)) d_M_earlier_15 ⟨by first | decide | (dsimp only; omega), by first | decide | (dsimp only; omega)⟩) hw.1 (fun _ _ _ _ _ _ h => h.elim) (fun r1 u1 H1 locs1 hp1 hw1 => ?_)
  obtain ⟨er1, hq1⟩ := hp1
  replace hq1 := hq1.symm; subst hq1
  subst er1
  have hw : Mk G A lm s m u u st H1 locs1 := ⟨hw1, hw.2⟩
  obtain ⟨v9, ev9⟩ : ∃ v9, v9 = flr (D * y + 8192) 16384 := ⟨_, rfl⟩
  rw [← ev9]
  refine kc_l (kr_V 1 (C := "QuoteGraphModel") (As := [.long v9]) (rest := []) (c_M_bounded l G A lm s m u hw.2.1 v9) hx hb hml hown ht hw.1 gw_1003 gw_1005 gw_38 gw_47 gw_1006 ⟨⟨by decide, by decide⟩, by decide +kernel⟩ ⟨by first | decide | (dsimp only; omega), by first | decide | (dsimp only; omega)⟩ (kr_M hw) rfl hl.1 rfl (lv_room (Nat.le_of_ble_eq_true rfl)) d_M_earlier_18 ⟨by first | decide | (dsimp only; omega), by first | decide | (dsimp only; omega)⟩) hw.1 (fun _ _ _ _ _ _ h => h.elim) (fun r2 u2 H2 locs2 hp2 hw2 => ?_)
  obtain ⟨er2, g1, g2⟩ := hp2; replace er2 := er2.symm; subst er2
  rw [bd_eq] at g1
  have hw : Mk G A lm s (mS_tr m (bdT (m_tr m) v9)) u u2 st H2 locs2 := ⟨hw2, g1, hw.2.2.tr g2⟩
  refine lv_lstore (lv' := [(5, .long v9), (0, .ref (lm 0)), (1, .long y), (3, .long x)]) hx hb d_M_earlier_21 hl (by decide) rfl (fun ls hl => ?_)
  refine lv_aload_n hx hb d_M_earlier_23 rfl (lv_at hl 1 rfl) ?_
  refine mg 1 (by decide) hx hb ht hown hw gw_798 rfl rfl d_M_earlier_24 ?_
  refine lv_aload_n hx hb d_M_earlier_27 rfl (lv_at hl 1 rfl) ?_
  refine mg 27 (by decide) hx hb ht hown hw gw_824 rfl rfl d_M_earlier_28 ?_
  rw [show m_nw (mS_tr m (bdT (m_tr m) v9)) = nI o from hnw]
  refine lv_iconst (v := 4) hx hb d_M_earlier_31 (by decide) ?_
  refine lv_imul hx hb d_M_earlier_32 ?_
  refine lv_iconst (v := 3) hx hb d_M_earlier_33 (by decide) ?_
  refine lv_iadd hx hb d_M_earlier_34 ?_
  refine ma_part (j := (4 * o + 3)) (mul4 _ 3) (by have := hR.2.2.2; omega) hx hb hw d_M_earlier_35 ?_
  rw [show m_pt (mS_tr m (bdT (m_tr m) v9)) (4 * o + 3) = pI (q_pt s o 3) from hR.2.2.1 o 3 ho (by decide)]
  rcases hq3 : q_pt s o 3 with _ | k4
  · refine lv_if_lt (tgt := 50) hx hb d_M_earlier_36 (by decide) (fun c6 => ?_) (fun c6 => ?_)
    · have hO5 : oOut s o (x) = false := oOut_n hq3
      refine lv_aload_n hx hb d_M_earlier_50 rfl (lv_at hl 1 rfl) ?_
      refine lv_lload_n hx hb d_M_earlier_51 rfl (lv_at hl 3 rfl) ?_
      refine kc_l (kr_V 1 (C := "QuoteGraphModel") (As := [.long x]) (rest := []) (c_M_payoff l G A lm s (mS_tr m (bdT (m_tr m) v9)) u2 hw.2.1 hok o ho hnw hkn x (by omega) (by have := hbn.2.2.1; omega)) hx hb hml hown ht hw.1 gw_991 gw_993 gw_36 gw_47 gw_994 ⟨⟨by decide, by decide⟩, by decide +kernel⟩ ⟨by first | decide | (dsimp only; omega), by first | decide | (dsimp only; omega)⟩ (kr_M hw) rfl hl.1 rfl (lv_room (Nat.le_of_ble_eq_true rfl)) d_M_earlier_52 ⟨by first | decide | (dsimp only; omega), by first | decide | (dsimp only; omega)⟩) hw.1 (fun _ _ _ _ _ _ h => h.elim) (fun r7 u7 H7 locs7 hp7 hw7 => ?_)
      obtain ⟨er7, hq7⟩ := hp7
      replace hq7 := hq7.symm; subst hq7
      subst er7
      have hw : Mk G A lm s (mS_tr m (bdT (m_tr m) v9)) u u2 st H7 locs7 := ⟨hw7, hw.2⟩
      rw [show oPay s o x = oPI s o x by unfold oPay; rw [if_neg (by rw [hO5]; decide)]]
      refine lv_lstore (lv' := [(7, .long (oPI s o x)), (5, .long v9), (0, .ref (lm 0)), (1, .long y), (3, .long x)]) hx hb d_M_earlier_55 hl (by decide) rfl (fun ls hl => ?_)
      refine lv_aload_n hx hb d_M_earlier_57 rfl (lv_at hl 2 rfl) ?_
      refine mg 12 (by decide) hx hb ht hown hw gw_809 rfl rfl d_M_earlier_58 ?_
      refine lv_aload_n hx hb d_M_earlier_61 rfl (lv_at hl 2 rfl) ?_
      refine mg 27 (by decide) hx hb ht hown hw gw_824 rfl rfl d_M_earlier_62 ?_
      rw [show m_nw (mS_tr m (bdT (m_tr m) v9)) = nI o from hnw]
      refine ma_american (j := o) rfl (by have := hR.2.2.2; omega) hx hb hw d_M_earlier_65 ?_
      refine lv_if_eq (tgt := 82) hx hb d_M_earlier_66 (by decide) (fun c8 => ?_) (fun c8 => ?_)
      · refine lv_lload hx hb d_M_earlier_82 (lv_at hl 1 rfl) ?_
        exact kt_l hx hb hr hlocks hw.1 d_M_earlier_84 (by exact ⟨by unfold oHeld; rw [if_neg (by rw [hO5]; decide), if_neg (by rw [(bI_eq _).mp c8]; decide)], hw.2.1, hw.2.2⟩) (by first | decide | (dsimp only; omega)) (by first | decide | (dsimp only; omega))
      · refine lv_lload hx hb d_M_earlier_69 (lv_at hl 0 rfl) ?_
        refine lv_lload hx hb d_M_earlier_71 (lv_at hl 1 rfl) ?_
        refine W.lcmp hx hb d_M_earlier_73 ?_
        refine lv_if_le (tgt := 82) hx hb d_M_earlier_74 (by decide) (fun c9 => ?_) (fun c9 => ?_)
        · have hle : oPI s o x ≤ v9 := (lg_cmp_le _ _).mp c9
          refine lv_lload hx hb d_M_earlier_82 (lv_at hl 1 rfl) ?_
          exact kt_l hx hb hr hlocks hw.1 d_M_earlier_84 (by exact ⟨by unfold oHeld; rw [if_neg (by rw [hO5]; decide), if_pos ((bI_ne _).mp c8)]; unfold mxL; split; rfl; rename_i h; exact l_inj (by rw [le_l] at hle; rw [lt_l] at h; omega), hw.2.1, hw.2.2⟩) (by first | decide | (dsimp only; omega)) (by first | decide | (dsimp only; omega))
        · have hgt : v9 < oPI s o x := (lg_cmp_gt _ _).mp (by rw [← i_nle]; exact c9)
          refine lv_lload hx hb d_M_earlier_77 (lv_at hl 0 rfl) ?_
          refine lv_goto (tgt := 84) hx hb d_M_earlier_79 (by decide) ?_
          exact kt_l hx hb hr hlocks hw.1 d_M_earlier_84 (by exact ⟨by unfold oHeld; rw [if_neg (by rw [hO5]; decide), if_pos ((bI_ne _).mp c8)]; unfold mxL; rw [if_neg (fun h => absurd (lt_l.mp h) (by rw [lt_l] at hgt; omega))], hw.2.1, hw.2.2⟩) (by first | decide | (dsimp only; omega)) (by first | decide | (dsimp only; omega))
    · exact absurd (show pI none < 0 from by decide) c6
  · have hk8 : k4 < 2 ^ 31 := by have h1 := (hok.2 o ho).2.2.2.2.1 3 k4 hq3; have h2 := hok.1; omega
    refine lv_if_lt (tgt := 50) hx hb d_M_earlier_36 (by decide) (fun c6 => ?_) (fun c6 => ?_)
    · exact absurd c6 (nI_pos hk8)
    · refine lv_lload_n hx hb d_M_earlier_39 rfl (lv_at hl 3 rfl) ?_
      refine lv_aload_n hx hb d_M_earlier_40 rfl (lv_at hl 1 rfl) ?_
      refine mg 30 (by decide) hx hb ht hown hw gw_827 rfl rfl d_M_earlier_41 ?_
      rw [show m_kn (mS_tr m (bdT (m_tr m) v9)) = q_am s k4 from hkn k4 hq3]
      refine W.lcmp hx hb d_M_earlier_44 ?_
      refine lv_if_lt (tgt := 50) hx hb d_M_earlier_45 (by decide) (fun c10 => ?_) (fun c10 => ?_)
      · have hO5 : oOut s o (x) = false := by rw [oOut_s hq3]; exact decide_eq_false (fun h => h ((lg_cmp_lt _ _).mp c10))
        refine lv_aload_n hx hb d_M_earlier_50 rfl (lv_at hl 1 rfl) ?_
        refine lv_lload_n hx hb d_M_earlier_51 rfl (lv_at hl 3 rfl) ?_
        refine kc_l (kr_V 1 (C := "QuoteGraphModel") (As := [.long x]) (rest := []) (c_M_payoff l G A lm s (mS_tr m (bdT (m_tr m) v9)) u2 hw.2.1 hok o ho hnw hkn x (by omega) (by have := hbn.2.2.1; omega)) hx hb hml hown ht hw.1 gw_991 gw_993 gw_36 gw_47 gw_994 ⟨⟨by decide, by decide⟩, by decide +kernel⟩ ⟨by first | decide | (dsimp only; omega), by first | decide | (dsimp only; omega)⟩ (kr_M hw) rfl hl.1 rfl (lv_room (Nat.le_of_ble_eq_true rfl)) d_M_earlier_52 ⟨by first | decide | (dsimp only; omega), by first | decide | (dsimp only; omega)⟩) hw.1 (fun _ _ _ _ _ _ h => h.elim) (fun r11 u11 H11 locs11 hp11 hw11 => ?_)
        obtain ⟨er11, hq11⟩ := hp11
        replace hq11 := hq11.symm; subst hq11
        subst er11
        have hw : Mk G A lm s (mS_tr m (bdT (m_tr m) v9)) u u2 st H11 locs11 := ⟨hw11, hw.2⟩
        rw [show oPay s o x = oPI s o x by unfold oPay; rw [if_neg (by rw [hO5]; decide)]]
        refine lv_lstore (lv' := [(7, .long (oPI s o x)), (5, .long v9), (0, .ref (lm 0)), (1, .long y), (3, .long x)]) hx hb d_M_earlier_55 hl (by decide) rfl (fun ls hl => ?_)
        refine lv_aload_n hx hb d_M_earlier_57 rfl (lv_at hl 2 rfl) ?_
        refine mg 12 (by decide) hx hb ht hown hw gw_809 rfl rfl d_M_earlier_58 ?_
        refine lv_aload_n hx hb d_M_earlier_61 rfl (lv_at hl 2 rfl) ?_
        refine mg 27 (by decide) hx hb ht hown hw gw_824 rfl rfl d_M_earlier_62 ?_
        rw [show m_nw (mS_tr m (bdT (m_tr m) v9)) = nI o from hnw]
        refine ma_american (j := o) rfl (by have := hR.2.2.2; omega) hx hb hw d_M_earlier_65 ?_
        refine lv_if_eq (tgt := 82) hx hb d_M_earlier_66 (by decide) (fun c12 => ?_) (fun c12 => ?_)
        · refine lv_lload hx hb d_M_earlier_82 (lv_at hl 1 rfl) ?_
          exact kt_l hx hb hr hlocks hw.1 d_M_earlier_84 (by exact ⟨by unfold oHeld; rw [if_neg (by rw [hO5]; decide), if_neg (by rw [(bI_eq _).mp c12]; decide)], hw.2.1, hw.2.2⟩) (by first | decide | (dsimp only; omega)) (by first | decide | (dsimp only; omega))
        · refine lv_lload hx hb d_M_earlier_69 (lv_at hl 0 rfl) ?_
          refine lv_lload hx hb d_M_earlier_71 (lv_at hl 1 rfl) ?_
          refine W.lcmp hx hb d_M_earlier_73 ?_
          refine lv_if_le (tgt := 82) hx hb d_M_earlier_74 (by decide) (fun c13 => ?_) (fun c13 => ?_)
          · have hle : oPI s o x ≤ v9 := (lg_cmp_le _ _).mp c13
            refine lv_lload hx hb d_M_earlier_82 (lv_at hl 1 rfl) ?_
            exact kt_l hx hb hr hlocks hw.1 d_M_earlier_84 (by exact ⟨by unfold oHeld; rw [if_neg (by rw [hO5]; decide), if_pos ((bI_ne _).mp c12)]; unfold mxL; split; rfl; rename_i h; exact l_inj (by rw [le_l] at hle; rw [lt_l] at h; omega), hw.2.1, hw.2.2⟩) (by first | decide | (dsimp only; omega)) (by first | decide | (dsimp only; omega))
          · have hgt : v9 < oPI s o x := (lg_cmp_gt _ _).mp (by rw [← i_nle]; exact c13)
            refine lv_lload hx hb d_M_earlier_77 (lv_at hl 0 rfl) ?_
            refine lv_goto (tgt := 84) hx hb d_M_earlier_79 (by decide) ?_
            exact kt_l hx hb hr hlocks hw.1 d_M_earlier_84 (by exact ⟨by unfold oHeld; rw [if_neg (by rw [hO5]; decide), if_pos ((bI_ne _).mp c12)]; unfold mxL; rw [if_neg (fun h => absurd (lt_l.mp h) (by rw [lt_l] at hgt; omega))], hw.2.1, hw.2.2⟩) (by first | decide | (dsimp only; omega)) (by first | decide | (dsimp only; omega))
      · have hO5 : oOut s o (x) = true := by rw [oOut_s hq3]; exact decide_eq_true (fun h => c10 ((lg_cmp_lt _ _).mpr h))
        refine lv_lconst (v := 0) hx hb d_M_earlier_48 (by decide) ?_
        exact kt_l hx hb hr hlocks hw.1 d_M_earlier_49 (by exact ⟨by unfold oHeld; rw [if_pos hO5], hw.2.1, hw.2.2⟩) (by first | decide | (dsimp only; omega)) (by first | decide | (dsimp only; omega))
set_option maxHeartbeats 4000000 in
set_option maxRecDepth 100000 in
theorem c_M_lattice (l : Launch) (G : GT) (A : Nat → Prop) (lm : Nat → Nat) (s : QS) (m : MS) (u : WT) (hR : rM G lm s m u) (hok : okQ s) (o : Nat) (ho : o < q_n s) (hnw : m_nw m = nI o) (hkn : ∀ k, q_pt s o 3 = some k → m_kn m = q_am s k) (D : Int64) (hD : 0 ≤ D.toInt ∧ D.toInt ≤ 1024) (hs0 : m_sp m = oS s o) (hm0 : m_mv m = oM s o) (hd0 : m_dc m = D) (hbn : bnO s o) (htr : m_tr m = 0) (N : Nat) (hN1 : 1 ≤ N) (hN : N ≤ 20) (hsp : q_sp s o = nI N) : Kt l y_M_lattice b_M_lattice 6 (some .long) 2 52 0 0 0 0 0 0 G A u [.ref (lm 0)] (KQ G A (Rl (fun r u' => ∃ g t, rM G lm s (mS_tr (mS_ro m g) t) u' ∧ fM lm u u' ∧ ((t = 0 ∧ latV s o D N (m_ro m) = some r) ∨ (t = 2 ∧ latV s o D N (m_ro m) = none))))) (NX) := by
  refine k_of (by decide) (Nat.le_of_ble_eq_true rfl) (fun p e st mt below meth c ls hx hb hr hlocks hml htab hname hown ht hw hl => ?_)
  have hl : lv_has ls 6 [(0, .ref (lm 0))] := hl
  have hw : Mk G A lm s m u u st st.heap [] := ⟨hw, hR, fM.rf⟩
  refine lv_aload_n hx hb d_M_lattice_0 rfl (lv_at hl 0 rfl) ?_
  refine mg 10 (by decide) hx hb ht hown hw gw_807 rfl rfl d_M_lattice_1 ?_
  refine lv_aload_n hx hb d_M_lattice_4 rfl (lv_at hl 0 rfl) ?_
  refine mg 27 (by decide) hx hb ht hown hw gw_824 rfl rfl d_M_lattice_5 ?_
  rw [show m_nw m = nI o from hnw]
  refine ma_steps (j := o) rfl (by have := hR.2.2.2; omega) hx hb hw d_M_lattice_8 ?_
  rw [hsp]
  refine lv_istore_n (lv' := [(1, .int (nI N)), (0, .ref (lm 0))]) hx hb d_M_lattice_9 rfl hl (by decide) rfl (fun ls hl => ?_)
  refine lv_aload_n hx hb d_M_lattice_10 rfl (lv_at hl 1 rfl) ?_
  refine mg 11 (by decide) hx hb ht hown hw gw_808 rfl rfl d_M_lattice_11 ?_
  refine lv_aload_n hx hb d_M_lattice_14 rfl (lv_at hl 1 rfl) ?_
  refine mg 27 (by decide) hx hb ht hown hw gw_824 rfl rfl d_M_lattice_15 ?_
  rw [show m_nw m = nI o from hnw]
  refine ma_chance (j := o) rfl (by have := hR.2.2.2; omega) hx hb hw d_M_lattice_18 ?_
  refine lv_i2l hx hb d_M_lattice_19 rfl ?_
  refine lv_lstore_n (lv' := [(2, .long ((q_ch s o).toInt64)), (1, .int (nI N)), (0, .ref (lm 0))]) hx hb d_M_lattice_20 rfl hl (by decide) rfl (fun ls hl => ?_)
  refine lv_iconst (v := 0) hx hb d_M_lattice_21 (by decide) ?_
  refine lv_istore (lv' := [(4, .int (0 : Int32)), (2, .long ((q_ch s o).toInt64)), (1, .int (nI N)), (0, .ref (lm 0))]) hx hb d_M_lattice_22 hl (by decide) rfl (fun ls hl => ?_)
  refine k_cntH (N + 1) (fun k ls H locs => lv_has ls 6 [(0, .ref (lm 0)), (1, .int (nI N)), (2, .long ((q_ch s o).toInt64)), (4, .int (nI k))] ∧ ∃ u9, Mk G A lm s (mS_ro m (lat0 s o (m_ro m) k)) u u9 st H locs) (k0 := 0) (Nat.zero_le _) (⟨lv_sub hl [3, 2, 1, 0] rfl, u, hw⟩) (fun ls H locs hJ => ?_) (fun k ls H locs hk hJ ih => ?_)
  · obtain ⟨hl, hw⟩ := hJ
    obtain ⟨u9, hw⟩ := hw
    refine lv_iload hx hb d_M_lattice_24 (lv_at hl 3 rfl) ?_
    refine lv_iload_n hx hb d_M_lattice_26 rfl (lv_at hl 1 rfl) ?_
    refine lv_icmp_gt (tgt := 64) hx hb d_M_lattice_27 (by decide) (fun c1 => ?_) (fun c1 => ?_)
    · refine lv_iload_n hx hb d_M_lattice_64 rfl (lv_at hl 1 rfl) ?_
      refine lv_iconst (v := 1) hx hb d_M_lattice_65 (by decide) ?_
      refine lv_isub hx hb d_M_lattice_66 ?_
      rw [show nI N - 1 = nI (N - 0) + (-1) from Int32.sub_eq_add_neg _ _]
      refine lv_istore (lv' := [(4, .int (nI (N - 0) + (-1))), (0, .ref (lm 0)), (1, .int (nI N)), (2, .long ((q_ch s o).toInt64))]) hx hb d_M_lattice_67 hl (by decide) rfl (fun ls hl => ?_)
      refine k_cntH (N) (fun ti ls H locs => ∃ (g9 : Nat → Int64) (t9 : Int32), lv_has ls 6 [(0, .ref (lm 0)), (1, .int (nI N)), (2, .long ((q_ch s o).toInt64)), (4, .int (nI (N - ti) + (-1)))] ∧ Lst N (lts s o D N (lat0 s o (m_ro m) (N + 1)) ti) t9 g9 ∧ ∃ u9, Mk G A lm s (mS_tr (mS_ro m g9) t9) u u9 st H locs) (k0 := 0) (Nat.zero_le _) (⟨(lat0 s o (m_ro m) (N + 1)), 0, lv_sub hl [1, 2, 3, 0] rfl, ⟨Or.inl ⟨rfl, rfl, fun j hj => lat0_b hbn hN hsp (N + 1) (Nat.le_refl _) j (by omega)⟩, u9, (show Mk G A lm s (mS_tr (mS_ro m (lat0 s o (m_ro m) (N + 1))) 0) u u9 st H locs from htr ▸ hw)⟩⟩) (fun ls H locs hJ => ?_) (fun ti ls H locs hti hJ ih2 => ?_)
      · obtain ⟨g9, t9, hl, hw⟩ := hJ
        obtain ⟨hL9, u9, hw⟩ := hw
        refine lv_iload hx hb d_M_lattice_69 (lv_at hl 3 rfl) ?_
        refine lv_if_lt (tgt := 150) hx hb d_M_lattice_71 (by decide) (fun c2 => ?_) (fun c2 => ?_)
        · refine lv_aload_n hx hb d_M_lattice_150 rfl (lv_at hl 0 rfl) ?_
          refine mg 19 (by decide) hx hb ht hown hw gw_816 rfl rfl d_M_lattice_151 ?_
          refine lv_iconst (v := 0) hx hb d_M_lattice_154 (by decide) ?_
          refine ma_row (j := 0) rfl (by decide) hx hb hw d_M_lattice_155 ?_
          exact kt_l hx hb hr hlocks hw.1 d_M_lattice_156 (by exact ⟨g9, t9, hw.2.1, hw.2.2, hL9.elim (fun h => Or.inl ⟨h.1, by unfold latV; rw [h.2.1]; rfl⟩) (fun h => Or.inr ⟨h.1, by unfold latV; rw [h.2]; rfl⟩)⟩) (by first | decide | (dsimp only; omega)) (by first | decide | (dsimp only; omega))
        · exact absurd (show nI (N - N) + (-1) < 0 by rw [Nat.sub_self]; decide) c2
      · obtain ⟨g9, t9, hl, hw⟩ := hJ
        obtain ⟨hL9, u9, hw⟩ := hw
        obtain ⟨T, hT⟩ : ∃ T, N - ti = T + 1 := ⟨N - ti - 1, by omega⟩
        have hT2 : N - 1 - ti = T := by omega
        have hT3 : N - (ti + 1) = T := by omega
        rw [hT, nI_dn] at hl
        refine lv_iload hx hb d_M_lattice_69 (lv_at hl 3 rfl) ?_
        refine lv_if_lt (tgt := 150) hx hb d_M_lattice_71 (by decide) (fun c2 => ?_) (fun c2 => ?_)
        · exact absurd c2 (nI_pos (by omega))
        · refine lv_iconst (v := 0) hx hb d_M_lattice_74 (by decide) ?_
          refine lv_istore (lv' := [(5, .int (0 : Int32)), (0, .ref (lm 0)), (1, .int (nI N)), (2, .long ((q_ch s o).toInt64)), (4, .int (nI T))]) hx hb d_M_lattice_75 hl (by decide) rfl (fun ls hl => ?_)
          refine k_cntH (T + 1) (fun tk ls H locs => ∃ (g8 : Nat → Int64) (t8 : Int32), lv_has ls 6 [(0, .ref (lm 0)), (1, .int (nI N)), (2, .long ((q_ch s o).toInt64)), (4, .int (nI T)), (5, .int (nI tk))] ∧ Lst N (ltI s o D N (lat0 s o (m_ro m) (N + 1)) ti tk) t8 g8 ∧ ∃ u9, Mk G A lm s (mS_tr (mS_ro m g8) t8) u u9 st H locs) (k0 := 0) (Nat.zero_le _) (⟨g9, t9, lv_sub hl [1, 2, 3, 4, 0] rfl, ⟨by rw [ltI_0]; exact hL9, u9, hw⟩⟩) (fun ls H locs hJ => ?_) (fun tk ls H locs htk hJ ih3 => ?_)
          · obtain ⟨g8, t8, hl, hw⟩ := hJ
            obtain ⟨hL8, u9, hw⟩ := hw
            refine lv_iload hx hb d_M_lattice_77 (lv_at hl 4 rfl) ?_
            refine lv_iload hx hb d_M_lattice_79 (lv_at hl 3 rfl) ?_
            refine lv_icmp_gt (tgt := 144) hx hb d_M_lattice_81 (by decide) (fun c3 => ?_) (fun c3 => ?_)
            · obtain ⟨i1, ei1⟩ : ∃ y : Int32, y = (nI T) + (-1) := ⟨_, rfl⟩
              refine lv_iinc (v := i1) (lv' := [(4, .int i1), (0, .ref (lm 0)), (1, .int (nI N)), (2, .long ((q_ch s o).toInt64)), (5, .int (nI (T + 1)))]) hx hb d_M_lattice_144 hl (k := 3) rfl (by rw [ei1]; rfl) (by decide) rfl (fun ls hl => ?_)
              rw [← hT3] at ei1; subst ei1
              refine lv_goto (tgt := 69) hx hb d_M_lattice_147 (by decide) ?_
              have e9 : ltI s o D N (lat0 s o (m_ro m) (N + 1)) ti (T + 1) = lts s o D N (lat0 s o (m_ro m) (N + 1)) (ti + 1) := by rw [← hT]; exact ltI_e
              rw [e9] at hL8
              exact ih2 ls H locs ⟨g8, t8, lv_sub hl [1, 2, 3, 0] rfl, hL8, u9, hw⟩
            · exact absurd (nI_lt (show T < T + 1 by omega) (by omega)) c3
          · obtain ⟨g8, t8, hl, hw⟩ := hJ
            obtain ⟨hL8, u9, hw⟩ := hw
            refine lv_iload hx hb d_M_lattice_77 (lv_at hl 4 rfl) ?_
            refine lv_iload hx hb d_M_lattice_79 (lv_at hl 3 rfl) ?_
            refine lv_icmp_gt (tgt := 144) hx hb d_M_lattice_81 (by decide) (fun c3 => ?_) (fun c3 => ?_)
            · exact absurd c3 (by rw [i_nlt]; exact nI_le (show tk ≤ T by omega) (by omega))
            · refine lv_aload_n hx hb d_M_lattice_84 rfl (lv_at hl 0 rfl) ?_
              refine mg 19 (by decide) hx hb ht hown hw gw_816 rfl rfl d_M_lattice_85 ?_
              refine lv_iload hx hb d_M_lattice_88 (lv_at hl 4 rfl) ?_
              refine lv_aload_n hx hb d_M_lattice_90 rfl (lv_at hl 0 rfl) ?_
              refine lv_lload_n hx hb d_M_lattice_91 rfl (lv_at hl 2 rfl) ?_
              refine lv_aload_n hx hb d_M_lattice_92 rfl (lv_at hl 0 rfl) ?_
              refine mg 19 (by decide) hx hb ht hown hw gw_816 rfl rfl d_M_lattice_93 ?_
              refine lv_iload hx hb d_M_lattice_96 (lv_at hl 4 rfl) ?_
              refine lv_iconst (v := 1) hx hb d_M_lattice_98 (by decide) ?_
              refine lv_iadd hx hb d_M_lattice_99 ?_
              refine ma_row (j := (tk + 1)) (nI_1 _) (by omega) hx hb hw d_M_lattice_100 ?_
              rw [show m_ro (mS_tr (mS_ro m g8) t8) (tk + 1) = g8 (tk + 1) from rfl]
              refine lv_lmul hx hb d_M_lattice_101 ?_
              refine lv_ldc2 (v := 16) hx hb hown (ht _ gw_996) d_M_lattice_102 ?_
              refine lv_lload_n hx hb d_M_lattice_105 rfl (lv_at hl 2 rfl) ?_
              refine lv_lsub hx hb d_M_lattice_106 ?_
              refine lv_aload_n hx hb d_M_lattice_107 rfl (lv_at hl 0 rfl) ?_
              refine mg 19 (by decide) hx hb ht hown hw gw_816 rfl rfl d_M_lattice_108 ?_
              refine lv_iload hx hb d_M_lattice_111 (lv_at hl 4 rfl) ?_
              refine ma_row (j := tk) rfl (by omega) hx hb hw d_M_lattice_113 ?_
              rw [show m_ro (mS_tr (mS_ro m g8) t8) tk = g8 tk from rfl]
              refine lv_lmul hx hb d_M_lattice_114 ?_
              refine lv_ladd hx hb d_M_lattice_115 ?_
              refine lv_aload_n hx hb d_M_lattice_116 rfl (lv_at hl 0 rfl) ?_
              refine mg 28 (by decide) hx hb ht hown hw gw_825 rfl rfl d_M_lattice_117 ?_
              rw [show m_sp (mS_tr (mS_ro m g8) t8) = oS s o from hs0]
              refine lv_iconst (v := 2) hx hb d_M_lattice_120 (by decide) ?_
              refine lv_iload hx hb d_M_lattice_121 (lv_at hl 4 rfl) ?_
              refine lv_imul hx hb d_M_lattice_123 ?_
              refine lv_iload hx hb d_M_lattice_124 (lv_at hl 3 rfl) ?_
              refine lv_isub hx hb d_M_lattice_126 ?_
              refine lv_i2l hx hb d_M_lattice_127 rfl ?_
              refine lv_aload_n hx hb d_M_lattice_128 rfl (lv_at hl 0 rfl) ?_
              refine mg 29 (by decide) hx hb ht hown hw gw_826 rfl rfl d_M_lattice_129 ?_
              rw [show m_mv (mS_tr (mS_ro m g8) t8) = oM s o from hm0]
              refine lv_lmul hx hb d_M_lattice_132 ?_
              refine lv_ladd hx hb d_M_lattice_133 ?_
              have hxb := oP_l hbn (k := tk) (T := T) (by omega) (by omega)
              refine kc_l (kr_V 2 (C := "QuoteGraphModel") (As := [.long ((q_ch s o).toInt64 * g8 (tk + 1) + (16 - (q_ch s o).toInt64) * g8 tk), .long (oP s o (2 * nI tk - nI T))]) (rest := [.int (nI tk), .ref (lm 20)]) (c_M_earlier l G A lm s (mS_tr (mS_ro m g8) t8) u9 hw.2.1 hok o ho hnw hkn D hD hs0 hm0 hd0 hbn ((q_ch s o).toInt64 * g8 (tk + 1) + (16 - (q_ch s o).toInt64) * g8 tk) (oP s o (2 * nI tk - nI T)) hxb) hx hb hml hown ht hw.1 gw_997 gw_999 gw_37 gw_47 gw_1000 ⟨⟨by decide, by decide⟩, by decide +kernel⟩ ⟨by first | decide | (dsimp only; omega), by first | decide | (dsimp only; omega)⟩ (kr_M hw) rfl hl.1 rfl (lv_room (Nat.le_of_ble_eq_true rfl)) d_M_lattice_134 ⟨by first | decide | (dsimp only; omega), by first | decide | (dsimp only; omega)⟩) hw.1 (fun _ _ _ _ _ _ h => h.elim) (fun r2 u2 H2 locs2 hp2 hw2 => ?_)
              obtain ⟨er2, g1, g2⟩ := hp2; subst er2
              obtain ⟨v9, ev9⟩ : ∃ v9, v9 = flr (D * ((q_ch s o).toInt64 * g8 (tk + 1) + (16 - (q_ch s o).toInt64) * g8 tk) + 8192) 16384 := ⟨_, rfl⟩
              rw [← ev9] at g1 ⊢
              have hw : Mk G A lm s (mS_tr (mS_ro m g8) (bdT t8 v9)) u u2 st H2 locs2 := ⟨hw2, g1, hw.2.2.tr g2⟩
              refine mp_row (j := tk) (oHeld s o (oP s o (2 * nI tk - nI T)) v9) rfl (by omega) hx hb hw d_M_lattice_137 (fun H3 locs3 u3 hw => ?_)
              obtain ⟨i4, ei4⟩ : ∃ y : Int32, y = (nI tk) + 1 := ⟨_, rfl⟩
              refine lv_iinc (v := i4) (lv' := [(5, .int i4), (0, .ref (lm 0)), (1, .int (nI N)), (2, .long ((q_ch s o).toInt64)), (4, .int (nI T))]) hx hb d_M_lattice_138 hl (k := 4) rfl (by rw [ei4]; rfl) (by decide) rfl (fun ls hl => ?_)
              rw [nI_1] at ei4; subst ei4
              refine lv_goto (tgt := 77) hx hb d_M_lattice_141 (by decide) ?_
              have hL7 := hL8.lat hbn hD (k := tk) (by omega) hxb ev9
              have hL6 : Lst N (ltI s o D N (lat0 s o (m_ro m) (N + 1)) ti (tk + 1)) (bdT t8 v9) (vp_updL g8 tk (oHeld s o (oP s o (2 * nI tk - nI T)) v9)) := by rw [ltI_s, hT2]; exact hL7
              exact ih3 ls H3 locs3 ⟨_, _, lv_sub hl [1, 2, 3, 4, 0] rfl, hL6, u3, hw⟩
    · exact absurd (nI_lt (show N < N + 1 by omega) (by omega)) c1
  · obtain ⟨hl, hw⟩ := hJ
    obtain ⟨u9, hw⟩ := hw
    refine lv_iload hx hb d_M_lattice_24 (lv_at hl 3 rfl) ?_
    refine lv_iload_n hx hb d_M_lattice_26 rfl (lv_at hl 1 rfl) ?_
    refine lv_icmp_gt (tgt := 64) hx hb d_M_lattice_27 (by decide) (fun c1 => ?_) (fun c1 => ?_)
    · exact absurd c1 (by rw [i_nlt]; exact nI_le (show k ≤ N by omega) (by omega))
    · refine lv_aload_n hx hb d_M_lattice_30 rfl (lv_at hl 0 rfl) ?_
      refine mg 19 (by decide) hx hb ht hown hw gw_816 rfl rfl d_M_lattice_31 ?_
      refine lv_iload hx hb d_M_lattice_34 (lv_at hl 3 rfl) ?_
      refine lv_aload_n hx hb d_M_lattice_36 rfl (lv_at hl 0 rfl) ?_
      refine lv_aload_n hx hb d_M_lattice_37 rfl (lv_at hl 0 rfl) ?_
      refine mg 28 (by decide) hx hb ht hown hw gw_825 rfl rfl d_M_lattice_38 ?_
      rw [show m_sp (mS_ro m (lat0 s o (m_ro m) k)) = oS s o from hs0]
      refine lv_iconst (v := 2) hx hb d_M_lattice_41 (by decide) ?_
      refine lv_iload hx hb d_M_lattice_42 (lv_at hl 3 rfl) ?_
      refine lv_imul hx hb d_M_lattice_44 ?_
      refine lv_iload_n hx hb d_M_lattice_45 rfl (lv_at hl 1 rfl) ?_
      refine lv_isub hx hb d_M_lattice_46 ?_
      refine lv_i2l hx hb d_M_lattice_47 rfl ?_
      refine lv_aload_n hx hb d_M_lattice_48 rfl (lv_at hl 0 rfl) ?_
      refine mg 29 (by decide) hx hb ht hown hw gw_826 rfl rfl d_M_lattice_49 ?_
      rw [show m_mv (mS_ro m (lat0 s o (m_ro m) k)) = oM s o from hm0]
      refine lv_lmul hx hb d_M_lattice_52 ?_
      refine lv_ladd hx hb d_M_lattice_53 ?_
      have hxb := oP_l hbn (k := k) (T := N) (by omega) (by omega)
      refine kc_l (kr_V 1 (C := "QuoteGraphModel") (As := [.long (oP s o (2 * nI k - nI N))]) (rest := [.int (nI k), .ref (lm 20)]) (c_M_payoff l G A lm s (mS_ro m (lat0 s o (m_ro m) k)) u9 hw.2.1 hok o ho hnw hkn (oP s o (2 * nI k - nI N)) (by omega) (by have := hbn.2.2.1; omega)) hx hb hml hown ht hw.1 gw_991 gw_993 gw_36 gw_47 gw_994 ⟨⟨by decide, by decide⟩, by decide +kernel⟩ ⟨by first | decide | (dsimp only; omega), by first | decide | (dsimp only; omega)⟩ (kr_M hw) rfl hl.1 rfl (lv_room (Nat.le_of_ble_eq_true rfl)) d_M_lattice_54 ⟨by first | decide | (dsimp only; omega), by first | decide | (dsimp only; omega)⟩) hw.1 (fun _ _ _ _ _ _ h => h.elim) (fun r5 u5 H5 locs5 hp5 hw5 => ?_)
      obtain ⟨er5, hq5⟩ := hp5
      replace hq5 := hq5.symm; subst hq5
      subst er5
      have hw : Mk G A lm s (mS_ro m (lat0 s o (m_ro m) k)) u u9 st H5 locs5 := ⟨hw5, hw.2⟩
      refine mp_row (j := k) (oPay s o (oP s o (2 * nI k - nI N))) rfl (by omega) hx hb hw d_M_lattice_57 (fun H6 locs6 u6 hw => ?_)
      have hw : Mk G A lm s (mS_ro m (lat0 s o (m_ro m) (k + 1))) u u6 st H6 locs6 := by have e9 : (lat0 s o (m_ro m) (k + 1)) = vp_updL (lat0 s o (m_ro m) k) k (oPay s o (oP s o (2 * nI k - nI N))) := (by rw [← hsp]; rfl); rw [e9]; exact hw
      obtain ⟨i7, ei7⟩ : ∃ y : Int32, y = (nI k) + 1 := ⟨_, rfl⟩
      refine lv_iinc (v := i7) (lv' := [(4, .int i7), (0, .ref (lm 0)), (1, .int (nI N)), (2, .long ((q_ch s o).toInt64))]) hx hb d_M_lattice_58 hl (k := 3) rfl (by rw [ei7]; rfl) (by decide) rfl (fun ls hl => ?_)
      rw [nI_1] at ei7; subst ei7
      refine lv_goto (tgt := 24) hx hb d_M_lattice_61 (by decide) ?_
      exact ih ls H6 locs6 ⟨lv_sub hl [1, 2, 3, 0] rfl, u6, hw⟩

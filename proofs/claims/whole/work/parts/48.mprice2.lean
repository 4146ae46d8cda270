/-! 48.mprice2: contracts of net, paths -/
theorem nI_pr (n : Nat) : nI (n + 1) - 1 = nI n := by rw [Int32.sub_eq_add_neg]; exact nI_dn n
theorem two_nI (n : Nat) : (2 : Int32) * nI n = nI (2 * n) := pk_mul 2 n
theorem shl1 : ∀ z, z < 7 → (1 : Int32) <<< (nI z &&& 31) = nI (2 ^ z) := by decide
theorem shl2 : ∀ z, z < 7 → ¬ (2 : Int64) <<< ((nI z).toInt64 &&& 63) = 0 := by decide
theorem p2_64 {z : Nat} (h : z < 7) : 2 ^ z ≤ 64 := by
  have : 2 ^ z ≤ 2 ^ 6 := Nat.pow_le_pow_right (by omega) (by omega)
  exact this
theorem Nst_0 {s : QS} {o M : Nat} {D : Int64} {f0 g : Nat → Int64} {i : Nat} {t : Int32} {h : Nat → Int64} (hL : Lst (2 * M) (nts s o D M f0 i) t g) : Nst M g 0 (ntI s o D M f0 i 0) t h ∧ (nts s o D M f0 i = some g ∨ t = 2) := by
  rw [ntI_0]
  rcases hL with ⟨h1, h2, h3⟩ | ⟨h1, h2⟩
  · exact ⟨Or.inl ⟨h1, h3, g, h2, fun j h1 h2 => absurd h1 (by omega), h3⟩, Or.inl h2⟩
  · exact ⟨Or.inr ⟨h1, h2⟩, Or.inr h1⟩
theorem bdT_or {t : Int32} {v : Int64} {P : Prop} (h : P ∨ t = 2) : P ∨ bdT t v = 2 := h.imp id (fun e => by rw [e]; exact bdT_2 v)
theorem pthB_o {s : QS} {o : Nat} {d : Int64} : ∀ {N : Nat}, pthB s o d N = false → oOut s o (pthP s o d N) = false
  | 0, h => h
  | N + 1, h => by
    have h : (pthB s o d N || oOut s o (pthP s o d (N + 1))) = false := h
    rw [Bool.or_eq_false_iff] at h; exact h.2
theorem ch8 {c : Int32} : c.toInt64 ≤ 8 ↔ c ≤ 8 := by
  rw [le_l, Int32.le_iff_toInt_le, Int32.toInt_toInt64]; rfl
set_option maxHeartbeats 4000000 in
set_option maxRecDepth 100000 in
theorem c_M_net (l : Launch) (G : GT) (A : Nat → Prop) (lm : Nat → Nat) (s : QS) (m : MS) (u : WT) (hR : rM G lm s m u) (hok : okQ s) (o : Nat) (ho : o < q_n s) (hnw : m_nw m = nI o) (hkn : ∀ k, q_pt s o 3 = some k → m_kn m = q_am s k) (D : Int64) (hD : 0 ≤ D.toInt ∧ D.toInt ≤ 1024) (hs0 : m_sp m = oS s o) (hm0 : m_mv m = oM s o) (hd0 : m_dc m = D) (hbn : bnO s o) (htr : m_tr m = 0) (M N : Nat) (hM1 : 1 ≤ M) (hM : M ≤ 20) (hN : N ≤ 20) (hsz : q_sz s o = nI M) (hsp : q_sp s o = nI N) : Kt l y_M_net b_M_net 6 (some .long) 2 52 0 0 0 0 0 0 G A u [.ref (lm 0)] (KQ G A (Rl (fun r u' => ∃ g h t, rM G lm s (mS_tr (mS_fe (mS_ro m g) h) t) u' ∧ fM lm u u' ∧ ((¬ q_ch s o ≤ 8 ∧ t = 2) ∨ (q_ch s o ≤ 8 ∧ ((t = 0 ∧ netV s o D M N (m_ro m) = some r) ∨ (t = 2 ∧ netV s o D M N (m_ro m) = none))))))) (NX) := by
  refine k_of (by decide) (Nat.le_of_ble_eq_true rfl) (fun p e st mt below meth c ls hx hb hr hlocks hml htab hname hown ht hw hl => ?_)
  have hl : lv_has ls 6 [(0, .ref (lm 0))] := hl
  have hw : Mk G A lm s m u u st st.heap [] := ⟨hw, hR, fM.rf⟩
  refine lv_aload_n hx hb d_M_net_0 rfl (lv_at hl 0 rfl) ?_
  refine mg 14 (by decide) hx hb ht hown hw gw_811 rfl rfl d_M_net_1 ?_
  refine lv_aload_n hx hb d_M_net_4 rfl (lv_at hl 0 rfl) ?_
  refine mg 27 (by decide) hx hb ht hown hw gw_824 rfl rfl d_M_net_5 ?_
  rw [show m_nw m = nI o from hnw]
  refine ma_size (j := o) rfl (by have := hR.2.2.2; omega) hx hb hw d_M_net_8 ?_
  rw [hsz]
  refine lv_istore_n (lv' := [(1, .int (nI M)), (0, .ref (lm 0))]) hx hb d_M_net_9 rfl hl (by decide) rfl (fun ls hl => ?_)
  refine lv_aload_n hx hb d_M_net_10 rfl (lv_at hl 1 rfl) ?_
  refine mg 11 (by decide) hx hb ht hown hw gw_808 rfl rfl d_M_net_11 ?_
  refine lv_aload_n hx hb d_M_net_14 rfl (lv_at hl 1 rfl) ?_
  refine mg 27 (by decide) hx hb ht hown hw gw_824 rfl rfl d_M_net_15 ?_
  rw [show m_nw m = nI o from hnw]
  refine ma_chance (j := o) rfl (by have := hR.2.2.2; omega) hx hb hw d_M_net_18 ?_
  refine lv_i2l hx hb d_M_net_19 rfl ?_
  refine lv_lstore_n (lv' := [(2, .long ((q_ch s o).toInt64)), (1, .int (nI M)), (0, .ref (lm 0))]) hx hb d_M_net_20 rfl hl (by decide) rfl (fun ls hl => ?_)
  refine lv_lload_n hx hb d_M_net_21 rfl (lv_at hl 0 rfl) ?_
  refine lv_ldc2 (v := 8) hx hb hown (ht _ gw_977) d_M_net_22 ?_
  refine W.lcmp hx hb d_M_net_25 ?_
  refine lv_if_le (tgt := 36) hx hb d_M_net_26 (by decide) (fun c1 => ?_) (fun c1 => ?_)
  · have hc8 : q_ch s o ≤ 8 := ch8.mp ((lg_cmp_le _ _).mp c1)
    refine lv_iconst (v := 0) hx hb d_M_net_36 (by decide) ?_
    refine lv_istore (lv' := [(4, .int (0 : Int32)), (2, .long ((q_ch s o).toInt64)), (1, .int (nI M)), (0, .ref (lm 0))]) hx hb d_M_net_37 hl (by decide) rfl (fun ls hl => ?_)
    refine k_cntH (2 * M + 1) (fun k ls H locs => lv_has ls 6 [(0, .ref (lm 0)), (1, .int (nI M)), (2, .long ((q_ch s o).toInt64)), (4, .int (nI k))] ∧ ∃ u9, Mk G A lm s (mS_ro m (net0 s o (m_ro m) k)) u u9 st H locs) (k0 := 0) (Nat.zero_le _) (⟨lv_sub hl [3, 2, 1, 0] rfl, u, hw⟩) (fun ls H locs hJ => ?_) (fun k ls H locs hk hJ ih => ?_)
    · obtain ⟨hl, hw⟩ := hJ
      obtain ⟨u9, hw⟩ := hw
      refine lv_iload hx hb d_M_net_39 (lv_at hl 3 rfl) ?_
      refine lv_iconst (v := 2) hx hb d_M_net_41 (by decide) ?_
      refine lv_iload_n hx hb d_M_net_42 rfl (lv_at hl 1 rfl) ?_
      refine lv_imul hx hb d_M_net_43 ?_
      rw [two_nI]
      refine lv_icmp_gt (tgt := 79) hx hb d_M_net_44 (by decide) (fun c1 => ?_) (fun c1 => ?_)
      · refine lv_iconst (v := 0) hx hb d_M_net_79 (by decide) ?_
        refine lv_istore (lv' := [(4, .int (0 : Int32)), (0, .ref (lm 0)), (1, .int (nI M)), (2, .long ((q_ch s o).toInt64))]) hx hb d_M_net_80 hl (by decide) rfl (fun ls hl => ?_)
        refine k_cntH (N) (fun ti ls H locs => ∃ (g9 h9 : Nat → Int64) (t9 : Int32), lv_has ls 6 [(0, .ref (lm 0)), (1, .int (nI M)), (2, .long ((q_ch s o).toInt64)), (4, .int (nI ti))] ∧ Lst (2 * M) (nts s o D M (net0 s o (m_ro m) (2 * M + 1)) ti) t9 g9 ∧ ∃ u9, Mk G A lm s (mS_tr (mS_fe (mS_ro m g9) h9) t9) u u9 st H locs) (k0 := 0) (Nat.zero_le _) (⟨(net0 s o (m_ro m) (2 * M + 1)), m_fe m, 0, lv_sub hl [1, 2, 3, 0] rfl, ⟨Or.inl ⟨rfl, rfl, fun j hj => net0_b hbn hM hsz (2 * M + 1) (Nat.le_refl _) j (by omega)⟩, u9, (show Mk G A lm s (mS_tr (mS_fe (mS_ro m (net0 s o (m_ro m) (2 * M + 1))) (m_fe m)) 0) u u9 st H locs from htr ▸ hw)⟩⟩) (fun ls H locs hJ => ?_) (fun ti ls H locs hti hJ ih2 => ?_)
        · obtain ⟨g9, h9, t9, hl, hw⟩ := hJ
          obtain ⟨hL9, u9, hw⟩ := hw
          refine lv_iload hx hb d_M_net_82 (lv_at hl 3 rfl) ?_
          refine lv_aload_n hx hb d_M_net_84 rfl (lv_at hl 0 rfl) ?_
          refine mg 10 (by decide) hx hb ht hown hw gw_807 rfl rfl d_M_net_85 ?_
          refine lv_aload_n hx hb d_M_net_88 rfl (lv_at hl 0 rfl) ?_
          refine mg 27 (by decide) hx hb ht hown hw gw_824 rfl rfl d_M_net_89 ?_
          rw [show m_nw (mS_tr (mS_fe (mS_ro m g9) h9) t9) = nI o from hnw]
          refine ma_steps (j := o) rfl (by have := hR.2.2.2; omega) hx hb hw d_M_net_92 ?_
          rw [hsp]
          refine lv_icmp_ge (tgt := 221) hx hb d_M_net_93 (by decide) (fun c2 => ?_) (fun c2 => ?_)
          · refine lv_aload_n hx hb d_M_net_221 rfl (lv_at hl 0 rfl) ?_
            refine mg 19 (by decide) hx hb ht hown hw gw_816 rfl rfl d_M_net_222 ?_
            refine lv_iload_n hx hb d_M_net_225 rfl (lv_at hl 1 rfl) ?_
            refine ma_row (j := M) rfl (by omega) hx hb hw d_M_net_226 ?_
            exact kt_l hx hb hr hlocks hw.1 d_M_net_227 (by exact ⟨g9, h9, t9, hw.2.1, hw.2.2, Or.inr ⟨hc8, hL9.elim (fun h => Or.inl ⟨h.1, by unfold netV; rw [h.2.1]; rfl⟩) (fun h => Or.inr ⟨h.1, by unfold netV; rw [h.2]; rfl⟩)⟩⟩) (by first | decide | (dsimp only; omega)) (by first | decide | (dsimp only; omega))
          · exact absurd (nI_le (Nat.le_refl _) (by omega)) c2
        · obtain ⟨g9, h9, t9, hl, hw⟩ := hJ
          obtain ⟨hL9, u9, hw⟩ := hw
          refine lv_iload hx hb d_M_net_82 (lv_at hl 3 rfl) ?_
          refine lv_aload_n hx hb d_M_net_84 rfl (lv_at hl 0 rfl) ?_
          refine mg 10 (by decide) hx hb ht hown hw gw_807 rfl rfl d_M_net_85 ?_
          refine lv_aload_n hx hb d_M_net_88 rfl (lv_at hl 0 rfl) ?_
          refine mg 27 (by decide) hx hb ht hown hw gw_824 rfl rfl d_M_net_89 ?_
          rw [show m_nw (mS_tr (mS_fe (mS_ro m g9) h9) t9) = nI o from hnw]
          refine ma_steps (j := o) rfl (by have := hR.2.2.2; omega) hx hb hw d_M_net_92 ?_
          rw [hsp]
          refine lv_icmp_ge (tgt := 221) hx hb d_M_net_93 (by decide) (fun c2 => ?_) (fun c2 => ?_)
          · exact absurd c2 (nI_ge hti (by omega))
          · refine lv_iconst (v := 1) hx hb d_M_net_96 (by decide) ?_
            refine lv_istore (lv' := [(5, .int (1 : Int32)), (0, .ref (lm 0)), (1, .int (nI M)), (2, .long ((q_ch s o).toInt64)), (4, .int (nI ti))]) hx hb d_M_net_97 hl (by decide) rfl (fun ls hl => ?_)
            refine k_cntH (2 * M - 1) (fun tk ls H locs => ∃ (h8 : Nat → Int64) (t8 : Int32), lv_has ls 6 [(0, .ref (lm 0)), (1, .int (nI M)), (2, .long ((q_ch s o).toInt64)), (4, .int (nI ti)), (5, .int (nI (tk + 1)))] ∧ (Nst M g9 tk (ntI s o D M (net0 s o (m_ro m) (2 * M + 1)) ti tk) t8 h8 ∧ (nts s o D M (net0 s o (m_ro m) (2 * M + 1)) ti = some g9 ∨ t8 = 2)) ∧ ∃ u9, Mk G A lm s (mS_tr (mS_fe (mS_ro m g9) h8) t8) u u9 st H locs) (k0 := 0) (Nat.zero_le _) (⟨h9, t9, lv_sub hl [1, 2, 3, 4, 0] rfl, ⟨Nst_0 hL9, u9, hw⟩⟩) (fun ls H locs hJ => ?_) (fun tk ls H locs htk hJ ih3 => ?_)
            · obtain ⟨h8, t8, hl, hw⟩ := hJ
              obtain ⟨⟨hL8, hf8⟩, u9, hw⟩ := hw
              refine lv_iload hx hb d_M_net_99 (lv_at hl 4 rfl) ?_
              refine lv_iconst (v := 2) hx hb d_M_net_101 (by decide) ?_
              refine lv_iload_n hx hb d_M_net_102 rfl (lv_at hl 1 rfl) ?_
              refine lv_imul hx hb d_M_net_103 ?_
              rw [two_nI]
              refine lv_icmp_ge (tgt := 184) hx hb d_M_net_104 (by decide) (fun c3 => ?_) (fun c3 => ?_)
              · refine lv_iconst (v := 1) hx hb d_M_net_184 (by decide) ?_
                refine lv_istore (lv' := [(5, .int (1 : Int32)), (0, .ref (lm 0)), (1, .int (nI M)), (2, .long ((q_ch s o).toInt64)), (4, .int (nI ti))]) hx hb d_M_net_185 hl (by decide) rfl (fun ls hl => ?_)
                refine k_cntH (2 * M - 1) (fun tk ls H locs => lv_has ls 6 [(0, .ref (lm 0)), (1, .int (nI M)), (2, .long ((q_ch s o).toInt64)), (4, .int (nI ti)), (5, .int (nI (tk + 1)))] ∧ ∃ u9, Mk G A lm s (mS_tr (mS_fe (mS_ro m (cpyR g9 h8 tk)) h8) t8) u u9 st H locs) (k0 := 0) (Nat.zero_le _) (⟨lv_sub hl [1, 2, 3, 4, 0] rfl, u9, (by rw [cpyR_0]; exact hw)⟩) (fun ls H locs hJ => ?_) (fun tk ls H locs htk hJ ih4 => ?_)
                · obtain ⟨hl, hw⟩ := hJ
                  obtain ⟨u9, hw⟩ := hw
                  refine lv_iload hx hb d_M_net_187 (lv_at hl 4 rfl) ?_
                  refine lv_iconst (v := 2) hx hb d_M_net_189 (by decide) ?_
                  refine lv_iload_n hx hb d_M_net_190 rfl (lv_at hl 1 rfl) ?_
                  refine lv_imul hx hb d_M_net_191 ?_
                  rw [two_nI]
                  refine lv_icmp_ge (tgt := 215) hx hb d_M_net_192 (by decide) (fun c4 => ?_) (fun c4 => ?_)
                  · obtain ⟨i2, ei2⟩ : ∃ y : Int32, y = (nI ti) + 1 := ⟨_, rfl⟩
                    refine lv_iinc (v := i2) (lv' := [(4, .int i2), (0, .ref (lm 0)), (1, .int (nI M)), (2, .long ((q_ch s o).toInt64)), (5, .int (nI ((2 * M - 1) + 1)))]) hx hb d_M_net_215 hl (k := 3) rfl (by rw [ei2]; rfl) (by decide) rfl (fun ls hl => ?_)
                    rw [nI_1] at ei2; subst ei2
                    refine lv_goto (tgt := 82) hx hb d_M_net_218 (by decide) ?_
                    exact ih2 ls H locs ⟨_, _, _, lv_sub hl [1, 2, 3, 0] rfl, Nst.done hM1 hf8 hL8, u9, hw⟩
                  · exact absurd (nI_le (show 2 * M ≤ 2 * M - 1 + 1 by omega) (by omega)) c4
                · obtain ⟨hl, hw⟩ := hJ
                  obtain ⟨u9, hw⟩ := hw
                  refine lv_iload hx hb d_M_net_187 (lv_at hl 4 rfl) ?_
                  refine lv_iconst (v := 2) hx hb d_M_net_189 (by decide) ?_
                  refine lv_iload_n hx hb d_M_net_190 rfl (lv_at hl 1 rfl) ?_
                  refine lv_imul hx hb d_M_net_191 ?_
                  rw [two_nI]
                  refine lv_icmp_ge (tgt := 215) hx hb d_M_net_192 (by decide) (fun c4 => ?_) (fun c4 => ?_)
                  · exact absurd c4 (nI_ge (show tk + 1 < 2 * M by omega) (by omega))
                  · refine lv_aload_n hx hb d_M_net_195 rfl (lv_at hl 0 rfl) ?_
                    refine mg 19 (by decide) hx hb ht hown hw gw_816 rfl rfl d_M_net_196 ?_
                    refine lv_iload hx hb d_M_net_199 (lv_at hl 4 rfl) ?_
                    refine lv_aload_n hx hb d_M_net_201 rfl (lv_at hl 0 rfl) ?_
                    refine mg 20 (by decide) hx hb ht hown hw gw_817 rfl rfl d_M_net_202 ?_
                    refine lv_iload hx hb d_M_net_205 (lv_at hl 4 rfl) ?_
                    refine ma_fresh (j := (tk + 1)) rfl (by omega) hx hb hw d_M_net_207 ?_
                    rw [show m_fe (mS_tr (mS_fe (mS_ro m (cpyR g9 h8 tk)) h8) t8) (tk + 1) = h8 (tk + 1) from rfl]
                    refine mp_row (j := (tk + 1)) (h8 (tk + 1)) rfl (by omega) hx hb hw d_M_net_208 (fun H3 locs3 u3 hw => ?_)
                    have hw : Mk G A lm s (mS_tr (mS_fe (mS_ro m (cpyR g9 h8 (tk + 1))) h8) t8) u u3 st H3 locs3 := by rw [← cpyR_s]; exact hw
                    obtain ⟨i4, ei4⟩ : ∃ y : Int32, y = (nI (tk + 1)) + 1 := ⟨_, rfl⟩
                    refine lv_iinc (v := i4) (lv' := [(5, .int i4), (0, .ref (lm 0)), (1, .int (nI M)), (2, .long ((q_ch s o).toInt64)), (4, .int (nI ti))]) hx hb d_M_net_209 hl (k := 4) rfl (by rw [ei4]; rfl) (by decide) rfl (fun ls hl => ?_)
                    rw [nI_1] at ei4; subst ei4
                    refine lv_goto (tgt := 187) hx hb d_M_net_212 (by decide) ?_
                    exact ih4 ls H3 locs3 ⟨lv_sub hl [1, 2, 3, 4, 0] rfl, u3, hw⟩
              · exact absurd (nI_le (show 2 * M ≤ 2 * M - 1 + 1 by omega) (by omega)) c3
            · obtain ⟨h8, t8, hl, hw⟩ := hJ
              obtain ⟨⟨hL8, hf8⟩, u9, hw⟩ := hw
              refine lv_iload hx hb d_M_net_99 (lv_at hl 4 rfl) ?_
              refine lv_iconst (v := 2) hx hb d_M_net_101 (by decide) ?_
              refine lv_iload_n hx hb d_M_net_102 rfl (lv_at hl 1 rfl) ?_
              refine lv_imul hx hb d_M_net_103 ?_
              rw [two_nI]
              refine lv_icmp_ge (tgt := 184) hx hb d_M_net_104 (by decide) (fun c3 => ?_) (fun c3 => ?_)
              · exact absurd c3 (nI_ge (show tk + 1 < 2 * M by omega) (by omega))
              · refine lv_aload_n hx hb d_M_net_107 rfl (lv_at hl 0 rfl) ?_
                refine mg 20 (by decide) hx hb ht hown hw gw_817 rfl rfl d_M_net_108 ?_
                refine lv_iload hx hb d_M_net_111 (lv_at hl 4 rfl) ?_
                refine lv_aload_n hx hb d_M_net_113 rfl (lv_at hl 0 rfl) ?_
                refine lv_ldc2 (v := 16) hx hb hown (ht _ gw_996) d_M_net_114 ?_
                refine lv_aload_n hx hb d_M_net_117 rfl (lv_at hl 0 rfl) ?_
                refine mg 19 (by decide) hx hb ht hown hw gw_816 rfl rfl d_M_net_118 ?_
                refine lv_iload hx hb d_M_net_121 (lv_at hl 4 rfl) ?_
                refine ma_row (j := (tk + 1)) rfl (by omega) hx hb hw d_M_net_123 ?_
                rw [show m_ro (mS_tr (mS_fe (mS_ro m g9) h8) t8) (tk + 1) = g9 (tk + 1) from rfl]
                refine lv_lmul hx hb d_M_net_124 ?_
                refine lv_lload_n hx hb d_M_net_125 rfl (lv_at hl 2 rfl) ?_
                refine lv_aload_n hx hb d_M_net_126 rfl (lv_at hl 0 rfl) ?_
                refine mg 19 (by decide) hx hb ht hown hw gw_816 rfl rfl d_M_net_127 ?_
                refine lv_iload hx hb d_M_net_130 (lv_at hl 4 rfl) ?_
                refine lv_iconst (v := 1) hx hb d_M_net_132 (by decide) ?_
                refine lv_iadd hx hb d_M_net_133 ?_
                refine ma_row (j := (tk + 1 + 1)) (nI_1 _) (by omega) hx hb hw d_M_net_134 ?_
                rw [show m_ro (mS_tr (mS_fe (mS_ro m g9) h8) t8) (tk + 1 + 1) = g9 (tk + 2) from rfl]
                refine lv_ldc2 (v := 2) hx hb hown (ht _ gw_1017) d_M_net_135 ?_
                refine lv_aload_n hx hb d_M_net_138 rfl (lv_at hl 0 rfl) ?_
                refine mg 19 (by decide) hx hb ht hown hw gw_816 rfl rfl d_M_net_139 ?_
                refine lv_iload hx hb d_M_net_142 (lv_at hl 4 rfl) ?_
                refine ma_row (j := (tk + 1)) rfl (by omega) hx hb hw d_M_net_144 ?_
                rw [show m_ro (mS_tr (mS_fe (mS_ro m g9) h8) t8) (tk + 1) = g9 (tk + 1) from rfl]
                refine lv_lmul hx hb d_M_net_145 ?_
                refine lv_lsub hx hb d_M_net_146 ?_
                refine lv_aload_n hx hb d_M_net_147 rfl (lv_at hl 0 rfl) ?_
                refine mg 19 (by decide) hx hb ht hown hw gw_816 rfl rfl d_M_net_148 ?_
                refine lv_iload hx hb d_M_net_151 (lv_at hl 4 rfl) ?_
                refine lv_iconst (v := 1) hx hb d_M_net_153 (by decide) ?_
                refine lv_isub hx hb d_M_net_154 ?_
                refine ma_row (j := tk) (nI_pr _) (by omega) hx hb hw d_M_net_155 ?_
                rw [show m_ro (mS_tr (mS_fe (mS_ro m g9) h8) t8) (tk) = g9 (tk) from rfl]
                refine lv_ladd hx hb d_M_net_156 ?_
                refine lv_lmul hx hb d_M_net_157 ?_
                refine lv_ladd hx hb d_M_net_158 ?_
                refine lv_aload_n hx hb d_M_net_159 rfl (lv_at hl 0 rfl) ?_
                refine mg 28 (by decide) hx hb ht hown hw gw_825 rfl rfl d_M_net_160 ?_
                rw [show m_sp (mS_tr (mS_fe (mS_ro m g9) h8) t8) = oS s o from hs0]
                refine lv_iload hx hb d_M_net_163 (lv_at hl 4 rfl) ?_
                refine lv_iload_n hx hb d_M_net_165 rfl (lv_at hl 1 rfl) ?_
                refine lv_isub hx hb d_M_net_166 ?_
                refine lv_i2l hx hb d_M_net_167 rfl ?_
                refine lv_aload_n hx hb d_M_net_168 rfl (lv_at hl 0 rfl) ?_
                refine mg 29 (by decide) hx hb ht hown hw gw_826 rfl rfl d_M_net_169 ?_
                rw [show m_mv (mS_tr (mS_fe (mS_ro m g9) h8) t8) = oM s o from hm0]
                refine lv_lmul hx hb d_M_net_172 ?_
                refine lv_ladd hx hb d_M_net_173 ?_
                have hxb := oP_n hbn (k := tk + 1) (T := M) (by omega) (by omega)
                refine kc_l (kr_V 2 (C := "QuoteGraphModel") (As := [.long (16 * g9 (tk + 1) + (q_ch s o).toInt64 * (g9 (tk + 2) - 2 * g9 (tk + 1) + g9 tk)), .long (oP s o (nI (tk + 1) - nI M))]) (rest := [.int (nI (tk + 1)), .ref (lm 21)]) (c_M_earlier l G A lm s (mS_tr (mS_fe (mS_ro m g9) h8) t8) u9 hw.2.1 hok o ho hnw hkn D hD hs0 hm0 hd0 hbn (16 * g9 (tk + 1) + (q_ch s o).toInt64 * (g9 (tk + 2) - 2 * g9 (tk + 1) + g9 tk)) (oP s o (nI (tk + 1) - nI M)) hxb) hx hb hml hown ht hw.1 gw_997 gw_999 gw_37 gw_47 gw_1000 ⟨⟨by decide, by decide⟩, by decide +kernel⟩ ⟨by first | decide | (dsimp only; omega), by first | decide | (dsimp only; omega)⟩ (kr_M hw) rfl hl.1 rfl (lv_room (Nat.le_of_ble_eq_true rfl)) d_M_net_174 ⟨by first | decide | (dsimp only; omega), by first | decide | (dsimp only; omega)⟩) hw.1 (fun _ _ _ _ _ _ h => h.elim) (fun r5 u5 H5 locs5 hp5 hw5 => ?_)
                obtain ⟨er5, g1, g2⟩ := hp5; subst er5
                obtain ⟨v9, ev9⟩ : ∃ v9, v9 = flr (D * (16 * g9 (tk + 1) + (q_ch s o).toInt64 * (g9 (tk + 2) - 2 * g9 (tk + 1) + g9 tk)) + 8192) 16384 := ⟨_, rfl⟩
                rw [← ev9] at g1 ⊢
                have hw : Mk G A lm s (mS_tr (mS_fe (mS_ro m g9) h8) (bdT t8 v9)) u u5 st H5 locs5 := ⟨hw5, g1, hw.2.2.tr g2⟩
                refine mp_fresh (j := (tk + 1)) (oHeld s o (oP s o (nI (tk + 1) - nI M)) v9) rfl (by omega) hx hb hw d_M_net_177 (fun H6 locs6 u6 hw => ?_)
                obtain ⟨i7, ei7⟩ : ∃ y : Int32, y = (nI (tk + 1)) + 1 := ⟨_, rfl⟩
                refine lv_iinc (v := i7) (lv' := [(5, .int i7), (0, .ref (lm 0)), (1, .int (nI M)), (2, .long ((q_ch s o).toInt64)), (4, .int (nI ti))]) hx hb d_M_net_178 hl (k := 4) rfl (by rw [ei7]; rfl) (by decide) rfl (fun ls hl => ?_)
                rw [nI_1] at ei7; subst ei7
                refine lv_goto (tgt := 99) hx hb d_M_net_181 (by decide) ?_
                have hL7 := Nst.net hbn hD hf8 hL8 (by omega) (show oP s o (nI (tk + 1) - nI M) = oP s o (nI (tk + 1) - q_sz s o) by rw [hsz]) hxb ev9
                exact ih3 ls H6 locs6 ⟨_, _, lv_sub hl [1, 2, 3, 4, 0] rfl, ⟨hL7, bdT_or hf8⟩, u6, hw⟩
      · exact absurd (nI_lt (show 2 * M < 2 * M + 1 by omega) (by omega)) c1
    · obtain ⟨hl, hw⟩ := hJ
      obtain ⟨u9, hw⟩ := hw
      refine lv_iload hx hb d_M_net_39 (lv_at hl 3 rfl) ?_
      refine lv_iconst (v := 2) hx hb d_M_net_41 (by decide) ?_
      refine lv_iload_n hx hb d_M_net_42 rfl (lv_at hl 1 rfl) ?_
      refine lv_imul hx hb d_M_net_43 ?_
      rw [two_nI]
      refine lv_icmp_gt (tgt := 79) hx hb d_M_net_44 (by decide) (fun c1 => ?_) (fun c1 => ?_)
      · exact absurd c1 (by rw [i_nlt]; exact nI_le (show k ≤ 2 * M by omega) (by omega))
      · refine lv_aload_n hx hb d_M_net_47 rfl (lv_at hl 0 rfl) ?_
        refine mg 19 (by decide) hx hb ht hown hw gw_816 rfl rfl d_M_net_48 ?_
        refine lv_iload hx hb d_M_net_51 (lv_at hl 3 rfl) ?_
        refine lv_aload_n hx hb d_M_net_53 rfl (lv_at hl 0 rfl) ?_
        refine lv_aload_n hx hb d_M_net_54 rfl (lv_at hl 0 rfl) ?_
        refine mg 28 (by decide) hx hb ht hown hw gw_825 rfl rfl d_M_net_55 ?_
        rw [show m_sp (mS_ro m (net0 s o (m_ro m) k)) = oS s o from hs0]
        refine lv_iload hx hb d_M_net_58 (lv_at hl 3 rfl) ?_
        refine lv_iload_n hx hb d_M_net_60 rfl (lv_at hl 1 rfl) ?_
        refine lv_isub hx hb d_M_net_61 ?_
        refine lv_i2l hx hb d_M_net_62 rfl ?_
        refine lv_aload_n hx hb d_M_net_63 rfl (lv_at hl 0 rfl) ?_
        refine mg 29 (by decide) hx hb ht hown hw gw_826 rfl rfl d_M_net_64 ?_
        rw [show m_mv (mS_ro m (net0 s o (m_ro m) k)) = oM s o from hm0]
        refine lv_lmul hx hb d_M_net_67 ?_
        refine lv_ladd hx hb d_M_net_68 ?_
        have hxb := oP_n hbn (k := k) (T := M) (by omega) (by omega)
        refine kc_l (kr_V 1 (C := "QuoteGraphModel") (As := [.long (oP s o (nI k - nI M))]) (rest := [.int (nI k), .ref (lm 20)]) (c_M_payoff l G A lm s (mS_ro m (net0 s o (m_ro m) k)) u9 hw.2.1 hok o ho hnw hkn (oP s o (nI k - nI M)) (by omega) (by have := hbn.2.2.1; omega)) hx hb hml hown ht hw.1 gw_991 gw_993 gw_36 gw_47 gw_994 ⟨⟨by decide, by decide⟩, by decide +kernel⟩ ⟨by first | decide | (dsimp only; omega), by first | decide | (dsimp only; omega)⟩ (kr_M hw) rfl hl.1 rfl (lv_room (Nat.le_of_ble_eq_true rfl)) d_M_net_69 ⟨by first | decide | (dsimp only; omega), by first | decide | (dsimp only; omega)⟩) hw.1 (fun _ _ _ _ _ _ h => h.elim) (fun r8 u8 H8 locs8 hp8 hw8 => ?_)
        obtain ⟨er8, hq8⟩ := hp8
        replace hq8 := hq8.symm; subst hq8
        subst er8
        have hw : Mk G A lm s (mS_ro m (net0 s o (m_ro m) k)) u u9 st H8 locs8 := ⟨hw8, hw.2⟩
        refine mp_row (j := k) (oPay s o (oP s o (nI k - nI M))) rfl (by omega) hx hb hw d_M_net_72 (fun H9 locs9 u9 hw => ?_)
        have hw : Mk G A lm s (mS_ro m (net0 s o (m_ro m) (k + 1))) u u9 st H9 locs9 := by have e9 : (net0 s o (m_ro m) (k + 1)) = vp_updL (net0 s o (m_ro m) k) k (oPay s o (oP s o (nI k - nI M))) := (by rw [← hsz]; rfl); rw [e9]; exact hw
        obtain ⟨i10, ei10⟩ : ∃ y : Int32, y = (nI k) + 1 := ⟨_, rfl⟩
        refine lv_iinc (v := i10) (lv' := [(4, .int i10), (0, .ref (lm 0)), (1, .int (nI M)), (2, .long ((q_ch s o).toInt64))]) hx hb d_M_net_73 hl (k := 3) rfl (by rw [ei10]; rfl) (by decide) rfl (fun ls hl => ?_)
        rw [nI_1] at ei10; subst ei10
        refine lv_goto (tgt := 39) hx hb d_M_net_76 (by decide) ?_
        exact ih ls H9 locs9 ⟨lv_sub hl [1, 2, 3, 0] rfl, u9, hw⟩
  · refine lv_aload_n hx hb d_M_net_29 rfl (lv_at hl 2 rfl) ?_
    refine lv_iconst (v := 2) hx hb d_M_net_30 (by decide) ?_
    refine mp_trouble (2 : Int32) hx hb ht hown hw gw_823 d_M_net_31 (fun H11 locs11 u11 hw => ?_)
    refine lv_lconst (v := 0) hx hb d_M_net_34 (by decide) ?_
    exact kt_l hx hb hr hlocks hw.1 d_M_net_35 (by exact ⟨m_ro m, m_fe m, 2, hw.2.1, hw.2.2, Or.inl ⟨fun h => c1 ((lg_cmp_le _ _).mpr (ch8.mpr h)), rfl⟩⟩) (by first | decide | (dsimp only; omega)) (by first | decide | (dsimp only; omega))
set_option maxHeartbeats 4000000 in
set_option maxRecDepth 100000 in
theorem c_M_paths (l : Launch) (G : GT) (A : Nat → Prop) (lm : Nat → Nat) (s : QS) (m : MS) (u : WT) (hR : rM G lm s m u) (hok : okQ s) (o : Nat) (ho : o < q_n s) (hnw : m_nw m = nI o) (hkn : ∀ k, q_pt s o 3 = some k → m_kn m = q_am s k) (D : Int64) (hD : 0 ≤ D.toInt ∧ D.toInt ≤ 1024) (hs0 : m_sp m = oS s o) (hm0 : m_mv m = oM s o) (hd0 : m_dc m = D) (hbn : bnO s o) (htr : m_tr m = 0) (Z N : Nat) (hZ : Z < 7) (hN : N ≤ 20) (hsz : q_sz s o = nI Z) (hsp : q_sp s o = nI N) : Kt l y_M_paths b_M_paths 10 (some .long) 1 24 0 0 0 0 0 0 G A u [.ref (lm 0)] (KQ G A (Rl (fun r u' => ∃ t, rM G lm s (mS_tr m t) u' ∧ fM lm u u' ∧ ((t = 0 ∧ pthV s o D Z N = some r) ∨ (t = 2 ∧ pthV s o D Z N = none))))) (NX) := by
  refine k_of (by decide) (Nat.le_of_ble_eq_true rfl) (fun p e st mt below meth c ls hx hb hr hlocks hml htab hname hown ht hw hl => ?_)
  have hl : lv_has ls 10 [(0, .ref (lm 0))] := hl
  have hw : Mk G A lm s m u u st st.heap [] := ⟨hw, hR, fM.rf⟩
  refine lv_ldc2 (v := 12345) hx hb hown (ht _ gw_1013) d_M_paths_0 ?_
  refine lv_lstore_n (lv' := [(1, .long (12345 : Int64)), (0, .ref (lm 0))]) hx hb d_M_paths_3 rfl hl (by decide) rfl (fun ls hl => ?_)
  refine lv_lconst (v := 0) hx hb d_M_paths_4 (by decide) ?_
  refine lv_lstore_n (lv' := [(3, .long (0 : Int64)), (1, .long (12345 : Int64)), (0, .ref (lm 0))]) hx hb d_M_paths_5 rfl hl (by decide) rfl (fun ls hl => ?_)
  refine lv_iconst (v := 0) hx hb d_M_paths_6 (by decide) ?_
  refine lv_istore (lv' := [(5, .int (0 : Int32)), (3, .long (0 : Int64)), (1, .long (12345 : Int64)), (0, .ref (lm 0))]) hx hb d_M_paths_7 hl (by decide) rfl (fun ls hl => ?_)
  refine k_cntH (2 ^ Z) (fun tp ls H locs => lv_has ls 10 [(0, .ref (lm 0)), (1, .long (pDk N tp)), (3, .long (pSum s o N tp)), (5, .int (nI tp))] ∧ Mk G A lm s m u u st H locs) (k0 := 0) (Nat.zero_le _) (⟨lv_sub hl [3, 2, 1, 0] rfl, hw⟩) (fun ls H locs hJ => ?_) (fun tp ls H locs htp hJ ih => ?_)
  · obtain ⟨hl, hw⟩ := hJ
    refine lv_iload hx hb d_M_paths_9 (lv_at hl 3 rfl) ?_
    refine lv_iconst (v := 1) hx hb d_M_paths_11 (by decide) ?_
    refine lv_aload_n hx hb d_M_paths_12 rfl (lv_at hl 0 rfl) ?_
    refine mg 14 (by decide) hx hb ht hown hw gw_811 rfl rfl d_M_paths_13 ?_
    refine lv_aload_n hx hb d_M_paths_16 rfl (lv_at hl 0 rfl) ?_
    refine mg 27 (by decide) hx hb ht hown hw gw_824 rfl rfl d_M_paths_17 ?_
    rw [show m_nw m = nI o from hnw]
    refine ma_size (j := o) rfl (by have := hR.2.2.2; omega) hx hb hw d_M_paths_20 ?_
    refine lv_ishl hx hb d_M_paths_21 ?_
    rw [hsz, shl1 Z hZ]
    refine lv_icmp_ge (tgt := 190) hx hb d_M_paths_22 (by decide) (fun c1 => ?_) (fun c1 => ?_)
    · refine lv_aload_n hx hb d_M_paths_190 rfl (lv_at hl 0 rfl) ?_
      refine lv_aload_n hx hb d_M_paths_191 rfl (lv_at hl 0 rfl) ?_
      refine lv_lload_n hx hb d_M_paths_192 rfl (lv_at hl 2 rfl) ?_
      refine lv_ldc2 (v := 2) hx hb hown (ht _ gw_1017) d_M_paths_193 ?_
      refine lv_lmul hx hb d_M_paths_196 ?_
      refine lv_lconst (v := 1) hx hb d_M_paths_197 (by decide) ?_
      refine lv_aload_n hx hb d_M_paths_198 rfl (lv_at hl 0 rfl) ?_
      refine mg 14 (by decide) hx hb ht hown hw gw_811 rfl rfl d_M_paths_199 ?_
      refine lv_aload_n hx hb d_M_paths_202 rfl (lv_at hl 0 rfl) ?_
      refine mg 27 (by decide) hx hb ht hown hw gw_824 rfl rfl d_M_paths_203 ?_
      rw [show m_nw m = nI o from hnw]
      refine ma_size (j := o) rfl (by have := hR.2.2.2; omega) hx hb hw d_M_paths_206 ?_
      refine lv_lshl hx hb d_M_paths_207 rfl ?_
      refine lv_ladd hx hb d_M_paths_208 ?_
      refine lv_ldc2 (v := 2) hx hb hown (ht _ gw_1017) d_M_paths_209 ?_
      refine lv_aload_n hx hb d_M_paths_212 rfl (lv_at hl 0 rfl) ?_
      refine mg 14 (by decide) hx hb ht hown hw gw_811 rfl rfl d_M_paths_213 ?_
      refine lv_aload_n hx hb d_M_paths_216 rfl (lv_at hl 0 rfl) ?_
      refine mg 27 (by decide) hx hb ht hown hw gw_824 rfl rfl d_M_paths_217 ?_
      rw [show m_nw m = nI o from hnw]
      refine ma_size (j := o) rfl (by have := hR.2.2.2; omega) hx hb hw d_M_paths_220 ?_
      refine lv_lshl hx hb d_M_paths_221 rfl ?_
      refine kc_l (kr_V 2 (C := "QuoteGraphModel") (As := [.long (((pSum s o N (2 ^ Z)) * (2 : Int64)) + ((1 : Int64) <<< ((q_sz s o).toInt64 &&& 63))), .long ((2 : Int64) <<< ((q_sz s o).toInt64 &&& 63))]) (rest := [.ref (lm 0)]) (c_M_floored l G A u (lm 0) (pSum s o N (2 ^ Z) * 2 + (1 : Int64) <<< ((q_sz s o).toInt64 &&& 63)) ((2 : Int64) <<< ((q_sz s o).toInt64 &&& 63)) (by rw [hsz]; exact shl2 Z hZ)) hx hb hml hown ht hw.1 gw_978 gw_980 gw_33 gw_47 gw_981 ⟨⟨by decide, by decide⟩, by decide +kernel⟩ ⟨by first | decide | (dsimp only; omega), by first | decide | (dsimp only; omega)⟩ (kr_M hw) rfl hl.1 rfl (lv_room (Nat.le_of_ble_eq_true rfl)) d_M_paths_222 ⟨by first | decide | (dsimp only; omega), by first | decide | (dsimp only; omega)⟩) hw.1 (fun _ _ _ _ _ _ h => h.elim) (fun r1 u1 H1 locs1 hp1 hw1 => ?_)
      obtain ⟨er1, hq1⟩ := hp1
      replace hq1 := hq1.symm; subst hq1
      subst er1
      have hw : Mk G A lm s m u u st H1 locs1 := ⟨hw1, hw.2⟩
      obtain ⟨v9, ev9⟩ : ∃ v9, v9 = flr (pSum s o N (2 ^ Z) * 2 + (1 : Int64) <<< ((q_sz s o).toInt64 &&& 63)) ((2 : Int64) <<< ((q_sz s o).toInt64 &&& 63)) := ⟨_, rfl⟩
      rw [← ev9]
      refine kc_l (kr_V 1 (C := "QuoteGraphModel") (As := [.long v9]) (rest := []) (c_M_bounded l G A lm s m u hw.2.1 v9) hx hb hml hown ht hw.1 gw_1003 gw_1005 gw_38 gw_47 gw_1006 ⟨⟨by decide, by decide⟩, by decide +kernel⟩ ⟨by first | decide | (dsimp only; omega), by first | decide | (dsimp only; omega)⟩ (kr_M hw) rfl hl.1 rfl (lv_room (Nat.le_of_ble_eq_true rfl)) d_M_paths_225 ⟨by first | decide | (dsimp only; omega), by first | decide | (dsimp only; omega)⟩) hw.1 (fun _ _ _ _ _ _ h => h.elim) (fun r2 u2 H2 locs2 hp2 hw2 => ?_)
      obtain ⟨er2, g1, g2⟩ := hp2; replace er2 := er2.symm; subst er2
      rw [bd_eq] at g1
      have hw : Mk G A lm s (mS_tr m (bdT (m_tr m) v9)) u u2 st H2 locs2 := ⟨hw2, g1, hw.2.2.tr g2⟩
      have hw : Mk G A lm s (mS_tr m (bdT 0 v9)) u u2 st H2 locs2 := htr ▸ hw
      have hP0 := Pst_0 (D := D) hZ hsz (x := pSum s o N (2 ^ Z)) (by have h1 := pSum_b hbn hN (2 ^ Z) (p2_64 hZ); have h2 := p2_64 hZ; omega) ev9
      refine lv_lstore (lv' := [(5, .long v9), (0, .ref (lm 0)), (1, .long (pDk N (2 ^ Z))), (3, .long (pSum s o N (2 ^ Z)))]) hx hb d_M_paths_228 hl (by decide) rfl (fun ls hl => ?_)
      refine lv_iconst (v := 0) hx hb d_M_paths_230 (by decide) ?_
      refine lv_istore (lv' := [(7, .int (0 : Int32)), (5, .long v9), (0, .ref (lm 0)), (1, .long (pDk N (2 ^ Z))), (3, .long (pSum s o N (2 ^ Z)))]) hx hb d_M_paths_231 hl (by decide) rfl (fun ls hl => ?_)
      refine k_cntH (N) (fun tk ls H locs => ∃ (t9 : Int32) (y9 : Int64), lv_has ls 10 [(0, .ref (lm 0)), (5, .long y9), (7, .int (nI tk))] ∧ Pst (pW s o D (pSum s o N (2 ^ Z)) tk) t9 y9 ∧ ∃ u9, Mk G A lm s (mS_tr m t9) u u9 st H locs) (k0 := 0) (Nat.zero_le _) (⟨bdT 0 v9, v9, lv_sub hl [2, 1, 0] rfl, ⟨hP0, u2, hw⟩⟩) (fun ls H locs hJ => ?_) (fun tk ls H locs htk hJ ih2 => ?_)
      · obtain ⟨t9, y9, hl, hw⟩ := hJ
        obtain ⟨hP9, u9, hw⟩ := hw
        refine lv_iload hx hb d_M_paths_233 (lv_at hl 2 rfl) ?_
        refine lv_aload_n hx hb d_M_paths_235 rfl (lv_at hl 0 rfl) ?_
        refine mg 10 (by decide) hx hb ht hown hw gw_807 rfl rfl d_M_paths_236 ?_
        refine lv_aload_n hx hb d_M_paths_239 rfl (lv_at hl 0 rfl) ?_
        refine mg 27 (by decide) hx hb ht hown hw gw_824 rfl rfl d_M_paths_240 ?_
        rw [show m_nw (mS_tr m t9) = nI o from hnw]
        refine ma_steps (j := o) rfl (by have := hR.2.2.2; omega) hx hb hw d_M_paths_243 ?_
        rw [hsp]
        refine lv_icmp_ge (tgt := 277) hx hb d_M_paths_244 (by decide) (fun c2 => ?_) (fun c2 => ?_)
        · refine lv_lload hx hb d_M_paths_277 (lv_at hl 1 rfl) ?_
          exact kt_l hx hb hr hlocks hw.1 d_M_paths_279 (by exact ⟨t9, hw.2.1, hw.2.2, hP9.elim (fun h => Or.inl ⟨h.1, h.2.1⟩) Or.inr⟩) (by first | decide | (dsimp only; omega)) (by first | decide | (dsimp only; omega))
        · exact absurd (nI_le (Nat.le_refl _) (by omega)) c2
      · obtain ⟨t9, y9, hl, hw⟩ := hJ
        obtain ⟨hP9, u9, hw⟩ := hw
        refine lv_iload hx hb d_M_paths_233 (lv_at hl 2 rfl) ?_
        refine lv_aload_n hx hb d_M_paths_235 rfl (lv_at hl 0 rfl) ?_
        refine mg 10 (by decide) hx hb ht hown hw gw_807 rfl rfl d_M_paths_236 ?_
        refine lv_aload_n hx hb d_M_paths_239 rfl (lv_at hl 0 rfl) ?_
        refine mg 27 (by decide) hx hb ht hown hw gw_824 rfl rfl d_M_paths_240 ?_
        rw [show m_nw (mS_tr m t9) = nI o from hnw]
        refine ma_steps (j := o) rfl (by have := hR.2.2.2; omega) hx hb hw d_M_paths_243 ?_
        rw [hsp]
        refine lv_icmp_ge (tgt := 277) hx hb d_M_paths_244 (by decide) (fun c2 => ?_) (fun c2 => ?_)
        · exact absurd c2 (nI_ge htk (by omega))
        · refine lv_aload_n hx hb d_M_paths_247 rfl (lv_at hl 0 rfl) ?_
          refine lv_aload_n hx hb d_M_paths_248 rfl (lv_at hl 0 rfl) ?_
          refine lv_aload_n hx hb d_M_paths_249 rfl (lv_at hl 0 rfl) ?_
          refine mg 31 (by decide) hx hb ht hown hw gw_828 rfl rfl d_M_paths_250 ?_
          rw [show m_dc (mS_tr m t9) = D from hd0]
          refine lv_lload hx hb d_M_paths_253 (lv_at hl 1 rfl) ?_
          refine lv_lmul hx hb d_M_paths_255 ?_
          refine lv_ldc2 (v := 512) hx hb hown (ht _ gw_1018) d_M_paths_256 ?_
          refine lv_ladd hx hb d_M_paths_259 ?_
          refine lv_ldc2 (v := 1024) hx hb hown (ht _ gw_986) d_M_paths_260 ?_
          refine kc_l (kr_V 2 (C := "QuoteGraphModel") (As := [.long ((D * y9) + (512 : Int64)), .long (1024 : Int64)]) (rest := [.ref (lm 0)]) (c_M_floored l G A u9 (lm 0) (D * y9 + 512) (1024) (by decide)) hx hb hml hown ht hw.1 gw_978 gw_980 gw_33 gw_47 gw_981 ⟨⟨by decide, by decide⟩, by decide +kernel⟩ ⟨by first | decide | (dsimp only; omega), by first | decide | (dsimp only; omega)⟩ (kr_M hw) rfl hl.1 rfl (lv_room (Nat.le_of_ble_eq_true rfl)) d_M_paths_263 ⟨by first | decide | (dsimp only; omega), by first | decide | (dsimp only; omega)⟩) hw.1 (fun _ _ _ _ _ _ h => h.elim) (fun r3 u3 H3 locs3 hp3 hw3 => ?_)
          obtain ⟨er3, hq3⟩ := hp3
          replace hq3 := hq3.symm; subst hq3
          subst er3
          have hw : Mk G A lm s (mS_tr m t9) u u9 st H3 locs3 := ⟨hw3, hw.2⟩
          obtain ⟨v8, ev8⟩ : ∃ v8, v8 = flr (D * y9 + 512) 1024 := ⟨_, rfl⟩
          rw [← ev8]
          refine kc_l (kr_V 1 (C := "QuoteGraphModel") (As := [.long v8]) (rest := []) (c_M_bounded l G A lm s (mS_tr m t9) u9 hw.2.1 v8) hx hb hml hown ht hw.1 gw_1003 gw_1005 gw_38 gw_47 gw_1006 ⟨⟨by decide, by decide⟩, by decide +kernel⟩ ⟨by first | decide | (dsimp only; omega), by first | decide | (dsimp only; omega)⟩ (kr_M hw) rfl hl.1 rfl (lv_room (Nat.le_of_ble_eq_true rfl)) d_M_paths_266 ⟨by first | decide | (dsimp only; omega), by first | decide | (dsimp only; omega)⟩) hw.1 (fun _ _ _ _ _ _ h => h.elim) (fun r4 u4 H4 locs4 hp4 hw4 => ?_)
          obtain ⟨er4, g1, g2⟩ := hp4; replace er4 := er4.symm; subst er4
          rw [bd_eq] at g1
          have hw : Mk G A lm s (mS_tr (mS_tr m t9) (bdT (m_tr (mS_tr m t9)) v8)) u u4 st H4 locs4 := ⟨hw4, g1, hw.2.2.tr g2⟩
          have hw : Mk G A lm s (mS_tr m (bdT t9 v8)) u u4 st H4 locs4 := hw
          refine lv_lstore (lv' := [(5, .long v8), (0, .ref (lm 0)), (7, .int (nI tk))]) hx hb d_M_paths_269 hl (by decide) rfl (fun ls hl => ?_)
          obtain ⟨i5, ei5⟩ : ∃ y : Int32, y = (nI tk) + 1 := ⟨_, rfl⟩
          refine lv_iinc (v := i5) (lv' := [(7, .int i5), (5, .long v8), (0, .ref (lm 0))]) hx hb d_M_paths_271 hl (k := 2) rfl (by rw [ei5]; rfl) (by decide) rfl (fun ls hl => ?_)
          rw [nI_1] at ei5; subst ei5
          refine lv_goto (tgt := 233) hx hb d_M_paths_274 (by decide) ?_
          exact ih2 ls H4 locs4 ⟨_, v8, lv_sub hl [2, 1, 0] rfl, Pst_s hD hP9 ev8, u4, hw⟩
    · exact absurd (nI_le (Nat.le_refl _) (by have := p2_64 hZ; omega)) c1
  · obtain ⟨hl, hw⟩ := hJ
    refine lv_iload hx hb d_M_paths_9 (lv_at hl 3 rfl) ?_
    refine lv_iconst (v := 1) hx hb d_M_paths_11 (by decide) ?_
    refine lv_aload_n hx hb d_M_paths_12 rfl (lv_at hl 0 rfl) ?_
    refine mg 14 (by decide) hx hb ht hown hw gw_811 rfl rfl d_M_paths_13 ?_
    refine lv_aload_n hx hb d_M_paths_16 rfl (lv_at hl 0 rfl) ?_
    refine mg 27 (by decide) hx hb ht hown hw gw_824 rfl rfl d_M_paths_17 ?_
    rw [show m_nw m = nI o from hnw]
    refine ma_size (j := o) rfl (by have := hR.2.2.2; omega) hx hb hw d_M_paths_20 ?_
    refine lv_ishl hx hb d_M_paths_21 ?_
    rw [hsz, shl1 Z hZ]
    refine lv_icmp_ge (tgt := 190) hx hb d_M_paths_22 (by decide) (fun c1 => ?_) (fun c1 => ?_)
    · exact absurd c1 (nI_ge htp (by have := p2_64 hZ; omega))
    · refine lv_aload_n hx hb d_M_paths_25 rfl (lv_at hl 0 rfl) ?_
      refine mg 28 (by decide) hx hb ht hown hw gw_825 rfl rfl d_M_paths_26 ?_
      rw [show m_sp m = oS s o from hs0]
      refine lv_lstore (lv' := [(6, .long (oS s o)), (0, .ref (lm 0)), (1, .long (pDk N tp)), (3, .long (pSum s o N tp)), (5, .int (nI tp))]) hx hb d_M_paths_29 hl (by decide) rfl (fun ls hl => ?_)
      refine lv_aload_n hx hb d_M_paths_31 rfl (lv_at hl 1 rfl) ?_
      refine mg 1 (by decide) hx hb ht hown hw gw_798 rfl rfl d_M_paths_32 ?_
      refine lv_aload_n hx hb d_M_paths_35 rfl (lv_at hl 1 rfl) ?_
      refine mg 27 (by decide) hx hb ht hown hw gw_824 rfl rfl d_M_paths_36 ?_
      rw [show m_nw m = nI o from hnw]
      refine lv_iconst (v := 4) hx hb d_M_paths_39 (by decide) ?_
      refine lv_imul hx hb d_M_paths_40 ?_
      refine lv_iconst (v := 3) hx hb d_M_paths_41 (by decide) ?_
      refine lv_iadd hx hb d_M_paths_42 ?_
      refine ma_part (j := (4 * o + 3)) (mul4 _ 3) (by have := hR.2.2.2; omega) hx hb hw d_M_paths_43 ?_
      rw [show m_pt m (4 * o + 3) = pI (q_pt s o 3) from hR.2.2.1 o 3 ho (by decide)]
      rcases hq6 : q_pt s o 3 with _ | k7
      · refine lv_if_lt (tgt := 61) hx hb d_M_paths_44 (by decide) (fun c9 => ?_) (fun c9 => ?_)
        · have hO8 : oOut s o (oS s o) = false := oOut_n hq6
          refine lv_iconst (v := 0) hx hb d_M_paths_61 (by decide) ?_
          refine lv_istore (lv' := [(8, .int (0 : Int32)), (6, .long (oS s o)), (0, .ref (lm 0)), (1, .long (pDk N tp)), (3, .long (pSum s o N tp)), (5, .int (nI tp))]) hx hb d_M_paths_62 hl (by decide) rfl (fun ls hl => ?_)
          have hl : lv_has ls 10 [(8, .int (bI (pthB s o (pDk N tp) 0))), (6, .long (oS s o)), (0, .ref (lm 0)), (1, .long (pDk N tp)), (3, .long (pSum s o N tp)), (5, .int (nI tp))] := by rw [show pthB s o (pDk N tp) 0 = false from hO8]; exact hl
          refine lv_iconst (v := 0) hx hb d_M_paths_64 (by decide) ?_
          refine lv_istore (lv' := [(9, .int (0 : Int32)), (8, .int (bI (pthB s o (pDk N tp) 0))), (6, .long (oS s o)), (0, .ref (lm 0)), (1, .long (pDk N tp)), (3, .long (pSum s o N tp)), (5, .int (nI tp))]) hx hb d_M_paths_65 hl (by decide) rfl (fun ls hl => ?_)
          refine k_cnt (N) (fun tk ls => lv_has ls 10 [(0, .ref (lm 0)), (1, .long (pthD (pDk N tp) tk)), (3, .long (pSum s o N tp)), (5, .int (nI tp)), (6, .long (pthP s o (pDk N tp) tk)), (8, .int (bI (pthB s o (pDk N tp) tk))), (9, .int (nI tk))]) (k0 := 0) (Nat.zero_le _) (lv_sub hl [3, 4, 5, 6, 2, 1, 0] rfl) (fun ls hl => ?_) (fun tk ls htk hl ih2 => ?_)
          · refine lv_iload hx hb d_M_paths_67 (lv_at hl 6 rfl) ?_
            refine lv_aload_n hx hb d_M_paths_69 rfl (lv_at hl 0 rfl) ?_
            refine mg 10 (by decide) hx hb ht hown hw gw_807 rfl rfl d_M_paths_70 ?_
            refine lv_aload_n hx hb d_M_paths_73 rfl (lv_at hl 0 rfl) ?_
            refine mg 27 (by decide) hx hb ht hown hw gw_824 rfl rfl d_M_paths_74 ?_
            rw [show m_nw m = nI o from hnw]
            refine ma_steps (j := o) rfl (by have := hR.2.2.2; omega) hx hb hw d_M_paths_77 ?_
            rw [hsp]
            refine lv_icmp_ge (tgt := 170) hx hb d_M_paths_78 (by decide) (fun c2 => ?_) (fun c2 => ?_)
            · refine lv_iload hx hb d_M_paths_170 (lv_at hl 5 rfl) ?_
              refine lv_if_ne (tgt := 184) hx hb d_M_paths_172 (by decide) (fun c10 => ?_) (fun c10 => ?_)
              · obtain ⟨i11, ei11⟩ : ∃ y : Int32, y = (nI tp) + 1 := ⟨_, rfl⟩
                refine lv_iinc (v := i11) (lv' := [(5, .int i11), (0, .ref (lm 0)), (1, .long (pthD (pDk N tp) N)), (3, .long (pSum s o N tp)), (6, .long (pthP s o (pDk N tp) N)), (8, .int (bI (pthB s o (pDk N tp) N))), (9, .int (nI N))]) hx hb d_M_paths_184 hl (k := 3) rfl (by rw [ei11]; rfl) (by decide) rfl (fun ls hl => ?_)
                rw [nI_1] at ei11; subst ei11
                refine lv_goto (tgt := 9) hx hb d_M_paths_187 (by decide) ?_
                have e9 : pSum s o N tp = pSum s o N (tp + 1) := by show _ = _ + pEnd s o N (pDk N tp); unfold pEnd; rw [if_pos ((bI_ne _).mp c10), Int64.add_zero]
                rw [e9] at hl
                exact ih ls H locs ⟨lv_sub hl [1, 2, 3, 0] rfl, hw⟩
              · have hB9 := (bI_eq _).mp c10
                refine lv_lload_n hx hb d_M_paths_175 rfl (lv_at hl 2 rfl) ?_
                refine lv_aload_n hx hb d_M_paths_176 rfl (lv_at hl 0 rfl) ?_
                refine lv_lload hx hb d_M_paths_177 (lv_at hl 4 rfl) ?_
                have hxb := pthP_b hbn (d := (pDk N tp)) N hN
                refine kc_l (kr_V 1 (C := "QuoteGraphModel") (As := [.long (pthP s o (pDk N tp) N)]) (rest := [.long (pSum s o N tp)]) (c_M_payoff l G A lm s m u hw.2.1 hok o ho hnw hkn (pthP s o (pDk N tp) N) (by omega) (by have := hbn.2.2.1; omega)) hx hb hml hown ht hw.1 gw_991 gw_993 gw_36 gw_47 gw_994 ⟨⟨by decide, by decide⟩, by decide +kernel⟩ ⟨by first | decide | (dsimp only; omega), by first | decide | (dsimp only; omega)⟩ (kr_M hw) rfl hl.1 rfl (lv_room (Nat.le_of_ble_eq_true rfl)) d_M_paths_179 ⟨by first | decide | (dsimp only; omega), by first | decide | (dsimp only; omega)⟩) hw.1 (fun _ _ _ _ _ _ h => h.elim) (fun r12 u12 H12 locs12 hp12 hw12 => ?_)
                obtain ⟨er12, hq12⟩ := hp12
                replace hq12 := hq12.symm; subst hq12
                subst er12
                have hw : Mk G A lm s m u u st H12 locs12 := ⟨hw12, hw.2⟩
                refine lv_ladd hx hb d_M_paths_182 ?_
                refine lv_lstore_n (lv' := [(3, .long ((pSum s o N tp) + (oPay s o (pthP s o (pDk N tp) N)))), (0, .ref (lm 0)), (1, .long (pthD (pDk N tp) N)), (5, .int (nI tp)), (6, .long (pthP s o (pDk N tp) N)), (8, .int (bI (pthB s o (pDk N tp) N))), (9, .int (nI N))]) hx hb d_M_paths_183 rfl hl (by decide) rfl (fun ls hl => ?_)
                obtain ⟨i13, ei13⟩ : ∃ y : Int32, y = (nI tp) + 1 := ⟨_, rfl⟩
                refine lv_iinc (v := i13) (lv' := [(5, .int i13), (3, .long ((pSum s o N tp) + (oPay s o (pthP s o (pDk N tp) N)))), (0, .ref (lm 0)), (1, .long (pthD (pDk N tp) N)), (6, .long (pthP s o (pDk N tp) N)), (8, .int (bI (pthB s o (pDk N tp) N))), (9, .int (nI N))]) hx hb d_M_paths_184 hl (k := 3) rfl (by rw [ei13]; rfl) (by decide) rfl (fun ls hl => ?_)
                rw [nI_1] at ei13; subst ei13
                refine lv_goto (tgt := 9) hx hb d_M_paths_187 (by decide) ?_
                have e9 : pSum s o N tp + oPay s o (pthP s o (pDk N tp) N) = pSum s o N (tp + 1) := by show _ = _ + pEnd s o N (pDk N tp); unfold pEnd oPay; rw [if_neg (by rw [pthB_o hB9]; decide), if_neg (by rw [hB9]; decide)]
                rw [e9] at hl
                exact ih ls H12 locs12 ⟨lv_sub hl [2, 3, 1, 0] rfl, hw⟩
            · exact absurd (nI_le (Nat.le_refl _) (by omega)) c2
          · refine lv_iload hx hb d_M_paths_67 (lv_at hl 6 rfl) ?_
            refine lv_aload_n hx hb d_M_paths_69 rfl (lv_at hl 0 rfl) ?_
            refine mg 10 (by decide) hx hb ht hown hw gw_807 rfl rfl d_M_paths_70 ?_
            refine lv_aload_n hx hb d_M_paths_73 rfl (lv_at hl 0 rfl) ?_
            refine mg 27 (by decide) hx hb ht hown hw gw_824 rfl rfl d_M_paths_74 ?_
            rw [show m_nw m = nI o from hnw]
            refine ma_steps (j := o) rfl (by have := hR.2.2.2; omega) hx hb hw d_M_paths_77 ?_
            rw [hsp]
            refine lv_icmp_ge (tgt := 170) hx hb d_M_paths_78 (by decide) (fun c2 => ?_) (fun c2 => ?_)
            · exact absurd c2 (nI_ge htk (by omega))
            · refine lv_lload_n hx hb d_M_paths_81 rfl (lv_at hl 1 rfl) ?_
              refine lv_ldc2 (v := 1103515245) hx hb hown (ht _ gw_1014) d_M_paths_82 ?_
              refine lv_lmul hx hb d_M_paths_85 ?_
              refine lv_ldc2 (v := 12345) hx hb hown (ht _ gw_1013) d_M_paths_86 ?_
              refine lv_ladd hx hb d_M_paths_89 ?_
              refine lv_ldc2 (v := 2147483647) hx hb hown (ht _ gw_1015) d_M_paths_90 ?_
              refine lv_land hx hb d_M_paths_93 ?_
              rw [show (pthD (pDk N tp) tk * 1103515245 + 12345) &&& 2147483647 = pthD (pDk N tp) (tk + 1) from rfl]
              refine lv_lstore_n (lv' := [(1, .long (pthD (pDk N tp) (tk + 1))), (0, .ref (lm 0)), (3, .long (pSum s o N tp)), (5, .int (nI tp)), (6, .long (pthP s o (pDk N tp) tk)), (8, .int (bI (pthB s o (pDk N tp) tk))), (9, .int (nI tk))]) hx hb d_M_paths_94 rfl hl (by decide) rfl (fun ls hl => ?_)
              refine lv_lload hx hb d_M_paths_95 (lv_at hl 4 rfl) ?_
              refine lv_lload_n hx hb d_M_paths_97 rfl (lv_at hl 0 rfl) ?_
              refine lv_ldc2 (v := 65536) hx hb hown (ht _ gw_1016) d_M_paths_98 ?_
              refine lv_ldiv hx hb d_M_paths_101 (by decide) ?_
              refine lv_ldc2 (v := 16) hx hb hown (ht _ gw_996) d_M_paths_102 ?_
              refine lv_lrem hx hb d_M_paths_105 (by decide) ?_
              refine lv_aload_n hx hb d_M_paths_106 rfl (lv_at hl 1 rfl) ?_
              refine mg 11 (by decide) hx hb ht hown hw gw_808 rfl rfl d_M_paths_107 ?_
              refine lv_aload_n hx hb d_M_paths_110 rfl (lv_at hl 1 rfl) ?_
              refine mg 27 (by decide) hx hb ht hown hw gw_824 rfl rfl d_M_paths_111 ?_
              rw [show m_nw m = nI o from hnw]
              refine ma_chance (j := o) rfl (by have := hR.2.2.2; omega) hx hb hw d_M_paths_114 ?_
              refine lv_i2l hx hb d_M_paths_115 rfl ?_
              refine W.lcmp hx hb d_M_paths_116 ?_
              refine lv_if_ge (tgt := 127) hx hb d_M_paths_117 (by decide) (fun c14 => ?_) (fun c14 => ?_)
              · have hu9 : ¬ dwU (pthD (pDk N tp) (tk + 1)) (q_ch s o) = true := fun h => absurd ((lg_cmp_lt _ _).mpr ((dwU_e tk).mpr h)) (by rw [i_nlt]; exact c14)
                refine lv_aload_n hx hb d_M_paths_127 rfl (lv_at hl 1 rfl) ?_
                refine mg 29 (by decide) hx hb ht hown hw gw_826 rfl rfl d_M_paths_128 ?_
                rw [show m_mv m = oM s o from hm0]
                refine lv_lneg hx hb d_M_paths_131 ?_
                refine lv_ladd hx hb d_M_paths_132 ?_
                rw [show pthP s o (pDk N tp) tk + -(oM s o) = pthP s o (pDk N tp) (tk + 1) by show _ = _ + (if _ then _ else _); rw [if_neg hu9]]
                refine lv_lstore (lv' := [(6, .long (pthP s o (pDk N tp) (tk + 1))), (1, .long (pthD (pDk N tp) (tk + 1))), (0, .ref (lm 0)), (3, .long (pSum s o N tp)), (5, .int (nI tp)), (8, .int (bI (pthB s o (pDk N tp) tk))), (9, .int (nI tk))]) hx hb d_M_paths_133 hl (by decide) rfl (fun ls hl => ?_)
                refine lv_aload_n hx hb d_M_paths_135 rfl (lv_at hl 2 rfl) ?_
                refine mg 1 (by decide) hx hb ht hown hw gw_798 rfl rfl d_M_paths_136 ?_
                refine lv_aload_n hx hb d_M_paths_139 rfl (lv_at hl 2 rfl) ?_
                refine mg 27 (by decide) hx hb ht hown hw gw_824 rfl rfl d_M_paths_140 ?_
                rw [show m_nw m = nI o from hnw]
                refine lv_iconst (v := 4) hx hb d_M_paths_143 (by decide) ?_
                refine lv_imul hx hb d_M_paths_144 ?_
                refine lv_iconst (v := 3) hx hb d_M_paths_145 (by decide) ?_
                refine lv_iadd hx hb d_M_paths_146 ?_
                refine ma_part (j := (4 * o + 3)) (mul4 _ 3) (by have := hR.2.2.2; omega) hx hb hw d_M_paths_147 ?_
                rw [show m_pt m (4 * o + 3) = pI (q_pt s o 3) from hR.2.2.1 o 3 ho (by decide)]
                rcases hq15 : q_pt s o 3 with _ | k16
                · refine lv_if_lt (tgt := 164) hx hb d_M_paths_148 (by decide) (fun c18 => ?_) (fun c18 => ?_)
                  · have hO17 : oOut s o (pthP s o (pDk N tp) (tk + 1)) = false := oOut_n hq15
                    have e9 : bI (pthB s o (pDk N tp) tk) = bI (pthB s o (pDk N tp) (tk + 1)) := by show _ = bI (_ || oOut s o (pthP s o (pDk N tp) (tk + 1))); rw [hO17, Bool.or_false]
                    rw [e9] at hl
                    obtain ⟨i19, ei19⟩ : ∃ y : Int32, y = (nI tk) + 1 := ⟨_, rfl⟩
                    refine lv_iinc (v := i19) (lv' := [(9, .int i19), (6, .long (pthP s o (pDk N tp) (tk + 1))), (1, .long (pthD (pDk N tp) (tk + 1))), (0, .ref (lm 0)), (3, .long (pSum s o N tp)), (5, .int (nI tp)), (8, .int (bI (pthB s o (pDk N tp) (tk + 1))))]) hx hb d_M_paths_164 hl (k := 6) rfl (by rw [ei19]; rfl) (by decide) rfl (fun ls hl => ?_)
                    rw [nI_1] at ei19; subst ei19
                    refine lv_goto (tgt := 67) hx hb d_M_paths_167 (by decide) ?_
                    exact ih2 ls (lv_sub hl [3, 2, 4, 5, 1, 6, 0] rfl)
                  · exact absurd (show pI none < 0 from by decide) c18
                · have hk8 : k16 < 2 ^ 31 := by have h1 := (hok.2 o ho).2.2.2.2.1 3 k16 hq15; have h2 := hok.1; omega
                  refine lv_if_lt (tgt := 164) hx hb d_M_paths_148 (by decide) (fun c18 => ?_) (fun c18 => ?_)
                  · exact absurd c18 (nI_pos hk8)
                  · refine lv_lload hx hb d_M_paths_151 (lv_at hl 0 rfl) ?_
                    refine lv_aload_n hx hb d_M_paths_153 rfl (lv_at hl 2 rfl) ?_
                    refine mg 30 (by decide) hx hb ht hown hw gw_827 rfl rfl d_M_paths_154 ?_
                    rw [show m_kn m = q_am s k16 from hkn k16 hq15]
                    refine W.lcmp hx hb d_M_paths_157 ?_
                    refine lv_if_lt (tgt := 164) hx hb d_M_paths_158 (by decide) (fun c20 => ?_) (fun c20 => ?_)
                    · have hO17 : oOut s o (pthP s o (pDk N tp) (tk + 1)) = false := by rw [oOut_s hq15]; exact decide_eq_false (fun h => h ((lg_cmp_lt _ _).mp c20))
                      have e9 : bI (pthB s o (pDk N tp) tk) = bI (pthB s o (pDk N tp) (tk + 1)) := by show _ = bI (_ || oOut s o (pthP s o (pDk N tp) (tk + 1))); rw [hO17, Bool.or_false]
                      rw [e9] at hl
                      obtain ⟨i21, ei21⟩ : ∃ y : Int32, y = (nI tk) + 1 := ⟨_, rfl⟩
                      refine lv_iinc (v := i21) (lv' := [(9, .int i21), (6, .long (pthP s o (pDk N tp) (tk + 1))), (1, .long (pthD (pDk N tp) (tk + 1))), (0, .ref (lm 0)), (3, .long (pSum s o N tp)), (5, .int (nI tp)), (8, .int (bI (pthB s o (pDk N tp) (tk + 1))))]) hx hb d_M_paths_164 hl (k := 6) rfl (by rw [ei21]; rfl) (by decide) rfl (fun ls hl => ?_)
                      rw [nI_1] at ei21; subst ei21
                      refine lv_goto (tgt := 67) hx hb d_M_paths_167 (by decide) ?_
                      exact ih2 ls (lv_sub hl [3, 2, 4, 5, 1, 6, 0] rfl)
                    · have hO17 : oOut s o (pthP s o (pDk N tp) (tk + 1)) = true := by rw [oOut_s hq15]; exact decide_eq_true (fun h => c20 ((lg_cmp_lt _ _).mpr h))
                      refine lv_iconst (v := 1) hx hb d_M_paths_161 (by decide) ?_
                      refine lv_istore (lv' := [(8, .int (1 : Int32)), (6, .long (pthP s o (pDk N tp) (tk + 1))), (1, .long (pthD (pDk N tp) (tk + 1))), (0, .ref (lm 0)), (3, .long (pSum s o N tp)), (5, .int (nI tp)), (9, .int (nI tk))]) hx hb d_M_paths_162 hl (by decide) rfl (fun ls hl => ?_)
                      have e9 : (1 : Int32) = bI (pthB s o (pDk N tp) (tk + 1)) := by show _ = bI (_ || oOut s o (pthP s o (pDk N tp) (tk + 1))); rw [hO17, Bool.or_true]; rfl
                      rw [e9] at hl
                      obtain ⟨i22, ei22⟩ : ∃ y : Int32, y = (nI tk) + 1 := ⟨_, rfl⟩
                      refine lv_iinc (v := i22) (lv' := [(9, .int i22), (8, .int (bI (pthB s o (pDk N tp) (tk + 1)))), (6, .long (pthP s o (pDk N tp) (tk + 1))), (1, .long (pthD (pDk N tp) (tk + 1))), (0, .ref (lm 0)), (3, .long (pSum s o N tp)), (5, .int (nI tp))]) hx hb d_M_paths_164 hl (k := 6) rfl (by rw [ei22]; rfl) (by decide) rfl (fun ls hl => ?_)
                      rw [nI_1] at ei22; subst ei22
                      refine lv_goto (tgt := 67) hx hb d_M_paths_167 (by decide) ?_
                      exact ih2 ls (lv_sub hl [4, 3, 5, 6, 2, 1, 0] rfl)
              · have hu9 : dwU (pthD (pDk N tp) (tk + 1)) (q_ch s o) = true := (dwU_e tk).mp ((lg_cmp_lt _ _).mp (by rw [← i_nle]; exact c14))
                refine lv_aload_n hx hb d_M_paths_120 rfl (lv_at hl 1 rfl) ?_
                refine mg 29 (by decide) hx hb ht hown hw gw_826 rfl rfl d_M_paths_121 ?_
                rw [show m_mv m = oM s o from hm0]
                refine lv_goto (tgt := 132) hx hb d_M_paths_124 (by decide) ?_
                refine lv_ladd hx hb d_M_paths_132 ?_
                rw [show pthP s o (pDk N tp) tk + oM s o = pthP s o (pDk N tp) (tk + 1) by show _ = _ + (if _ then _ else _); rw [if_pos hu9]]
                refine lv_lstore (lv' := [(6, .long (pthP s o (pDk N tp) (tk + 1))), (1, .long (pthD (pDk N tp) (tk + 1))), (0, .ref (lm 0)), (3, .long (pSum s o N tp)), (5, .int (nI tp)), (8, .int (bI (pthB s o (pDk N tp) tk))), (9, .int (nI tk))]) hx hb d_M_paths_133 hl (by decide) rfl (fun ls hl => ?_)
                refine lv_aload_n hx hb d_M_paths_135 rfl (lv_at hl 2 rfl) ?_
                refine mg 1 (by decide) hx hb ht hown hw gw_798 rfl rfl d_M_paths_136 ?_
                refine lv_aload_n hx hb d_M_paths_139 rfl (lv_at hl 2 rfl) ?_
                refine mg 27 (by decide) hx hb ht hown hw gw_824 rfl rfl d_M_paths_140 ?_
                rw [show m_nw m = nI o from hnw]
                refine lv_iconst (v := 4) hx hb d_M_paths_143 (by decide) ?_
                refine lv_imul hx hb d_M_paths_144 ?_
                refine lv_iconst (v := 3) hx hb d_M_paths_145 (by decide) ?_
                refine lv_iadd hx hb d_M_paths_146 ?_
                refine ma_part (j := (4 * o + 3)) (mul4 _ 3) (by have := hR.2.2.2; omega) hx hb hw d_M_paths_147 ?_
                rw [show m_pt m (4 * o + 3) = pI (q_pt s o 3) from hR.2.2.1 o 3 ho (by decide)]
                rcases hq23 : q_pt s o 3 with _ | k24
                · refine lv_if_lt (tgt := 164) hx hb d_M_paths_148 (by decide) (fun c26 => ?_) (fun c26 => ?_)
                  · have hO25 : oOut s o (pthP s o (pDk N tp) (tk + 1)) = false := oOut_n hq23
                    have e9 : bI (pthB s o (pDk N tp) tk) = bI (pthB s o (pDk N tp) (tk + 1)) := by show _ = bI (_ || oOut s o (pthP s o (pDk N tp) (tk + 1))); rw [hO25, Bool.or_false]
                    rw [e9] at hl
                    obtain ⟨i27, ei27⟩ : ∃ y : Int32, y = (nI tk) + 1 := ⟨_, rfl⟩
                    refine lv_iinc (v := i27) (lv' := [(9, .int i27), (6, .long (pthP s o (pDk N tp) (tk + 1))), (1, .long (pthD (pDk N tp) (tk + 1))), (0, .ref (lm 0)), (3, .long (pSum s o N tp)), (5, .int (nI tp)), (8, .int (bI (pthB s o (pDk N tp) (tk + 1))))]) hx hb d_M_paths_164 hl (k := 6) rfl (by rw [ei27]; rfl) (by decide) rfl (fun ls hl => ?_)
                    rw [nI_1] at ei27; subst ei27
                    refine lv_goto (tgt := 67) hx hb d_M_paths_167 (by decide) ?_
                    exact ih2 ls (lv_sub hl [3, 2, 4, 5, 1, 6, 0] rfl)
                  · exact absurd (show pI none < 0 from by decide) c26
                · have hk8 : k24 < 2 ^ 31 := by have h1 := (hok.2 o ho).2.2.2.2.1 3 k24 hq23; have h2 := hok.1; omega
                  refine lv_if_lt (tgt := 164) hx hb d_M_paths_148 (by decide) (fun c26 => ?_) (fun c26 => ?_)
                  · exact absurd c26 (nI_pos hk8)
                  · refine lv_lload hx hb d_M_paths_151 (lv_at hl 0 rfl) ?_
                    refine lv_aload_n hx hb d_M_paths_153 rfl (lv_at hl 2 rfl) ?_
                    refine mg 30 (by decide) hx hb ht hown hw gw_827 rfl rfl d_M_paths_154 ?_
                    rw [show m_kn m = q_am s k24 from hkn k24 hq23]
                    refine W.lcmp hx hb d_M_paths_157 ?_
                    refine lv_if_lt (tgt := 164) hx hb d_M_paths_158 (by decide) (fun c28 => ?_) (fun c28 => ?_)
                    · have hO25 : oOut s o (pthP s o (pDk N tp) (tk + 1)) = false := by rw [oOut_s hq23]; exact decide_eq_false (fun h => h ((lg_cmp_lt _ _).mp c28))
                      have e9 : bI (pthB s o (pDk N tp) tk) = bI (pthB s o (pDk N tp) (tk + 1)) := by show _ = bI (_ || oOut s o (pthP s o (pDk N tp) (tk + 1))); rw [hO25, Bool.or_false]
                      rw [e9] at hl
                      obtain ⟨i29, ei29⟩ : ∃ y : Int32, y = (nI tk) + 1 := ⟨_, rfl⟩
                      refine lv_iinc (v := i29) (lv' := [(9, .int i29), (6, .long (pthP s o (pDk N tp) (tk + 1))), (1, .long (pthD (pDk N tp) (tk + 1))), (0, .ref (lm 0)), (3, .long (pSum s o N tp)), (5, .int (nI tp)), (8, .int (bI (pthB s o (pDk N tp) (tk + 1))))]) hx hb d_M_paths_164 hl (k := 6) rfl (by rw [ei29]; rfl) (by decide) rfl (fun ls hl => ?_)
                      rw [nI_1] at ei29; subst ei29
                      refine lv_goto (tgt := 67) hx hb d_M_paths_167 (by decide) ?_
                      exact ih2 ls (lv_sub hl [3, 2, 4, 5, 1, 6, 0] rfl)
                    · have hO25 : oOut s o (pthP s o (pDk N tp) (tk + 1)) = true := by rw [oOut_s hq23]; exact decide_eq_true (fun h => c28 ((lg_cmp_lt _ _).mpr h))
                      refine lv_iconst (v := 1) hx hb d_M_paths_161 (by decide) ?_
                      refine lv_istore (lv' := [(8, .int (1 : Int32)), (6, .long (pthP s o (pDk N tp) (tk + 1))), (1, .long (pthD (pDk N tp) (tk + 1))), (0, .ref (lm 0)), (3, .long (pSum s o N tp)), (5, .int (nI tp)), (9, .int (nI tk))]) hx hb d_M_paths_162 hl (by decide) rfl (fun ls hl => ?_)
                      have e9 : (1 : Int32) = bI (pthB s o (pDk N tp) (tk + 1)) := by show _ = bI (_ || oOut s o (pthP s o (pDk N tp) (tk + 1))); rw [hO25, Bool.or_true]; rfl
                      rw [e9] at hl
                      obtain ⟨i30, ei30⟩ : ∃ y : Int32, y = (nI tk) + 1 := ⟨_, rfl⟩
                      refine lv_iinc (v := i30) (lv' := [(9, .int i30), (8, .int (bI (pthB s o (pDk N tp) (tk + 1)))), (6, .long (pthP s o (pDk N tp) (tk + 1))), (1, .long (pthD (pDk N tp) (tk + 1))), (0, .ref (lm 0)), (3, .long (pSum s o N tp)), (5, .int (nI tp))]) hx hb d_M_paths_164 hl (k := 6) rfl (by rw [ei30]; rfl) (by decide) rfl (fun ls hl => ?_)
                      rw [nI_1] at ei30; subst ei30
                      refine lv_goto (tgt := 67) hx hb d_M_paths_167 (by decide) ?_
                      exact ih2 ls (lv_sub hl [4, 3, 5, 6, 2, 1, 0] rfl)
        · exact absurd (show pI none < 0 from by decide) c9
      · have hk8 : k7 < 2 ^ 31 := by have h1 := (hok.2 o ho).2.2.2.2.1 3 k7 hq6; have h2 := hok.1; omega
        refine lv_if_lt (tgt := 61) hx hb d_M_paths_44 (by decide) (fun c9 => ?_) (fun c9 => ?_)
        · exact absurd c9 (nI_pos hk8)
        · refine lv_lload hx hb d_M_paths_47 (lv_at hl 0 rfl) ?_
          refine lv_aload_n hx hb d_M_paths_49 rfl (lv_at hl 1 rfl) ?_
          refine mg 30 (by decide) hx hb ht hown hw gw_827 rfl rfl d_M_paths_50 ?_
          rw [show m_kn m = q_am s k7 from hkn k7 hq6]
          refine W.lcmp hx hb d_M_paths_53 ?_
          refine lv_if_lt (tgt := 61) hx hb d_M_paths_54 (by decide) (fun c31 => ?_) (fun c31 => ?_)
          · have hO8 : oOut s o (oS s o) = false := by rw [oOut_s hq6]; exact decide_eq_false (fun h => h ((lg_cmp_lt _ _).mp c31))
            refine lv_iconst (v := 0) hx hb d_M_paths_61 (by decide) ?_
            refine lv_istore (lv' := [(8, .int (0 : Int32)), (6, .long (oS s o)), (0, .ref (lm 0)), (1, .long (pDk N tp)), (3, .long (pSum s o N tp)), (5, .int (nI tp))]) hx hb d_M_paths_62 hl (by decide) rfl (fun ls hl => ?_)
            have hl : lv_has ls 10 [(8, .int (bI (pthB s o (pDk N tp) 0))), (6, .long (oS s o)), (0, .ref (lm 0)), (1, .long (pDk N tp)), (3, .long (pSum s o N tp)), (5, .int (nI tp))] := by rw [show pthB s o (pDk N tp) 0 = false from hO8]; exact hl
            refine lv_iconst (v := 0) hx hb d_M_paths_64 (by decide) ?_
            refine lv_istore (lv' := [(9, .int (0 : Int32)), (8, .int (bI (pthB s o (pDk N tp) 0))), (6, .long (oS s o)), (0, .ref (lm 0)), (1, .long (pDk N tp)), (3, .long (pSum s o N tp)), (5, .int (nI tp))]) hx hb d_M_paths_65 hl (by decide) rfl (fun ls hl => ?_)
            refine k_cnt (N) (fun tk ls => lv_has ls 10 [(0, .ref (lm 0)), (1, .long (pthD (pDk N tp) tk)), (3, .long (pSum s o N tp)), (5, .int (nI tp)), (6, .long (pthP s o (pDk N tp) tk)), (8, .int (bI (pthB s o (pDk N tp) tk))), (9, .int (nI tk))]) (k0 := 0) (Nat.zero_le _) (lv_sub hl [3, 4, 5, 6, 2, 1, 0] rfl) (fun ls hl => ?_) (fun tk ls htk hl ih2 => ?_)
            · refine lv_iload hx hb d_M_paths_67 (lv_at hl 6 rfl) ?_
              refine lv_aload_n hx hb d_M_paths_69 rfl (lv_at hl 0 rfl) ?_
              refine mg 10 (by decide) hx hb ht hown hw gw_807 rfl rfl d_M_paths_70 ?_
              refine lv_aload_n hx hb d_M_paths_73 rfl (lv_at hl 0 rfl) ?_
              refine mg 27 (by decide) hx hb ht hown hw gw_824 rfl rfl d_M_paths_74 ?_
              rw [show m_nw m = nI o from hnw]
              refine ma_steps (j := o) rfl (by have := hR.2.2.2; omega) hx hb hw d_M_paths_77 ?_
              rw [hsp]
              refine lv_icmp_ge (tgt := 170) hx hb d_M_paths_78 (by decide) (fun c2 => ?_) (fun c2 => ?_)
              · refine lv_iload hx hb d_M_paths_170 (lv_at hl 5 rfl) ?_
                refine lv_if_ne (tgt := 184) hx hb d_M_paths_172 (by decide) (fun c32 => ?_) (fun c32 => ?_)
                · obtain ⟨i33, ei33⟩ : ∃ y : Int32, y = (nI tp) + 1 := ⟨_, rfl⟩
                  refine lv_iinc (v := i33) (lv' := [(5, .int i33), (0, .ref (lm 0)), (1, .long (pthD (pDk N tp) N)), (3, .long (pSum s o N tp)), (6, .long (pthP s o (pDk N tp) N)), (8, .int (bI (pthB s o (pDk N tp) N))), (9, .int (nI N))]) hx hb d_M_paths_184 hl (k := 3) rfl (by rw [ei33]; rfl) (by decide) rfl (fun ls hl => ?_)
                  rw [nI_1] at ei33; subst ei33
                  refine lv_goto (tgt := 9) hx hb d_M_paths_187 (by decide) ?_
                  have e9 : pSum s o N tp = pSum s o N (tp + 1) := by show _ = _ + pEnd s o N (pDk N tp); unfold pEnd; rw [if_pos ((bI_ne _).mp c32), Int64.add_zero]
                  rw [e9] at hl
                  exact ih ls H locs ⟨lv_sub hl [1, 2, 3, 0] rfl, hw⟩
                · have hB9 := (bI_eq _).mp c32
                  refine lv_lload_n hx hb d_M_paths_175 rfl (lv_at hl 2 rfl) ?_
                  refine lv_aload_n hx hb d_M_paths_176 rfl (lv_at hl 0 rfl) ?_
                  refine lv_lload hx hb d_M_paths_177 (lv_at hl 4 rfl) ?_
                  have hxb := pthP_b hbn (d := (pDk N tp)) N hN
                  refine kc_l (kr_V 1 (C := "QuoteGraphModel") (As := [.long (pthP s o (pDk N tp) N)]) (rest := [.long (pSum s o N tp)]) (c_M_payoff l G A lm s m u hw.2.1 hok o ho hnw hkn (pthP s o (pDk N tp) N) (by omega) (by have := hbn.2.2.1; omega)) hx hb hml hown ht hw.1 gw_991 gw_993 gw_36 gw_47 gw_994 ⟨⟨by decide, by decide⟩, by decide +kernel⟩ ⟨by first | decide | (dsimp only; omega), by first | decide | (dsimp only; omega)⟩ (kr_M hw) rfl hl.1 rfl (lv_room (Nat.le_of_ble_eq_true rfl)) d_M_paths_179 ⟨by first | decide | (dsimp only; omega), by first | decide | (dsimp only; omega)⟩) hw.1 (fun _ _ _ _ _ _ h => h.elim) (fun r34 u34 H34 locs34 hp34 hw34 => ?_)
                  obtain ⟨er34, hq34⟩ := hp34
                  replace hq34 := hq34.symm; subst hq34
                  subst er34
                  have hw : Mk G A lm s m u u st H34 locs34 := ⟨hw34, hw.2⟩
                  refine lv_ladd hx hb d_M_paths_182 ?_
                  refine lv_lstore_n (lv' := [(3, .long ((pSum s o N tp) + (oPay s o (pthP s o (pDk N tp) N)))), (0, .ref (lm 0)), (1, .long (pthD (pDk N tp) N)), (5, .int (nI tp)), (6, .long (pthP s o (pDk N tp) N)), (8, .int (bI (pthB s o (pDk N tp) N))), (9, .int (nI N))]) hx hb d_M_paths_183 rfl hl (by decide) rfl (fun ls hl => ?_)
                  obtain ⟨i35, ei35⟩ : ∃ y : Int32, y = (nI tp) + 1 := ⟨_, rfl⟩
                  refine lv_iinc (v := i35) (lv' := [(5, .int i35), (3, .long ((pSum s o N tp) + (oPay s o (pthP s o (pDk N tp) N)))), (0, .ref (lm 0)), (1, .long (pthD (pDk N tp) N)), (6, .long (pthP s o (pDk N tp) N)), (8, .int (bI (pthB s o (pDk N tp) N))), (9, .int (nI N))]) hx hb d_M_paths_184 hl (k := 3) rfl (by rw [ei35]; rfl) (by decide) rfl (fun ls hl => ?_)
                  rw [nI_1] at ei35; subst ei35
                  refine lv_goto (tgt := 9) hx hb d_M_paths_187 (by decide) ?_
                  have e9 : pSum s o N tp + oPay s o (pthP s o (pDk N tp) N) = pSum s o N (tp + 1) := by show _ = _ + pEnd s o N (pDk N tp); unfold pEnd oPay; rw [if_neg (by rw [pthB_o hB9]; decide), if_neg (by rw [hB9]; decide)]
                  rw [e9] at hl
                  exact ih ls H34 locs34 ⟨lv_sub hl [2, 3, 1, 0] rfl, hw⟩
              · exact absurd (nI_le (Nat.le_refl _) (by omega)) c2
            · refine lv_iload hx hb d_M_paths_67 (lv_at hl 6 rfl) ?_
              refine lv_aload_n hx hb d_M_paths_69 rfl (lv_at hl 0 rfl) ?_
              refine mg 10 (by decide) hx hb ht hown hw gw_807 rfl rfl d_M_paths_70 ?_
              refine lv_aload_n hx hb d_M_paths_73 rfl (lv_at hl 0 rfl) ?_
              refine mg 27 (by decide) hx hb ht hown hw gw_824 rfl rfl d_M_paths_74 ?_
              rw [show m_nw m = nI o from hnw]
              refine ma_steps (j := o) rfl (by have := hR.2.2.2; omega) hx hb hw d_M_paths_77 ?_
              rw [hsp]
              refine lv_icmp_ge (tgt := 170) hx hb d_M_paths_78 (by decide) (fun c2 => ?_) (fun c2 => ?_)
              · exact absurd c2 (nI_ge htk (by omega))
              · refine lv_lload_n hx hb d_M_paths_81 rfl (lv_at hl 1 rfl) ?_
                refine lv_ldc2 (v := 1103515245) hx hb hown (ht _ gw_1014) d_M_paths_82 ?_
                refine lv_lmul hx hb d_M_paths_85 ?_
                refine lv_ldc2 (v := 12345) hx hb hown (ht _ gw_1013) d_M_paths_86 ?_
                refine lv_ladd hx hb d_M_paths_89 ?_
                refine lv_ldc2 (v := 2147483647) hx hb hown (ht _ gw_1015) d_M_paths_90 ?_
                refine lv_land hx hb d_M_paths_93 ?_
                rw [show (pthD (pDk N tp) tk * 1103515245 + 12345) &&& 2147483647 = pthD (pDk N tp) (tk + 1) from rfl]
                refine lv_lstore_n (lv' := [(1, .long (pthD (pDk N tp) (tk + 1))), (0, .ref (lm 0)), (3, .long (pSum s o N tp)), (5, .int (nI tp)), (6, .long (pthP s o (pDk N tp) tk)), (8, .int (bI (pthB s o (pDk N tp) tk))), (9, .int (nI tk))]) hx hb d_M_paths_94 rfl hl (by decide) rfl (fun ls hl => ?_)
                refine lv_lload hx hb d_M_paths_95 (lv_at hl 4 rfl) ?_
                refine lv_lload_n hx hb d_M_paths_97 rfl (lv_at hl 0 rfl) ?_
                refine lv_ldc2 (v := 65536) hx hb hown (ht _ gw_1016) d_M_paths_98 ?_
                refine lv_ldiv hx hb d_M_paths_101 (by decide) ?_
                refine lv_ldc2 (v := 16) hx hb hown (ht _ gw_996) d_M_paths_102 ?_
                refine lv_lrem hx hb d_M_paths_105 (by decide) ?_
                refine lv_aload_n hx hb d_M_paths_106 rfl (lv_at hl 1 rfl) ?_
                refine mg 11 (by decide) hx hb ht hown hw gw_808 rfl rfl d_M_paths_107 ?_
                refine lv_aload_n hx hb d_M_paths_110 rfl (lv_at hl 1 rfl) ?_
                refine mg 27 (by decide) hx hb ht hown hw gw_824 rfl rfl d_M_paths_111 ?_
                rw [show m_nw m = nI o from hnw]
                refine ma_chance (j := o) rfl (by have := hR.2.2.2; omega) hx hb hw d_M_paths_114 ?_
                refine lv_i2l hx hb d_M_paths_115 rfl ?_
                refine W.lcmp hx hb d_M_paths_116 ?_
                refine lv_if_ge (tgt := 127) hx hb d_M_paths_117 (by decide) (fun c36 => ?_) (fun c36 => ?_)
                · have hu9 : ¬ dwU (pthD (pDk N tp) (tk + 1)) (q_ch s o) = true := fun h => absurd ((lg_cmp_lt _ _).mpr ((dwU_e tk).mpr h)) (by rw [i_nlt]; exact c36)
                  refine lv_aload_n hx hb d_M_paths_127 rfl (lv_at hl 1 rfl) ?_
                  refine mg 29 (by decide) hx hb ht hown hw gw_826 rfl rfl d_M_paths_128 ?_
                  rw [show m_mv m = oM s o from hm0]
                  refine lv_lneg hx hb d_M_paths_131 ?_
                  refine lv_ladd hx hb d_M_paths_132 ?_
                  rw [show pthP s o (pDk N tp) tk + -(oM s o) = pthP s o (pDk N tp) (tk + 1) by show _ = _ + (if _ then _ else _); rw [if_neg hu9]]
                  refine lv_lstore (lv' := [(6, .long (pthP s o (pDk N tp) (tk + 1))), (1, .long (pthD (pDk N tp) (tk + 1))), (0, .ref (lm 0)), (3, .long (pSum s o N tp)), (5, .int (nI tp)), (8, .int (bI (pthB s o (pDk N tp) tk))), (9, .int (nI tk))]) hx hb d_M_paths_133 hl (by decide) rfl (fun ls hl => ?_)
                  refine lv_aload_n hx hb d_M_paths_135 rfl (lv_at hl 2 rfl) ?_
                  refine mg 1 (by decide) hx hb ht hown hw gw_798 rfl rfl d_M_paths_136 ?_
                  refine lv_aload_n hx hb d_M_paths_139 rfl (lv_at hl 2 rfl) ?_
                  refine mg 27 (by decide) hx hb ht hown hw gw_824 rfl rfl d_M_paths_140 ?_
                  rw [show m_nw m = nI o from hnw]
                  refine lv_iconst (v := 4) hx hb d_M_paths_143 (by decide) ?_
                  refine lv_imul hx hb d_M_paths_144 ?_
                  refine lv_iconst (v := 3) hx hb d_M_paths_145 (by decide) ?_
                  refine lv_iadd hx hb d_M_paths_146 ?_
                  refine ma_part (j := (4 * o + 3)) (mul4 _ 3) (by have := hR.2.2.2; omega) hx hb hw d_M_paths_147 ?_
                  rw [show m_pt m (4 * o + 3) = pI (q_pt s o 3) from hR.2.2.1 o 3 ho (by decide)]
                  rcases hq37 : q_pt s o 3 with _ | k38
                  · refine lv_if_lt (tgt := 164) hx hb d_M_paths_148 (by decide) (fun c40 => ?_) (fun c40 => ?_)
                    · have hO39 : oOut s o (pthP s o (pDk N tp) (tk + 1)) = false := oOut_n hq37
                      have e9 : bI (pthB s o (pDk N tp) tk) = bI (pthB s o (pDk N tp) (tk + 1)) := by show _ = bI (_ || oOut s o (pthP s o (pDk N tp) (tk + 1))); rw [hO39, Bool.or_false]
                      rw [e9] at hl
                      obtain ⟨i41, ei41⟩ : ∃ y : Int32, y = (nI tk) + 1 := ⟨_, rfl⟩
                      refine lv_iinc (v := i41) (lv' := [(9, .int i41), (6, .long (pthP s o (pDk N tp) (tk + 1))), (1, .long (pthD (pDk N tp) (tk + 1))), (0, .ref (lm 0)), (3, .long (pSum s o N tp)), (5, .int (nI tp)), (8, .int (bI (pthB s o (pDk N tp) (tk + 1))))]) hx hb d_M_paths_164 hl (k := 6) rfl (by rw [ei41]; rfl) (by decide) rfl (fun ls hl => ?_)
                      rw [nI_1] at ei41; subst ei41
                      refine lv_goto (tgt := 67) hx hb d_M_paths_167 (by decide) ?_
                      exact ih2 ls (lv_sub hl [3, 2, 4, 5, 1, 6, 0] rfl)
                    · exact absurd (show pI none < 0 from by decide) c40
                  · have hk8 : k38 < 2 ^ 31 := by have h1 := (hok.2 o ho).2.2.2.2.1 3 k38 hq37; have h2 := hok.1; omega
                    refine lv_if_lt (tgt := 164) hx hb d_M_paths_148 (by decide) (fun c40 => ?_) (fun c40 => ?_)
                    · exact absurd c40 (nI_pos hk8)
                    · refine lv_lload hx hb d_M_paths_151 (lv_at hl 0 rfl) ?_
                      refine lv_aload_n hx hb d_M_paths_153 rfl (lv_at hl 2 rfl) ?_
                      refine mg 30 (by decide) hx hb ht hown hw gw_827 rfl rfl d_M_paths_154 ?_
                      rw [show m_kn m = q_am s k38 from hkn k38 hq37]
                      refine W.lcmp hx hb d_M_paths_157 ?_
                      refine lv_if_lt (tgt := 164) hx hb d_M_paths_158 (by decide) (fun c42 => ?_) (fun c42 => ?_)
                      · have hO39 : oOut s o (pthP s o (pDk N tp) (tk + 1)) = false := by rw [oOut_s hq37]; exact decide_eq_false (fun h => h ((lg_cmp_lt _ _).mp c42))
                        have e9 : bI (pthB s o (pDk N tp) tk) = bI (pthB s o (pDk N tp) (tk + 1)) := by show _ = bI (_ || oOut s o (pthP s o (pDk N tp) (tk + 1))); rw [hO39, Bool.or_false]
                        rw [e9] at hl
                        obtain ⟨i43, ei43⟩ : ∃ y : Int32, y = (nI tk) + 1 := ⟨_, rfl⟩
                        refine lv_iinc (v := i43) (lv' := [(9, .int i43), (6, .long (pthP s o (pDk N tp) (tk + 1))), (1, .long (pthD (pDk N tp) (tk + 1))), (0, .ref (lm 0)), (3, .long (pSum s o N tp)), (5, .int (nI tp)), (8, .int (bI (pthB s o (pDk N tp) (tk + 1))))]) hx hb d_M_paths_164 hl (k := 6) rfl (by rw [ei43]; rfl) (by decide) rfl (fun ls hl => ?_)
                        rw [nI_1] at ei43; subst ei43
                        refine lv_goto (tgt := 67) hx hb d_M_paths_167 (by decide) ?_
                        exact ih2 ls (lv_sub hl [3, 2, 4, 5, 1, 6, 0] rfl)
                      · have hO39 : oOut s o (pthP s o (pDk N tp) (tk + 1)) = true := by rw [oOut_s hq37]; exact decide_eq_true (fun h => c42 ((lg_cmp_lt _ _).mpr h))
                        refine lv_iconst (v := 1) hx hb d_M_paths_161 (by decide) ?_
                        refine lv_istore (lv' := [(8, .int (1 : Int32)), (6, .long (pthP s o (pDk N tp) (tk + 1))), (1, .long (pthD (pDk N tp) (tk + 1))), (0, .ref (lm 0)), (3, .long (pSum s o N tp)), (5, .int (nI tp)), (9, .int (nI tk))]) hx hb d_M_paths_162 hl (by decide) rfl (fun ls hl => ?_)
                        have e9 : (1 : Int32) = bI (pthB s o (pDk N tp) (tk + 1)) := by show _ = bI (_ || oOut s o (pthP s o (pDk N tp) (tk + 1))); rw [hO39, Bool.or_true]; rfl
                        rw [e9] at hl
                        obtain ⟨i44, ei44⟩ : ∃ y : Int32, y = (nI tk) + 1 := ⟨_, rfl⟩
                        refine lv_iinc (v := i44) (lv' := [(9, .int i44), (8, .int (bI (pthB s o (pDk N tp) (tk + 1)))), (6, .long (pthP s o (pDk N tp) (tk + 1))), (1, .long (pthD (pDk N tp) (tk + 1))), (0, .ref (lm 0)), (3, .long (pSum s o N tp)), (5, .int (nI tp))]) hx hb d_M_paths_164 hl (k := 6) rfl (by rw [ei44]; rfl) (by decide) rfl (fun ls hl => ?_)
                        rw [nI_1] at ei44; subst ei44
                        refine lv_goto (tgt := 67) hx hb d_M_paths_167 (by decide) ?_
                        exact ih2 ls (lv_sub hl [4, 3, 5, 6, 2, 1, 0] rfl)
                · have hu9 : dwU (pthD (pDk N tp) (tk + 1)) (q_ch s o) = true := (dwU_e tk).mp ((lg_cmp_lt _ _).mp (by rw [← i_nle]; exact c36))
                  refine lv_aload_n hx hb d_M_paths_120 rfl (lv_at hl 1 rfl) ?_
                  refine mg 29 (by decide) hx hb ht hown hw gw_826 rfl rfl d_M_paths_121 ?_
                  rw [show m_mv m = oM s o from hm0]
                  refine lv_goto (tgt := 132) hx hb d_M_paths_124 (by decide) ?_
                  refine lv_ladd hx hb d_M_paths_132 ?_
                  rw [show pthP s o (pDk N tp) tk + oM s o = pthP s o (pDk N tp) (tk + 1) by show _ = _ + (if _ then _ else _); rw [if_pos hu9]]
                  refine lv_lstore (lv' := [(6, .long (pthP s o (pDk N tp) (tk + 1))), (1, .long (pthD (pDk N tp) (tk + 1))), (0, .ref (lm 0)), (3, .long (pSum s o N tp)), (5, .int (nI tp)), (8, .int (bI (pthB s o (pDk N tp) tk))), (9, .int (nI tk))]) hx hb d_M_paths_133 hl (by decide) rfl (fun ls hl => ?_)
                  refine lv_aload_n hx hb d_M_paths_135 rfl (lv_at hl 2 rfl) ?_
                  refine mg 1 (by decide) hx hb ht hown hw gw_798 rfl rfl d_M_paths_136 ?_
                  refine lv_aload_n hx hb d_M_paths_139 rfl (lv_at hl 2 rfl) ?_
                  refine mg 27 (by decide) hx hb ht hown hw gw_824 rfl rfl d_M_paths_140 ?_
                  rw [show m_nw m = nI o from hnw]
                  refine lv_iconst (v := 4) hx hb d_M_paths_143 (by decide) ?_
                  refine lv_imul hx hb d_M_paths_144 ?_
                  refine lv_iconst (v := 3) hx hb d_M_paths_145 (by decide) ?_
                  refine lv_iadd hx hb d_M_paths_146 ?_
                  refine ma_part (j := (4 * o + 3)) (mul4 _ 3) (by have := hR.2.2.2; omega) hx hb hw d_M_paths_147 ?_
                  rw [show m_pt m (4 * o + 3) = pI (q_pt s o 3) from hR.2.2.1 o 3 ho (by decide)]
                  rcases hq45 : q_pt s o 3 with _ | k46
                  · refine lv_if_lt (tgt := 164) hx hb d_M_paths_148 (by decide) (fun c48 => ?_) (fun c48 => ?_)
                    · have hO47 : oOut s o (pthP s o (pDk N tp) (tk + 1)) = false := oOut_n hq45
                      have e9 : bI (pthB s o (pDk N tp) tk) = bI (pthB s o (pDk N tp) (tk + 1)) := by show _ = bI (_ || oOut s o (pthP s o (pDk N tp) (tk + 1))); rw [hO47, Bool.or_false]
                      rw [e9] at hl
                      obtain ⟨i49, ei49⟩ : ∃ y : Int32, y = (nI tk) + 1 := ⟨_, rfl⟩
                      refine lv_iinc (v := i49) (lv' := [(9, .int i49), (6, .long (pthP s o (pDk N tp) (tk + 1))), (1, .long (pthD (pDk N tp) (tk + 1))), (0, .ref (lm 0)), (3, .long (pSum s o N tp)), (5, .int (nI tp)), (8, .int (bI (pthB s o (pDk N tp) (tk + 1))))]) hx hb d_M_paths_164 hl (k := 6) rfl (by rw [ei49]; rfl) (by decide) rfl (fun ls hl => ?_)
                      rw [nI_1] at ei49; subst ei49
                      refine lv_goto (tgt := 67) hx hb d_M_paths_167 (by decide) ?_
                      exact ih2 ls (lv_sub hl [3, 2, 4, 5, 1, 6, 0] rfl)
                    · exact absurd (show pI none < 0 from by decide) c48
                  · have hk8 : k46 < 2 ^ 31 := by have h1 := (hok.2 o ho).2.2.2.2.1 3 k46 hq45; have h2 := hok.1; omega
                    refine lv_if_lt (tgt := 164) hx hb d_M_paths_148 (by decide) (fun c48 => ?_) (fun c48 => ?_)
                    · exact absurd c48 (nI_pos hk8)
                    · refine lv_lload hx hb d_M_paths_151 (lv_at hl 0 rfl) ?_
                      refine lv_aload_n hx hb d_M_paths_153 rfl (lv_at hl 2 rfl) ?_
                      refine mg 30 (by decide) hx hb ht hown hw gw_827 rfl rfl d_M_paths_154 ?_
                      rw [show m_kn m = q_am s k46 from hkn k46 hq45]
                      refine W.lcmp hx hb d_M_paths_157 ?_
                      refine lv_if_lt (tgt := 164) hx hb d_M_paths_158 (by decide) (fun c50 => ?_) (fun c50 => ?_)
                      · have hO47 : oOut s o (pthP s o (pDk N tp) (tk + 1)) = false := by rw [oOut_s hq45]; exact decide_eq_false (fun h => h ((lg_cmp_lt _ _).mp c50))
                        have e9 : bI (pthB s o (pDk N tp) tk) = bI (pthB s o (pDk N tp) (tk + 1)) := by show _ = bI (_ || oOut s o (pthP s o (pDk N tp) (tk + 1))); rw [hO47, Bool.or_false]
                        rw [e9] at hl
                        obtain ⟨i51, ei51⟩ : ∃ y : Int32, y = (nI tk) + 1 := ⟨_, rfl⟩
                        refine lv_iinc (v := i51) (lv' := [(9, .int i51), (6, .long (pthP s o (pDk N tp) (tk + 1))), (1, .long (pthD (pDk N tp) (tk + 1))), (0, .ref (lm 0)), (3, .long (pSum s o N tp)), (5, .int (nI tp)), (8, .int (bI (pthB s o (pDk N tp) (tk + 1))))]) hx hb d_M_paths_164 hl (k := 6) rfl (by rw [ei51]; rfl) (by decide) rfl (fun ls hl => ?_)
                        rw [nI_1] at ei51; subst ei51
                        refine lv_goto (tgt := 67) hx hb d_M_paths_167 (by decide) ?_
                        exact ih2 ls (lv_sub hl [3, 2, 4, 5, 1, 6, 0] rfl)
                      · have hO47 : oOut s o (pthP s o (pDk N tp) (tk + 1)) = true := by rw [oOut_s hq45]; exact decide_eq_true (fun h => c50 ((lg_cmp_lt _ _).mpr h))
                        refine lv_iconst (v := 1) hx hb d_M_paths_161 (by decide) ?_
                        refine lv_istore (lv' := [(8, .int (1 : Int32)), (6, .long (pthP s o (pDk N tp) (tk + 1))), (1, .long (pthD (pDk N tp) (tk + 1))), (0, .ref (lm 0)), (3, .long (pSum s o N tp)), (5, .int (nI tp)), (9, .int (nI tk))]) hx hb d_M_paths_162 hl (by decide) rfl (fun ls hl => ?_)
                        have e9 : (1 : Int32) = bI (pthB s o (pDk N tp) (tk + 1)) := by show _ = bI (_ || oOut s o (pthP s o (pDk N tp) (tk + 1))); rw [hO47, Bool.or_true]; rfl
                        rw [e9] at hl
                        obtain ⟨i52, ei52⟩ : ∃ y : Int32, y = (nI tk) + 1 := ⟨_, rfl⟩
                        refine lv_iinc (v := i52) (lv' := [(9, .int i52), (8, .int (bI (pthB s o (pDk N tp) (tk + 1)))), (6, .long (pthP s o (pDk N tp) (tk + 1))), (1, .long (pthD (pDk N tp) (tk + 1))), (0, .ref (lm 0)), (3, .long (pSum s o N tp)), (5, .int (nI tp))]) hx hb d_M_paths_164 hl (k := 6) rfl (by rw [ei52]; rfl) (by decide) rfl (fun ls hl => ?_)
                        rw [nI_1] at ei52; subst ei52
                        refine lv_goto (tgt := 67) hx hb d_M_paths_167 (by decide) ?_
                        exact ih2 ls (lv_sub hl [4, 3, 5, 6, 2, 1, 0] rfl)
          · have hO8 : oOut s o (oS s o) = true := by rw [oOut_s hq6]; exact decide_eq_true (fun h => c31 ((lg_cmp_lt _ _).mpr h))
            refine lv_iconst (v := 1) hx hb d_M_paths_57 (by decide) ?_
            refine lv_goto (tgt := 62) hx hb d_M_paths_58 (by decide) ?_
            refine lv_istore (lv' := [(8, .int (1 : Int32)), (6, .long (oS s o)), (0, .ref (lm 0)), (1, .long (pDk N tp)), (3, .long (pSum s o N tp)), (5, .int (nI tp))]) hx hb d_M_paths_62 hl (by decide) rfl (fun ls hl => ?_)
            have hl : lv_has ls 10 [(8, .int (bI (pthB s o (pDk N tp) 0))), (6, .long (oS s o)), (0, .ref (lm 0)), (1, .long (pDk N tp)), (3, .long (pSum s o N tp)), (5, .int (nI tp))] := by rw [show pthB s o (pDk N tp) 0 = true from hO8]; exact hl
            refine lv_iconst (v := 0) hx hb d_M_paths_64 (by decide) ?_
            refine lv_istore (lv' := [(9, .int (0 : Int32)), (8, .int (bI (pthB s o (pDk N tp) 0))), (6, .long (oS s o)), (0, .ref (lm 0)), (1, .long (pDk N tp)), (3, .long (pSum s o N tp)), (5, .int (nI tp))]) hx hb d_M_paths_65 hl (by decide) rfl (fun ls hl => ?_)
            refine k_cnt (N) (fun tk ls => lv_has ls 10 [(0, .ref (lm 0)), (1, .long (pthD (pDk N tp) tk)), (3, .long (pSum s o N tp)), (5, .int (nI tp)), (6, .long (pthP s o (pDk N tp) tk)), (8, .int (bI (pthB s o (pDk N tp) tk))), (9, .int (nI tk))]) (k0 := 0) (Nat.zero_le _) (lv_sub hl [3, 4, 5, 6, 2, 1, 0] rfl) (fun ls hl => ?_) (fun tk ls htk hl ih2 => ?_)
            · refine lv_iload hx hb d_M_paths_67 (lv_at hl 6 rfl) ?_
              refine lv_aload_n hx hb d_M_paths_69 rfl (lv_at hl 0 rfl) ?_
              refine mg 10 (by decide) hx hb ht hown hw gw_807 rfl rfl d_M_paths_70 ?_
              refine lv_aload_n hx hb d_M_paths_73 rfl (lv_at hl 0 rfl) ?_
              refine mg 27 (by decide) hx hb ht hown hw gw_824 rfl rfl d_M_paths_74 ?_
              rw [show m_nw m = nI o from hnw]
              refine ma_steps (j := o) rfl (by have := hR.2.2.2; omega) hx hb hw d_M_paths_77 ?_
              rw [hsp]
              refine lv_icmp_ge (tgt := 170) hx hb d_M_paths_78 (by decide) (fun c2 => ?_) (fun c2 => ?_)
              · refine lv_iload hx hb d_M_paths_170 (lv_at hl 5 rfl) ?_
                refine lv_if_ne (tgt := 184) hx hb d_M_paths_172 (by decide) (fun c53 => ?_) (fun c53 => ?_)
                · obtain ⟨i54, ei54⟩ : ∃ y : Int32, y = (nI tp) + 1 := ⟨_, rfl⟩
                  refine lv_iinc (v := i54) (lv' := [(5, .int i54), (0, .ref (lm 0)), (1, .long (pthD (pDk N tp) N)), (3, .long (pSum s o N tp)), (6, .long (pthP s o (pDk N tp) N)), (8, .int (bI (pthB s o (pDk N tp) N))), (9, .int (nI N))]) hx hb d_M_paths_184 hl (k := 3) rfl (by rw [ei54]; rfl) (by decide) rfl (fun ls hl => ?_)
                  rw [nI_1] at ei54; subst ei54
                  refine lv_goto (tgt := 9) hx hb d_M_paths_187 (by decide) ?_
                  have e9 : pSum s o N tp = pSum s o N (tp + 1) := by show _ = _ + pEnd s o N (pDk N tp); unfold pEnd; rw [if_pos ((bI_ne _).mp c53), Int64.add_zero]
                  rw [e9] at hl
                  exact ih ls H locs ⟨lv_sub hl [1, 2, 3, 0] rfl, hw⟩
                · have hB9 := (bI_eq _).mp c53
                  refine lv_lload_n hx hb d_M_paths_175 rfl (lv_at hl 2 rfl) ?_
                  refine lv_aload_n hx hb d_M_paths_176 rfl (lv_at hl 0 rfl) ?_
                  refine lv_lload hx hb d_M_paths_177 (lv_at hl 4 rfl) ?_
                  have hxb := pthP_b hbn (d := (pDk N tp)) N hN
                  refine kc_l (kr_V 1 (C := "QuoteGraphModel") (As := [.long (pthP s o (pDk N tp) N)]) (rest := [.long (pSum s o N tp)]) (c_M_payoff l G A lm s m u hw.2.1 hok o ho hnw hkn (pthP s o (pDk N tp) N) (by omega) (by have := hbn.2.2.1; omega)) hx hb hml hown ht hw.1 gw_991 gw_993 gw_36 gw_47 gw_994 ⟨⟨by decide, by decide⟩, by decide +kernel⟩ ⟨by first | decide | (dsimp only; omega), by first | decide | (dsimp only; omega)⟩ (kr_M hw) rfl hl.1 rfl (lv_room (Nat.le_of_ble_eq_true rfl)) d_M_paths_179 ⟨by first | decide | (dsimp only; omega), by first | decide | (dsimp only; omega)⟩) hw.1 (fun _ _ _ _ _ _ h => h.elim) (fun r55 u55 H55 locs55 hp55 hw55 => ?_)
                  obtain ⟨er55, hq55⟩ := hp55
                  replace hq55 := hq55.symm; subst hq55
                  subst er55
                  have hw : Mk G A lm s m u u st H55 locs55 := ⟨hw55, hw.2⟩
                  refine lv_ladd hx hb d_M_paths_182 ?_
                  refine lv_lstore_n (lv' := [(3, .long ((pSum s o N tp) + (oPay s o (pthP s o (pDk N tp) N)))), (0, .ref (lm 0)), (1, .long (pthD (pDk N tp) N)), (5, .int (nI tp)), (6, .long (pthP s o (pDk N tp) N)), (8, .int (bI (pthB s o (pDk N tp) N))), (9, .int (nI N))]) hx hb d_M_paths_183 rfl hl (by decide) rfl (fun ls hl => ?_)
                  obtain ⟨i56, ei56⟩ : ∃ y : Int32, y = (nI tp) + 1 := ⟨_, rfl⟩
                  refine lv_iinc (v := i56) (lv' := [(5, .int i56), (3, .long ((pSum s o N tp) + (oPay s o (pthP s o (pDk N tp) N)))), (0, .ref (lm 0)), (1, .long (pthD (pDk N tp) N)), (6, .long (pthP s o (pDk N tp) N)), (8, .int (bI (pthB s o (pDk N tp) N))), (9, .int (nI N))]) hx hb d_M_paths_184 hl (k := 3) rfl (by rw [ei56]; rfl) (by decide) rfl (fun ls hl => ?_)
                  rw [nI_1] at ei56; subst ei56
                  refine lv_goto (tgt := 9) hx hb d_M_paths_187 (by decide) ?_
                  have e9 : pSum s o N tp + oPay s o (pthP s o (pDk N tp) N) = pSum s o N (tp + 1) := by show _ = _ + pEnd s o N (pDk N tp); unfold pEnd oPay; rw [if_neg (by rw [pthB_o hB9]; decide), if_neg (by rw [hB9]; decide)]
                  rw [e9] at hl
                  exact ih ls H55 locs55 ⟨lv_sub hl [2, 3, 1, 0] rfl, hw⟩
              · exact absurd (nI_le (Nat.le_refl _) (by omega)) c2
            · refine lv_iload hx hb d_M_paths_67 (lv_at hl 6 rfl) ?_
              refine lv_aload_n hx hb d_M_paths_69 rfl (lv_at hl 0 rfl) ?_
              refine mg 10 (by decide) hx hb ht hown hw gw_807 rfl rfl d_M_paths_70 ?_
              refine lv_aload_n hx hb d_M_paths_73 rfl (lv_at hl 0 rfl) ?_
              refine mg 27 (by decide) hx hb ht hown hw gw_824 rfl rfl d_M_paths_74 ?_
              rw [show m_nw m = nI o from hnw]
              refine ma_steps (j := o) rfl (by have := hR.2.2.2; omega) hx hb hw d_M_paths_77 ?_
              rw [hsp]
              refine lv_icmp_ge (tgt := 170) hx hb d_M_paths_78 (by decide) (fun c2 => ?_) (fun c2 => ?_)
              · exact absurd c2 (nI_ge htk (by omega))
              · refine lv_lload_n hx hb d_M_paths_81 rfl (lv_at hl 1 rfl) ?_
                refine lv_ldc2 (v := 1103515245) hx hb hown (ht _ gw_1014) d_M_paths_82 ?_
                refine lv_lmul hx hb d_M_paths_85 ?_
                refine lv_ldc2 (v := 12345) hx hb hown (ht _ gw_1013) d_M_paths_86 ?_
                refine lv_ladd hx hb d_M_paths_89 ?_
                refine lv_ldc2 (v := 2147483647) hx hb hown (ht _ gw_1015) d_M_paths_90 ?_
                refine lv_land hx hb d_M_paths_93 ?_
                rw [show (pthD (pDk N tp) tk * 1103515245 + 12345) &&& 2147483647 = pthD (pDk N tp) (tk + 1) from rfl]
                refine lv_lstore_n (lv' := [(1, .long (pthD (pDk N tp) (tk + 1))), (0, .ref (lm 0)), (3, .long (pSum s o N tp)), (5, .int (nI tp)), (6, .long (pthP s o (pDk N tp) tk)), (8, .int (bI (pthB s o (pDk N tp) tk))), (9, .int (nI tk))]) hx hb d_M_paths_94 rfl hl (by decide) rfl (fun ls hl => ?_)
                refine lv_lload hx hb d_M_paths_95 (lv_at hl 4 rfl) ?_
                refine lv_lload_n hx hb d_M_paths_97 rfl (lv_at hl 0 rfl) ?_
                refine lv_ldc2 (v := 65536) hx hb hown (ht _ gw_1016) d_M_paths_98 ?_
                refine lv_ldiv hx hb d_M_paths_101 (by decide) ?_
                refine lv_ldc2 (v := 16) hx hb hown (ht _ gw_996) d_M_paths_102 ?_
                refine lv_lrem hx hb d_M_paths_105 (by decide) ?_
                refine lv_aload_n hx hb d_M_paths_106 rfl (lv_at hl 1 rfl) ?_
                refine mg 11 (by decide) hx hb ht hown hw gw_808 rfl rfl d_M_paths_107 ?_
                refine lv_aload_n hx hb d_M_paths_110 rfl (lv_at hl 1 rfl) ?_
                refine mg 27 (by decide) hx hb ht hown hw gw_824 rfl rfl d_M_paths_111 ?_
                rw [show m_nw m = nI o from hnw]
                refine ma_chance (j := o) rfl (by have := hR.2.2.2; omega) hx hb hw d_M_paths_114 ?_
                refine lv_i2l hx hb d_M_paths_115 rfl ?_
                refine W.lcmp hx hb d_M_paths_116 ?_
                refine lv_if_ge (tgt := 127) hx hb d_M_paths_117 (by decide) (fun c57 => ?_) (fun c57 => ?_)
                · have hu9 : ¬ dwU (pthD (pDk N tp) (tk + 1)) (q_ch s o) = true := fun h => absurd ((lg_cmp_lt _ _).mpr ((dwU_e tk).mpr h)) (by rw [i_nlt]; exact c57)
                  refine lv_aload_n hx hb d_M_paths_127 rfl (lv_at hl 1 rfl) ?_
                  refine mg 29 (by decide) hx hb ht hown hw gw_826 rfl rfl d_M_paths_128 ?_
                  rw [show m_mv m = oM s o from hm0]
                  refine lv_lneg hx hb d_M_paths_131 ?_
                  refine lv_ladd hx hb d_M_paths_132 ?_
                  rw [show pthP s o (pDk N tp) tk + -(oM s o) = pthP s o (pDk N tp) (tk + 1) by show _ = _ + (if _ then _ else _); rw [if_neg hu9]]
                  refine lv_lstore (lv' := [(6, .long (pthP s o (pDk N tp) (tk + 1))), (1, .long (pthD (pDk N tp) (tk + 1))), (0, .ref (lm 0)), (3, .long (pSum s o N tp)), (5, .int (nI tp)), (8, .int (bI (pthB s o (pDk N tp) tk))), (9, .int (nI tk))]) hx hb d_M_paths_133 hl (by decide) rfl (fun ls hl => ?_)
                  refine lv_aload_n hx hb d_M_paths_135 rfl (lv_at hl 2 rfl) ?_
                  refine mg 1 (by decide) hx hb ht hown hw gw_798 rfl rfl d_M_paths_136 ?_
                  refine lv_aload_n hx hb d_M_paths_139 rfl (lv_at hl 2 rfl) ?_
                  refine mg 27 (by decide) hx hb ht hown hw gw_824 rfl rfl d_M_paths_140 ?_
                  rw [show m_nw m = nI o from hnw]
                  refine lv_iconst (v := 4) hx hb d_M_paths_143 (by decide) ?_
                  refine lv_imul hx hb d_M_paths_144 ?_
                  refine lv_iconst (v := 3) hx hb d_M_paths_145 (by decide) ?_
                  refine lv_iadd hx hb d_M_paths_146 ?_
                  refine ma_part (j := (4 * o + 3)) (mul4 _ 3) (by have := hR.2.2.2; omega) hx hb hw d_M_paths_147 ?_
                  rw [show m_pt m (4 * o + 3) = pI (q_pt s o 3) from hR.2.2.1 o 3 ho (by decide)]
                  rcases hq58 : q_pt s o 3 with _ | k59
                  · refine lv_if_lt (tgt := 164) hx hb d_M_paths_148 (by decide) (fun c61 => ?_) (fun c61 => ?_)
                    · have hO60 : oOut s o (pthP s o (pDk N tp) (tk + 1)) = false := oOut_n hq58
                      have e9 : bI (pthB s o (pDk N tp) tk) = bI (pthB s o (pDk N tp) (tk + 1)) := by show _ = bI (_ || oOut s o (pthP s o (pDk N tp) (tk + 1))); rw [hO60, Bool.or_false]
                      rw [e9] at hl
                      obtain ⟨i62, ei62⟩ : ∃ y : Int32, y = (nI tk) + 1 := ⟨_, rfl⟩
                      refine lv_iinc (v := i62) (lv' := [(9, .int i62), (6, .long (pthP s o (pDk N tp) (tk + 1))), (1, .long (pthD (pDk N tp) (tk + 1))), (0, .ref (lm 0)), (3, .long (pSum s o N tp)), (5, .int (nI tp)), (8, .int (bI (pthB s o (pDk N tp) (tk + 1))))]) hx hb d_M_paths_164 hl (k := 6) rfl (by rw [ei62]; rfl) (by decide) rfl (fun ls hl => ?_)
                      rw [nI_1] at ei62; subst ei62
                      refine lv_goto (tgt := 67) hx hb d_M_paths_167 (by decide) ?_
                      exact ih2 ls (lv_sub hl [3, 2, 4, 5, 1, 6, 0] rfl)
                    · exact absurd (show pI none < 0 from by decide) c61
                  · have hk8 : k59 < 2 ^ 31 := by have h1 := (hok.2 o ho).2.2.2.2.1 3 k59 hq58; have h2 := hok.1; omega
                    refine lv_if_lt (tgt := 164) hx hb d_M_paths_148 (by decide) (fun c61 => ?_) (fun c61 => ?_)
                    · exact absurd c61 (nI_pos hk8)
                    · refine lv_lload hx hb d_M_paths_151 (lv_at hl 0 rfl) ?_
                      refine lv_aload_n hx hb d_M_paths_153 rfl (lv_at hl 2 rfl) ?_
                      refine mg 30 (by decide) hx hb ht hown hw gw_827 rfl rfl d_M_paths_154 ?_
                      rw [show m_kn m = q_am s k59 from hkn k59 hq58]
                      refine W.lcmp hx hb d_M_paths_157 ?_
                      refine lv_if_lt (tgt := 164) hx hb d_M_paths_158 (by decide) (fun c63 => ?_) (fun c63 => ?_)
                      · have hO60 : oOut s o (pthP s o (pDk N tp) (tk + 1)) = false := by rw [oOut_s hq58]; exact decide_eq_false (fun h => h ((lg_cmp_lt _ _).mp c63))
                        have e9 : bI (pthB s o (pDk N tp) tk) = bI (pthB s o (pDk N tp) (tk + 1)) := by show _ = bI (_ || oOut s o (pthP s o (pDk N tp) (tk + 1))); rw [hO60, Bool.or_false]
                        rw [e9] at hl
                        obtain ⟨i64, ei64⟩ : ∃ y : Int32, y = (nI tk) + 1 := ⟨_, rfl⟩
                        refine lv_iinc (v := i64) (lv' := [(9, .int i64), (6, .long (pthP s o (pDk N tp) (tk + 1))), (1, .long (pthD (pDk N tp) (tk + 1))), (0, .ref (lm 0)), (3, .long (pSum s o N tp)), (5, .int (nI tp)), (8, .int (bI (pthB s o (pDk N tp) (tk + 1))))]) hx hb d_M_paths_164 hl (k := 6) rfl (by rw [ei64]; rfl) (by decide) rfl (fun ls hl => ?_)
                        rw [nI_1] at ei64; subst ei64
                        refine lv_goto (tgt := 67) hx hb d_M_paths_167 (by decide) ?_
                        exact ih2 ls (lv_sub hl [3, 2, 4, 5, 1, 6, 0] rfl)
                      · have hO60 : oOut s o (pthP s o (pDk N tp) (tk + 1)) = true := by rw [oOut_s hq58]; exact decide_eq_true (fun h => c63 ((lg_cmp_lt _ _).mpr h))
                        refine lv_iconst (v := 1) hx hb d_M_paths_161 (by decide) ?_
                        refine lv_istore (lv' := [(8, .int (1 : Int32)), (6, .long (pthP s o (pDk N tp) (tk + 1))), (1, .long (pthD (pDk N tp) (tk + 1))), (0, .ref (lm 0)), (3, .long (pSum s o N tp)), (5, .int (nI tp)), (9, .int (nI tk))]) hx hb d_M_paths_162 hl (by decide) rfl (fun ls hl => ?_)
                        have e9 : (1 : Int32) = bI (pthB s o (pDk N tp) (tk + 1)) := by show _ = bI (_ || oOut s o (pthP s o (pDk N tp) (tk + 1))); rw [hO60, Bool.or_true]; rfl
                        rw [e9] at hl
                        obtain ⟨i65, ei65⟩ : ∃ y : Int32, y = (nI tk) + 1 := ⟨_, rfl⟩
                        refine lv_iinc (v := i65) (lv' := [(9, .int i65), (8, .int (bI (pthB s o (pDk N tp) (tk + 1)))), (6, .long (pthP s o (pDk N tp) (tk + 1))), (1, .long (pthD (pDk N tp) (tk + 1))), (0, .ref (lm 0)), (3, .long (pSum s o N tp)), (5, .int (nI tp))]) hx hb d_M_paths_164 hl (k := 6) rfl (by rw [ei65]; rfl) (by decide) rfl (fun ls hl => ?_)
                        rw [nI_1] at ei65; subst ei65
                        refine lv_goto (tgt := 67) hx hb d_M_paths_167 (by decide) ?_
                        exact ih2 ls (lv_sub hl [4, 3, 5, 6, 2, 1, 0] rfl)
                · have hu9 : dwU (pthD (pDk N tp) (tk + 1)) (q_ch s o) = true := (dwU_e tk).mp ((lg_cmp_lt _ _).mp (by rw [← i_nle]; exact c57))
                  refine lv_aload_n hx hb d_M_paths_120 rfl (lv_at hl 1 rfl) ?_
                  refine mg 29 (by decide) hx hb ht hown hw gw_826 rfl rfl d_M_paths_121 ?_
                  rw [show m_mv m = oM s o from hm0]
                  refine lv_goto (tgt := 132) hx hb d_M_paths_124 (by decide) ?_
                  refine lv_ladd hx hb d_M_paths_132 ?_
                  rw [show pthP s o (pDk N tp) tk + oM s o = pthP s o (pDk N tp) (tk + 1) by show _ = _ + (if _ then _ else _); rw [if_pos hu9]]
                  refine lv_lstore (lv' := [(6, .long (pthP s o (pDk N tp) (tk + 1))), (1, .long (pthD (pDk N tp) (tk + 1))), (0, .ref (lm 0)), (3, .long (pSum s o N tp)), (5, .int (nI tp)), (8, .int (bI (pthB s o (pDk N tp) tk))), (9, .int (nI tk))]) hx hb d_M_paths_133 hl (by decide) rfl (fun ls hl => ?_)
                  refine lv_aload_n hx hb d_M_paths_135 rfl (lv_at hl 2 rfl) ?_
                  refine mg 1 (by decide) hx hb ht hown hw gw_798 rfl rfl d_M_paths_136 ?_
                  refine lv_aload_n hx hb d_M_paths_139 rfl (lv_at hl 2 rfl) ?_
                  refine mg 27 (by decide) hx hb ht hown hw gw_824 rfl rfl d_M_paths_140 ?_
                  rw [show m_nw m = nI o from hnw]
                  refine lv_iconst (v := 4) hx hb d_M_paths_143 (by decide) ?_
                  refine lv_imul hx hb d_M_paths_144 ?_
                  refine lv_iconst (v := 3) hx hb d_M_paths_145 (by decide) ?_
                  refine lv_iadd hx hb d_M_paths_146 ?_
                  refine ma_part (j := (4 * o + 3)) (mul4 _ 3) (by have := hR.2.2.2; omega) hx hb hw d_M_paths_147 ?_
                  rw [show m_pt m (4 * o + 3) = pI (q_pt s o 3) from hR.2.2.1 o 3 ho (by decide)]
                  rcases hq66 : q_pt s o 3 with _ | k67
                  · refine lv_if_lt (tgt := 164) hx hb d_M_paths_148 (by decide) (fun c69 => ?_) (fun c69 => ?_)
                    · have hO68 : oOut s o (pthP s o (pDk N tp) (tk + 1)) = false := oOut_n hq66
                      have e9 : bI (pthB s o (pDk N tp) tk) = bI (pthB s o (pDk N tp) (tk + 1)) := by show _ = bI (_ || oOut s o (pthP s o (pDk N tp) (tk + 1))); rw [hO68, Bool.or_false]
                      rw [e9] at hl
                      obtain ⟨i70, ei70⟩ : ∃ y : Int32, y = (nI tk) + 1 := ⟨_, rfl⟩
                      refine lv_iinc (v := i70) (lv' := [(9, .int i70), (6, .long (pthP s o (pDk N tp) (tk + 1))), (1, .long (pthD (pDk N tp) (tk + 1))), (0, .ref (lm 0)), (3, .long (pSum s o N tp)), (5, .int (nI tp)), (8, .int (bI (pthB s o (pDk N tp) (tk + 1))))]) hx hb d_M_paths_164 hl (k := 6) rfl (by rw [ei70]; rfl) (by decide) rfl (fun ls hl => ?_)
                      rw [nI_1] at ei70; subst ei70
                      refine lv_goto (tgt := 67) hx hb d_M_paths_167 (by decide) ?_
                      exact ih2 ls (lv_sub hl [3, 2, 4, 5, 1, 6, 0] rfl)
                    · exact absurd (show pI none < 0 from by decide) c69
                  · have hk8 : k67 < 2 ^ 31 := by have h1 := (hok.2 o ho).2.2.2.2.1 3 k67 hq66; have h2 := hok.1; omega
                    refine lv_if_lt (tgt := 164) hx hb d_M_paths_148 (by decide) (fun c69 => ?_) (fun c69 => ?_)
                    · exact absurd c69 (nI_pos hk8)
                    · refine lv_lload hx hb d_M_paths_151 (lv_at hl 0 rfl) ?_
                      refine lv_aload_n hx hb d_M_paths_153 rfl (lv_at hl 2 rfl) ?_
                      refine mg 30 (by decide) hx hb ht hown hw gw_827 rfl rfl d_M_paths_154 ?_
                      rw [show m_kn m = q_am s k67 from hkn k67 hq66]
                      refine W.lcmp hx hb d_M_paths_157 ?_
                      refine lv_if_lt (tgt := 164) hx hb d_M_paths_158 (by decide) (fun c71 => ?_) (fun c71 => ?_)
                      · have hO68 : oOut s o (pthP s o (pDk N tp) (tk + 1)) = false := by rw [oOut_s hq66]; exact decide_eq_false (fun h => h ((lg_cmp_lt _ _).mp c71))
                        have e9 : bI (pthB s o (pDk N tp) tk) = bI (pthB s o (pDk N tp) (tk + 1)) := by show _ = bI (_ || oOut s o (pthP s o (pDk N tp) (tk + 1))); rw [hO68, Bool.or_false]
                        rw [e9] at hl
                        obtain ⟨i72, ei72⟩ : ∃ y : Int32, y = (nI tk) + 1 := ⟨_, rfl⟩
                        refine lv_iinc (v := i72) (lv' := [(9, .int i72), (6, .long (pthP s o (pDk N tp) (tk + 1))), (1, .long (pthD (pDk N tp) (tk + 1))), (0, .ref (lm 0)), (3, .long (pSum s o N tp)), (5, .int (nI tp)), (8, .int (bI (pthB s o (pDk N tp) (tk + 1))))]) hx hb d_M_paths_164 hl (k := 6) rfl (by rw [ei72]; rfl) (by decide) rfl (fun ls hl => ?_)
                        rw [nI_1] at ei72; subst ei72
                        refine lv_goto (tgt := 67) hx hb d_M_paths_167 (by decide) ?_
                        exact ih2 ls (lv_sub hl [3, 2, 4, 5, 1, 6, 0] rfl)
                      · have hO68 : oOut s o (pthP s o (pDk N tp) (tk + 1)) = true := by rw [oOut_s hq66]; exact decide_eq_true (fun h => c71 ((lg_cmp_lt _ _).mpr h))
                        refine lv_iconst (v := 1) hx hb d_M_paths_161 (by decide) ?_
                        refine lv_istore (lv' := [(8, .int (1 : Int32)), (6, .long (pthP s o (pDk N tp) (tk + 1))), (1, .long (pthD (pDk N tp) (tk + 1))), (0, .ref (lm 0)), (3, .long (pSum s o N tp)), (5, .int (nI tp)), (9, .int (nI tk))]) hx hb d_M_paths_162 hl (by decide) rfl (fun ls hl => ?_)
                        have e9 : (1 : Int32) = bI (pthB s o (pDk N tp) (tk + 1)) := by show _ = bI (_ || oOut s o (pthP s o (pDk N tp) (tk + 1))); rw [hO68, Bool.or_true]; rfl
                        rw [e9] at hl
                        obtain ⟨i73, ei73⟩ : ∃ y : Int32, y = (nI tk) + 1 := ⟨_, rfl⟩
                        refine lv_iinc (v := i73) (lv' := [(9, .int i73), (8, .int (bI (pthB s o (pDk N tp) (tk + 1)))), (6, .long (pthP s o (pDk N tp) (tk + 1))), (1, .long (pthD (pDk N tp) (tk + 1))), (0, .ref (lm 0)), (3, .long (pSum s o N tp)), (5, .int (nI tp))]) hx hb d_M_paths_164 hl (k := 6) rfl (by rw [ei73]; rfl) (by decide) rfl (fun ls hl => ?_)
                        rw [nI_1] at ei73; subst ei73
                        refine lv_goto (tgt := 67) hx hb d_M_paths_167 (by decide) ?_
                        exact ih2 ls (lv_sub hl [4, 3, 5, 6, 2, 1, 0] rfl)

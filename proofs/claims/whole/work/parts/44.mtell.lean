/-! 44.mtell: contracts of users, tell -/
theorem pI_eq {q : Option Nat} {x : Nat} (hx : x < 2 ^ 31) (h : ∀ y, q = some y → y < 2 ^ 31) : pI q = nI x ↔ q = some x := by
  rcases q with _ | y
  · refine ⟨fun e => ?_, fun e => by cases e⟩
    have := nI_pos (n := x) hx
    rw [← (show pI none = nI x from e)] at this
    exact absurd (show pI none < 0 by decide) this
  · exact ⟨fun e => by rw [nI_inj (h y rfl) hx e], fun e => by cases e; rfl⟩
theorem pt_31 {s : QS} (ho : okQ s) {j k y : Nat} (hj : j < q_n s) (h : q_pt s j k = some y) : y < 2 ^ 31 := by
  have h1 := (ho.2 j hj).2.2.2.2.1 k y h; have h2 := ho.1; omega
theorem ed_so {s : QS} (ho : okQ s) {y x : Nat} (hy : y < q_n s) (h : ed s y x) : q_so s y ≠ 0 := fun e => by
  obtain ⟨k, -, h2⟩ := h
  rw [(ho.2 y hy).2.2.1 e k] at h2; cases h2
theorem mS_li_li (m : MS) (a b : Nat → Int32) : mS_li (mS_li m a) b = mS_li m b := rfl
theorem bI_or_t {a b : Bool} (h : b = true) : bI (a || b) = 1 := by rw [h, Bool.or_true]; rfl
theorem bI_or_f {a b : Bool} (h : b = false) : bI (a || b) = bI a := by rw [h, Bool.or_false]
set_option maxHeartbeats 4000000 in
set_option maxRecDepth 100000 in
theorem c_M_users (l : Launch) (G : GT) (A : Nat → Prop) (lm : Nat → Nat) (s : QS) (m : MS) (u : WT) (hR : rM G lm s m u) (hok : okQ s) (x c0 : Nat) (hx9 : x < q_n s) (hLG : LG (m_li m) c0 (q_n s)) : Kt l y_M_users b_M_users 8 (some .int) 0 0 0 0 0 0 0 0 G A u [.ref (lm 0), .int (nI x), .int (nI c0)] (KQ G A (Ri (fun r u' => ∃ li' n', r = nI n' ∧ LG li' n' (q_n s) ∧ (∀ y, y < q_n s → (inL li' n' y ↔ inL (m_li m) c0 y ∨ ed s y x)) ∧ rM G lm s (mS_li m li') u' ∧ fM lm u u'))) (NX) := by
  refine k_of (by decide) (Nat.le_of_ble_eq_true rfl) (fun p e st mt below meth c ls hx hb hr hlocks hml htab hname hown ht hw hl => ?_)
  have hl : lv_has ls 8 [(0, .ref (lm 0)), (1, .int (nI x)), (2, .int (nI c0))] := hl
  have hw : Mk G A lm s m u u st st.heap [] := ⟨hw, hR, fM.rf⟩
  have h16 := hR.2.2.2
  refine lv_iload_n hx hb d_M_users_0 rfl (lv_at hl 2 rfl) ?_
  refine lv_istore_n (lv' := [(3, .int (nI c0)), (0, .ref (lm 0)), (1, .int (nI x)), (2, .int (nI c0))]) hx hb d_M_users_1 rfl hl (by decide) rfl (fun ls hl => ?_)
  refine lv_iconst (v := 0) hx hb d_M_users_2 (by decide) ?_
  refine lv_istore (lv' := [(4, .int (0 : Int32)), (3, .int (nI c0)), (0, .ref (lm 0)), (1, .int (nI x)), (2, .int (nI c0))]) hx hb d_M_users_3 hl (by decide) rfl (fun ls hl => ?_)
  refine k_cntH (q_n s) (fun ui ls H locs => ∃ (li9 : Nat → Int32) (n9 : Nat), lv_has ls 8 [(0, .ref (lm 0)), (1, .int (nI x)), (2, .int (nI c0)), (3, .int (nI n9)), (4, .int (nI ui))] ∧ LG li9 n9 (q_n s) ∧ (∀ y, y < q_n s → (inL li9 n9 y ↔ inL (m_li m) c0 y ∨ (y < ui ∧ ed s y x))) ∧ ∃ u9, Mk G A lm s (mS_li m li9) u u9 st H locs) (k0 := 0) (Nat.zero_le _) (⟨m_li m, c0, lv_sub hl [2, 3, 4, 1, 0] rfl, ⟨hLG, (fun y _ => ⟨Or.inl, fun h => h.elim id (fun h => absurd h.1 (by omega))⟩), u, hw⟩⟩) (fun ls H locs hJ => ?_) (fun ui ls H locs hui hJ ih => ?_)
  · obtain ⟨li9, n9, hl, hw⟩ := hJ
    obtain ⟨hG9, hI9, u9, hw⟩ := hw
    have hn16 := hG9.le h16
    refine lv_iload hx hb d_M_users_5 (lv_at hl 4 rfl) ?_
    refine lv_aload_n hx hb d_M_users_7 rfl (lv_at hl 0 rfl) ?_
    refine mg 21 (by decide) hx hb ht hown hw gw_818 rfl rfl d_M_users_8 ?_
    refine lv_icmp_ge (tgt := 111) hx hb d_M_users_11 (by decide) (fun c1 => ?_) (fun c1 => ?_)
    · refine lv_iload_n hx hb d_M_users_111 rfl (lv_at hl 3 rfl) ?_
      exact kt_i hx hb hr hlocks hw.1 d_M_users_112 (by exact ⟨li9, n9, rfl, hG9, (fun y hy => (hI9 y hy).trans ⟨fun h => h.imp id (fun h => h.2), fun h => h.imp id (fun h => ⟨hy, h⟩)⟩), hw.2.1, hw.2.2⟩) (by first | decide | (dsimp only; omega)) (by first | decide | (dsimp only; omega))
    · exact absurd (nI_le (Nat.le_refl _) (by omega)) c1
  · obtain ⟨li9, n9, hl, hw⟩ := hJ
    obtain ⟨hG9, hI9, u9, hw⟩ := hw
    have hn16 := hG9.le h16
    refine lv_iload hx hb d_M_users_5 (lv_at hl 4 rfl) ?_
    refine lv_aload_n hx hb d_M_users_7 rfl (lv_at hl 0 rfl) ?_
    refine mg 21 (by decide) hx hb ht hown hw gw_818 rfl rfl d_M_users_8 ?_
    refine lv_icmp_ge (tgt := 111) hx hb d_M_users_11 (by decide) (fun c1 => ?_) (fun c1 => ?_)
    · exact absurd c1 (nI_ge hui (by omega))
    · refine lv_iconst (v := 0) hx hb d_M_users_14 (by decide) ?_
      refine lv_istore (lv' := [(5, .int (0 : Int32)), (0, .ref (lm 0)), (1, .int (nI x)), (2, .int (nI c0)), (3, .int (nI n9)), (4, .int (nI ui))]) hx hb d_M_users_15 hl (by decide) rfl (fun ls hl => ?_)
      refine lv_iconst (v := 0) hx hb d_M_users_17 (by decide) ?_
      refine lv_istore (lv' := [(6, .int (0 : Int32)), (5, .int (0 : Int32)), (0, .ref (lm 0)), (1, .int (nI x)), (2, .int (nI c0)), (3, .int (nI n9)), (4, .int (nI ui))]) hx hb d_M_users_18 hl (by decide) rfl (fun ls hl => ?_)
      refine k_cnt (4) (fun uk ls => lv_has ls 8 [(0, .ref (lm 0)), (1, .int (nI x)), (2, .int (nI c0)), (3, .int (nI n9)), (4, .int (nI ui)), (5, .int (bI (usK s ui x uk))), (6, .int (nI uk))]) (k0 := 0) (Nat.zero_le _) (lv_sub hl [2, 3, 4, 5, 6, 1, 0] rfl) (fun ls hl => ?_) (fun uk ls huk hl ih2 => ?_)
      · refine lv_iload hx hb d_M_users_20 (lv_at hl 6 rfl) ?_
        refine lv_iconst (v := 4) hx hb d_M_users_22 (by decide) ?_
        refine lv_icmp_ge (tgt := 51) hx hb d_M_users_23 (by decide) (fun c2 => ?_) (fun c2 => ?_)
        · refine lv_iconst (v := 0) hx hb d_M_users_51 (by decide) ?_
          refine lv_istore (lv' := [(6, .int (0 : Int32)), (0, .ref (lm 0)), (1, .int (nI x)), (2, .int (nI c0)), (3, .int (nI n9)), (4, .int (nI ui)), (5, .int (bI (usK s ui x 4)))]) hx hb d_M_users_52 hl (by decide) rfl (fun ls hl => ?_)
          refine lv_iconst (v := 0) hx hb d_M_users_54 (by decide) ?_
          refine lv_istore (lv' := [(7, .int (0 : Int32)), (6, .int (0 : Int32)), (0, .ref (lm 0)), (1, .int (nI x)), (2, .int (nI c0)), (3, .int (nI n9)), (4, .int (nI ui)), (5, .int (bI (usK s ui x 4)))]) hx hb d_M_users_55 hl (by decide) rfl (fun ls hl => ?_)
          refine k_cnt (n9) (fun uj ls => lv_has ls 8 [(0, .ref (lm 0)), (1, .int (nI x)), (2, .int (nI c0)), (3, .int (nI n9)), (4, .int (nI ui)), (5, .int (bI (usK s ui x 4))), (6, .int (bI (lsK li9 ui uj))), (7, .int (nI uj))]) (k0 := 0) (Nat.zero_le _) (lv_sub hl [2, 3, 4, 5, 6, 7, 1, 0] rfl) (fun ls hl => ?_) (fun uj ls huj hl ih3 => ?_)
          · refine lv_iload hx hb d_M_users_57 (lv_at hl 7 rfl) ?_
            refine lv_iload_n hx hb d_M_users_59 rfl (lv_at hl 3 rfl) ?_
            refine lv_icmp_ge (tgt := 84) hx hb d_M_users_60 (by decide) (fun c3 => ?_) (fun c3 => ?_)
            · refine lv_iload hx hb d_M_users_84 (lv_at hl 5 rfl) ?_
              refine lv_if_eq (tgt := 105) hx hb d_M_users_86 (by decide) (fun c1 => ?_) (fun c1 => ?_)
              · obtain ⟨i2, ei2⟩ : ∃ y : Int32, y = (nI ui) + 1 := ⟨_, rfl⟩
                refine lv_iinc (v := i2) (lv' := [(4, .int i2), (0, .ref (lm 0)), (1, .int (nI x)), (2, .int (nI c0)), (3, .int (nI n9)), (5, .int (bI (usK s ui x 4))), (6, .int (bI (lsK li9 ui n9))), (7, .int (nI n9))]) hx hb d_M_users_105 hl (k := 4) rfl (by rw [ei2]; rfl) (by decide) rfl (fun ls hl => ?_)
                rw [nI_1] at ei2; subst ei2
                refine lv_goto (tgt := 5) hx hb d_M_users_108 (by decide) ?_
                refine ih ls H locs ⟨li9, n9, lv_sub hl [1, 2, 3, 4, 0] rfl, hG9, (fun y hy => (hI9 y hy).trans ⟨fun h => h.imp id (fun h => ⟨by omega, h.2⟩), fun h => ?_⟩), u9, hw⟩
                rcases h with h | ⟨h1, h2⟩
                · exact Or.inl h
                by_cases hyi : y = ui
                · subst hyi; exact absurd ((usK_iff 4).mpr h2) (by rw [(bI_eq _).mp c1]; exact Bool.false_ne_true)
                · exact Or.inr ⟨by omega, h2⟩
              · refine lv_iload hx hb d_M_users_89 (lv_at hl 6 rfl) ?_
                refine lv_if_ne (tgt := 105) hx hb d_M_users_91 (by decide) (fun c3 => ?_) (fun c3 => ?_)
                · obtain ⟨i4, ei4⟩ : ∃ y : Int32, y = (nI ui) + 1 := ⟨_, rfl⟩
                  refine lv_iinc (v := i4) (lv' := [(4, .int i4), (0, .ref (lm 0)), (1, .int (nI x)), (2, .int (nI c0)), (3, .int (nI n9)), (5, .int (bI (usK s ui x 4))), (6, .int (bI (lsK li9 ui n9))), (7, .int (nI n9))]) hx hb d_M_users_105 hl (k := 4) rfl (by rw [ei4]; rfl) (by decide) rfl (fun ls hl => ?_)
                  rw [nI_1] at ei4; subst ei4
                  refine lv_goto (tgt := 5) hx hb d_M_users_108 (by decide) ?_
                  refine ih ls H locs ⟨li9, n9, lv_sub hl [1, 2, 3, 4, 0] rfl, hG9, (fun y hy => (hI9 y hy).trans ⟨fun h => h.imp id (fun h => ⟨by omega, h.2⟩), fun h => ?_⟩), u9, hw⟩
                  rcases h with h | ⟨h1, h2⟩
                  · exact Or.inl h
                  by_cases hyi : y = ui
                  · subst hyi; exact (hI9 y hy).mp ((lsK_iff n9).mp ((bI_ne _).mp c3))
                  · exact Or.inr ⟨by omega, h2⟩
                · have hne9 : ¬ inL li9 n9 ui := fun h => by rw [(lsK_iff n9).mpr h] at c3; exact absurd (show (1 : Int32) = 0 from c3) (by decide)
                  obtain ⟨hP1, hP2⟩ := hG9.push h16 hui hne9
                  have hle9 := hP1.le h16
                  refine lv_aload_n hx hb d_M_users_94 rfl (lv_at hl 0 rfl) ?_
                  refine mg 15 (by decide) hx hb ht hown hw gw_812 rfl rfl d_M_users_95 ?_
                  refine lv_iload_n hx hb d_M_users_98 rfl (lv_at hl 3 rfl) ?_
                  refine lv_iload hx hb d_M_users_99 (lv_at hl 4 rfl) ?_
                  refine mp_list (j := n9) (nI ui) rfl (by omega) hx hb hw d_M_users_101 (fun H5 locs5 u5 hw => ?_)
                  obtain ⟨i6, ei6⟩ : ∃ y : Int32, y = (nI n9) + 1 := ⟨_, rfl⟩
                  refine lv_iinc (v := i6) (lv' := [(3, .int i6), (0, .ref (lm 0)), (1, .int (nI x)), (2, .int (nI c0)), (4, .int (nI ui)), (5, .int (bI (usK s ui x 4))), (6, .int (bI (lsK li9 ui n9))), (7, .int (nI n9))]) hx hb d_M_users_102 hl (k := 3) rfl (by rw [ei6]; rfl) (by decide) rfl (fun ls hl => ?_)
                  rw [nI_1] at ei6; subst ei6
                  obtain ⟨i7, ei7⟩ : ∃ y : Int32, y = (nI ui) + 1 := ⟨_, rfl⟩
                  refine lv_iinc (v := i7) (lv' := [(4, .int i7), (3, .int (nI (n9 + 1))), (0, .ref (lm 0)), (1, .int (nI x)), (2, .int (nI c0)), (5, .int (bI (usK s ui x 4))), (6, .int (bI (lsK li9 ui n9))), (7, .int (nI n9))]) hx hb d_M_users_105 hl (k := 4) rfl (by rw [ei7]; rfl) (by decide) rfl (fun ls hl => ?_)
                  rw [nI_1] at ei7; subst ei7
                  refine lv_goto (tgt := 5) hx hb d_M_users_108 (by decide) ?_
                  refine ih ls H5 locs5 ⟨va_up li9 n9 (nI ui), n9 + 1, lv_sub hl [2, 3, 4, 1, 0] rfl, hP1, (fun y hy => (hP2 y hy).trans ⟨fun h => ?_, fun h => ?_⟩), u5, hw⟩
                  · rcases h with h | h
                    · exact ((hI9 y hy).mp h).imp id (fun h => ⟨by omega, h.2⟩)
                    · subst h; exact Or.inr ⟨by omega, (usK_iff 4).mp ((bI_ne _).mp c1)⟩
                  · by_cases hyi : y = ui
                    · exact Or.inr hyi
                    · exact Or.inl ((hI9 y hy).mpr (h.imp id (fun h => ⟨by omega, h.2⟩)))
            · exact absurd (nI_le (Nat.le_refl _) (by omega)) c3
          · refine lv_iload hx hb d_M_users_57 (lv_at hl 7 rfl) ?_
            refine lv_iload_n hx hb d_M_users_59 rfl (lv_at hl 3 rfl) ?_
            refine lv_icmp_ge (tgt := 84) hx hb d_M_users_60 (by decide) (fun c3 => ?_) (fun c3 => ?_)
            · exact absurd c3 (nI_ge huj (by omega))
            · refine lv_aload_n hx hb d_M_users_63 rfl (lv_at hl 0 rfl) ?_
              refine mg 15 (by decide) hx hb ht hown hw gw_812 rfl rfl d_M_users_64 ?_
              refine lv_iload hx hb d_M_users_67 (lv_at hl 7 rfl) ?_
              refine ma_list (j := uj) rfl (by omega) hx hb hw d_M_users_69 ?_
              refine lv_iload hx hb d_M_users_70 (lv_at hl 4 rfl) ?_
              refine lv_icmp_ne (tgt := 78) hx hb d_M_users_72 (by decide) (fun c8 => ?_) (fun c8 => ?_)
              · rw [← show bI (lsK li9 ui (uj + 1)) = bI (lsK li9 ui uj) from bI_or_f (decide_eq_false (show ¬ li9 uj = nI ui from c8))] at hl
                obtain ⟨i9, ei9⟩ : ∃ y : Int32, y = (nI uj) + 1 := ⟨_, rfl⟩
                refine lv_iinc (v := i9) (lv' := [(7, .int i9), (0, .ref (lm 0)), (1, .int (nI x)), (2, .int (nI c0)), (3, .int (nI n9)), (4, .int (nI ui)), (5, .int (bI (usK s ui x 4))), (6, .int (bI (lsK li9 ui (uj + 1))))]) hx hb d_M_users_78 hl (k := 7) rfl (by rw [ei9]; rfl) (by decide) rfl (fun ls hl => ?_)
                rw [nI_1] at ei9; subst ei9
                refine lv_goto (tgt := 57) hx hb d_M_users_81 (by decide) ?_
                exact ih3 ls (lv_sub hl [1, 2, 3, 4, 5, 6, 7, 0] rfl)
              · refine lv_iconst (v := 1) hx hb d_M_users_75 (by decide) ?_
                rw [← show bI (lsK li9 ui (uj + 1)) = 1 from bI_or_t (decide_eq_true (show li9 uj = nI ui from c8))]
                refine lv_istore (lv' := [(6, .int (bI (lsK li9 ui (uj + 1)))), (0, .ref (lm 0)), (1, .int (nI x)), (2, .int (nI c0)), (3, .int (nI n9)), (4, .int (nI ui)), (5, .int (bI (usK s ui x 4))), (7, .int (nI uj))]) hx hb d_M_users_76 hl (by decide) rfl (fun ls hl => ?_)
                obtain ⟨i10, ei10⟩ : ∃ y : Int32, y = (nI uj) + 1 := ⟨_, rfl⟩
                refine lv_iinc (v := i10) (lv' := [(7, .int i10), (6, .int (bI (lsK li9 ui (uj + 1)))), (0, .ref (lm 0)), (1, .int (nI x)), (2, .int (nI c0)), (3, .int (nI n9)), (4, .int (nI ui)), (5, .int (bI (usK s ui x 4)))]) hx hb d_M_users_78 hl (k := 7) rfl (by rw [ei10]; rfl) (by decide) rfl (fun ls hl => ?_)
                rw [nI_1] at ei10; subst ei10
                refine lv_goto (tgt := 57) hx hb d_M_users_81 (by decide) ?_
                exact ih3 ls (lv_sub hl [2, 3, 4, 5, 6, 7, 1, 0] rfl)
        · exact absurd (show (4 : Int32) ≤ nI 4 from nI_le (Nat.le_refl 4) (by omega)) c2
      · refine lv_iload hx hb d_M_users_20 (lv_at hl 6 rfl) ?_
        refine lv_iconst (v := 4) hx hb d_M_users_22 (by decide) ?_
        refine lv_icmp_ge (tgt := 51) hx hb d_M_users_23 (by decide) (fun c2 => ?_) (fun c2 => ?_)
        · exact absurd c2 (show ¬ ((4 : Int32) ≤ nI uk) from nI_ge (show uk < 4 from huk) (by decide))
        · refine lv_aload_n hx hb d_M_users_26 rfl (lv_at hl 0 rfl) ?_
          refine mg 1 (by decide) hx hb ht hown hw gw_798 rfl rfl d_M_users_27 ?_
          refine lv_iload hx hb d_M_users_30 (lv_at hl 4 rfl) ?_
          refine lv_iconst (v := 4) hx hb d_M_users_32 (by decide) ?_
          refine lv_imul hx hb d_M_users_33 ?_
          refine lv_iload hx hb d_M_users_34 (lv_at hl 6 rfl) ?_
          refine lv_iadd hx hb d_M_users_36 ?_
          refine ma_part (j := (4 * ui + uk)) (mul4 _ uk) (by omega) hx hb hw d_M_users_37 ?_
          rw [show m_pt (mS_li m li9) (4 * ui + uk) = pI (q_pt s ui uk) from hw.2.1.2.2.1 ui uk hui huk]
          refine lv_iload_n hx hb d_M_users_38 rfl (lv_at hl 1 rfl) ?_
          have hp9 := pI_eq (q := q_pt s ui uk) (x := x) (by omega) (fun y h => pt_31 hok hui h)
          refine lv_icmp_ne (tgt := 45) hx hb d_M_users_39 (by decide) (fun c11 => ?_) (fun c11 => ?_)
          · rw [← show bI (usK s ui x (uk + 1)) = bI (usK s ui x uk) from bI_or_f (decide_eq_false (fun h => c11 (hp9.mpr h)))] at hl
            obtain ⟨i12, ei12⟩ : ∃ y : Int32, y = (nI uk) + 1 := ⟨_, rfl⟩
            refine lv_iinc (v := i12) (lv' := [(6, .int i12), (0, .ref (lm 0)), (1, .int (nI x)), (2, .int (nI c0)), (3, .int (nI n9)), (4, .int (nI ui)), (5, .int (bI (usK s ui x (uk + 1))))]) hx hb d_M_users_45 hl (k := 6) rfl (by rw [ei12]; rfl) (by decide) rfl (fun ls hl => ?_)
            rw [nI_1] at ei12; subst ei12
            refine lv_goto (tgt := 20) hx hb d_M_users_48 (by decide) ?_
            exact ih2 ls (lv_sub hl [1, 2, 3, 4, 5, 6, 0] rfl)
          · refine lv_iconst (v := 1) hx hb d_M_users_42 (by decide) ?_
            rw [← show bI (usK s ui x (uk + 1)) = 1 from bI_or_t (decide_eq_true (hp9.mp c11))]
            refine lv_istore (lv' := [(5, .int (bI (usK s ui x (uk + 1)))), (0, .ref (lm 0)), (1, .int (nI x)), (2, .int (nI c0)), (3, .int (nI n9)), (4, .int (nI ui)), (6, .int (nI uk))]) hx hb d_M_users_43 hl (by decide) rfl (fun ls hl => ?_)
            obtain ⟨i13, ei13⟩ : ∃ y : Int32, y = (nI uk) + 1 := ⟨_, rfl⟩
            refine lv_iinc (v := i13) (lv' := [(6, .int i13), (5, .int (bI (usK s ui x (uk + 1)))), (0, .ref (lm 0)), (1, .int (nI x)), (2, .int (nI c0)), (3, .int (nI n9)), (4, .int (nI ui))]) hx hb d_M_users_45 hl (k := 6) rfl (by rw [ei13]; rfl) (by decide) rfl (fun ls hl => ?_)
            rw [nI_1] at ei13; subst ei13
            refine lv_goto (tgt := 20) hx hb d_M_users_48 (by decide) ?_
            exact ih2 ls (lv_sub hl [2, 3, 4, 5, 6, 1, 0] rfl)
theorem tlK_mi {s : QS} {f : Nat → Bool} : tlK s (qS_mi s f) := ⟨⟨rfl, rfl, rfl, rfl, rfl, rfl, rfl, rfl, rfl, rfl, rfl, rfl, rfl, rfl, rfl, rfl⟩, fun _ h => h⟩
/-- what is frozen is valid -/
def fv (s : QS) : Prop := ∀ y, y < q_n s → q_fr s y = true → q_va s y = true
theorem Sp.fv {s s' : QS} {I : Nat → Prop} (h : Sp s I s') (hf : fv s) : fv s' := by
  obtain ⟨T, mi, a1, a2, a3, a4, a5, rfl⟩ := h
  intro y hy h1
  rw [tlQ_n] at hy; rw [tlQ_fr] at h1; rw [tlQ_va, hf y hy h1]
  rcases hT : T y with _ | _
  · rfl
  · have := (a1 y hT).2.2; rw [h1] at this; cases this
theorem fv_mi {s : QS} {f : Nat → Bool} (h : fv s) : fv (qS_mi s f) := h
theorem fv_off {s : QS} {x : Nat} (h : fv s) (hx : q_fr s x = false) : fv (offs s x) := by
  intro y hy h1
  unfold offs at hy h1 ⊢
  rw [tlQ_n] at hy; rw [tlQ_fr] at h1; rw [tlQ_va]
  by_cases hyx : y = x
  · subst hyx; rw [hx] at h1; cases h1
  · rw [va_up_ne _ _ hyx]; exact h y hy h1
theorem inL_s {li : Nat → Int32} {n y N : Nat} (hN : N ≤ 16) (hy : y < N) (e : li n = nI y) {z : Nat} (hz : z < N) : inL li (n + 1) z ↔ z = y ∨ inL li n z := by
  constructor
  · rintro ⟨i, hi, h⟩
    by_cases hin : i = n
    · subst hin; exact Or.inl (nI_inj (by omega) (by omega) (h.symm.trans e))
    · exact Or.inr ⟨i, by omega, h⟩
  · rintro (rfl | ⟨i, hi, h⟩)
    · exact ⟨n, by omega, e⟩
    · exact ⟨i, by omega, h⟩
theorem LG.down {li : Nat → Int32} {n N : Nat} (h : LG li (n + 1) N) : LG li n N := ⟨fun i hi => h.1 i (by omega), fun i j hi hj => h.2 i j (by omega) (by omega)⟩
theorem inL.up {li : Nat → Int32} {n y : Nat} (h : inL li n y) : inL li (n + 1) y := by
  obtain ⟨i, hi, h⟩ := h; exact ⟨i, by omega, h⟩
theorem nI_dn (n : Nat) : nI (n + 1) + (-1) = nI n := by rw [← nI_add, Int32.add_assoc, show nI 1 + (-1) = 0 from by decide, Int32.add_zero]
theorem nI_le0 {n : Nat} (h : nI n ≤ 0) (hn : n < 2 ^ 31) : n = 0 := by
  rw [Int32.le_iff_toInt_le, nI_toInt hn] at h
  have : (0 : Int32).toInt = 0 := by decide
  omega
set_option maxHeartbeats 4000000 in
set_option maxRecDepth 100000 in
theorem c_M_tell (l : Launch) (G : GT) (A : Nat → Prop) (lm : Nat → Nat) (s : QS) (m : MS) (u : WT) (hR : rM G lm s m u) (hok : okQ s) (c0 : Nat) (hLG : LG (m_li m) c0 (q_n s)) (hso : ∀ y, y < q_n s → inL (m_li m) c0 y → q_so s y ≠ 0) (hfv : fv s) : Kt l y_M_tell b_M_tell 4 none 1 27 0 0 0 0 0 0 G A u [.ref (lm 0), .int (nI c0)] (KQ G A (Rv (fun u' => ∃ s' li', Sp s (inL (m_li m) c0) s' ∧ rM G lm s' (mS_li m li') u' ∧ fM lm u u'))) (NX) := by
  refine k_of (by decide) (Nat.le_of_ble_eq_true rfl) (fun p e st mt below meth c ls hx hb hr hlocks hml htab hname hown ht hw hl => ?_)
  have hl : lv_has ls 4 [(0, .ref (lm 0)), (1, .int (nI c0))] := hl
  have hw : Mk G A lm s m u u st st.heap [] := ⟨hw, hR, fM.rf⟩
  have h16 := hR.2.2.2
  refine lv_iload_n hx hb d_M_tell_0 rfl (lv_at hl 1 rfl) ?_
  refine lv_istore_n (lv' := [(2, .int (nI c0)), (0, .ref (lm 0)), (1, .int (nI c0))]) hx hb d_M_tell_1 rfl hl (by decide) rfl (fun ls hl => ?_)
  refine k_whl (fun x : QS × (Nat → Int32) × Nat => vc (q_va x.1) (q_n s) * 17 + x.2.2) (fun x ls H locs => lv_has ls 4 [(0, .ref (lm 0)), (2, .int (nI x.2.2))] ∧ (∀ s', Sp x.1 (inL x.2.1 x.2.2) s' → Sp s (inL (m_li m) c0) s') ∧ LG x.2.1 x.2.2 (q_n s) ∧ (∀ y, y < q_n s → inL x.2.1 x.2.2 y → q_so s y ≠ 0) ∧ tlK s x.1 ∧ fv x.1 ∧ ∃ u9, Mk G A lm x.1 (mS_li m x.2.1) u u9 st H locs) (x0 := (s, m_li m, c0)) ⟨lv_sub hl [1, 0] rfl, fun _ h => h, hLG, hso, tlK.rf, hfv, u, hw⟩ (fun x ls H locs hJ ih => ?_)
  obtain ⟨t9, li9, n9⟩ := x
  dsimp only at hJ ih
  obtain ⟨hl, hS9, hG9, hs9, hK9, hf9, u9, hw⟩ := hJ
  have hN9 : q_n t9 = q_n s := hK9.1.1
  have hn16 := hG9.le h16
  refine lv_iload_n hx hb d_M_tell_2 rfl (lv_at hl 1 rfl) ?_
  refine lv_if_le (tgt := 80) hx hb d_M_tell_3 (by decide) (fun c1 => ?_) (fun c1 => ?_)
  · have h0 : n9 = 0 := by have := nI_le0 c1 (by omega); exact this
    subst h0
    exact kt_v hx hb hr hlocks hw.1 d_M_tell_80 (by exact ⟨t9, li9, hS9 t9 (Sp.nil (fun y _ h => by obtain ⟨i, hi, -⟩ := h; omega)), hw.2.1, hw.2.2⟩) (by first | decide | (dsimp only; omega)) (by first | decide | (dsimp only; omega))
  · obtain ⟨n8, rfl⟩ : ∃ n8, n9 = n8 + 1 := by rcases n9 with _ | n8; exact absurd (show nI 0 ≤ 0 by decide) c1; exact ⟨n8, rfl⟩
    obtain ⟨y9, hy9, ey9⟩ := hG9.1 n8 (by omega)
    obtain ⟨i2, ei2⟩ : ∃ y : Int32, y = (nI (n8 + 1)) + (-1) := ⟨_, rfl⟩
    refine lv_iinc (v := i2) (lv' := [(2, .int i2), (0, .ref (lm 0))]) hx hb d_M_tell_6 hl (k := 1) rfl (by rw [ei2]; rfl) (by decide) rfl (fun ls hl => ?_)
    rw [nI_dn] at ei2; subst ei2
    refine lv_aload_n hx hb d_M_tell_9 rfl (lv_at hl 1 rfl) ?_
    refine mg 15 (by decide) hx hb ht hown hw gw_812 rfl rfl d_M_tell_10 ?_
    refine lv_iload_n hx hb d_M_tell_13 rfl (lv_at hl 0 rfl) ?_
    refine ma_list (j := n8) rfl (by omega) hx hb hw d_M_tell_14 ?_
    rw [show m_li (mS_li m li9) n8 = nI y9 from ey9]
    refine lv_istore_n (lv' := [(3, .int (nI y9)), (2, .int (nI n8)), (0, .ref (lm 0))]) hx hb d_M_tell_15 rfl hl (by decide) rfl (fun ls hl => ?_)
    refine lv_aload_n hx hb d_M_tell_16 rfl (lv_at hl 2 rfl) ?_
    refine mg 4 (by decide) hx hb ht hown hw gw_801 rfl rfl d_M_tell_17 ?_
    refine lv_iload_n hx hb d_M_tell_20 rfl (lv_at hl 0 rfl) ?_
    refine ma_frozen (j := y9) rfl (by omega) hx hb hw d_M_tell_21 ?_
    refine lv_if_eq (tgt := 35) hx hb d_M_tell_22 (by decide) (fun c3 => ?_) (fun c3 => ?_)
    · have hf8 : q_fr t9 y9 = false := (bI_eq _).mp c3
      refine lv_aload_n hx hb d_M_tell_35 rfl (lv_at hl 2 rfl) ?_
      refine mg 0 (by decide) hx hb ht hown hw gw_797 rfl rfl d_M_tell_36 ?_
      refine lv_iload_n hx hb d_M_tell_39 rfl (lv_at hl 0 rfl) ?_
      refine ma_sort (j := y9) rfl (by omega) hx hb hw d_M_tell_40 ?_
      refine lv_if_le (tgt := 77) hx hb d_M_tell_41 (by decide) (fun c8 => ?_) (fun c8 => ?_)
      · exact absurd (show nI (q_so t9 y9) ≤ 0 from c8) (by rw [show q_so t9 = q_so s from hK9.1.2.1]; have h1 := hs9 y9 hy9 ⟨n8, by omega, ey9⟩; have h2 := (hok.2 y9 hy9).1; exact fun h => h1 (nI_le0 h (by omega)))
      · refine lv_aload_n hx hb d_M_tell_44 rfl (lv_at hl 2 rfl) ?_
        refine mg 3 (by decide) hx hb ht hown hw gw_800 rfl rfl d_M_tell_45 ?_
        refine lv_iload_n hx hb d_M_tell_48 rfl (lv_at hl 0 rfl) ?_
        refine ma_valid (j := y9) rfl (by omega) hx hb hw d_M_tell_49 ?_
        refine lv_if_eq (tgt := 77) hx hb d_M_tell_50 (by decide) (fun c4 => ?_) (fun c4 => ?_)
        · refine lv_goto (tgt := 2) hx hb d_M_tell_77 (by decide) ?_
          refine ih (t9, li9, n8) ls H locs ?_ ⟨lv_sub hl [2, 1] rfl, (fun s1 h1 => hS9 s1 ?_), hG9.down, (fun y hy h => hs9 y hy h.up), hK9, hf9, u9, hw⟩
          · dsimp only; omega
          · exact ((Sp.nil (I := fun z => z = y9) (fun y _ h => by rw [h]; exact (bI_eq _).mp c4)).comp h1).cg (fun z hz => (inL_s h16 hy9 ey9 (Nat.lt_of_lt_of_eq hz hN9)).symm)
        · have hv8 : q_va t9 y9 = true := (bI_ne _).mp c4
          refine lv_aload_n hx hb d_M_tell_53 rfl (lv_at hl 2 rfl) ?_
          refine mg 3 (by decide) hx hb ht hown hw gw_800 rfl rfl d_M_tell_54 ?_
          refine lv_iload_n hx hb d_M_tell_57 rfl (lv_at hl 0 rfl) ?_
          refine lv_iconst (v := 0) hx hb d_M_tell_58 (by decide) ?_
          refine mp_valid (j := y9) false rfl (by omega) hx hb hw d_M_tell_59 (fun H5 locs5 u5 hw => ?_)
          refine lv_aload_n hx hb d_M_tell_60 rfl (lv_at hl 2 rfl) ?_
          refine lv_dup hx hb d_M_tell_61 rfl ?_
          refine mg 22 (by decide) hx hb ht hown hw gw_819 rfl rfl d_M_tell_62 ?_
          refine lv_iconst (v := 1) hx hb d_M_tell_65 (by decide) ?_
          refine lv_iadd hx hb d_M_tell_66 ?_
          refine mp_told ((q_tl (qS_va t9 (va_up (q_va t9) y9 false))) + (1 : Int32)) hx hb ht hown hw gw_819 d_M_tell_67 (fun H6 locs6 u6 hw => ?_)
          refine lv_aload_n hx hb d_M_tell_70 rfl (lv_at hl 2 rfl) ?_
          refine lv_iload_n hx hb d_M_tell_71 rfl (lv_at hl 0 rfl) ?_
          refine lv_iload_n hx hb d_M_tell_72 rfl (lv_at hl 1 rfl) ?_
          have ho9 := (hK9.tr (tlK_off (s := t9) (j := y9))).ok hok
          refine kc_i (kr_V 2 (C := "QuoteGraphModel") (As := [.int (nI y9), .int (nI n8)]) (rest := []) (c_M_users l G A lm _ (mS_li m li9) u6 hw.2.1 ho9 y9 n8 (by exact hN9.symm ▸ hy9) (by exact hN9.symm ▸ hG9.down)) hx hb hml hown ht hw.1 gw_952 gw_954 gw_30 gw_47 gw_955 ⟨⟨by decide, by decide⟩, by decide +kernel⟩ ⟨by first | decide | (dsimp only; omega), by first | decide | (dsimp only; omega)⟩ (kr_M hw) rfl hl.1 rfl (lv_room (Nat.le_of_ble_eq_true rfl)) d_M_tell_73 ⟨by first | decide | (dsimp only; omega), by first | decide | (dsimp only; omega)⟩) hw.1 (fun _ _ _ _ _ _ h => h.elim) (fun r7 u7 H7 locs7 hp7 hw7 => ?_)
          obtain ⟨li8, m8, er8, hG8, hI8, hr8, hfr8⟩ := hp7
          subst er8
          have hw : Mk G A lm (offs t9 y9) (mS_li m li8) u u7 st H7 locs7 := ⟨hw7, hr8, hw.2.2.tr hfr8⟩
          replace hG8 : LG li8 m8 (q_n s) := hN9 ▸ hG8
          have hm16 := hG8.le h16
          refine lv_istore_n (lv' := [(2, .int (nI m8)), (3, .int (nI y9)), (0, .ref (lm 0))]) hx hb d_M_tell_76 rfl hl (by decide) rfl (fun ls hl => ?_)
          refine lv_goto (tgt := 2) hx hb d_M_tell_77 (by decide) ?_
          refine ih ((offs t9 y9), li8, m8) ls H7 locs7 ?_ ⟨lv_sub hl [2, 0] rfl, (fun s1 h1 => hS9 s1 ?_), hG8, (fun y hy h => ((hI8 y (by exact hN9.symm ▸ hy)).mp h).elim (fun h => hs9 y hy h.up) (fun h => by have h7 : q_so t9 y ≠ 0 := ed_so ho9 (by exact hN9.symm ▸ hy) h; rw [show q_so t9 = q_so s from hK9.1.2.1] at h7; exact h7)), (hK9.tr tlK_off), (fv_off hf9 hf8), u7, hw⟩
          · have h5 := vc_off (f := q_va t9) (n := q_n s) hy9 hv8; show vc (va_up (q_va t9) y9 false) (q_n s) * 17 + m8 < vc (q_va t9) (q_n s) * 17 + (n8 + 1); omega
          · exact (Sp.exp (I := inL li9 n8) (by rw [hN9]; exact hy9) ⟨hv8, hf8⟩ (h1.cg (fun z hz => hI8 z hz))).cg (fun z hz => Or.comm.trans ((fun z hz => (inL_s h16 hy9 ey9 (Nat.lt_of_lt_of_eq hz hN9)).symm) z hz))
    · have hf8 : q_fr t9 y9 = true := (bI_ne _).mp c3
      refine lv_aload_n hx hb d_M_tell_25 rfl (lv_at hl 2 rfl) ?_
      refine mg 5 (by decide) hx hb ht hown hw gw_802 rfl rfl d_M_tell_26 ?_
      refine lv_iload_n hx hb d_M_tell_29 rfl (lv_at hl 0 rfl) ?_
      refine lv_iconst (v := 1) hx hb d_M_tell_30 (by decide) ?_
      refine mp_missed (j := y9) true rfl (by omega) hx hb hw d_M_tell_31 (fun H8 locs8 u8 hw => ?_)
      refine lv_goto (tgt := 77) hx hb d_M_tell_32 (by decide) ?_
      refine lv_goto (tgt := 2) hx hb d_M_tell_77 (by decide) ?_
      refine ih ((qS_mi t9 (va_up (q_mi t9) y9 true)), li9, n8) ls H8 locs8 ?_ ⟨lv_sub hl [2, 1] rfl, (fun s1 h1 => hS9 s1 ?_), hG9.down, (fun y hy h => hs9 y hy h.up), (hK9.tr tlK_mi), (fv_mi hf9), u8, hw⟩
      · show vc (q_va t9) (q_n s) * 17 + n8 < vc (q_va t9) (q_n s) * 17 + (n8 + 1); omega
      · exact ((Sp.frz (by rw [hN9]; exact hy9) hf8 (hf9 y9 (by rw [hN9]; exact hy9) hf8)).comp h1).cg (fun z hz => (inL_s h16 hy9 ey9 (Nat.lt_of_lt_of_eq hz hN9)).symm)

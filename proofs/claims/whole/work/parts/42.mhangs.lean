/-! 42.mhangs: contracts of hangs, badPart, uses -/
theorem hgk_s {s : QS} {a n : Nat} {b : Int32} {k x : Nat} (h : n = a ∨ bt (hgk s a n b k) n = true) (hq : q_pt s n k = some x) : hgk s a n b (k + 1) = hgk s a n b k ||| bitI x := by
  show (if _ then _ else _) = _
  rw [if_pos h, hq]
theorem hgk_n {s : QS} {a n : Nat} {b : Int32} {k : Nat} (h : ¬ (n = a ∨ bt (hgk s a n b k) n = true) ∨ q_pt s n k = none) : hgk s a n b (k + 1) = hgk s a n b k := by
  show (if _ then _ else _) = _
  rcases h with h | h
  · rw [if_neg h]
  · rw [h]; split <;> rfl
set_option maxHeartbeats 4000000 in
set_option maxRecDepth 100000 in
theorem c_M_hangs (l : Launch) (G : GT) (A : Nat → Prop) (lm : Nat → Nat) (s : QS) (m : MS) (u : WT) (hR : rM G lm s m u) (hok : okQ s) (a b : Nat) (ha : a < q_n s) (hb8 : b < q_n s) : Kt l y_M_hangs b_M_hangs 7 (some .boolean) 0 0 0 0 0 0 0 0 G A u [.ref (lm 0), .int (nI a), .int (nI b)] (KQ G A (Ri (fun r u' => r = bI (hgR s a b) ∧ u' = u))) (NX) := by
  refine k_of (by decide) (Nat.le_of_ble_eq_true rfl) (fun p e st mt below meth c ls hx hb hr hlocks hml htab hname hown ht hw hl => ?_)
  have hl : lv_has ls 7 [(0, .ref (lm 0)), (1, .int (nI a)), (2, .int (nI b))] := hl
  have hw : Mk G A lm s m u u st st.heap [] := ⟨hw, hR, fM.rf⟩
  have h16 := hR.2.2.2
  refine lv_iconst (v := 0) hx hb d_M_hangs_0 (by decide) ?_
  refine lv_istore_n (lv' := [(3, .int (0 : Int32)), (0, .ref (lm 0)), (1, .int (nI a)), (2, .int (nI b))]) hx hb d_M_hangs_1 rfl hl (by decide) rfl (fun ls hl => ?_)
  refine lv_iconst (v := 0) hx hb d_M_hangs_2 (by decide) ?_
  refine lv_istore (lv' := [(4, .int (0 : Int32)), (3, .int (0 : Int32)), (0, .ref (lm 0)), (1, .int (nI a)), (2, .int (nI b))]) hx hb d_M_hangs_3 hl (by decide) rfl (fun ls hl => ?_)
  refine k_cnt (16) (fun r9 ls => lv_has ls 7 [(0, .ref (lm 0)), (1, .int (nI a)), (2, .int (nI b)), (3, .int (itr (fun c => hgn s a c (q_n s)) 0 r9)), (4, .int (nI r9))]) (k0 := 0) (Nat.zero_le _) (lv_sub hl [2, 3, 4, 1, 0] rfl) (fun ls hl => ?_) (fun r9 ls hr9 hl ih => ?_)
  · refine lv_iload hx hb d_M_hangs_5 (lv_at hl 4 rfl) ?_
    refine lv_bipush (v := 16) hx hb d_M_hangs_7 (by decide) ?_
    refine lv_icmp_ge (tgt := 98) hx hb d_M_hangs_9 (by decide) (fun c1 => ?_) (fun c1 => ?_)
    · refine lv_iload_n hx hb d_M_hangs_98 rfl (lv_at hl 3 rfl) ?_
      refine lv_iload_n hx hb d_M_hangs_99 rfl (lv_at hl 2 rfl) ?_
      refine lv_ishr hx hb d_M_hangs_100 ?_
      refine lv_iconst (v := 1) hx hb d_M_hangs_101 (by decide) ?_
      refine lv_iand hx hb d_M_hangs_102 ?_
      have hb9 := b_sh1 (x := (itr (fun c => hgn s a c (q_n s)) 0 16)) (j := b) (by omega)
      refine lv_if_eq (tgt := 110) hx hb d_M_hangs_103 (by decide) (fun c1 => ?_) (fun c1 => ?_)
      · refine lv_iconst (v := 0) hx hb d_M_hangs_110 (by decide) ?_
        exact kt_z hx hb hr hlocks hw.1 d_M_hangs_111 (by exact ⟨by rw [show hgR s a b = false from hb9.mp c1]; rfl, rfl⟩) (Or.inl rfl) (by first | decide | (dsimp only; omega)) (by first | decide | (dsimp only; omega))
      · refine lv_iconst (v := 1) hx hb d_M_hangs_106 (by decide) ?_
        refine lv_goto (tgt := 111) hx hb d_M_hangs_107 (by decide) ?_
        exact kt_z hx hb hr hlocks hw.1 d_M_hangs_111 (by exact ⟨by rw [show hgR s a b = true from (by rcases h9 : bt (itr (fun c => hgn s a c (q_n s)) 0 16) b with _ | _; exact absurd (hb9.mpr h9) c1; exact h9)]; rfl, rfl⟩) (Or.inr rfl) (by first | decide | (dsimp only; omega)) (by first | decide | (dsimp only; omega))
    · exact absurd (show (16 : Int32) ≤ nI 16 from nI_le (Nat.le_refl 16) (by omega)) c1
  · refine lv_iload hx hb d_M_hangs_5 (lv_at hl 4 rfl) ?_
    refine lv_bipush (v := 16) hx hb d_M_hangs_7 (by decide) ?_
    refine lv_icmp_ge (tgt := 98) hx hb d_M_hangs_9 (by decide) (fun c1 => ?_) (fun c1 => ?_)
    · exact absurd c1 (show ¬ ((16 : Int32) ≤ nI r9) from nI_ge (show r9 < 16 from hr9) (by decide))
    · refine lv_iconst (v := 0) hx hb d_M_hangs_12 (by decide) ?_
      refine lv_istore (lv' := [(5, .int (0 : Int32)), (0, .ref (lm 0)), (1, .int (nI a)), (2, .int (nI b)), (3, .int (itr (fun c => hgn s a c (q_n s)) 0 r9)), (4, .int (nI r9))]) hx hb d_M_hangs_13 hl (by decide) rfl (fun ls hl => ?_)
      refine k_cnt (q_n s) (fun n9 ls => lv_has ls 7 [(0, .ref (lm 0)), (1, .int (nI a)), (2, .int (nI b)), (3, .int (hgn s a (itr (fun c => hgn s a c (q_n s)) 0 r9) n9)), (4, .int (nI r9)), (5, .int (nI n9))]) (k0 := 0) (Nat.zero_le _) (lv_sub hl [1, 2, 3, 4, 5, 0] rfl) (fun ls hl => ?_) (fun n9 ls hn9 hl ih2 => ?_)
      · refine lv_iload hx hb d_M_hangs_15 (lv_at hl 5 rfl) ?_
        refine lv_aload_n hx hb d_M_hangs_17 rfl (lv_at hl 0 rfl) ?_
        refine mg 21 (by decide) hx hb ht hown hw gw_818 rfl rfl d_M_hangs_18 ?_
        refine lv_icmp_ge (tgt := 92) hx hb d_M_hangs_21 (by decide) (fun c2 => ?_) (fun c2 => ?_)
        · obtain ⟨i2, ei2⟩ : ∃ y : Int32, y = (nI r9) + 1 := ⟨_, rfl⟩
          refine lv_iinc (v := i2) (lv' := [(4, .int i2), (0, .ref (lm 0)), (1, .int (nI a)), (2, .int (nI b)), (3, .int (hgn s a (itr (fun c => hgn s a c (q_n s)) 0 r9) (q_n s))), (5, .int (nI (q_n s)))]) hx hb d_M_hangs_92 hl (k := 4) rfl (by rw [ei2]; rfl) (by decide) rfl (fun ls hl => ?_)
          rw [nI_1] at ei2; subst ei2
          refine lv_goto (tgt := 5) hx hb d_M_hangs_95 (by decide) ?_
          have e9 : hgn s a (itr (fun c => hgn s a c (q_n s)) 0 r9) (q_n s) = (itr (fun c => hgn s a c (q_n s)) 0 (r9 + 1)) := rfl
          rw [e9] at hl
          exact ih ls (lv_sub hl [1, 2, 3, 4, 0] rfl)
        · exact absurd (nI_le (Nat.le_refl _) (by omega)) c2
      · refine lv_iload hx hb d_M_hangs_15 (lv_at hl 5 rfl) ?_
        refine lv_aload_n hx hb d_M_hangs_17 rfl (lv_at hl 0 rfl) ?_
        refine mg 21 (by decide) hx hb ht hown hw gw_818 rfl rfl d_M_hangs_18 ?_
        refine lv_icmp_ge (tgt := 92) hx hb d_M_hangs_21 (by decide) (fun c2 => ?_) (fun c2 => ?_)
        · exact absurd c2 (nI_ge hn9 (by omega))
        · refine lv_iconst (v := 0) hx hb d_M_hangs_24 (by decide) ?_
          refine lv_istore (lv' := [(6, .int (0 : Int32)), (0, .ref (lm 0)), (1, .int (nI a)), (2, .int (nI b)), (3, .int (hgn s a (itr (fun c => hgn s a c (q_n s)) 0 r9) n9)), (4, .int (nI r9)), (5, .int (nI n9))]) hx hb d_M_hangs_25 hl (by decide) rfl (fun ls hl => ?_)
          refine k_cnt (4) (fun k9 ls => lv_has ls 7 [(0, .ref (lm 0)), (1, .int (nI a)), (2, .int (nI b)), (3, .int (hgk s a n9 (hgn s a (itr (fun c => hgn s a c (q_n s)) 0 r9) n9) k9)), (4, .int (nI r9)), (5, .int (nI n9)), (6, .int (nI k9))]) (k0 := 0) (Nat.zero_le _) (lv_sub hl [1, 2, 3, 4, 5, 6, 0] rfl) (fun ls hl => ?_) (fun k9 ls hk9 hl ih3 => ?_)
          · refine lv_iload hx hb d_M_hangs_27 (lv_at hl 6 rfl) ?_
            refine lv_iconst (v := 4) hx hb d_M_hangs_29 (by decide) ?_
            refine lv_icmp_ge (tgt := 86) hx hb d_M_hangs_30 (by decide) (fun c3 => ?_) (fun c3 => ?_)
            · obtain ⟨i3, ei3⟩ : ∃ y : Int32, y = (nI n9) + 1 := ⟨_, rfl⟩
              refine lv_iinc (v := i3) (lv' := [(5, .int i3), (0, .ref (lm 0)), (1, .int (nI a)), (2, .int (nI b)), (3, .int (hgk s a n9 (hgn s a (itr (fun c => hgn s a c (q_n s)) 0 r9) n9) 4)), (4, .int (nI r9)), (6, .int (nI 4))]) hx hb d_M_hangs_86 hl (k := 5) rfl (by rw [ei3]; rfl) (by decide) rfl (fun ls hl => ?_)
              rw [nI_1] at ei3; subst ei3
              refine lv_goto (tgt := 15) hx hb d_M_hangs_89 (by decide) ?_
              have e9 : hgk s a n9 (hgn s a (itr (fun c => hgn s a c (q_n s)) 0 r9) n9) 4 = hgn s a (itr (fun c => hgn s a c (q_n s)) 0 r9) (n9 + 1) := rfl
              rw [e9] at hl
              exact ih2 ls (lv_sub hl [1, 2, 3, 4, 5, 0] rfl)
            · exact absurd (show (4 : Int32) ≤ nI 4 from nI_le (Nat.le_refl 4) (by omega)) c3
          · refine lv_iload hx hb d_M_hangs_27 (lv_at hl 6 rfl) ?_
            refine lv_iconst (v := 4) hx hb d_M_hangs_29 (by decide) ?_
            refine lv_icmp_ge (tgt := 86) hx hb d_M_hangs_30 (by decide) (fun c3 => ?_) (fun c3 => ?_)
            · exact absurd c3 (show ¬ ((4 : Int32) ≤ nI k9) from nI_ge (show k9 < 4 from hk9) (by decide))
            · refine lv_iload hx hb d_M_hangs_33 (lv_at hl 5 rfl) ?_
              refine lv_iload_n hx hb d_M_hangs_35 rfl (lv_at hl 1 rfl) ?_
              refine lv_icmp_eq (tgt := 48) hx hb d_M_hangs_36 (by decide) (fun c4 => ?_) (fun c4 => ?_)
              · have h9 : n9 = a ∨ bt (hgk s a n9 (hgn s a (itr (fun c => hgn s a c (q_n s)) 0 r9) n9) k9) n9 = true := Or.inl (nI_inj9 c4 (by omega))
                refine lv_aload_n hx hb d_M_hangs_48 rfl (lv_at hl 0 rfl) ?_
                refine mg 1 (by decide) hx hb ht hown hw gw_798 rfl rfl d_M_hangs_49 ?_
                refine lv_iload hx hb d_M_hangs_52 (lv_at hl 5 rfl) ?_
                refine lv_iconst (v := 4) hx hb d_M_hangs_54 (by decide) ?_
                refine lv_imul hx hb d_M_hangs_55 ?_
                refine lv_iload hx hb d_M_hangs_56 (lv_at hl 6 rfl) ?_
                refine lv_iadd hx hb d_M_hangs_58 ?_
                refine ma_part (j := (4 * n9 + k9)) (mul4 _ k9) (by omega) hx hb hw d_M_hangs_59 ?_
                rw [show m_pt m (4 * n9 + k9) = pI (q_pt s n9 k9) from hR.2.2.1 n9 k9 hn9 hk9]
                rcases hq9 : q_pt s n9 k9 with _ | x9
                · refine lv_if_lt (tgt := 80) hx hb d_M_hangs_60 (by decide) (fun c5 => ?_) (fun c5 => ?_)
                  · have e9 : hgk s a n9 (hgn s a (itr (fun c => hgn s a c (q_n s)) 0 r9) n9) (k9 + 1) = hgk s a n9 (hgn s a (itr (fun c => hgn s a c (q_n s)) 0 r9) n9) k9 := hgk_n (Or.inr hq9)
                    rw [← e9] at hl
                    obtain ⟨i5, ei5⟩ : ∃ y : Int32, y = (nI k9) + 1 := ⟨_, rfl⟩
                    refine lv_iinc (v := i5) (lv' := [(6, .int i5), (0, .ref (lm 0)), (1, .int (nI a)), (2, .int (nI b)), (3, .int (hgk s a n9 (hgn s a (itr (fun c => hgn s a c (q_n s)) 0 r9) n9) (k9 + 1))), (4, .int (nI r9)), (5, .int (nI n9))]) hx hb d_M_hangs_80 hl (k := 6) rfl (by rw [ei5]; rfl) (by decide) rfl (fun ls hl => ?_)
                    rw [nI_1] at ei5; subst ei5
                    refine lv_goto (tgt := 27) hx hb d_M_hangs_83 (by decide) ?_
                    exact ih3 ls (lv_sub hl [1, 2, 3, 4, 5, 6, 0] rfl)
                  · exact absurd (show pI none < 0 from by decide) c5
                · have hx9 := (hok.2 n9 hn9).2.2.2.2.1 k9 x9 hq9
                  refine lv_if_lt (tgt := 80) hx hb d_M_hangs_60 (by decide) (fun c5 => ?_) (fun c5 => ?_)
                  · exact absurd c5 (nI_pos (by omega))
                  · refine lv_iload_n hx hb d_M_hangs_63 rfl (lv_at hl 3 rfl) ?_
                    refine lv_iconst (v := 1) hx hb d_M_hangs_64 (by decide) ?_
                    refine lv_aload_n hx hb d_M_hangs_65 rfl (lv_at hl 0 rfl) ?_
                    refine mg 1 (by decide) hx hb ht hown hw gw_798 rfl rfl d_M_hangs_66 ?_
                    refine lv_iload hx hb d_M_hangs_69 (lv_at hl 5 rfl) ?_
                    refine lv_iconst (v := 4) hx hb d_M_hangs_71 (by decide) ?_
                    refine lv_imul hx hb d_M_hangs_72 ?_
                    refine lv_iload hx hb d_M_hangs_73 (lv_at hl 6 rfl) ?_
                    refine lv_iadd hx hb d_M_hangs_75 ?_
                    refine ma_part (j := (4 * n9 + k9)) (mul4 _ k9) (by omega) hx hb hw d_M_hangs_76 ?_
                    rw [show m_pt m (4 * n9 + k9) = nI x9 from (hR.2.2.1 n9 k9 hn9 hk9).trans (by rw [hq9]; rfl)]
                    refine lv_ishl hx hb d_M_hangs_77 ?_
                    refine lv_ior hx hb d_M_hangs_78 ?_
                    have e9 : hgk s a n9 (hgn s a (itr (fun c => hgn s a c (q_n s)) 0 r9) n9) k9 ||| bitI x9 = hgk s a n9 (hgn s a (itr (fun c => hgn s a c (q_n s)) 0 r9) n9) (k9 + 1) := (hgk_s h9 hq9).symm
                    rw [show hgk s a n9 (hgn s a (itr (fun c => hgn s a c (q_n s)) 0 r9) n9) k9 ||| (1 : Int32) <<< (nI x9 &&& 31) = hgk s a n9 (hgn s a (itr (fun c => hgn s a c (q_n s)) 0 r9) n9) (k9 + 1) from e9]
                    refine lv_istore_n (lv' := [(3, .int (hgk s a n9 (hgn s a (itr (fun c => hgn s a c (q_n s)) 0 r9) n9) (k9 + 1))), (0, .ref (lm 0)), (1, .int (nI a)), (2, .int (nI b)), (4, .int (nI r9)), (5, .int (nI n9)), (6, .int (nI k9))]) hx hb d_M_hangs_79 rfl hl (by decide) rfl (fun ls hl => ?_)
                    obtain ⟨i6, ei6⟩ : ∃ y : Int32, y = (nI k9) + 1 := ⟨_, rfl⟩
                    refine lv_iinc (v := i6) (lv' := [(6, .int i6), (3, .int (hgk s a n9 (hgn s a (itr (fun c => hgn s a c (q_n s)) 0 r9) n9) (k9 + 1))), (0, .ref (lm 0)), (1, .int (nI a)), (2, .int (nI b)), (4, .int (nI r9)), (5, .int (nI n9))]) hx hb d_M_hangs_80 hl (k := 6) rfl (by rw [ei6]; rfl) (by decide) rfl (fun ls hl => ?_)
                    rw [nI_1] at ei6; subst ei6
                    refine lv_goto (tgt := 27) hx hb d_M_hangs_83 (by decide) ?_
                    exact ih3 ls (lv_sub hl [2, 3, 4, 1, 5, 6, 0] rfl)
              · refine lv_iload_n hx hb d_M_hangs_39 rfl (lv_at hl 3 rfl) ?_
                refine lv_iload hx hb d_M_hangs_40 (lv_at hl 5 rfl) ?_
                refine lv_ishr hx hb d_M_hangs_42 ?_
                refine lv_iconst (v := 1) hx hb d_M_hangs_43 (by decide) ?_
                refine lv_iand hx hb d_M_hangs_44 ?_
                have hb9 := b_sh1 (x := hgk s a n9 (hgn s a (itr (fun c => hgn s a c (q_n s)) 0 r9) n9) k9) (j := n9) (by omega)
                refine lv_if_eq (tgt := 80) hx hb d_M_hangs_45 (by decide) (fun c7 => ?_) (fun c7 => ?_)
                · have e9 : hgk s a n9 (hgn s a (itr (fun c => hgn s a c (q_n s)) 0 r9) n9) (k9 + 1) = hgk s a n9 (hgn s a (itr (fun c => hgn s a c (q_n s)) 0 r9) n9) k9 := hgk_n (Or.inl (fun h => h.elim (fun h => c4 (by rw [h])) (fun h => by rw [hb9.mp c7] at h; cases h)))
                  rw [← e9] at hl
                  obtain ⟨i8, ei8⟩ : ∃ y : Int32, y = (nI k9) + 1 := ⟨_, rfl⟩
                  refine lv_iinc (v := i8) (lv' := [(6, .int i8), (0, .ref (lm 0)), (1, .int (nI a)), (2, .int (nI b)), (3, .int (hgk s a n9 (hgn s a (itr (fun c => hgn s a c (q_n s)) 0 r9) n9) (k9 + 1))), (4, .int (nI r9)), (5, .int (nI n9))]) hx hb d_M_hangs_80 hl (k := 6) rfl (by rw [ei8]; rfl) (by decide) rfl (fun ls hl => ?_)
                  rw [nI_1] at ei8; subst ei8
                  refine lv_goto (tgt := 27) hx hb d_M_hangs_83 (by decide) ?_
                  exact ih3 ls (lv_sub hl [1, 2, 3, 4, 5, 6, 0] rfl)
                · have h9 : n9 = a ∨ bt (hgk s a n9 (hgn s a (itr (fun c => hgn s a c (q_n s)) 0 r9) n9) k9) n9 = true := Or.inr (by rcases h9 : bt (hgk s a n9 (hgn s a (itr (fun c => hgn s a c (q_n s)) 0 r9) n9) k9) n9 with _ | _; exact absurd (hb9.mpr h9) c7; rfl)
                  refine lv_aload_n hx hb d_M_hangs_48 rfl (lv_at hl 0 rfl) ?_
                  refine mg 1 (by decide) hx hb ht hown hw gw_798 rfl rfl d_M_hangs_49 ?_
                  refine lv_iload hx hb d_M_hangs_52 (lv_at hl 5 rfl) ?_
                  refine lv_iconst (v := 4) hx hb d_M_hangs_54 (by decide) ?_
                  refine lv_imul hx hb d_M_hangs_55 ?_
                  refine lv_iload hx hb d_M_hangs_56 (lv_at hl 6 rfl) ?_
                  refine lv_iadd hx hb d_M_hangs_58 ?_
                  refine ma_part (j := (4 * n9 + k9)) (mul4 _ k9) (by omega) hx hb hw d_M_hangs_59 ?_
                  rw [show m_pt m (4 * n9 + k9) = pI (q_pt s n9 k9) from hR.2.2.1 n9 k9 hn9 hk9]
                  rcases hq9 : q_pt s n9 k9 with _ | x9
                  · refine lv_if_lt (tgt := 80) hx hb d_M_hangs_60 (by decide) (fun c5 => ?_) (fun c5 => ?_)
                    · have e9 : hgk s a n9 (hgn s a (itr (fun c => hgn s a c (q_n s)) 0 r9) n9) (k9 + 1) = hgk s a n9 (hgn s a (itr (fun c => hgn s a c (q_n s)) 0 r9) n9) k9 := hgk_n (Or.inr hq9)
                      rw [← e9] at hl
                      obtain ⟨i9, ei9⟩ : ∃ y : Int32, y = (nI k9) + 1 := ⟨_, rfl⟩
                      refine lv_iinc (v := i9) (lv' := [(6, .int i9), (0, .ref (lm 0)), (1, .int (nI a)), (2, .int (nI b)), (3, .int (hgk s a n9 (hgn s a (itr (fun c => hgn s a c (q_n s)) 0 r9) n9) (k9 + 1))), (4, .int (nI r9)), (5, .int (nI n9))]) hx hb d_M_hangs_80 hl (k := 6) rfl (by rw [ei9]; rfl) (by decide) rfl (fun ls hl => ?_)
                      rw [nI_1] at ei9; subst ei9
                      refine lv_goto (tgt := 27) hx hb d_M_hangs_83 (by decide) ?_
                      exact ih3 ls (lv_sub hl [1, 2, 3, 4, 5, 6, 0] rfl)
                    · exact absurd (show pI none < 0 from by decide) c5
                  · have hx9 := (hok.2 n9 hn9).2.2.2.2.1 k9 x9 hq9
                    refine lv_if_lt (tgt := 80) hx hb d_M_hangs_60 (by decide) (fun c5 => ?_) (fun c5 => ?_)
                    · exact absurd c5 (nI_pos (by omega))
                    · refine lv_iload_n hx hb d_M_hangs_63 rfl (lv_at hl 3 rfl) ?_
                      refine lv_iconst (v := 1) hx hb d_M_hangs_64 (by decide) ?_
                      refine lv_aload_n hx hb d_M_hangs_65 rfl (lv_at hl 0 rfl) ?_
                      refine mg 1 (by decide) hx hb ht hown hw gw_798 rfl rfl d_M_hangs_66 ?_
                      refine lv_iload hx hb d_M_hangs_69 (lv_at hl 5 rfl) ?_
                      refine lv_iconst (v := 4) hx hb d_M_hangs_71 (by decide) ?_
                      refine lv_imul hx hb d_M_hangs_72 ?_
                      refine lv_iload hx hb d_M_hangs_73 (lv_at hl 6 rfl) ?_
                      refine lv_iadd hx hb d_M_hangs_75 ?_
                      refine ma_part (j := (4 * n9 + k9)) (mul4 _ k9) (by omega) hx hb hw d_M_hangs_76 ?_
                      rw [show m_pt m (4 * n9 + k9) = nI x9 from (hR.2.2.1 n9 k9 hn9 hk9).trans (by rw [hq9]; rfl)]
                      refine lv_ishl hx hb d_M_hangs_77 ?_
                      refine lv_ior hx hb d_M_hangs_78 ?_
                      have e9 : hgk s a n9 (hgn s a (itr (fun c => hgn s a c (q_n s)) 0 r9) n9) k9 ||| bitI x9 = hgk s a n9 (hgn s a (itr (fun c => hgn s a c (q_n s)) 0 r9) n9) (k9 + 1) := (hgk_s h9 hq9).symm
                      rw [show hgk s a n9 (hgn s a (itr (fun c => hgn s a c (q_n s)) 0 r9) n9) k9 ||| (1 : Int32) <<< (nI x9 &&& 31) = hgk s a n9 (hgn s a (itr (fun c => hgn s a c (q_n s)) 0 r9) n9) (k9 + 1) from e9]
                      refine lv_istore_n (lv' := [(3, .int (hgk s a n9 (hgn s a (itr (fun c => hgn s a c (q_n s)) 0 r9) n9) (k9 + 1))), (0, .ref (lm 0)), (1, .int (nI a)), (2, .int (nI b)), (4, .int (nI r9)), (5, .int (nI n9)), (6, .int (nI k9))]) hx hb d_M_hangs_79 rfl hl (by decide) rfl (fun ls hl => ?_)
                      obtain ⟨i10, ei10⟩ : ∃ y : Int32, y = (nI k9) + 1 := ⟨_, rfl⟩
                      refine lv_iinc (v := i10) (lv' := [(6, .int i10), (3, .int (hgk s a n9 (hgn s a (itr (fun c => hgn s a c (q_n s)) 0 r9) n9) (k9 + 1))), (0, .ref (lm 0)), (1, .int (nI a)), (2, .int (nI b)), (4, .int (nI r9)), (5, .int (nI n9))]) hx hb d_M_hangs_80 hl (k := 6) rfl (by rw [ei10]; rfl) (by decide) rfl (fun ls hl => ?_)
                      rw [nI_1] at ei10; subst ei10
                      refine lv_goto (tgt := 27) hx hb d_M_hangs_83 (by decide) ?_
                      exact ih3 ls (lv_sub hl [2, 3, 4, 1, 5, 6, 0] rfl)
set_option maxHeartbeats 4000000 in
set_option maxRecDepth 100000 in
theorem c_M_badPart (l : Launch) (G : GT) (A : Nat → Prop) (lm : Nat → Nat) (s : QS) (m : MS) (u : WT) (hR : rM G lm s m u) (hok : okQ s) (j : Nat) (hj : j < q_n s) (k : Int32) : Kt l y_M_badPart b_M_badPart 3 (some .boolean) 1 26 0 0 0 0 0 0 G A u [.ref (lm 0), .int (nI j), .int k] (KQ G A (Ri (fun r u' => r = bI (badP s j k) ∧ u' = u))) (NX) := by
  refine k_of (by decide) (Nat.le_of_ble_eq_true rfl) (fun p e st mt below meth c ls hx hb hr hlocks hml htab hname hown ht hw hl => ?_)
  have hl : lv_has ls 3 [(0, .ref (lm 0)), (1, .int (nI j)), (2, .int k)] := hl
  have hw : Mk G A lm s m u u st st.heap [] := ⟨hw, hR, fM.rf⟩
  refine lv_iload_n hx hb d_M_badPart_0 rfl (lv_at hl 2 rfl) ?_
  refine lv_iconst (v := (-1)) hx hb d_M_badPart_1 (by decide) ?_
  refine lv_icmp_eq (tgt := 31) hx hb d_M_badPart_2 (by decide) (fun c1 => ?_) (fun c1 => ?_)
  · refine lv_iconst (v := 0) hx hb d_M_badPart_31 (by decide) ?_
    exact kt_z hx hb hr hlocks hw.1 d_M_badPart_32 (by exact ⟨by rw [show badP s j k = false by unfold badP; rw [decide_eq_false (p := k ≠ -1) (fun h => h c1), Bool.false_and]]; rfl, rfl⟩) (Or.inl rfl) (by first | decide | (dsimp only; omega)) (by first | decide | (dsimp only; omega))
  · refine lv_aload_n hx hb d_M_badPart_5 rfl (lv_at hl 0 rfl) ?_
    refine lv_iload_n hx hb d_M_badPart_6 rfl (lv_at hl 2 rfl) ?_
    refine kc_i (kr_V 1 (C := "QuoteGraphModel") (As := [.int k]) (rest := []) (c_M_no l G A lm s m u hR k) hx hb hml hown ht hw.1 gw_919 gw_921 gw_25 gw_47 gw_922 ⟨⟨by decide, by decide⟩, by decide +kernel⟩ ⟨by first | decide | (dsimp only; omega), by first | decide | (dsimp only; omega)⟩ (kr_M hw) rfl hl.1 rfl (lv_room (Nat.le_of_ble_eq_true rfl)) d_M_badPart_7 ⟨by first | decide | (dsimp only; omega), by first | decide | (dsimp only; omega)⟩) hw.1 (fun _ _ _ _ _ _ h => h.elim) (fun r2 u2 H2 locs2 hp2 hw2 => ?_)
    obtain ⟨er2, hq2⟩ := hp2
    replace hq2 := hq2.symm; subst hq2
    subst er2
    have hw : Mk G A lm s m u u st H2 locs2 := ⟨hw2, hw.2⟩
    refine lv_if_ne (tgt := 27) hx hb d_M_badPart_10 (by decide) (fun c3 => ?_) (fun c3 => ?_)
    · have hN : isN (q_n s) k = false := by have h := (bI_ne _).mp c3; rcases h2 : isN (q_n s) k with _ | _; rfl; rw [h2] at h; cases h
      refine lv_iconst (v := 1) hx hb d_M_badPart_27 (by decide) ?_
      refine lv_goto (tgt := 32) hx hb d_M_badPart_28 (by decide) ?_
      exact kt_z hx hb hr hlocks hw.1 d_M_badPart_32 (by exact ⟨by rw [badP_t (j := j) c1 (Or.inl hN) hR.2.2.2]; rfl, rfl⟩) (Or.inr rfl) (by first | decide | (dsimp only; omega)) (by first | decide | (dsimp only; omega))
    · have hNi : isN (q_n s) k = true := by have h := (bI_eq _).mp c3; rcases h2 : isN (q_n s) k with _ | _; (rw [h2] at h; cases h); rfl
      obtain ⟨i, hi, rfl⟩ := isN_t hNi hR.2.2.2
      refine lv_iload_n hx hb d_M_badPart_13 rfl (lv_at hl 2 rfl) ?_
      refine lv_iload_n hx hb d_M_badPart_14 rfl (lv_at hl 1 rfl) ?_
      refine lv_icmp_eq (tgt := 27) hx hb d_M_badPart_15 (by decide) (fun c4 => ?_) (fun c4 => ?_)
      · refine lv_iconst (v := 1) hx hb d_M_badPart_27 (by decide) ?_
        refine lv_goto (tgt := 32) hx hb d_M_badPart_28 (by decide) ?_
        exact kt_z hx hb hr hlocks hw.1 d_M_badPart_32 (by exact ⟨by rw [badP_t (j := j) c1 (Or.inr ⟨i, hi, rfl, Or.inl (nI_inj9 c4 (by have := hR.2.2.2; omega))⟩) hR.2.2.2]; rfl, rfl⟩) (Or.inr rfl) (by first | decide | (dsimp only; omega)) (by first | decide | (dsimp only; omega))
      · refine lv_aload_n hx hb d_M_badPart_18 rfl (lv_at hl 0 rfl) ?_
        refine lv_iload_n hx hb d_M_badPart_19 rfl (lv_at hl 2 rfl) ?_
        refine lv_iload_n hx hb d_M_badPart_20 rfl (lv_at hl 1 rfl) ?_
        refine kc_i (kr_V 2 (C := "QuoteGraphModel") (As := [.int (nI i), .int (nI j)]) (rest := []) (c_M_hangs l G A lm s m u hR hok i j hi hj) hx hb hml hown ht hw.1 gw_944 gw_946 gw_28 gw_47 gw_947 ⟨⟨by decide, by decide⟩, by decide +kernel⟩ ⟨by first | decide | (dsimp only; omega), by first | decide | (dsimp only; omega)⟩ (kr_M hw) rfl hl.1 rfl (lv_room (Nat.le_of_ble_eq_true rfl)) d_M_badPart_21 ⟨by first | decide | (dsimp only; omega), by first | decide | (dsimp only; omega)⟩) hw.1 (fun _ _ _ _ _ _ h => h.elim) (fun r5 u5 H5 locs5 hp5 hw5 => ?_)
        obtain ⟨er5, hq5⟩ := hp5
        replace hq5 := hq5.symm; subst hq5
        subst er5
        have hw : Mk G A lm s m u u st H5 locs5 := ⟨hw5, hw.2⟩
        rw [hg_uses hok hi hj]
        refine lv_if_eq (tgt := 31) hx hb d_M_badPart_24 (by decide) (fun c6 => ?_) (fun c6 => ?_)
        · refine lv_iconst (v := 0) hx hb d_M_badPart_31 (by decide) ?_
          exact kt_z hx hb hr hlocks hw.1 d_M_badPart_32 (by exact ⟨by rw [(badP_f (q := some i) (Or.inr ⟨i, rfl, c1, hi, rfl, fun h => c4 (by rw [h]), (bI_eq _).mp c6⟩) hR.2.2.2).1]; rfl, rfl⟩) (Or.inl rfl) (by first | decide | (dsimp only; omega)) (by first | decide | (dsimp only; omega))
        · refine lv_iconst (v := 1) hx hb d_M_badPart_27 (by decide) ?_
          refine lv_goto (tgt := 32) hx hb d_M_badPart_28 (by decide) ?_
          exact kt_z hx hb hr hlocks hw.1 d_M_badPart_32 (by exact ⟨by rw [badP_t (j := j) c1 (Or.inr ⟨i, hi, rfl, Or.inr ((bI_ne _).mp c6)⟩) hR.2.2.2]; rfl, rfl⟩) (Or.inr rfl) (by first | decide | (dsimp only; omega)) (by first | decide | (dsimp only; omega))
set_option maxHeartbeats 4000000 in
set_option maxRecDepth 100000 in
theorem c_M_uses (l : Launch) (G : GT) (A : Nat → Prop) (lm : Nat → Nat) (s : QS) (m : MS) (u : WT) (hR : rM G lm s m u) (hok : okQ s) (a0 b0 : Int32) : Kt l y_M_uses b_M_uses 3 (some .boolean) 1 26 0 0 0 0 0 0 G A u [.ref (lm 0), .int a0, .int b0] (KQ G A (Ri (fun r u' => r = bI (pUses s a0 b0).2.1 ∧ ∃ m', m_th m' = nI (pUses s a0 b0).1 ∧ rM G lm (pUses s a0 b0).2.2 m' u' ∧ fM lm u u'))) (NX) := by
  refine k_of (by decide) (Nat.le_of_ble_eq_true rfl) (fun p e st mt below meth c ls hx hb hr hlocks hml htab hname hown ht hw hl => ?_)
  have hl : lv_has ls 3 [(0, .ref (lm 0)), (1, .int a0), (2, .int b0)] := hl
  have hw : Mk G A lm s m u u st st.heap [] := ⟨hw, hR, fM.rf⟩
  refine lv_aload_n hx hb d_M_uses_0 rfl (lv_at hl 0 rfl) ?_
  refine lv_aload_n hx hb d_M_uses_1 rfl (lv_at hl 0 rfl) ?_
  refine lv_iload_n hx hb d_M_uses_2 rfl (lv_at hl 1 rfl) ?_
  refine kc_i (kr_V 1 (C := "QuoteGraphModel") (As := [.int a0]) (rest := [.ref (lm 0)]) (c_M_no l G A lm s m u hR a0) hx hb hml hown ht hw.1 gw_919 gw_921 gw_25 gw_47 gw_922 ⟨⟨by decide, by decide⟩, by decide +kernel⟩ ⟨by first | decide | (dsimp only; omega), by first | decide | (dsimp only; omega)⟩ (kr_M hw) rfl hl.1 rfl (lv_room (Nat.le_of_ble_eq_true rfl)) d_M_uses_3 ⟨by first | decide | (dsimp only; omega), by first | decide | (dsimp only; omega)⟩) hw.1 (fun _ _ _ _ _ _ h => h.elim) (fun r1 u1 H1 locs1 hp1 hw1 => ?_)
  obtain ⟨er1, hq1⟩ := hp1
  replace hq1 := hq1.symm; subst hq1
  subst er1
  have hw : Mk G A lm s m u u st H1 locs1 := ⟨hw1, hw.2⟩
  refine lv_if_ne (tgt := 17) hx hb d_M_uses_6 (by decide) (fun c2 => ?_) (fun c2 => ?_)
  · have hN : isN (q_n s) a0 = false := by have h := (bI_ne _).mp c2; rcases h2 : isN (q_n s) a0 with _ | _; rfl; rw [h2] at h; cases h
    refine lv_iconst (v := 1) hx hb d_M_uses_17 (by decide) ?_
    refine lv_goto (tgt := 22) hx hb d_M_uses_18 (by decide) ?_
    refine mp_thrown (1 : Int32) hx hb ht hown hw gw_822 d_M_uses_22 (fun H3 locs3 u3 hw => ?_)
    refine lv_aload_n hx hb d_M_uses_25 rfl (lv_at hl 0 rfl) ?_
    refine mg 25 (by decide) hx hb ht hown hw gw_822 rfl rfl d_M_uses_26 ?_
    refine lv_if_ne (tgt := 45) hx hb d_M_uses_29 (by decide) (fun c9 => ?_) (fun c9 => ?_)
    · refine lv_iconst (v := 0) hx hb d_M_uses_45 (by decide) ?_
      exact kt_z hx hb hr hlocks hw.1 d_M_uses_46 (by unfold pUses; rw [wN_f hN]; exact ⟨rfl, _, rfl, hw.2.1, hw.2.2⟩) (Or.inl rfl) (by first | decide | (dsimp only; omega)) (by first | decide | (dsimp only; omega))
    · exact absurd (show (1 : Int32) = 0 from c9) (by decide)
  · have hNi : isN (q_n s) a0 = true := by have h := (bI_eq _).mp c2; rcases h2 : isN (q_n s) a0 with _ | _; (rw [h2] at h; cases h); rfl
    obtain ⟨i, hi, rfl⟩ := isN_t hNi hR.2.2.2
    refine lv_aload_n hx hb d_M_uses_9 rfl (lv_at hl 0 rfl) ?_
    refine lv_iload_n hx hb d_M_uses_10 rfl (lv_at hl 2 rfl) ?_
    refine kc_i (kr_V 1 (C := "QuoteGraphModel") (As := [.int b0]) (rest := [.ref (lm 0)]) (c_M_no l G A lm s m u hR b0) hx hb hml hown ht hw.1 gw_919 gw_921 gw_25 gw_47 gw_922 ⟨⟨by decide, by decide⟩, by decide +kernel⟩ ⟨by first | decide | (dsimp only; omega), by first | decide | (dsimp only; omega)⟩ (kr_M hw) rfl hl.1 rfl (lv_room (Nat.le_of_ble_eq_true rfl)) d_M_uses_11 ⟨by first | decide | (dsimp only; omega), by first | decide | (dsimp only; omega)⟩) hw.1 (fun _ _ _ _ _ _ h => h.elim) (fun r4 u4 H4 locs4 hp4 hw4 => ?_)
    obtain ⟨er4, hq4⟩ := hp4
    replace hq4 := hq4.symm; subst hq4
    subst er4
    have hw : Mk G A lm s m u u st H4 locs4 := ⟨hw4, hw.2⟩
    refine lv_if_eq (tgt := 21) hx hb d_M_uses_14 (by decide) (fun c5 => ?_) (fun c5 => ?_)
    · have hNj : isN (q_n s) b0 = true := by have h := (bI_eq _).mp c5; rcases h2 : isN (q_n s) b0 with _ | _; (rw [h2] at h; cases h); rfl
      obtain ⟨j, hj, rfl⟩ := isN_t hNj hR.2.2.2
      refine lv_iconst (v := 0) hx hb d_M_uses_21 (by decide) ?_
      refine mp_thrown (0 : Int32) hx hb ht hown hw gw_822 d_M_uses_22 (fun H6 locs6 u6 hw => ?_)
      refine lv_aload_n hx hb d_M_uses_25 rfl (lv_at hl 0 rfl) ?_
      refine mg 25 (by decide) hx hb ht hown hw gw_822 rfl rfl d_M_uses_26 ?_
      refine lv_if_ne (tgt := 45) hx hb d_M_uses_29 (by decide) (fun c9 => ?_) (fun c9 => ?_)
      · exact absurd rfl c9
      · refine lv_aload_n hx hb d_M_uses_32 rfl (lv_at hl 0 rfl) ?_
        refine lv_iload_n hx hb d_M_uses_33 rfl (lv_at hl 1 rfl) ?_
        refine lv_iload_n hx hb d_M_uses_34 rfl (lv_at hl 2 rfl) ?_
        refine kc_i (kr_V 2 (C := "QuoteGraphModel") (As := [.int (nI i), .int (nI j)]) (rest := []) (c_M_hangs l G A lm s (mS_th m (0 : Int32)) u6 hw.2.1 hok i j hi hj) hx hb hml hown ht hw.1 gw_944 gw_946 gw_28 gw_47 gw_947 ⟨⟨by decide, by decide⟩, by decide +kernel⟩ ⟨by first | decide | (dsimp only; omega), by first | decide | (dsimp only; omega)⟩ (kr_M hw) rfl hl.1 rfl (lv_room (Nat.le_of_ble_eq_true rfl)) d_M_uses_35 ⟨by first | decide | (dsimp only; omega), by first | decide | (dsimp only; omega)⟩) hw.1 (fun _ _ _ _ _ _ h => h.elim) (fun r7 u7 H7 locs7 hp7 hw7 => ?_)
        obtain ⟨er7, hq7⟩ := hp7
        replace hq7 := hq7.symm; subst hq7
        subst er7
        have hw : Mk G A lm s (mS_th m (0 : Int32)) u u6 st H7 locs7 := ⟨hw7, hw.2⟩
        rw [hg_uses hok hi hj]
        refine lv_if_eq (tgt := 45) hx hb d_M_uses_38 (by decide) (fun c8 => ?_) (fun c8 => ?_)
        · refine lv_iconst (v := 0) hx hb d_M_uses_45 (by decide) ?_
          exact kt_z hx hb hr hlocks hw.1 d_M_uses_46 (by unfold pUses; rw [wN_t hi hR.2.2.2, wN_t hj hR.2.2.2]; exact ⟨by rw [(bI_eq _).mp c8]; rfl, _, rfl, hw.2.1, hw.2.2⟩) (Or.inl rfl) (by first | decide | (dsimp only; omega)) (by first | decide | (dsimp only; omega))
        · refine lv_iconst (v := 1) hx hb d_M_uses_41 (by decide) ?_
          refine lv_goto (tgt := 46) hx hb d_M_uses_42 (by decide) ?_
          exact kt_z hx hb hr hlocks hw.1 d_M_uses_46 (by unfold pUses; rw [wN_t hi hR.2.2.2, wN_t hj hR.2.2.2]; exact ⟨by rw [(bI_ne _).mp c8]; rfl, _, rfl, hw.2.1, hw.2.2⟩) (Or.inr rfl) (by first | decide | (dsimp only; omega)) (by first | decide | (dsimp only; omega))
    · have hN : isN (q_n s) b0 = false := by have h := (bI_ne _).mp c5; rcases h2 : isN (q_n s) b0 with _ | _; rfl; rw [h2] at h; cases h
      refine lv_iconst (v := 1) hx hb d_M_uses_17 (by decide) ?_
      refine lv_goto (tgt := 22) hx hb d_M_uses_18 (by decide) ?_
      refine mp_thrown (1 : Int32) hx hb ht hown hw gw_822 d_M_uses_22 (fun H9 locs9 u9 hw => ?_)
      refine lv_aload_n hx hb d_M_uses_25 rfl (lv_at hl 0 rfl) ?_
      refine mg 25 (by decide) hx hb ht hown hw gw_822 rfl rfl d_M_uses_26 ?_
      refine lv_if_ne (tgt := 45) hx hb d_M_uses_29 (by decide) (fun c9 => ?_) (fun c9 => ?_)
      · refine lv_iconst (v := 0) hx hb d_M_uses_45 (by decide) ?_
        exact kt_z hx hb hr hlocks hw.1 d_M_uses_46 (by unfold pUses; rw [wN_t hi hR.2.2.2, wN_f hN]; exact ⟨rfl, _, rfl, hw.2.1, hw.2.2⟩) (Or.inl rfl) (by first | decide | (dsimp only; omega)) (by first | decide | (dsimp only; omega))
      · exact absurd (show (1 : Int32) = 0 from c9) (by decide)

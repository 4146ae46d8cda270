/-! 22.net: contracts of the net -/
set_option maxHeartbeats 4000000 in
set_option maxRecDepth 100000 in
theorem c_Ne_checkSuits (l : Launch) (hl9 : l.stackTraces = false) (G : GT) (A : Nat → Prop) (lc : Nat → Nat) (s : QS) (z : ZS) (u : WT) (hR : rQ G lc s z u) (o : Nat) (ho : o < q_n s) (h3 : q_so s o = 3) : Kt l y_Ne_checkSuits b_Ne_checkSuits 2 none 6 100 1 6 0 0 1 6 G A u [.ref (lc 7), .ref (lc (8 + o))] (KQ G A (Rv (fun u' => q_ch s o ≤ 8 ∧ u' = u))) (fun E u' => E = "java/lang/ArithmeticException" ∧ ¬ q_ch s o ≤ 8 ∧ u' = u) := by
  refine k_of (by decide) (Nat.le_of_ble_eq_true rfl) (fun p e st m below meth c ls hx hb hr hlocks hml htab hname hown ht hw hl => ?_)
  have hl : lv_has ls 2 [(0, .ref (lc 7)), (1, .ref (lc (8 + o)))] := hl
  obtain ⟨n0, hn0⟩ : ∃ n0, q_n s = n0 := ⟨_, rfl⟩
  have hw : Sk G A lc s z n0 u u st st.heap [] := ⟨hw, hR, fQ.rf, hn0⟩
  have hp0 := (opt_p hR.1 ho h3).1
  have hp1 := (opt_p hR.1 ho h3).2
  rw [hn0] at ho hp0 hp1
  refine lv_aload_n hx hb d_Ne_checkSuits_0 rfl (lv_at hl 1 rfl) ?_
  refine kg_O (j := o) 17 (by decide) (by decide) hx hb ht hown hw ho h3 gw_413 rfl (by rw [ndX_O h3]; rfl) d_Ne_checkSuits_1 ?_
  refine lv_bipush (v := 8) hx hb d_Ne_checkSuits_4 (by decide) ?_
  refine lv_icmp_le (tgt := 19) hx hb d_Ne_checkSuits_6 (by decide) (fun c1 => ?_) (fun c1 => ?_)
  · exact kt_v hx hb hr hlocks hw.1 d_Ne_checkSuits_19 (by exact ⟨c1, rfl⟩) (by first | decide | (dsimp only; omega)) (by first | decide | (dsimp only; omega))
  · exact kt_throw (own := R_Ne) (cls := "java/lang/ArithmeticException") (ik := 21) (is := 23) (ic := 25) 9 hl9 hx hb htab hlocks hml hl.1 ht hown hw.1 (by decide) gw_602 gw_58 rfl at_Ne_25 d_Ne_checkSuits_9 d_Ne_checkSuits_12 d_Ne_checkSuits_13 d_Ne_checkSuits_15 d_Ne_checkSuits_18 (by first | decide | (dsimp only; omega)) (Nat.le_of_ble_eq_true rfl) (by first | decide | (dsimp only; omega)) (by first | decide | (dsimp only; omega)) (by exact ⟨rfl, c1, rfl⟩) (by first | decide | (dsimp only; omega)) (by first | decide | (dsimp only; omega))
set_option maxHeartbeats 4000000 in
set_option maxRecDepth 100000 in
theorem c_Ne_stepBack (l : Launch) (hl9 : l.stackTraces = false) (G : GT) (A : Nat → Prop) (lc : Nat → Nat) (s : QS) (z : ZS) (u : WT) (hR : rQ G lc s z u) (o : Nat) (ho : o < q_n s) (h3 : q_so s o = 3) (D : Int64) (M : Nat) (hM : q_sz s o = nI M) (hM1 : 1 ≤ M) (hM2 : M ≤ 20) : Kt l y_Ne_stepBack b_Ne_stepBack 16 none 8 143 1 6 0 0 1 6 G A u [.ref (lc 7), .ref (lc (8 + o)), .long D, .int (q_sz s o)] (KQ G A (Rv (fun u' => ∃ g, nsb s o D (z_nr z) (2 * M - 1) = some g ∧ rQ G lc s (zS_nr z g) u' ∧ fQ lc (q_n s) u u'))) (fun E u' => E = "java/lang/ArithmeticException" ∧ nsb s o D (z_nr z) (2 * M - 1) = none ∧ (∃ g, rQ G lc s (zS_nr z g) u') ∧ fQ lc (q_n s) u u') := by
  refine k_of (by decide) (Nat.le_of_ble_eq_true rfl) (fun p e st m below meth c ls hx hb hr hlocks hml htab hname hown ht hw hl => ?_)
  have hl : lv_has ls 16 [(0, .ref (lc 7)), (1, .ref (lc (8 + o))), (2, .long D), (4, .int (q_sz s o))] := hl
  obtain ⟨n0, hn0⟩ : ∃ n0, q_n s = n0 := ⟨_, rfl⟩
  have hw : Sk G A lc s z n0 u u st st.heap [] := ⟨hw, hR, fQ.rf, hn0⟩
  have hp0 := (opt_p hR.1 ho h3).1
  have hp1 := (opt_p hR.1 ho h3).2
  rw [hn0] at ho hp0 hp1
  have h2 : (2 : Int32) * q_sz s o = nI (2 * M) := by rw [hM]; exact pk_mul 2 M
  refine lv_aload_n hx hb d_Ne_stepBack_0 rfl (lv_at hl 0 rfl) ?_
  refine kg_Ne 2 (by decide) hx hb ht hown hw gw_115 rfl rfl d_Ne_stepBack_1 ?_
  refine lv_iconst (v := 0) hx hb d_Ne_stepBack_4 (by decide) ?_
  refine ka_nr (k := 0) rfl (by omega) hx hb hw d_Ne_stepBack_5 ?_
  refine lv_lstore (lv' := [(5, .long (z_nr z 0)), (0, .ref (lc 7)), (1, .ref (lc (8 + o))), (2, .long D), (4, .int (q_sz s o))]) hx hb d_Ne_stepBack_6 hl (by decide) rfl (fun ls hl => ?_)
  refine lv_iconst (v := 1) hx hb d_Ne_stepBack_8 (by decide) ?_
  refine lv_istore (lv' := [(7, .int (1 : Int32)), (5, .long (z_nr z 0)), (0, .ref (lc 7)), (1, .ref (lc (8 + o))), (2, .long D), (4, .int (q_sz s o))]) hx hb d_Ne_stepBack_9 hl (by decide) rfl (fun ls hl => ?_)
  refine k_cntH (2 * M - 1) (fun k ls H locs => lv_has ls 16 [(0, .ref (lc 7)), (1, .ref (lc (8 + o))), (2, .long D), (4, .int (q_sz s o)), (5, .long (z_nr z k)), (7, .int (nI (k + 1)))] ∧ ∃ g u9, nsb s o D (z_nr z) k = some g ∧ Sk G A lc s (zS_nr z g) n0 u u9 st H locs) (k0 := 0) (Nat.zero_le _) (⟨lv_sub hl [2, 3, 4, 5, 1, 0] rfl, _, u, rfl, hw⟩) (fun ls H locs hJ => ?_) (fun k ls H locs hk hJ ih => ?_)
  · obtain ⟨hl, hw⟩ := hJ
    obtain ⟨g, u9, hg, hw⟩ := hw
    refine lv_iload hx hb d_Ne_stepBack_11 (lv_at hl 5 rfl) ?_
    refine lv_iconst (v := 2) hx hb d_Ne_stepBack_13 (by decide) ?_
    refine lv_iload hx hb d_Ne_stepBack_14 (lv_at hl 3 rfl) ?_
    refine lv_imul hx hb d_Ne_stepBack_16 ?_
    refine lv_icmp_ge (tgt := 110) hx hb d_Ne_stepBack_17 (by decide) (fun c1 => ?_) (fun c1 => ?_)
    · exact kt_v hx hb hr hlocks hw.1 d_Ne_stepBack_110 (by exact ⟨g, hg, hw.2.1, by rw [hn0]; exact hw.2.2.1⟩) (by first | decide | (dsimp only; omega)) (by first | decide | (dsimp only; omega))
    · exact absurd (by rw [h2]; exact nI_le (by omega) (by omega)) c1
  · obtain ⟨hl, hw⟩ := hJ
    obtain ⟨g, u9, hg, hw⟩ := hw
    refine lv_iload hx hb d_Ne_stepBack_11 (lv_at hl 5 rfl) ?_
    refine lv_iconst (v := 2) hx hb d_Ne_stepBack_13 (by decide) ?_
    refine lv_iload hx hb d_Ne_stepBack_14 (lv_at hl 3 rfl) ?_
    refine lv_imul hx hb d_Ne_stepBack_16 ?_
    refine lv_icmp_ge (tgt := 110) hx hb d_Ne_stepBack_17 (by decide) (fun c1 => ?_) (fun c1 => ?_)
    · exact absurd c1 (by rw [h2]; exact nI_ge (by omega) (by omega))
    · refine lv_aload_n hx hb d_Ne_stepBack_20 rfl (lv_at hl 0 rfl) ?_
      refine kg_Ne 2 (by decide) hx hb ht hown hw gw_115 rfl rfl d_Ne_stepBack_21 ?_
      refine lv_iload hx hb d_Ne_stepBack_24 (lv_at hl 5 rfl) ?_
      refine ka_nr (k := (k + 1)) rfl (by omega) hx hb hw d_Ne_stepBack_26 ?_
      rw [show z_nr (zS_nr z g) (k + 1) = z_nr z (k + 1) from nsb_get hg (k + 1) (by omega)]
      refine lv_lstore (lv' := [(8, .long (z_nr z (k + 1))), (0, .ref (lc 7)), (1, .ref (lc (8 + o))), (2, .long D), (4, .int (q_sz s o)), (5, .long (z_nr z k)), (7, .int (nI (k + 1)))]) hx hb d_Ne_stepBack_27 hl (by decide) rfl (fun ls hl => ?_)
      refine lv_aload_n hx hb d_Ne_stepBack_29 rfl (lv_at hl 1 rfl) ?_
      refine kg_Ne 2 (by decide) hx hb ht hown hw gw_115 rfl rfl d_Ne_stepBack_30 ?_
      refine lv_iload hx hb d_Ne_stepBack_33 (lv_at hl 6 rfl) ?_
      refine lv_iconst (v := 1) hx hb d_Ne_stepBack_35 (by decide) ?_
      refine lv_iadd hx hb d_Ne_stepBack_36 ?_
      refine ka_nr (k := (k + 1 + 1)) (nI_1 (k + 1)) (by omega) hx hb hw d_Ne_stepBack_37 ?_
      rw [show z_nr (zS_nr z g) (k + 1 + 1) = z_nr z (k + 2) from nsb_get hg (k + 2) (by omega)]
      refine lv_ldc2 (v := 2) hx hb hown (ht _ gw_675) d_Ne_stepBack_38 ?_
      refine lv_lload hx hb d_Ne_stepBack_41 (lv_at hl 0 rfl) ?_
      refine lv_lmul hx hb d_Ne_stepBack_43 ?_
      refine lv_lsub hx hb d_Ne_stepBack_44 ?_
      refine lv_lload hx hb d_Ne_stepBack_45 (lv_at hl 5 rfl) ?_
      refine lv_ladd hx hb d_Ne_stepBack_47 ?_
      refine lv_lstore (lv' := [(10, .long (((z_nr z (k + 2)) - ((2 : Int64) * (z_nr z (k + 1)))) + (z_nr z k))), (8, .long (z_nr z (k + 1))), (0, .ref (lc 7)), (1, .ref (lc (8 + o))), (2, .long D), (4, .int (q_sz s o)), (5, .long (z_nr z k)), (7, .int (nI (k + 1)))]) hx hb d_Ne_stepBack_48 hl (by decide) rfl (fun ls hl => ?_)
      refine lv_ldc2 (v := 16) hx hb hown (ht _ gw_676) d_Ne_stepBack_50 ?_
      refine lv_lload hx hb d_Ne_stepBack_53 (lv_at hl 1 rfl) ?_
      refine lv_lmul hx hb d_Ne_stepBack_55 ?_
      refine lv_aload_n hx hb d_Ne_stepBack_56 rfl (lv_at hl 3 rfl) ?_
      refine kg_O (j := o) 17 (by decide) (by decide) hx hb ht hown hw ho h3 gw_413 rfl (by rw [ndX_O h3]; rfl) d_Ne_stepBack_57 ?_
      refine lv_i2l hx hb d_Ne_stepBack_60 rfl ?_
      refine lv_lload hx hb d_Ne_stepBack_61 (lv_at hl 0 rfl) ?_
      refine lv_lmul hx hb d_Ne_stepBack_63 ?_
      refine lv_ladd hx hb d_Ne_stepBack_64 ?_
      refine lv_lstore (lv' := [(12, .long (((16 : Int64) * (z_nr z (k + 1))) + (((q_ch s o).toInt64) * (((z_nr z (k + 2)) - ((2 : Int64) * (z_nr z (k + 1)))) + (z_nr z k))))), (10, .long (((z_nr z (k + 2)) - ((2 : Int64) * (z_nr z (k + 1)))) + (z_nr z k))), (8, .long (z_nr z (k + 1))), (0, .ref (lc 7)), (1, .ref (lc (8 + o))), (2, .long D), (4, .int (q_sz s o)), (5, .long (z_nr z k)), (7, .int (nI (k + 1)))]) hx hb d_Ne_stepBack_65 hl (by decide) rfl (fun ls hl => ?_)
      refine lv_lload_n hx hb d_Ne_stepBack_67 rfl (lv_at hl 5 rfl) ?_
      refine lv_lload hx hb d_Ne_stepBack_68 (lv_at hl 0 rfl) ?_
      refine lv_lmul hx hb d_Ne_stepBack_70 ?_
      refine lv_bipush (v := 14) hx hb d_Ne_stepBack_71 (by decide) ?_
      refine kc_l (kr_SN 2 (host := "QuoteGraph") (As := [.long (D * (((16 : Int64) * (z_nr z (k + 1))) + (((q_ch s o).toInt64) * (((z_nr z (k + 2)) - ((2 : Int64) * (z_nr z (k + 1)))) + (z_nr z k))))), .int (14 : Int32)]) (rest := []) (c_Q_rounded l hl9 G A u9 _ _) hx hb hml hown ht hw.1 (ew_of 677 _ (by decide +kernel) rfl) gw_561 gw_42 gw_562 ⟨⟨by decide, by decide⟩, by decide +kernel⟩ ⟨by first | decide | (dsimp only; omega), by first | decide | (dsimp only; omega)⟩ rfl hl.1 rfl (lv_room (Nat.le_of_ble_eq_true rfl)) d_Ne_stepBack_73 ⟨by first | decide | (dsimp only; omega), by first | decide | (dsimp only; omega)⟩) hw.1 (fun E ce q9 u1 H1 locs1 hp hw1 hce hcv hcl => ?_) (fun r1 u1 H1 locs1 hp1 hw1 => ?_)
      · obtain ⟨rfl, hbg, hq9⟩ := hp
        replace hq9 := hq9.symm; subst hq9
        have e9 : nsb s o D (z_nr z) (k + 1) = none := by show (match nsb s o D (z_nr z) k with | none => none | some g => _) = none; rw [hg]; exact if_pos hbg
        have e8 := nsb_none e9 (2 * M - 1 - (k + 1))
        rw [show k + 1 + (2 * M - 1 - (k + 1)) = 2 * M - 1 by omega] at e8
        exact kt_out htab hlocks hw1 hce hcv hcl ⟨rfl, e8, ⟨g, hw.2.1⟩, by rw [hn0]; exact hw.2.2.1⟩ (by decide) (by decide)
      obtain ⟨er1, hbg, hq1⟩ := hp1
      replace hq1 := hq1.symm; subst hq1
      have hw : Sk G A lc s (zS_nr z g) n0 u u9 st H1 locs1 := ⟨hw1, hw.2⟩
      subst er1
      refine lv_lstore (lv' := [(14, .long (nstp s o D (z_nr z k) (z_nr z (k + 1)) (z_nr z (k + 2)))), (12, .long (((16 : Int64) * (z_nr z (k + 1))) + (((q_ch s o).toInt64) * (((z_nr z (k + 2)) - ((2 : Int64) * (z_nr z (k + 1)))) + (z_nr z k))))), (10, .long (((z_nr z (k + 2)) - ((2 : Int64) * (z_nr z (k + 1)))) + (z_nr z k))), (8, .long (z_nr z (k + 1))), (0, .ref (lc 7)), (1, .ref (lc (8 + o))), (2, .long D), (4, .int (q_sz s o)), (5, .long (z_nr z k)), (7, .int (nI (k + 1)))]) hx hb d_Ne_stepBack_76 hl (by decide) rfl (fun ls hl => ?_)
      refine lv_aload_n hx hb d_Ne_stepBack_78 rfl (lv_at hl 4 rfl) ?_
      refine kg_Ne 2 (by decide) hx hb ht hown hw gw_115 rfl rfl d_Ne_stepBack_79 ?_
      refine lv_iload hx hb d_Ne_stepBack_82 (lv_at hl 9 rfl) ?_
      refine lv_aload_n hx hb d_Ne_stepBack_84 rfl (lv_at hl 5 rfl) ?_
      refine lv_aload_n hx hb d_Ne_stepBack_85 rfl (lv_at hl 5 rfl) ?_
      refine lv_iload hx hb d_Ne_stepBack_86 (lv_at hl 9 rfl) ?_
      refine lv_iload hx hb d_Ne_stepBack_88 (lv_at hl 7 rfl) ?_
      refine lv_isub hx hb d_Ne_stepBack_90 ?_
      refine kc_l (kr_V 1 (C := "QuoteGraph$Option") (As := [.int ((nI (k + 1)) - (q_sz s o))]) (rest := [.ref (lc (8 + o)), .int (nI (k + 1)), .ref (lc 4)]) (c_Op_priceAt l G A lc s _ u9 hw.2.1 o (by rw [hn0]; exact ho) h3 _) hx hb hml hown ht hw.1 gw_669 gw_640 gw_641 gw_57 gw_642 ⟨⟨by decide, by decide⟩, by decide +kernel⟩ ⟨by first | decide | (dsimp only; omega), by first | decide | (dsimp only; omega)⟩ (by have h := kr_N hw ho; rw [h3] at h; exact h) rfl hl.1 rfl (lv_room (Nat.le_of_ble_eq_true rfl)) d_Ne_stepBack_91 ⟨by first | decide | (dsimp only; omega), by first | decide | (dsimp only; omega)⟩) hw.1 (fun _ _ _ _ _ _ h => h.elim) (fun r2 u2 H2 locs2 hp2 hw2 => ?_)
      obtain ⟨er2, hq2⟩ := hp2
      replace hq2 := hq2.symm; subst hq2
      subst er2
      have hw : Sk G A lc s (zS_nr z g) n0 u u9 st H2 locs2 := ⟨hw2, hw.2⟩
      refine lv_lload hx hb d_Ne_stepBack_94 (lv_at hl 0 rfl) ?_
      refine kc_l (kr_V 2 (C := "QuoteGraph$Option") (As := [.long (oP s o (nI (k + 1) - q_sz s o)), .long (nstp s o D (z_nr z k) (z_nr z (k + 1)) (z_nr z (k + 2)))]) (rest := [.int (nI (k + 1)), .ref (lc 4)]) (c_Op_heldAt l G A lc s _ u9 hw.2.1 o (by rw [hn0]; exact ho) h3 _ _) hx hb hml hown ht hw.1 gw_678 gw_663 gw_664 gw_57 gw_665 ⟨⟨by decide, by decide⟩, by decide +kernel⟩ ⟨by first | decide | (dsimp only; omega), by first | decide | (dsimp only; omega)⟩ (by have h := kr_N hw ho; rw [h3] at h; exact h) rfl hl.1 rfl (lv_room (Nat.le_of_ble_eq_true rfl)) d_Ne_stepBack_96 ⟨by first | decide | (dsimp only; omega), by first | decide | (dsimp only; omega)⟩) hw.1 (fun _ _ _ _ _ _ h => h.elim) (fun r3 u3 H3 locs3 hp3 hw3 => ?_)
      obtain ⟨er3, hq3⟩ := hp3
      replace hq3 := hq3.symm; subst hq3
      subst er3
      have hw : Sk G A lc s (zS_nr z g) n0 u u9 st H3 locs3 := ⟨hw3, hw.2⟩
      refine kp_nr (k := (k + 1)) (x := (oHeld s o (oP s o (nI (k + 1) - q_sz s o)) (nstp s o D (z_nr z k) (z_nr z (k + 1)) (z_nr z (k + 2))))) rfl (by omega) hx hb hw d_Ne_stepBack_99 (fun H4 locs4 u4 hw => ?_)
      refine lv_lload hx hb d_Ne_stepBack_100 (lv_at hl 3 rfl) ?_
      refine lv_lstore (lv' := [(5, .long (z_nr z (k + 1))), (14, .long (nstp s o D (z_nr z k) (z_nr z (k + 1)) (z_nr z (k + 2)))), (12, .long (((16 : Int64) * (z_nr z (k + 1))) + (((q_ch s o).toInt64) * (((z_nr z (k + 2)) - ((2 : Int64) * (z_nr z (k + 1)))) + (z_nr z k))))), (10, .long (((z_nr z (k + 2)) - ((2 : Int64) * (z_nr z (k + 1)))) + (z_nr z k))), (8, .long (z_nr z (k + 1))), (0, .ref (lc 7)), (1, .ref (lc (8 + o))), (2, .long D), (4, .int (q_sz s o)), (7, .int (nI (k + 1)))]) hx hb d_Ne_stepBack_102 hl (by decide) rfl (fun ls hl => ?_)
      obtain ⟨i5, ei5⟩ : ∃ y : Int32, y = (nI (k + 1)) + 1 := ⟨_, rfl⟩
      refine lv_iinc (v := i5) (lv' := [(7, .int i5), (5, .long (z_nr z (k + 1))), (14, .long (nstp s o D (z_nr z k) (z_nr z (k + 1)) (z_nr z (k + 2)))), (12, .long (((16 : Int64) * (z_nr z (k + 1))) + (((q_ch s o).toInt64) * (((z_nr z (k + 2)) - ((2 : Int64) * (z_nr z (k + 1)))) + (z_nr z k))))), (10, .long (((z_nr z (k + 2)) - ((2 : Int64) * (z_nr z (k + 1)))) + (z_nr z k))), (8, .long (z_nr z (k + 1))), (0, .ref (lc 7)), (1, .ref (lc (8 + o))), (2, .long D), (4, .int (q_sz s o))]) hx hb d_Ne_stepBack_104 hl (k := 9) rfl (by rw [ei5]; rfl) (by decide) rfl (fun ls hl => ?_)
      rw [nI_1] at ei5; subst ei5
      refine lv_goto (tgt := 11) hx hb d_Ne_stepBack_107 (by decide) ?_
      have hg2 : nsb s o D (z_nr z) (k + 1) = some (vp_updL g (k + 1) (oHeld s o (oP s o (nI (k + 1) - q_sz s o)) (nstp s o D (z_nr z k) (z_nr z (k + 1)) (z_nr z (k + 2))))) := by show (match nsb s o D (z_nr z) k with | none => none | some g => _) = _; rw [hg]; exact if_neg (by rw [show bigL (nstp s o D (z_nr z k) (z_nr z (k + 1)) (z_nr z (k + 2))) = false from hbg]; decide)
      exact ih ls H4 locs4 ⟨lv_sub hl [6, 7, 8, 9, 1, 0] rfl, _, u4, hg2, hw⟩
set_option maxHeartbeats 4000000 in
set_option maxRecDepth 100000 in
theorem c_Ne_price (l : Launch) (hl9 : l.stackTraces = false) (G : GT) (A : Nat → Prop) (lc : Nat → Nat) (s : QS) (z : ZS) (u : WT) (hR : rQ G lc s z u) (o : Nat) (ho : o < q_n s) (h3 : q_so s o = 3) (D : Int64) (M N : Nat) (hM : q_sz s o = nI M) (hM1 : 1 ≤ M) (hM2 : M ≤ 20) (hN : q_sp s o = nI N) (hN2 : N ≤ 20) : Kt l y_Ne_price b_Ne_price 6 (some .long) 9 178 1 6 0 0 1 6 G A u [.ref (lc 7), .ref (lc (8 + o)), .long D] (KQ G A (Rl (fun r u' => netV s o D M N (z_nr z) = some r ∧ (∃ g, rQ G lc s (zS_nr z g) u') ∧ fQ lc (q_n s) u u'))) (fun E u' => E = "java/lang/ArithmeticException" ∧ netV s o D M N (z_nr z) = none ∧ (∃ g, rQ G lc s (zS_nr z g) u') ∧ fQ lc (q_n s) u u') := by
  refine k_of (by decide) (Nat.le_of_ble_eq_true rfl) (fun p e st m below meth c ls hx hb hr hlocks hml htab hname hown ht hw hl => ?_)
  have hl : lv_has ls 6 [(0, .ref (lc 7)), (1, .ref (lc (8 + o))), (2, .long D)] := hl
  obtain ⟨n0, hn0⟩ : ∃ n0, q_n s = n0 := ⟨_, rfl⟩
  have hw : Sk G A lc s z n0 u u st st.heap [] := ⟨hw, hR, fQ.rf, hn0⟩
  have hp0 := (opt_p hR.1 ho h3).1
  have hp1 := (opt_p hR.1 ho h3).2
  rw [hn0] at ho hp0 hp1
  have h2 : (2 : Int32) * q_sz s o = nI (2 * M) := by rw [hM]; exact pk_mul 2 M
  refine lv_aload_n hx hb d_Ne_price_0 rfl (lv_at hl 1 rfl) ?_
  refine kg_O (j := o) 20 (by decide) (by decide) hx hb ht hown hw ho h3 gw_422 rfl (by rw [ndX_O h3]; rfl) d_Ne_price_1 ?_
  refine lv_istore (lv' := [(4, .int (q_sz s o)), (0, .ref (lc 7)), (1, .ref (lc (8 + o))), (2, .long D)]) hx hb d_Ne_price_4 hl (by decide) rfl (fun ls hl => ?_)
  refine lv_iconst (v := 0) hx hb d_Ne_price_6 (by decide) ?_
  refine lv_istore (lv' := [(5, .int (0 : Int32)), (4, .int (q_sz s o)), (0, .ref (lc 7)), (1, .ref (lc (8 + o))), (2, .long D)]) hx hb d_Ne_price_7 hl (by decide) rfl (fun ls hl => ?_)
  refine k_cntH (2 * M + 1) (fun k ls H locs => lv_has ls 6 [(0, .ref (lc 7)), (1, .ref (lc (8 + o))), (2, .long D), (4, .int (q_sz s o)), (5, .int (nI k))] ∧ ∃ u9, Sk G A lc s (zS_nr z (net0 s o (z_nr z) k)) n0 u u9 st H locs) (k0 := 0) (Nat.zero_le _) (⟨lv_sub hl [2, 3, 4, 1, 0] rfl, u, hw⟩) (fun ls H locs hJ => ?_) (fun k ls H locs hk hJ ih => ?_)
  · obtain ⟨hl, hw⟩ := hJ
    obtain ⟨u9, hw⟩ := hw
    refine lv_iload hx hb d_Ne_price_9 (lv_at hl 4 rfl) ?_
    refine lv_iconst (v := 2) hx hb d_Ne_price_11 (by decide) ?_
    refine lv_iload hx hb d_Ne_price_12 (lv_at hl 3 rfl) ?_
    refine lv_imul hx hb d_Ne_price_14 ?_
    refine lv_icmp_gt (tgt := 44) hx hb d_Ne_price_15 (by decide) (fun c1 => ?_) (fun c1 => ?_)
    · refine lv_iconst (v := 0) hx hb d_Ne_price_44 (by decide) ?_
      refine lv_istore (lv' := [(5, .int (0 : Int32)), (0, .ref (lc 7)), (1, .ref (lc (8 + o))), (2, .long D), (4, .int (q_sz s o))]) hx hb d_Ne_price_45 hl (by decide) rfl (fun ls hl => ?_)
      refine k_cntH (N) (fun i ls H locs => lv_has ls 6 [(0, .ref (lc 7)), (1, .ref (lc (8 + o))), (2, .long D), (4, .int (q_sz s o)), (5, .int (nI i))] ∧ ∃ g u9, nts s o D M (net0 s o (z_nr z) (2 * M + 1)) i = some g ∧ Sk G A lc s (zS_nr z g) n0 u u9 st H locs) (k0 := 0) (Nat.zero_le _) (⟨lv_sub hl [1, 2, 3, 4, 0] rfl, _, u9, rfl, hw⟩) (fun ls H locs hJ => ?_) (fun i ls H locs hi hJ ih2 => ?_)
      · obtain ⟨hl, hw⟩ := hJ
        obtain ⟨g, u9, hg, hw⟩ := hw
        refine lv_iload hx hb d_Ne_price_47 (lv_at hl 4 rfl) ?_
        refine lv_aload_n hx hb d_Ne_price_49 rfl (lv_at hl 1 rfl) ?_
        refine kg_O (j := o) 14 (by decide) (by decide) hx hb ht hown hw ho h3 gw_408 rfl (by rw [ndX_O h3]; rfl) d_Ne_price_50 ?_
        refine lv_icmp_ge (tgt := 70) hx hb d_Ne_price_53 (by decide) (fun c2 => ?_) (fun c2 => ?_)
        · refine lv_aload_n hx hb d_Ne_price_70 rfl (lv_at hl 0 rfl) ?_
          refine kg_Ne 2 (by decide) hx hb ht hown hw gw_115 rfl rfl d_Ne_price_71 ?_
          refine lv_iload hx hb d_Ne_price_74 (lv_at hl 3 rfl) ?_
          refine ka_nr (k := M) hM (by omega) hx hb hw d_Ne_price_76 ?_
          exact kt_l hx hb hr hlocks hw.1 d_Ne_price_77 (by exact ⟨by unfold netV; rw [hg]; rfl, ⟨_, hw.2.1⟩, by rw [hn0]; exact hw.2.2.1⟩) (by first | decide | (dsimp only; omega)) (by first | decide | (dsimp only; omega))
        · exact absurd (by rw [hN]; exact nI_le (Nat.le_refl _) (by omega)) c2
      · obtain ⟨hl, hw⟩ := hJ
        obtain ⟨g, u9, hg, hw⟩ := hw
        refine lv_iload hx hb d_Ne_price_47 (lv_at hl 4 rfl) ?_
        refine lv_aload_n hx hb d_Ne_price_49 rfl (lv_at hl 1 rfl) ?_
        refine kg_O (j := o) 14 (by decide) (by decide) hx hb ht hown hw ho h3 gw_408 rfl (by rw [ndX_O h3]; rfl) d_Ne_price_50 ?_
        refine lv_icmp_ge (tgt := 70) hx hb d_Ne_price_53 (by decide) (fun c2 => ?_) (fun c2 => ?_)
        · exact absurd c2 (by rw [hN]; exact nI_ge hi (by omega))
        · refine lv_aload_n hx hb d_Ne_price_56 rfl (lv_at hl 0 rfl) ?_
          refine lv_aload_n hx hb d_Ne_price_57 rfl (lv_at hl 1 rfl) ?_
          refine lv_lload_n hx hb d_Ne_price_58 rfl (lv_at hl 2 rfl) ?_
          refine lv_iload hx hb d_Ne_price_59 (lv_at hl 3 rfl) ?_
          refine kc_v (kr_V 3 (C := "QuoteGraph$Net") (As := [.ref (lc (8 + o)), .long D, .int (q_sz s o)]) (rest := []) (c_Ne_stepBack l hl9 G A lc s _ u9 hw.2.1 o (by rw [hn0]; exact ho) h3 D M hM hM1 hM2) hx hb hml hown ht hw.1 gw_671 gw_673 gw_16 gw_46 gw_674 ⟨⟨by decide, by decide⟩, by decide +kernel⟩ ⟨by first | decide | (dsimp only; omega), by first | decide | (dsimp only; omega)⟩ (kr_Ne hw) rfl hl.1 rfl (lv_room (Nat.le_of_ble_eq_true rfl)) d_Ne_price_61 ⟨by first | decide | (dsimp only; omega), by first | decide | (dsimp only; omega)⟩) hw.1 (fun E ce q9 u1 H1 locs1 hp hw1 hce hcv hcl => ?_) (fun u1 H1 locs1 hp1 hw1 => ?_)
          · obtain ⟨rfl, hn9, ⟨g9, hr9⟩, hf9⟩ := hp
            have e9 : nts s o D M (net0 s o (z_nr z) (2 * M + 1)) (i + 1) = none := by show (match nts s o D M (net0 s o (z_nr z) (2 * M + 1)) i with | none => none | some g => _) = none; rw [hg]; exact hn9
            have e8 := nts_none e9 (N - (i + 1))
            rw [show i + 1 + (N - (i + 1)) = N by omega] at e8
            exact kt_out htab hlocks hw1 hce hcv hcl ⟨rfl, by unfold netV; rw [e8]; rfl, ⟨g9, hr9⟩, by rw [hn0]; exact hw.2.2.1.tr (by rw [← hn0]; exact hf9)⟩ (by decide) (by decide)
          obtain ⟨g2, hg2, hr2, hf2⟩ := hp1
          have e9 : nts s o D M (net0 s o (z_nr z) (2 * M + 1)) (i + 1) = some g2 := by show (match nts s o D M (net0 s o (z_nr z) (2 * M + 1)) i with | none => none | some g => _) = some g2; rw [hg]; exact hg2
          have hw : Sk G A lc s (zS_nr z g2) n0 u u1 st H1 locs1 := ⟨hw1, hr2, hw.2.2.1.tr (by rw [← hn0]; exact hf2), hn0⟩
          obtain ⟨i2, ei2⟩ : ∃ y : Int32, y = (nI i) + 1 := ⟨_, rfl⟩
          refine lv_iinc (v := i2) (lv' := [(5, .int i2), (0, .ref (lc 7)), (1, .ref (lc (8 + o))), (2, .long D), (4, .int (q_sz s o))]) hx hb d_Ne_price_64 hl (k := 4) rfl (by rw [ei2]; rfl) (by decide) rfl (fun ls hl => ?_)
          rw [nI_1] at ei2; subst ei2
          refine lv_goto (tgt := 47) hx hb d_Ne_price_67 (by decide) ?_
          exact ih2 ls H1 locs1 ⟨lv_sub hl [1, 2, 3, 4, 0] rfl, g2, u1, e9, hw⟩
    · exact absurd (by rw [h2]; exact nI_lt (by omega) (by omega)) c1
  · obtain ⟨hl, hw⟩ := hJ
    obtain ⟨u9, hw⟩ := hw
    refine lv_iload hx hb d_Ne_price_9 (lv_at hl 4 rfl) ?_
    refine lv_iconst (v := 2) hx hb d_Ne_price_11 (by decide) ?_
    refine lv_iload hx hb d_Ne_price_12 (lv_at hl 3 rfl) ?_
    refine lv_imul hx hb d_Ne_price_14 ?_
    refine lv_icmp_gt (tgt := 44) hx hb d_Ne_price_15 (by decide) (fun c1 => ?_) (fun c1 => ?_)
    · exact absurd c1 (by rw [h2]; exact nI_nlt (by omega) (by omega))
    · refine lv_aload_n hx hb d_Ne_price_18 rfl (lv_at hl 0 rfl) ?_
      refine kg_Ne 2 (by decide) hx hb ht hown hw gw_115 rfl rfl d_Ne_price_19 ?_
      refine lv_iload hx hb d_Ne_price_22 (lv_at hl 4 rfl) ?_
      refine lv_aload_n hx hb d_Ne_price_24 rfl (lv_at hl 1 rfl) ?_
      refine lv_aload_n hx hb d_Ne_price_25 rfl (lv_at hl 1 rfl) ?_
      refine lv_iload hx hb d_Ne_price_26 (lv_at hl 4 rfl) ?_
      refine lv_iload hx hb d_Ne_price_28 (lv_at hl 3 rfl) ?_
      refine lv_isub hx hb d_Ne_price_30 ?_
      refine kc_l (kr_V 1 (C := "QuoteGraph$Option") (As := [.int ((nI k) - (q_sz s o))]) (rest := [.ref (lc (8 + o)), .int (nI k), .ref (lc 4)]) (c_Op_priceAt l G A lc s _ u9 hw.2.1 o (by rw [hn0]; exact ho) h3 _) hx hb hml hown ht hw.1 gw_669 gw_640 gw_641 gw_57 gw_642 ⟨⟨by decide, by decide⟩, by decide +kernel⟩ ⟨by first | decide | (dsimp only; omega), by first | decide | (dsimp only; omega)⟩ (by have h := kr_N hw ho; rw [h3] at h; exact h) rfl hl.1 rfl (lv_room (Nat.le_of_ble_eq_true rfl)) d_Ne_price_31 ⟨by first | decide | (dsimp only; omega), by first | decide | (dsimp only; omega)⟩) hw.1 (fun _ _ _ _ _ _ h => h.elim) (fun r3 u3 H3 locs3 hp3 hw3 => ?_)
      obtain ⟨er3, hq3⟩ := hp3
      replace hq3 := hq3.symm; subst hq3
      subst er3
      have hw : Sk G A lc s (zS_nr z (net0 s o (z_nr z) k)) n0 u u9 st H3 locs3 := ⟨hw3, hw.2⟩
      refine kc_l (kr_V 1 (C := "QuoteGraph$Option") (As := [.long (oP s o (nI k - q_sz s o))]) (rest := [.int (nI k), .ref (lc 4)]) (c_Op_payoff l G A lc s _ u9 hw.2.1 o (by rw [hn0]; exact ho) h3 _) hx hb hml hown ht hw.1 gw_670 gw_644 gw_645 gw_57 gw_646 ⟨⟨by decide, by decide⟩, by decide +kernel⟩ ⟨by first | decide | (dsimp only; omega), by first | decide | (dsimp only; omega)⟩ (by have h := kr_N hw ho; rw [h3] at h; exact h) rfl hl.1 rfl (lv_room (Nat.le_of_ble_eq_true rfl)) d_Ne_price_34 ⟨by first | decide | (dsimp only; omega), by first | decide | (dsimp only; omega)⟩) hw.1 (fun _ _ _ _ _ _ h => h.elim) (fun r4 u4 H4 locs4 hp4 hw4 => ?_)
      obtain ⟨er4, hq4⟩ := hp4
      replace hq4 := hq4.symm; subst hq4
      subst er4
      have hw : Sk G A lc s (zS_nr z (net0 s o (z_nr z) k)) n0 u u9 st H4 locs4 := ⟨hw4, hw.2⟩
      refine kp_nr (k := k) (x := (oPay s o (oP s o (nI k - q_sz s o)))) rfl (by omega) hx hb hw d_Ne_price_37 (fun H5 locs5 u5 hw => ?_)
      obtain ⟨i6, ei6⟩ : ∃ y : Int32, y = (nI k) + 1 := ⟨_, rfl⟩
      refine lv_iinc (v := i6) (lv' := [(5, .int i6), (0, .ref (lc 7)), (1, .ref (lc (8 + o))), (2, .long D), (4, .int (q_sz s o))]) hx hb d_Ne_price_38 hl (k := 4) rfl (by rw [ei6]; rfl) (by decide) rfl (fun ls hl => ?_)
      rw [nI_1] at ei6; subst ei6
      refine lv_goto (tgt := 9) hx hb d_Ne_price_41 (by decide) ?_
      exact ih ls H5 locs5 ⟨lv_sub hl [1, 2, 3, 4, 0] rfl, u5, hw⟩

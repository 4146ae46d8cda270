/-! 36.terms: contracts of takeParts, terms, engine -/
set_option maxHeartbeats 4000000 in
set_option maxRecDepth 100000 in
theorem c_Op_takeParts (l : Launch) (G : GT) (A : Nat → Prop) (lc : Nat → Nat) (s : QS) (z : ZS) (u : WT) (hR : rQ G lc s z u) (o : Nat) (ho : o < q_n s) (h3 : q_so s o = 3) (ra kn : Option Nat) (hra : ∀ x, ra = some x → x < q_n s ∧ x ≠ o) (hkn : ∀ x, kn = some x → x < q_n s ∧ x ≠ o) : Kt l y_Op_takeParts b_Op_takeParts 3 none 0 0 0 0 0 0 0 0 G A u [.ref (lc (8 + o)), va_rf (ra.map (fun x => lc (8 + x))), va_rf (kn.map (fun x => lc (8 + x)))] (KQ G A (Rv (fun u' => ∃ f, rQ G lc (ptQ s o ra kn) (zS_pr z (va_up (z_pr z) o f)) u' ∧ fQ lc (q_n s) u u'))) (NX) := by
  refine k_of (by decide) (by rcases ra with _ | _ <;> rcases kn with _ | _ <;> exact Nat.le_of_ble_eq_true rfl) (fun p e st m below meth c ls hx hb hr hlocks hml htab hname hown ht hw hl => ?_)
  obtain ⟨n0, hn0⟩ : ∃ n0, q_n s = n0 := ⟨_, rfl⟩
  have hw : Sk G A lc s z n0 u u st st.heap [] := ⟨hw, hR, fQ.rf, hn0⟩
  rw [hn0] at ho
  have hmA : lc (8 + o) ∈ u.1 := (hw.nj ho).1
  have heA : u.2 (lc (8 + o)) = .inr (4, [.int (nI o), .ref (lc (24 + o)), .int (nI (np s o)), .long (q_am s o), .int (bI (q_va s o)), .int (bI (q_fr s o)), .int (bI (q_mi s o)), .int (q_tw s o), .long (z_ra z o), .int (bI (z_rv z o)), .ref (lc (8 + (q_pt s o 0).getD 0)), .ref (lc (8 + (q_pt s o 1).getD 0)), .int (q_kd s o), .long (q_wa s o), .int (q_sp s o), va_rf ((q_pt s o 2).map (fun x => lc (8 + x))), va_rf ((q_pt s o 3).map (fun x => lc (8 + x))), .int (q_ch s o), .int (bI (q_us s o)), .ref (lc (5 + q_en s o)), .int (q_sz s o)]) := by have h := (hw.nj ho).2.1; rw [h3, ndX_O h3] at h; exact h
  obtain ⟨hmB, heB0⟩ := hR.at (liv_p (n := q_n s) (j := o) (by rw [hn0]; exact ho))
  have heB : u.2 (lc (24 + o)) = .inl (G.2.1 4, 4, rfs (z_pr z o)) := by rw [heB0, cQ_p, h3]; rfl
  have nBA : lc (24 + o) ≠ lc (8 + o) := fun e => by have := hR.2.2.1 (24 + o) (8 + o) (liv_p (by rw [hn0]; exact ho)) (liv_n (by rw [hn0]; exact ho)) e; have h16 := hR.1.1; omega
  have hoO : ∀ c, c ≠ lc (8 + o) → c ≠ lc (24 + o) → u.2 c = u.2 c := fun _ _ _ => rfl
  rcases ra with _ | g <;> rcases kn with _ | y
  · have hl : lv_has ls 3 [(0, .ref (lc (8 + o))), (1, .null), (2, .null)] := hl
    refine lv_aload_n hx hb d_Op_takeParts_0 rfl (lv_at hl 0 rfl) ?_
    refine lv_aload_nN hx hb d_Op_takeParts_1 rfl (lv_at hl 1 rfl) ?_
    refine x_put hx hb ht i_Op t_Op t_Op_ok n_Op hown hw.1 hmA heA (ty := (.object "QuoteGraph$Node")) (fs' := [.int (nI o), .ref (lc (24 + o)), .int (nI (np s o)), .long (q_am s o), .int (bI (q_va s o)), .int (bI (q_fr s o)), .int (bI (q_mi s o)), .int (q_tw s o), .long (z_ra z o), .int (bI (z_rv z o)), .ref (lc (8 + (q_pt s o 0).getD 0)), .ref (lc (8 + (q_pt s o 1).getD 0)), .int (q_kd s o), .long (q_wa s o), .int (q_sp s o), .null, va_rf ((q_pt s o 3).map (fun x => lc (8 + x))), .int (q_ch s o), .int (bI (q_us s o)), .ref (lc (5 + q_en s o)), .int (q_sz s o)]) rfl 15 (by decide) gw_410 (Or.inl rfl) rfl rfl (by decide +kernel) rfl rfl (Nat.le_of_ble_eq_true rfl) d_Op_takeParts_2 (fun H1 locs1 u1 hw1 n1 => ?_)
    have hu1 : u1.1 = u.1 := n1.1.trans rfl
    have oB1 : u1.2 (lc (24 + o)) = .inl (G.2.1 4, 4, rfs (z_pr z o)) := (n1.2.2 _ nBA).trans heB
    have oO1 : ∀ c, c ≠ lc (8 + o) → c ≠ lc (24 + o) → u1.2 c = u.2 c := fun c h1 h2 => (n1.2.2 c h1).trans (hoO c h1 h2)
    have mA1 : lc (8 + o) ∈ u1.1 := by rw [hu1]; exact hmA
    have mB1 : lc (24 + o) ∈ u1.1 := by rw [hu1]; exact hmB
    refine lv_aload_n hx hb d_Op_takeParts_5 rfl (lv_at hl 0 rfl) ?_
    refine lv_aload_nN hx hb d_Op_takeParts_6 rfl (lv_at hl 2 rfl) ?_
    refine x_put hx hb ht i_Op t_Op t_Op_ok n_Op hown hw1 mA1 n1.2.1 (ty := (.object "QuoteGraph$Node")) (fs' := [.int (nI o), .ref (lc (24 + o)), .int (nI (np s o)), .long (q_am s o), .int (bI (q_va s o)), .int (bI (q_fr s o)), .int (bI (q_mi s o)), .int (q_tw s o), .long (z_ra z o), .int (bI (z_rv z o)), .ref (lc (8 + (q_pt s o 0).getD 0)), .ref (lc (8 + (q_pt s o 1).getD 0)), .int (q_kd s o), .long (q_wa s o), .int (q_sp s o), .null, .null, .int (q_ch s o), .int (bI (q_us s o)), .ref (lc (5 + q_en s o)), .int (q_sz s o)]) rfl 16 (by decide) gw_411 (Or.inl rfl) rfl rfl (by decide +kernel) rfl rfl (Nat.le_of_ble_eq_true rfl) d_Op_takeParts_7 (fun H2 locs2 u2 hw2 n2 => ?_)
    have hu2 : u2.1 = u.1 := n2.1.trans hu1
    have oB2 : u2.2 (lc (24 + o)) = .inl (G.2.1 4, 4, rfs (z_pr z o)) := (n2.2.2 _ nBA).trans oB1
    have oO2 : ∀ c, c ≠ lc (8 + o) → c ≠ lc (24 + o) → u2.2 c = u.2 c := fun c h1 h2 => (n2.2.2 c h1).trans (oO1 c h1 h2)
    have mA2 : lc (8 + o) ∈ u2.1 := by rw [hu2]; exact hmA
    have mB2 : lc (24 + o) ∈ u2.1 := by rw [hu2]; exact hmB
    refine lv_aload_n hx hb d_Op_takeParts_10 rfl (lv_at hl 0 rfl) ?_
    refine lv_iconst (v := 2) hx hb d_Op_takeParts_11 (by decide) ?_
    refine x_put hx hb ht i_Op t_Op t_Op_ok n_Op hown hw2 mA2 n2.2.1 (ty := .int) (fs' := [.int (nI o), .ref (lc (24 + o)), .int (2 : Int32), .long (q_am s o), .int (bI (q_va s o)), .int (bI (q_fr s o)), .int (bI (q_mi s o)), .int (q_tw s o), .long (z_ra z o), .int (bI (z_rv z o)), .ref (lc (8 + (q_pt s o 0).getD 0)), .ref (lc (8 + (q_pt s o 1).getD 0)), .int (q_kd s o), .long (q_wa s o), .int (q_sp s o), .null, .null, .int (q_ch s o), .int (bI (q_us s o)), .ref (lc (5 + q_en s o)), .int (q_sz s o)]) rfl 2 (by decide) gw_269 (Or.inr gw_270) rfl rfl (by decide +kernel) rfl rfl (Nat.le_of_ble_eq_true rfl) d_Op_takeParts_12 (fun H3 locs3 u3 hw3 n3 => ?_)
    have hu3 : u3.1 = u.1 := n3.1.trans hu2
    have oB3 : u3.2 (lc (24 + o)) = .inl (G.2.1 4, 4, rfs (z_pr z o)) := (n3.2.2 _ nBA).trans oB2
    have oO3 : ∀ c, c ≠ lc (8 + o) → c ≠ lc (24 + o) → u3.2 c = u.2 c := fun c h1 h2 => (n3.2.2 c h1).trans (oO2 c h1 h2)
    have mA3 : lc (8 + o) ∈ u3.1 := by rw [hu3]; exact hmA
    have mB3 : lc (24 + o) ∈ u3.1 := by rw [hu3]; exact hmB
    refine lv_aload_n hx hb d_Op_takeParts_15 rfl (lv_at hl 0 rfl) ?_
    refine k_get hx hb ht i_Op hown hw3 mA3 n3.2.1 rfl 15 (by decide) gw_410 (k_same ht (Or.inl rfl)) rfl d_Op_takeParts_16 ?_
    refine lv_ifnullN (tgt := 45) hx hb d_Op_takeParts_19 (by decide) ?_
    refine lv_aload_n hx hb d_Op_takeParts_45 rfl (lv_at hl 0 rfl) ?_
    refine k_get hx hb ht i_Op hown hw3 mA3 n3.2.1 rfl 16 (by decide) gw_411 (k_same ht (Or.inl rfl)) rfl d_Op_takeParts_46 ?_
    refine lv_ifnullN (tgt := 75) hx hb d_Op_takeParts_49 (by decide) ?_
    exact kt_v hx hb hr hlocks hw3 d_Op_takeParts_75 (by rw [hn0] at hra hkn; exact ⟨_, rQ_pt hR (by rw [hn0]; exact ho) h3 (fun x h => by rw [hn0]; exact (hra x h).1) (fun x h => by rw [hn0]; exact (hkn x h).1) (pt_f hR (by rw [hn0]; exact ho) h3 (f := z_pr z o) (fun k hk => by rfl) (fun x h => by cases h) (fun h y h2 => by cases h2) (fun x y h h2 => by cases h)) hu3 (by rw [n3.2.1]; rw [ndX_O (show q_so (ptQ s o none none) o = 3 from h3), ptQ_o]; unfold ndB; rw [ptQ_np h3]; rfl) oB3 oO3⟩) (by first | decide | (dsimp only; omega)) (by first | decide | (dsimp only; omega))
  · have hy9 : y < n0 ∧ y ≠ o := by have h := hkn y rfl; rw [hn0] at h; exact h
    have hy := hy9.1; have hney := hy9.2
    have hl : lv_has ls 3 [(0, .ref (lc (8 + o))), (1, .null), (2, .ref (lc (8 + y)))] := hl
    refine lv_aload_n hx hb d_Op_takeParts_0 rfl (lv_at hl 0 rfl) ?_
    refine lv_aload_nN hx hb d_Op_takeParts_1 rfl (lv_at hl 1 rfl) ?_
    refine x_put hx hb ht i_Op t_Op t_Op_ok n_Op hown hw.1 hmA heA (ty := (.object "QuoteGraph$Node")) (fs' := [.int (nI o), .ref (lc (24 + o)), .int (nI (np s o)), .long (q_am s o), .int (bI (q_va s o)), .int (bI (q_fr s o)), .int (bI (q_mi s o)), .int (q_tw s o), .long (z_ra z o), .int (bI (z_rv z o)), .ref (lc (8 + (q_pt s o 0).getD 0)), .ref (lc (8 + (q_pt s o 1).getD 0)), .int (q_kd s o), .long (q_wa s o), .int (q_sp s o), .null, va_rf ((q_pt s o 3).map (fun x => lc (8 + x))), .int (q_ch s o), .int (bI (q_us s o)), .ref (lc (5 + q_en s o)), .int (q_sz s o)]) rfl 15 (by decide) gw_410 (Or.inl rfl) rfl rfl (by decide +kernel) rfl rfl (Nat.le_of_ble_eq_true rfl) d_Op_takeParts_2 (fun H4 locs4 u4 hw4 n4 => ?_)
    have hu4 : u4.1 = u.1 := n4.1.trans rfl
    have oB4 : u4.2 (lc (24 + o)) = .inl (G.2.1 4, 4, rfs (z_pr z o)) := (n4.2.2 _ nBA).trans heB
    have oO4 : ∀ c, c ≠ lc (8 + o) → c ≠ lc (24 + o) → u4.2 c = u.2 c := fun c h1 h2 => (n4.2.2 c h1).trans (hoO c h1 h2)
    have mA4 : lc (8 + o) ∈ u4.1 := by rw [hu4]; exact hmA
    have mB4 : lc (24 + o) ∈ u4.1 := by rw [hu4]; exact hmB
    refine lv_aload_n hx hb d_Op_takeParts_5 rfl (lv_at hl 0 rfl) ?_
    refine lv_aload_n hx hb d_Op_takeParts_6 rfl (lv_at hl 2 rfl) ?_
    refine x_put hx hb ht i_Op t_Op t_Op_ok n_Op hown hw4 mA4 n4.2.1 (ty := (.object "QuoteGraph$Node")) (fs' := [.int (nI o), .ref (lc (24 + o)), .int (nI (np s o)), .long (q_am s o), .int (bI (q_va s o)), .int (bI (q_fr s o)), .int (bI (q_mi s o)), .int (q_tw s o), .long (z_ra z o), .int (bI (z_rv z o)), .ref (lc (8 + (q_pt s o 0).getD 0)), .ref (lc (8 + (q_pt s o 1).getD 0)), .int (q_kd s o), .long (q_wa s o), .int (q_sp s o), .null, .ref (lc (8 + y)), .int (q_ch s o), .int (bI (q_us s o)), .ref (lc (5 + q_en s o)), .int (q_sz s o)]) rfl 16 (by decide) gw_411 (Or.inl rfl) rfl rfl (by decide +kernel) rfl rfl (Nat.le_of_ble_eq_true rfl) d_Op_takeParts_7 (fun H5 locs5 u5 hw5 n5 => ?_)
    have hu5 : u5.1 = u.1 := n5.1.trans hu4
    have oB5 : u5.2 (lc (24 + o)) = .inl (G.2.1 4, 4, rfs (z_pr z o)) := (n5.2.2 _ nBA).trans oB4
    have oO5 : ∀ c, c ≠ lc (8 + o) → c ≠ lc (24 + o) → u5.2 c = u.2 c := fun c h1 h2 => (n5.2.2 c h1).trans (oO4 c h1 h2)
    have mA5 : lc (8 + o) ∈ u5.1 := by rw [hu5]; exact hmA
    have mB5 : lc (24 + o) ∈ u5.1 := by rw [hu5]; exact hmB
    refine lv_aload_n hx hb d_Op_takeParts_10 rfl (lv_at hl 0 rfl) ?_
    refine lv_iconst (v := 2) hx hb d_Op_takeParts_11 (by decide) ?_
    refine x_put hx hb ht i_Op t_Op t_Op_ok n_Op hown hw5 mA5 n5.2.1 (ty := .int) (fs' := [.int (nI o), .ref (lc (24 + o)), .int (2 : Int32), .long (q_am s o), .int (bI (q_va s o)), .int (bI (q_fr s o)), .int (bI (q_mi s o)), .int (q_tw s o), .long (z_ra z o), .int (bI (z_rv z o)), .ref (lc (8 + (q_pt s o 0).getD 0)), .ref (lc (8 + (q_pt s o 1).getD 0)), .int (q_kd s o), .long (q_wa s o), .int (q_sp s o), .null, .ref (lc (8 + y)), .int (q_ch s o), .int (bI (q_us s o)), .ref (lc (5 + q_en s o)), .int (q_sz s o)]) rfl 2 (by decide) gw_269 (Or.inr gw_270) rfl rfl (by decide +kernel) rfl rfl (Nat.le_of_ble_eq_true rfl) d_Op_takeParts_12 (fun H6 locs6 u6 hw6 n6 => ?_)
    have hu6 : u6.1 = u.1 := n6.1.trans hu5
    have oB6 : u6.2 (lc (24 + o)) = .inl (G.2.1 4, 4, rfs (z_pr z o)) := (n6.2.2 _ nBA).trans oB5
    have oO6 : ∀ c, c ≠ lc (8 + o) → c ≠ lc (24 + o) → u6.2 c = u.2 c := fun c h1 h2 => (n6.2.2 c h1).trans (oO5 c h1 h2)
    have mA6 : lc (8 + o) ∈ u6.1 := by rw [hu6]; exact hmA
    have mB6 : lc (24 + o) ∈ u6.1 := by rw [hu6]; exact hmB
    refine lv_aload_n hx hb d_Op_takeParts_15 rfl (lv_at hl 0 rfl) ?_
    refine k_get hx hb ht i_Op hown hw6 mA6 n6.2.1 rfl 15 (by decide) gw_410 (k_same ht (Or.inl rfl)) rfl d_Op_takeParts_16 ?_
    refine lv_ifnullN (tgt := 45) hx hb d_Op_takeParts_19 (by decide) ?_
    refine lv_aload_n hx hb d_Op_takeParts_45 rfl (lv_at hl 0 rfl) ?_
    refine k_get hx hb ht i_Op hown hw6 mA6 n6.2.1 rfl 16 (by decide) gw_411 (k_same ht (Or.inl rfl)) rfl d_Op_takeParts_46 ?_
    refine lv_ifnull hx hb d_Op_takeParts_49 ?_
    refine lv_aload_n hx hb d_Op_takeParts_52 rfl (lv_at hl 0 rfl) ?_
    refine k_get hx hb ht i_Op hown hw6 mA6 n6.2.1 rfl 1 (by decide) gw_265 (k_same ht (Or.inr gw_266)) rfl d_Op_takeParts_53 ?_
    refine lv_aload_n hx hb d_Op_takeParts_56 rfl (lv_at hl 0 rfl) ?_
    refine k_get hx hb ht i_Op hown hw6 mA6 n6.2.1 rfl 2 (by decide) gw_269 (k_same ht (Or.inr gw_270)) rfl d_Op_takeParts_57 ?_
    refine lv_aload_n hx hb d_Op_takeParts_60 rfl (lv_at hl 0 rfl) ?_
    refine k_get hx hb ht i_Op hown hw6 mA6 n6.2.1 rfl 16 (by decide) gw_411 (k_same ht (Or.inl rfl)) rfl d_Op_takeParts_61 ?_
    refine x_ast (v := lc (8 + y)) hx hb hw6 mB6 oB6 ((Sk_nd hw hy).kept (by rw [hu6]; exact (hw.nj hy).1) (oO6 _ (fun e => hney (lc_eq hR (by rw [hn0]; exact hy) (by rw [hn0]; exact ho) e)) (fun e => by have := hR.2.2.1 (8 + y) (24 + o) (liv_n (by rw [hn0]; exact hy)) (liv_p (by rw [hn0]; exact ho)) e; have h16 := hR.1.1; omega))) (by unfold vp_in; decide) d_Op_takeParts_64 (fun H7 locs7 u7 hw7 n7 => ?_)
    have n7 : N1 u6 u7 (lc (24 + o)) (.inl (G.2.1 4, 4, rfs (va_up (z_pr z o) 2 (some (lc (8 + y)))))) := n7
    have hu7 : u7.1 = u.1 := n7.1.trans hu6
    have oA7 : u7.2 (lc (8 + o)) = .inr (4, [.int (nI o), .ref (lc (24 + o)), .int (2 : Int32), .long (q_am s o), .int (bI (q_va s o)), .int (bI (q_fr s o)), .int (bI (q_mi s o)), .int (q_tw s o), .long (z_ra z o), .int (bI (z_rv z o)), .ref (lc (8 + (q_pt s o 0).getD 0)), .ref (lc (8 + (q_pt s o 1).getD 0)), .int (q_kd s o), .long (q_wa s o), .int (q_sp s o), .null, .ref (lc (8 + y)), .int (q_ch s o), .int (bI (q_us s o)), .ref (lc (5 + q_en s o)), .int (q_sz s o)]) := (n7.2.2 _ (Ne.symm nBA)).trans n6.2.1
    have oO7 : ∀ c, c ≠ lc (8 + o) → c ≠ lc (24 + o) → u7.2 c = u.2 c := fun c h1 h2 => (n7.2.2 c h2).trans (oO6 c h1 h2)
    have mA7 : lc (8 + o) ∈ u7.1 := by rw [hu7]; exact hmA
    have mB7 : lc (24 + o) ∈ u7.1 := by rw [hu7]; exact hmB
    refine lv_aload_n hx hb d_Op_takeParts_65 rfl (lv_at hl 0 rfl) ?_
    refine lv_dup hx hb d_Op_takeParts_66 rfl ?_
    refine k_get hx hb ht i_Op hown hw7 mA7 oA7 rfl 2 (by decide) gw_269 (k_same ht (Or.inr gw_270)) rfl d_Op_takeParts_67 ?_
    refine lv_iconst (v := 1) hx hb d_Op_takeParts_70 (by decide) ?_
    refine lv_iadd hx hb d_Op_takeParts_71 ?_
    refine x_put hx hb ht i_Op t_Op t_Op_ok n_Op hown hw7 mA7 oA7 (ty := .int) (fs' := [.int (nI o), .ref (lc (24 + o)), .int ((2 : Int32) + (1 : Int32)), .long (q_am s o), .int (bI (q_va s o)), .int (bI (q_fr s o)), .int (bI (q_mi s o)), .int (q_tw s o), .long (z_ra z o), .int (bI (z_rv z o)), .ref (lc (8 + (q_pt s o 0).getD 0)), .ref (lc (8 + (q_pt s o 1).getD 0)), .int (q_kd s o), .long (q_wa s o), .int (q_sp s o), .null, .ref (lc (8 + y)), .int (q_ch s o), .int (bI (q_us s o)), .ref (lc (5 + q_en s o)), .int (q_sz s o)]) rfl 2 (by decide) gw_269 (Or.inr gw_270) rfl rfl (by decide +kernel) rfl rfl (Nat.le_of_ble_eq_true rfl) d_Op_takeParts_72 (fun H8 locs8 u8 hw8 n8 => ?_)
    have hu8 : u8.1 = u.1 := n8.1.trans hu7
    have oB8 : u8.2 (lc (24 + o)) = .inl (G.2.1 4, 4, rfs (va_up (z_pr z o) 2 (some (lc (8 + y))))) := (n8.2.2 _ nBA).trans n7.2.1
    have oO8 : ∀ c, c ≠ lc (8 + o) → c ≠ lc (24 + o) → u8.2 c = u.2 c := fun c h1 h2 => (n8.2.2 c h1).trans (oO7 c h1 h2)
    have mA8 : lc (8 + o) ∈ u8.1 := by rw [hu8]; exact hmA
    have mB8 : lc (24 + o) ∈ u8.1 := by rw [hu8]; exact hmB
    exact kt_v hx hb hr hlocks hw8 d_Op_takeParts_75 (by rw [hn0] at hra hkn; exact ⟨_, rQ_pt hR (by rw [hn0]; exact ho) h3 (fun x h => by rw [hn0]; exact (hra x h).1) (fun x h => by rw [hn0]; exact (hkn x h).1) (pt_f hR (by rw [hn0]; exact ho) h3 (f := va_up (z_pr z o) 2 (some (lc (8 + y)))) (fun k hk => by rw [va_up_ne _ _ (by omega)]) (fun x h => by cases h) (fun h y h2 => by cases h2; exact va_up_self _ _ _) (fun x y h h2 => by cases h)) hu8 (by rw [n8.2.1]; rw [ndX_O (show q_so (ptQ s o none (some y)) o = 3 from h3), ptQ_o]; unfold ndB; rw [ptQ_np h3]; rfl) oB8 oO8⟩) (by first | decide | (dsimp only; omega)) (by first | decide | (dsimp only; omega))
  · have hg9 : g < n0 ∧ g ≠ o := by have h := hra g rfl; rw [hn0] at h; exact h
    have hg := hg9.1; have hneg := hg9.2
    have hl : lv_has ls 3 [(0, .ref (lc (8 + o))), (1, .ref (lc (8 + g))), (2, .null)] := hl
    refine lv_aload_n hx hb d_Op_takeParts_0 rfl (lv_at hl 0 rfl) ?_
    refine lv_aload_n hx hb d_Op_takeParts_1 rfl (lv_at hl 1 rfl) ?_
    refine x_put hx hb ht i_Op t_Op t_Op_ok n_Op hown hw.1 hmA heA (ty := (.object "QuoteGraph$Node")) (fs' := [.int (nI o), .ref (lc (24 + o)), .int (nI (np s o)), .long (q_am s o), .int (bI (q_va s o)), .int (bI (q_fr s o)), .int (bI (q_mi s o)), .int (q_tw s o), .long (z_ra z o), .int (bI (z_rv z o)), .ref (lc (8 + (q_pt s o 0).getD 0)), .ref (lc (8 + (q_pt s o 1).getD 0)), .int (q_kd s o), .long (q_wa s o), .int (q_sp s o), .ref (lc (8 + g)), va_rf ((q_pt s o 3).map (fun x => lc (8 + x))), .int (q_ch s o), .int (bI (q_us s o)), .ref (lc (5 + q_en s o)), .int (q_sz s o)]) rfl 15 (by decide) gw_410 (Or.inl rfl) rfl rfl (by decide +kernel) rfl rfl (Nat.le_of_ble_eq_true rfl) d_Op_takeParts_2 (fun H9 locs9 u9 hw9 n9 => ?_)
    have hu9 : u9.1 = u.1 := n9.1.trans rfl
    have oB9 : u9.2 (lc (24 + o)) = .inl (G.2.1 4, 4, rfs (z_pr z o)) := (n9.2.2 _ nBA).trans heB
    have oO9 : ∀ c, c ≠ lc (8 + o) → c ≠ lc (24 + o) → u9.2 c = u.2 c := fun c h1 h2 => (n9.2.2 c h1).trans (hoO c h1 h2)
    have mA9 : lc (8 + o) ∈ u9.1 := by rw [hu9]; exact hmA
    have mB9 : lc (24 + o) ∈ u9.1 := by rw [hu9]; exact hmB
    refine lv_aload_n hx hb d_Op_takeParts_5 rfl (lv_at hl 0 rfl) ?_
    refine lv_aload_nN hx hb d_Op_takeParts_6 rfl (lv_at hl 2 rfl) ?_
    refine x_put hx hb ht i_Op t_Op t_Op_ok n_Op hown hw9 mA9 n9.2.1 (ty := (.object "QuoteGraph$Node")) (fs' := [.int (nI o), .ref (lc (24 + o)), .int (nI (np s o)), .long (q_am s o), .int (bI (q_va s o)), .int (bI (q_fr s o)), .int (bI (q_mi s o)), .int (q_tw s o), .long (z_ra z o), .int (bI (z_rv z o)), .ref (lc (8 + (q_pt s o 0).getD 0)), .ref (lc (8 + (q_pt s o 1).getD 0)), .int (q_kd s o), .long (q_wa s o), .int (q_sp s o), .ref (lc (8 + g)), .null, .int (q_ch s o), .int (bI (q_us s o)), .ref (lc (5 + q_en s o)), .int (q_sz s o)]) rfl 16 (by decide) gw_411 (Or.inl rfl) rfl rfl (by decide +kernel) rfl rfl (Nat.le_of_ble_eq_true rfl) d_Op_takeParts_7 (fun H10 locs10 u10 hw10 n10 => ?_)
    have hu10 : u10.1 = u.1 := n10.1.trans hu9
    have oB10 : u10.2 (lc (24 + o)) = .inl (G.2.1 4, 4, rfs (z_pr z o)) := (n10.2.2 _ nBA).trans oB9
    have oO10 : ∀ c, c ≠ lc (8 + o) → c ≠ lc (24 + o) → u10.2 c = u.2 c := fun c h1 h2 => (n10.2.2 c h1).trans (oO9 c h1 h2)
    have mA10 : lc (8 + o) ∈ u10.1 := by rw [hu10]; exact hmA
    have mB10 : lc (24 + o) ∈ u10.1 := by rw [hu10]; exact hmB
    refine lv_aload_n hx hb d_Op_takeParts_10 rfl (lv_at hl 0 rfl) ?_
    refine lv_iconst (v := 2) hx hb d_Op_takeParts_11 (by decide) ?_
    refine x_put hx hb ht i_Op t_Op t_Op_ok n_Op hown hw10 mA10 n10.2.1 (ty := .int) (fs' := [.int (nI o), .ref (lc (24 + o)), .int (2 : Int32), .long (q_am s o), .int (bI (q_va s o)), .int (bI (q_fr s o)), .int (bI (q_mi s o)), .int (q_tw s o), .long (z_ra z o), .int (bI (z_rv z o)), .ref (lc (8 + (q_pt s o 0).getD 0)), .ref (lc (8 + (q_pt s o 1).getD 0)), .int (q_kd s o), .long (q_wa s o), .int (q_sp s o), .ref (lc (8 + g)), .null, .int (q_ch s o), .int (bI (q_us s o)), .ref (lc (5 + q_en s o)), .int (q_sz s o)]) rfl 2 (by decide) gw_269 (Or.inr gw_270) rfl rfl (by decide +kernel) rfl rfl (Nat.le_of_ble_eq_true rfl) d_Op_takeParts_12 (fun H11 locs11 u11 hw11 n11 => ?_)
    have hu11 : u11.1 = u.1 := n11.1.trans hu10
    have oB11 : u11.2 (lc (24 + o)) = .inl (G.2.1 4, 4, rfs (z_pr z o)) := (n11.2.2 _ nBA).trans oB10
    have oO11 : ∀ c, c ≠ lc (8 + o) → c ≠ lc (24 + o) → u11.2 c = u.2 c := fun c h1 h2 => (n11.2.2 c h1).trans (oO10 c h1 h2)
    have mA11 : lc (8 + o) ∈ u11.1 := by rw [hu11]; exact hmA
    have mB11 : lc (24 + o) ∈ u11.1 := by rw [hu11]; exact hmB
    refine lv_aload_n hx hb d_Op_takeParts_15 rfl (lv_at hl 0 rfl) ?_
    refine k_get hx hb ht i_Op hown hw11 mA11 n11.2.1 rfl 15 (by decide) gw_410 (k_same ht (Or.inl rfl)) rfl d_Op_takeParts_16 ?_
    refine lv_ifnull hx hb d_Op_takeParts_19 ?_
    refine lv_aload_n hx hb d_Op_takeParts_22 rfl (lv_at hl 0 rfl) ?_
    refine k_get hx hb ht i_Op hown hw11 mA11 n11.2.1 rfl 1 (by decide) gw_265 (k_same ht (Or.inr gw_266)) rfl d_Op_takeParts_23 ?_
    refine lv_aload_n hx hb d_Op_takeParts_26 rfl (lv_at hl 0 rfl) ?_
    refine k_get hx hb ht i_Op hown hw11 mA11 n11.2.1 rfl 2 (by decide) gw_269 (k_same ht (Or.inr gw_270)) rfl d_Op_takeParts_27 ?_
    refine lv_aload_n hx hb d_Op_takeParts_30 rfl (lv_at hl 0 rfl) ?_
    refine k_get hx hb ht i_Op hown hw11 mA11 n11.2.1 rfl 15 (by decide) gw_410 (k_same ht (Or.inl rfl)) rfl d_Op_takeParts_31 ?_
    refine x_ast (v := lc (8 + g)) hx hb hw11 mB11 oB11 ((Sk_nd hw hg).kept (by rw [hu11]; exact (hw.nj hg).1) (oO11 _ (fun e => hneg (lc_eq hR (by rw [hn0]; exact hg) (by rw [hn0]; exact ho) e)) (fun e => by have := hR.2.2.1 (8 + g) (24 + o) (liv_n (by rw [hn0]; exact hg)) (liv_p (by rw [hn0]; exact ho)) e; have h16 := hR.1.1; omega))) (by unfold vp_in; decide) d_Op_takeParts_34 (fun H12 locs12 u12 hw12 n12 => ?_)
    have n12 : N1 u11 u12 (lc (24 + o)) (.inl (G.2.1 4, 4, rfs (va_up (z_pr z o) 2 (some (lc (8 + g)))))) := n12
    have hu12 : u12.1 = u.1 := n12.1.trans hu11
    have oA12 : u12.2 (lc (8 + o)) = .inr (4, [.int (nI o), .ref (lc (24 + o)), .int (2 : Int32), .long (q_am s o), .int (bI (q_va s o)), .int (bI (q_fr s o)), .int (bI (q_mi s o)), .int (q_tw s o), .long (z_ra z o), .int (bI (z_rv z o)), .ref (lc (8 + (q_pt s o 0).getD 0)), .ref (lc (8 + (q_pt s o 1).getD 0)), .int (q_kd s o), .long (q_wa s o), .int (q_sp s o), .ref (lc (8 + g)), .null, .int (q_ch s o), .int (bI (q_us s o)), .ref (lc (5 + q_en s o)), .int (q_sz s o)]) := (n12.2.2 _ (Ne.symm nBA)).trans n11.2.1
    have oO12 : ∀ c, c ≠ lc (8 + o) → c ≠ lc (24 + o) → u12.2 c = u.2 c := fun c h1 h2 => (n12.2.2 c h2).trans (oO11 c h1 h2)
    have mA12 : lc (8 + o) ∈ u12.1 := by rw [hu12]; exact hmA
    have mB12 : lc (24 + o) ∈ u12.1 := by rw [hu12]; exact hmB
    refine lv_aload_n hx hb d_Op_takeParts_35 rfl (lv_at hl 0 rfl) ?_
    refine lv_dup hx hb d_Op_takeParts_36 rfl ?_
    refine k_get hx hb ht i_Op hown hw12 mA12 oA12 rfl 2 (by decide) gw_269 (k_same ht (Or.inr gw_270)) rfl d_Op_takeParts_37 ?_
    refine lv_iconst (v := 1) hx hb d_Op_takeParts_40 (by decide) ?_
    refine lv_iadd hx hb d_Op_takeParts_41 ?_
    refine x_put hx hb ht i_Op t_Op t_Op_ok n_Op hown hw12 mA12 oA12 (ty := .int) (fs' := [.int (nI o), .ref (lc (24 + o)), .int ((2 : Int32) + (1 : Int32)), .long (q_am s o), .int (bI (q_va s o)), .int (bI (q_fr s o)), .int (bI (q_mi s o)), .int (q_tw s o), .long (z_ra z o), .int (bI (z_rv z o)), .ref (lc (8 + (q_pt s o 0).getD 0)), .ref (lc (8 + (q_pt s o 1).getD 0)), .int (q_kd s o), .long (q_wa s o), .int (q_sp s o), .ref (lc (8 + g)), .null, .int (q_ch s o), .int (bI (q_us s o)), .ref (lc (5 + q_en s o)), .int (q_sz s o)]) rfl 2 (by decide) gw_269 (Or.inr gw_270) rfl rfl (by decide +kernel) rfl rfl (Nat.le_of_ble_eq_true rfl) d_Op_takeParts_42 (fun H13 locs13 u13 hw13 n13 => ?_)
    have hu13 : u13.1 = u.1 := n13.1.trans hu12
    have oB13 : u13.2 (lc (24 + o)) = .inl (G.2.1 4, 4, rfs (va_up (z_pr z o) 2 (some (lc (8 + g))))) := (n13.2.2 _ nBA).trans n12.2.1
    have oO13 : ∀ c, c ≠ lc (8 + o) → c ≠ lc (24 + o) → u13.2 c = u.2 c := fun c h1 h2 => (n13.2.2 c h1).trans (oO12 c h1 h2)
    have mA13 : lc (8 + o) ∈ u13.1 := by rw [hu13]; exact hmA
    have mB13 : lc (24 + o) ∈ u13.1 := by rw [hu13]; exact hmB
    refine lv_aload_n hx hb d_Op_takeParts_45 rfl (lv_at hl 0 rfl) ?_
    refine k_get hx hb ht i_Op hown hw13 mA13 n13.2.1 rfl 16 (by decide) gw_411 (k_same ht (Or.inl rfl)) rfl d_Op_takeParts_46 ?_
    refine lv_ifnullN (tgt := 75) hx hb d_Op_takeParts_49 (by decide) ?_
    exact kt_v hx hb hr hlocks hw13 d_Op_takeParts_75 (by rw [hn0] at hra hkn; exact ⟨_, rQ_pt hR (by rw [hn0]; exact ho) h3 (fun x h => by rw [hn0]; exact (hra x h).1) (fun x h => by rw [hn0]; exact (hkn x h).1) (pt_f hR (by rw [hn0]; exact ho) h3 (f := va_up (z_pr z o) 2 (some (lc (8 + g)))) (fun k hk => by rw [va_up_ne _ _ (by omega)]) (fun x h => by cases h; exact va_up_self _ _ _) (fun h y h2 => by cases h2) (fun x y h h2 => by cases h2)) hu13 (by rw [n13.2.1]; rw [ndX_O (show q_so (ptQ s o (some g) none) o = 3 from h3), ptQ_o]; unfold ndB; rw [ptQ_np h3]; rfl) oB13 oO13⟩) (by first | decide | (dsimp only; omega)) (by first | decide | (dsimp only; omega))
  · have hg9 : g < n0 ∧ g ≠ o := by have h := hra g rfl; rw [hn0] at h; exact h
    have hg := hg9.1; have hneg := hg9.2
    have hy9 : y < n0 ∧ y ≠ o := by have h := hkn y rfl; rw [hn0] at h; exact h
    have hy := hy9.1; have hney := hy9.2
    have hl : lv_has ls 3 [(0, .ref (lc (8 + o))), (1, .ref (lc (8 + g))), (2, .ref (lc (8 + y)))] := hl
    refine lv_aload_n hx hb d_Op_takeParts_0 rfl (lv_at hl 0 rfl) ?_
    refine lv_aload_n hx hb d_Op_takeParts_1 rfl (lv_at hl 1 rfl) ?_
    refine x_put hx hb ht i_Op t_Op t_Op_ok n_Op hown hw.1 hmA heA (ty := (.object "QuoteGraph$Node")) (fs' := [.int (nI o), .ref (lc (24 + o)), .int (nI (np s o)), .long (q_am s o), .int (bI (q_va s o)), .int (bI (q_fr s o)), .int (bI (q_mi s o)), .int (q_tw s o), .long (z_ra z o), .int (bI (z_rv z o)), .ref (lc (8 + (q_pt s o 0).getD 0)), .ref (lc (8 + (q_pt s o 1).getD 0)), .int (q_kd s o), .long (q_wa s o), .int (q_sp s o), .ref (lc (8 + g)), va_rf ((q_pt s o 3).map (fun x => lc (8 + x))), .int (q_ch s o), .int (bI (q_us s o)), .ref (lc (5 + q_en s o)), .int (q_sz s o)]) rfl 15 (by decide) gw_410 (Or.inl rfl) rfl rfl (by decide +kernel) rfl rfl (Nat.le_of_ble_eq_true rfl) d_Op_takeParts_2 (fun H14 locs14 u14 hw14 n14 => ?_)
    have hu14 : u14.1 = u.1 := n14.1.trans rfl
    have oB14 : u14.2 (lc (24 + o)) = .inl (G.2.1 4, 4, rfs (z_pr z o)) := (n14.2.2 _ nBA).trans heB
    have oO14 : ∀ c, c ≠ lc (8 + o) → c ≠ lc (24 + o) → u14.2 c = u.2 c := fun c h1 h2 => (n14.2.2 c h1).trans (hoO c h1 h2)
    have mA14 : lc (8 + o) ∈ u14.1 := by rw [hu14]; exact hmA
    have mB14 : lc (24 + o) ∈ u14.1 := by rw [hu14]; exact hmB
    refine lv_aload_n hx hb d_Op_takeParts_5 rfl (lv_at hl 0 rfl) ?_
    refine lv_aload_n hx hb d_Op_takeParts_6 rfl (lv_at hl 2 rfl) ?_
    refine x_put hx hb ht i_Op t_Op t_Op_ok n_Op hown hw14 mA14 n14.2.1 (ty := (.object "QuoteGraph$Node")) (fs' := [.int (nI o), .ref (lc (24 + o)), .int (nI (np s o)), .long (q_am s o), .int (bI (q_va s o)), .int (bI (q_fr s o)), .int (bI (q_mi s o)), .int (q_tw s o), .long (z_ra z o), .int (bI (z_rv z o)), .ref (lc (8 + (q_pt s o 0).getD 0)), .ref (lc (8 + (q_pt s o 1).getD 0)), .int (q_kd s o), .long (q_wa s o), .int (q_sp s o), .ref (lc (8 + g)), .ref (lc (8 + y)), .int (q_ch s o), .int (bI (q_us s o)), .ref (lc (5 + q_en s o)), .int (q_sz s o)]) rfl 16 (by decide) gw_411 (Or.inl rfl) rfl rfl (by decide +kernel) rfl rfl (Nat.le_of_ble_eq_true rfl) d_Op_takeParts_7 (fun H15 locs15 u15 hw15 n15 => ?_)
    have hu15 : u15.1 = u.1 := n15.1.trans hu14
    have oB15 : u15.2 (lc (24 + o)) = .inl (G.2.1 4, 4, rfs (z_pr z o)) := (n15.2.2 _ nBA).trans oB14
    have oO15 : ∀ c, c ≠ lc (8 + o) → c ≠ lc (24 + o) → u15.2 c = u.2 c := fun c h1 h2 => (n15.2.2 c h1).trans (oO14 c h1 h2)
    have mA15 : lc (8 + o) ∈ u15.1 := by rw [hu15]; exact hmA
    have mB15 : lc (24 + o) ∈ u15.1 := by rw [hu15]; exact hmB
    refine lv_aload_n hx hb d_Op_takeParts_10 rfl (lv_at hl 0 rfl) ?_
    refine lv_iconst (v := 2) hx hb d_Op_takeParts_11 (by decide) ?_
    refine x_put hx hb ht i_Op t_Op t_Op_ok n_Op hown hw15 mA15 n15.2.1 (ty := .int) (fs' := [.int (nI o), .ref (lc (24 + o)), .int (2 : Int32), .long (q_am s o), .int (bI (q_va s o)), .int (bI (q_fr s o)), .int (bI (q_mi s o)), .int (q_tw s o), .long (z_ra z o), .int (bI (z_rv z o)), .ref (lc (8 + (q_pt s o 0).getD 0)), .ref (lc (8 + (q_pt s o 1).getD 0)), .int (q_kd s o), .long (q_wa s o), .int (q_sp s o), .ref (lc (8 + g)), .ref (lc (8 + y)), .int (q_ch s o), .int (bI (q_us s o)), .ref (lc (5 + q_en s o)), .int (q_sz s o)]) rfl 2 (by decide) gw_269 (Or.inr gw_270) rfl rfl (by decide +kernel) rfl rfl (Nat.le_of_ble_eq_true rfl) d_Op_takeParts_12 (fun H16 locs16 u16 hw16 n16 => ?_)
    have hu16 : u16.1 = u.1 := n16.1.trans hu15
    have oB16 : u16.2 (lc (24 + o)) = .inl (G.2.1 4, 4, rfs (z_pr z o)) := (n16.2.2 _ nBA).trans oB15
    have oO16 : ∀ c, c ≠ lc (8 + o) → c ≠ lc (24 + o) → u16.2 c = u.2 c := fun c h1 h2 => (n16.2.2 c h1).trans (oO15 c h1 h2)
    have mA16 : lc (8 + o) ∈ u16.1 := by rw [hu16]; exact hmA
    have mB16 : lc (24 + o) ∈ u16.1 := by rw [hu16]; exact hmB
    refine lv_aload_n hx hb d_Op_takeParts_15 rfl (lv_at hl 0 rfl) ?_
    refine k_get hx hb ht i_Op hown hw16 mA16 n16.2.1 rfl 15 (by decide) gw_410 (k_same ht (Or.inl rfl)) rfl d_Op_takeParts_16 ?_
    refine lv_ifnull hx hb d_Op_takeParts_19 ?_
    refine lv_aload_n hx hb d_Op_takeParts_22 rfl (lv_at hl 0 rfl) ?_
    refine k_get hx hb ht i_Op hown hw16 mA16 n16.2.1 rfl 1 (by decide) gw_265 (k_same ht (Or.inr gw_266)) rfl d_Op_takeParts_23 ?_
    refine lv_aload_n hx hb d_Op_takeParts_26 rfl (lv_at hl 0 rfl) ?_
    refine k_get hx hb ht i_Op hown hw16 mA16 n16.2.1 rfl 2 (by decide) gw_269 (k_same ht (Or.inr gw_270)) rfl d_Op_takeParts_27 ?_
    refine lv_aload_n hx hb d_Op_takeParts_30 rfl (lv_at hl 0 rfl) ?_
    refine k_get hx hb ht i_Op hown hw16 mA16 n16.2.1 rfl 15 (by decide) gw_410 (k_same ht (Or.inl rfl)) rfl d_Op_takeParts_31 ?_
    refine x_ast (v := lc (8 + g)) hx hb hw16 mB16 oB16 ((Sk_nd hw hg).kept (by rw [hu16]; exact (hw.nj hg).1) (oO16 _ (fun e => hneg (lc_eq hR (by rw [hn0]; exact hg) (by rw [hn0]; exact ho) e)) (fun e => by have := hR.2.2.1 (8 + g) (24 + o) (liv_n (by rw [hn0]; exact hg)) (liv_p (by rw [hn0]; exact ho)) e; have h16 := hR.1.1; omega))) (by unfold vp_in; decide) d_Op_takeParts_34 (fun H17 locs17 u17 hw17 n17 => ?_)
    have n17 : N1 u16 u17 (lc (24 + o)) (.inl (G.2.1 4, 4, rfs (va_up (z_pr z o) 2 (some (lc (8 + g)))))) := n17
    have hu17 : u17.1 = u.1 := n17.1.trans hu16
    have oA17 : u17.2 (lc (8 + o)) = .inr (4, [.int (nI o), .ref (lc (24 + o)), .int (2 : Int32), .long (q_am s o), .int (bI (q_va s o)), .int (bI (q_fr s o)), .int (bI (q_mi s o)), .int (q_tw s o), .long (z_ra z o), .int (bI (z_rv z o)), .ref (lc (8 + (q_pt s o 0).getD 0)), .ref (lc (8 + (q_pt s o 1).getD 0)), .int (q_kd s o), .long (q_wa s o), .int (q_sp s o), .ref (lc (8 + g)), .ref (lc (8 + y)), .int (q_ch s o), .int (bI (q_us s o)), .ref (lc (5 + q_en s o)), .int (q_sz s o)]) := (n17.2.2 _ (Ne.symm nBA)).trans n16.2.1
    have oO17 : ∀ c, c ≠ lc (8 + o) → c ≠ lc (24 + o) → u17.2 c = u.2 c := fun c h1 h2 => (n17.2.2 c h2).trans (oO16 c h1 h2)
    have mA17 : lc (8 + o) ∈ u17.1 := by rw [hu17]; exact hmA
    have mB17 : lc (24 + o) ∈ u17.1 := by rw [hu17]; exact hmB
    refine lv_aload_n hx hb d_Op_takeParts_35 rfl (lv_at hl 0 rfl) ?_
    refine lv_dup hx hb d_Op_takeParts_36 rfl ?_
    refine k_get hx hb ht i_Op hown hw17 mA17 oA17 rfl 2 (by decide) gw_269 (k_same ht (Or.inr gw_270)) rfl d_Op_takeParts_37 ?_
    refine lv_iconst (v := 1) hx hb d_Op_takeParts_40 (by decide) ?_
    refine lv_iadd hx hb d_Op_takeParts_41 ?_
    refine x_put hx hb ht i_Op t_Op t_Op_ok n_Op hown hw17 mA17 oA17 (ty := .int) (fs' := [.int (nI o), .ref (lc (24 + o)), .int ((2 : Int32) + (1 : Int32)), .long (q_am s o), .int (bI (q_va s o)), .int (bI (q_fr s o)), .int (bI (q_mi s o)), .int (q_tw s o), .long (z_ra z o), .int (bI (z_rv z o)), .ref (lc (8 + (q_pt s o 0).getD 0)), .ref (lc (8 + (q_pt s o 1).getD 0)), .int (q_kd s o), .long (q_wa s o), .int (q_sp s o), .ref (lc (8 + g)), .ref (lc (8 + y)), .int (q_ch s o), .int (bI (q_us s o)), .ref (lc (5 + q_en s o)), .int (q_sz s o)]) rfl 2 (by decide) gw_269 (Or.inr gw_270) rfl rfl (by decide +kernel) rfl rfl (Nat.le_of_ble_eq_true rfl) d_Op_takeParts_42 (fun H18 locs18 u18 hw18 n18 => ?_)
    have hu18 : u18.1 = u.1 := n18.1.trans hu17
    have oB18 : u18.2 (lc (24 + o)) = .inl (G.2.1 4, 4, rfs (va_up (z_pr z o) 2 (some (lc (8 + g))))) := (n18.2.2 _ nBA).trans n17.2.1
    have oO18 : ∀ c, c ≠ lc (8 + o) → c ≠ lc (24 + o) → u18.2 c = u.2 c := fun c h1 h2 => (n18.2.2 c h1).trans (oO17 c h1 h2)
    have mA18 : lc (8 + o) ∈ u18.1 := by rw [hu18]; exact hmA
    have mB18 : lc (24 + o) ∈ u18.1 := by rw [hu18]; exact hmB
    refine lv_aload_n hx hb d_Op_takeParts_45 rfl (lv_at hl 0 rfl) ?_
    refine k_get hx hb ht i_Op hown hw18 mA18 n18.2.1 rfl 16 (by decide) gw_411 (k_same ht (Or.inl rfl)) rfl d_Op_takeParts_46 ?_
    refine lv_ifnull hx hb d_Op_takeParts_49 ?_
    refine lv_aload_n hx hb d_Op_takeParts_52 rfl (lv_at hl 0 rfl) ?_
    refine k_get hx hb ht i_Op hown hw18 mA18 n18.2.1 rfl 1 (by decide) gw_265 (k_same ht (Or.inr gw_266)) rfl d_Op_takeParts_53 ?_
    refine lv_aload_n hx hb d_Op_takeParts_56 rfl (lv_at hl 0 rfl) ?_
    refine k_get hx hb ht i_Op hown hw18 mA18 n18.2.1 rfl 2 (by decide) gw_269 (k_same ht (Or.inr gw_270)) rfl d_Op_takeParts_57 ?_
    refine lv_aload_n hx hb d_Op_takeParts_60 rfl (lv_at hl 0 rfl) ?_
    refine k_get hx hb ht i_Op hown hw18 mA18 n18.2.1 rfl 16 (by decide) gw_411 (k_same ht (Or.inl rfl)) rfl d_Op_takeParts_61 ?_
    refine x_ast (v := lc (8 + y)) hx hb hw18 mB18 oB18 ((Sk_nd hw hy).kept (by rw [hu18]; exact (hw.nj hy).1) (oO18 _ (fun e => hney (lc_eq hR (by rw [hn0]; exact hy) (by rw [hn0]; exact ho) e)) (fun e => by have := hR.2.2.1 (8 + y) (24 + o) (liv_n (by rw [hn0]; exact hy)) (liv_p (by rw [hn0]; exact ho)) e; have h16 := hR.1.1; omega))) (by unfold vp_in; decide) d_Op_takeParts_64 (fun H19 locs19 u19 hw19 n19 => ?_)
    have n19 : N1 u18 u19 (lc (24 + o)) (.inl (G.2.1 4, 4, rfs (va_up (va_up (z_pr z o) 2 (some (lc (8 + g)))) 3 (some (lc (8 + y)))))) := n19
    have hu19 : u19.1 = u.1 := n19.1.trans hu18
    have oA19 : u19.2 (lc (8 + o)) = .inr (4, [.int (nI o), .ref (lc (24 + o)), .int ((2 : Int32) + (1 : Int32)), .long (q_am s o), .int (bI (q_va s o)), .int (bI (q_fr s o)), .int (bI (q_mi s o)), .int (q_tw s o), .long (z_ra z o), .int (bI (z_rv z o)), .ref (lc (8 + (q_pt s o 0).getD 0)), .ref (lc (8 + (q_pt s o 1).getD 0)), .int (q_kd s o), .long (q_wa s o), .int (q_sp s o), .ref (lc (8 + g)), .ref (lc (8 + y)), .int (q_ch s o), .int (bI (q_us s o)), .ref (lc (5 + q_en s o)), .int (q_sz s o)]) := (n19.2.2 _ (Ne.symm nBA)).trans n18.2.1
    have oO19 : ∀ c, c ≠ lc (8 + o) → c ≠ lc (24 + o) → u19.2 c = u.2 c := fun c h1 h2 => (n19.2.2 c h2).trans (oO18 c h1 h2)
    have mA19 : lc (8 + o) ∈ u19.1 := by rw [hu19]; exact hmA
    have mB19 : lc (24 + o) ∈ u19.1 := by rw [hu19]; exact hmB
    refine lv_aload_n hx hb d_Op_takeParts_65 rfl (lv_at hl 0 rfl) ?_
    refine lv_dup hx hb d_Op_takeParts_66 rfl ?_
    refine k_get hx hb ht i_Op hown hw19 mA19 oA19 rfl 2 (by decide) gw_269 (k_same ht (Or.inr gw_270)) rfl d_Op_takeParts_67 ?_
    refine lv_iconst (v := 1) hx hb d_Op_takeParts_70 (by decide) ?_
    refine lv_iadd hx hb d_Op_takeParts_71 ?_
    refine x_put hx hb ht i_Op t_Op t_Op_ok n_Op hown hw19 mA19 oA19 (ty := .int) (fs' := [.int (nI o), .ref (lc (24 + o)), .int (((2 : Int32) + (1 : Int32)) + (1 : Int32)), .long (q_am s o), .int (bI (q_va s o)), .int (bI (q_fr s o)), .int (bI (q_mi s o)), .int (q_tw s o), .long (z_ra z o), .int (bI (z_rv z o)), .ref (lc (8 + (q_pt s o 0).getD 0)), .ref (lc (8 + (q_pt s o 1).getD 0)), .int (q_kd s o), .long (q_wa s o), .int (q_sp s o), .ref (lc (8 + g)), .ref (lc (8 + y)), .int (q_ch s o), .int (bI (q_us s o)), .ref (lc (5 + q_en s o)), .int (q_sz s o)]) rfl 2 (by decide) gw_269 (Or.inr gw_270) rfl rfl (by decide +kernel) rfl rfl (Nat.le_of_ble_eq_true rfl) d_Op_takeParts_72 (fun H20 locs20 u20 hw20 n20 => ?_)
    have hu20 : u20.1 = u.1 := n20.1.trans hu19
    have oB20 : u20.2 (lc (24 + o)) = .inl (G.2.1 4, 4, rfs (va_up (va_up (z_pr z o) 2 (some (lc (8 + g)))) 3 (some (lc (8 + y))))) := (n20.2.2 _ nBA).trans n19.2.1
    have oO20 : ∀ c, c ≠ lc (8 + o) → c ≠ lc (24 + o) → u20.2 c = u.2 c := fun c h1 h2 => (n20.2.2 c h1).trans (oO19 c h1 h2)
    have mA20 : lc (8 + o) ∈ u20.1 := by rw [hu20]; exact hmA
    have mB20 : lc (24 + o) ∈ u20.1 := by rw [hu20]; exact hmB
    exact kt_v hx hb hr hlocks hw20 d_Op_takeParts_75 (by rw [hn0] at hra hkn; exact ⟨_, rQ_pt hR (by rw [hn0]; exact ho) h3 (fun x h => by rw [hn0]; exact (hra x h).1) (fun x h => by rw [hn0]; exact (hkn x h).1) (pt_f hR (by rw [hn0]; exact ho) h3 (f := va_up (va_up (z_pr z o) 2 (some (lc (8 + g)))) 3 (some (lc (8 + y)))) (fun k hk => by rw [va_up_ne _ _ (by omega), va_up_ne _ _ (by omega)]) (fun x h => by cases h; rw [va_up_ne _ _ (by decide)]; exact va_up_self _ _ _) (fun h y h2 => by cases h) (fun x y h h2 => by cases h2; exact va_up_self _ _ _)) hu20 (by rw [n20.2.1]; rw [ndX_O (show q_so (ptQ s o (some g) (some y)) o = 3 from h3), ptQ_o]; unfold ndB; rw [ptQ_np h3]; rfl) oB20 oO20⟩) (by first | decide | (dsimp only; omega)) (by first | decide | (dsimp only; omega))
/-- a number that is no part for option j: no node, j itself, or one that hangs on j -/
def badP (s : QS) (j : Nat) (k : Int32) : Bool := decide (k ≠ -1) && (!isN (q_n s) k || decide (kN k = j) || usesC s (kN k) j)
def prt (k : Int32) : Option Nat := if k = -1 then none else some (kN k)
def trmQ (s : QS) (j : Nat) (ra : Option Nat) (ch : Int32) (am : Bool) (kn : Option Nat) : QS := qS_us (qS_ch (ptQ s j ra kn) (va_up (q_ch s) j ch)) (va_up (q_us s) j am)
def pTerms (s : QS) (o ra ch : Int32) (am : Bool) (kn : Int32) : Nat × Unit × QS := wN s o () (fun j => if q_so s j ≠ 3 then (1, (), s) else if badP s j ra = true then (1, (), s) else if badP s j kn = true then (1, (), s) else if inR ch 1 15 = false then (1, (), s) else if q_fr s j = true then (2, (), s) else (0, (), tellF 17 (trmQ s j (prt ra) ch am (prt kn)) j))
theorem badP_t {s : QS} {j : Nat} {k : Int32} (h1 : k ≠ -1) (h : isN (q_n s) k = false ∨ ∃ i, i < q_n s ∧ k = nI i ∧ (i = j ∨ usesC s i j = true)) (h16 : q_n s ≤ 16) : badP s j k = true := by
  unfold badP; rw [decide_eq_true h1, Bool.true_and]
  rcases h with h | ⟨i, hi, rfl, h⟩
  · rw [h]; rfl
  · rw [kN_nI (by omega)]
    rcases h with h | h
    · rw [decide_eq_true h, Bool.or_true, Bool.true_or]
    · rw [h, Bool.or_true]
theorem badP_f {s : QS} {j : Nat} {k : Int32} {q : Option Nat} (h : (q = none ∧ k = -1) ∨ ∃ i, q = some i ∧ k ≠ -1 ∧ i < q_n s ∧ k = nI i ∧ i ≠ j ∧ usesC s i j = false) (h16 : q_n s ≤ 16) : badP s j k = false ∧ q = prt k ∧ ∀ x, q = some x → x < q_n s ∧ x ≠ j := by
  rcases h with ⟨h1, h2⟩ | ⟨i, h1, h2, h3, h4, h5, h6⟩
  · subst h1 h2
    refine ⟨?_, by unfold prt; rw [if_pos rfl], fun x hx => by cases hx⟩
    unfold badP; rw [decide_eq_false (by decide), Bool.false_and]
  · subst h1 h4
    refine ⟨?_, by unfold prt; rw [if_neg h2, kN_nI (by omega)], fun x hx => by cases hx; exact ⟨h3, h5⟩⟩
    unfold badP; rw [kN_nI (by omega), isN_nI h3 h16, decide_eq_false (p := i = j) h5, h6, decide_eq_true h2]; rfl
def leastS (e : Int32) : Int32 := if e = 2 then 1 else 0
def mostS (e : Int32) : Int32 := if e = 0 then 0 else if e = 1 then 6 else 20
def engQ (s : QS) (j e : Nat) (sz : Int32) : QS := qS_sz (qS_en s (va_up (q_en s) j e)) (va_up (q_sz s) j sz)
def pEngine (s : QS) (o e sz : Int32) : Nat × Unit × QS := wN s o () (fun j => if q_so s j ≠ 3 then (1, (), s) else if inR e 0 2 = false then (1, (), s) else if inR sz (leastS e) (mostS e) = false then (1, (), s) else if q_fr s j = true then (2, (), s) else (0, (), tellF 17 (engQ s j (kN e) sz) j))
theorem e_of {e : Int32} (h1 : ¬ e < 0) (h2 : e ≤ 2) : e = nI 0 ∨ e = nI 1 ∨ e = nI 2 := by
  rw [Int32.lt_iff_toInt_lt] at h1; rw [Int32.le_iff_toInt_le] at h2
  have h1 : ¬ e.toInt < 0 := h1
  have h2 : e.toInt ≤ 2 := h2
  have : e.toInt = 0 ∨ e.toInt = 1 ∨ e.toInt = 2 := by omega
  rcases this with h | h | h
  · exact Or.inl (Int32.toInt_inj.mp h)
  · exact Or.inr (Or.inl (Int32.toInt_inj.mp h))
  · exact Or.inr (Or.inr (Int32.toInt_inj.mp h))
set_option maxHeartbeats 4000000 in
set_option maxRecDepth 100000 in
theorem c_Q_terms (l : Launch) (hl9 : l.stackTraces = false) (G : GT) (A : Nat → Prop) (lc : Nat → Nat) (s : QS) (z : ZS) (u : WT) (hR : rQ G lc s z u) (o ra ch : Int32) (am : Bool) (kn : Int32) : Kt l y_Q_terms b_Q_terms 9 none 37 921 1 6 0 0 1 6 G A u [.ref (lc 0), .int o, .int ra, .int ch, .int (bI am), .int kn] (KQ G A (Rv (fun u' => (pTerms s o ra ch am kn).1 = 0 ∧ ∃ z', rQ G lc (pTerms s o ra ch am kn).2.2 z' u' ∧ fQ lc (q_n s) u u'))) (fun E u' => (pTerms s o ra ch am kn).1 ≠ 0 ∧ E = exS (pTerms s o ra ch am kn).1 ∧ ∃ z', rQ G lc (pTerms s o ra ch am kn).2.2 z' u' ∧ fQ lc (q_n s) u u') := by
  refine k_of (by decide) (Nat.le_of_ble_eq_true rfl) (fun p e st m below meth c ls hx hb hr hlocks hml htab hname hown ht hw hl => ?_)
  have hl : lv_has ls 9 [(0, .ref (lc 0)), (1, .int o), (2, .int ra), (3, .int ch), (4, .int (bI am)), (5, .int kn)] := hl
  obtain ⟨n0, hn0⟩ : ∃ n0, q_n s = n0 := ⟨_, rfl⟩
  have hw : Sk G A lc s z n0 u u st st.heap [] := ⟨hw, hR, fQ.rf, hn0⟩
  refine lv_aload_n hx hb d_Q_terms_0 rfl (lv_at hl 0 rfl) ?_
  refine lv_iload_n hx hb d_Q_terms_1 rfl (lv_at hl 1 rfl) ?_
  refine kc_a (kr_V 1 (C := "QuoteGraph") (As := [.int o]) (rest := []) (c_Q_optionAt l hl9 G A lc s z u hR o) hx hb hml hown ht hw.1 gw_465 gw_467 gw_5 gw_42 gw_468 ⟨⟨by decide, by decide⟩, by decide +kernel⟩ ⟨by first | decide | (dsimp only; omega), by first | decide | (dsimp only; omega)⟩ (kr_Q hw) rfl hl.1 rfl (lv_room (Nat.le_of_ble_eq_true rfl)) d_Q_terms_2 ⟨by first | decide | (dsimp only; omega), by first | decide | (dsimp only; omega)⟩) hw.1 (fun E ce q9 u1 H1 locs1 hp hw1 hce hcv hcl => ?_) (fun r1 u1 H1 locs1 hp1 hw1 => ?_)
  · obtain ⟨rfl, hN, hq9⟩ := hp
    replace hq9 := hq9.symm; subst hq9
    rcases hN with hN | ⟨j, hj, rfl, hso⟩
    · exact kt_out htab hlocks hw1 hce hcv hcl (by rw [show pTerms s o ra ch am kn = (1, (), s) from wN_f hN]; exact ⟨(by decide : (1 : Nat) ≠ 0), rfl, z, hR, fQ.rf⟩) (by decide) (by decide)
    · exact kt_out htab hlocks hw1 hce hcv hcl (by rw [show pTerms s (nI j) ra ch am kn = (1, (), s) from (wN_t hj hR.1.1).trans (if_pos hso)]; exact ⟨(by decide : (1 : Nat) ≠ 0), rfl, z, hR, fQ.rf⟩) (by decide) (by decide)
  obtain ⟨j, hj, rfl, h3, er1, hq1⟩ := hp1; replace hq1 := hq1.symm; subst hq1; subst er1
  have hj0 := hj; rw [hn0] at hj
  have hw : Sk G A lc s z n0 u u st H1 locs1 := ⟨hw1, hw.2⟩
  have eP : pTerms s (nI j) ra ch am kn = (if badP s j ra = true then (1, (), s) else if badP s j kn = true then (1, (), s) else if inR ch 1 15 = false then (1, (), s) else if q_fr s j = true then (2, (), s) else (0, (), tellF 17 (trmQ s j (prt ra) ch am (prt kn)) j)) := (wN_t hj0 hR.1.1).trans (if_neg (by rw [Classical.not_not]; exact h3))
  refine lv_astore (lv' := [(6, .ref (lc (8 + j))), (0, .ref (lc 0)), (1, .int (nI j)), (2, .int ra), (3, .int ch), (4, .int (bI am)), (5, .int kn)]) hx hb d_Q_terms_5 hl (by decide) rfl (fun ls hl => ?_)
  refine lv_aload_n hx hb d_Q_terms_7 rfl (lv_at hl 1 rfl) ?_
  refine lv_iload_n hx hb d_Q_terms_8 rfl (lv_at hl 3 rfl) ?_
  refine lv_aload hx hb d_Q_terms_9 (lv_at hl 0 rfl) ?_
  refine kc_q (kr_V 2 (C := "QuoteGraph") (As := [.int ra, .ref (lc (8 + j))]) (rest := []) (c_Q_extraPartAt l hl9 G A lc s z u hR ra j hj0) hx hb hml hown ht hw.1 gw_470 gw_472 gw_6 gw_42 gw_473 ⟨⟨by decide, by decide⟩, by decide +kernel⟩ ⟨by first | decide | (dsimp only; omega), by first | decide | (dsimp only; omega)⟩ (kr_Q hw) rfl hl.1 rfl (lv_room (Nat.le_of_ble_eq_true rfl)) d_Q_terms_11 ⟨by first | decide | (dsimp only; omega), by first | decide | (dsimp only; omega)⟩) hw.1 (fun E ce q9 u1 H1 locs1 hp hw1 hce hcv hcl => ?_) (fun r2 u2 H2 locs2 hp2 hw2 => ?_)
  · obtain ⟨rfl, hN1, hN2, hq9⟩ := hp
    replace hq9 := hq9.symm; subst hq9
    exact kt_out htab hlocks hw1 hce hcv hcl (by rw [eP, if_pos (badP_t hN1 hN2 hR.1.1)]; exact ⟨(by decide : (1 : Nat) ≠ 0), rfl, z, hR, fQ.rf⟩) (by decide) (by decide)
  obtain ⟨q1, er2, hq92, hq2⟩ := hp2; replace hq2 := hq2.symm; subst hq2; subst er2
  have hw : Sk G A lc s z n0 u u st H2 locs2 := ⟨hw2, hw.2⟩
  obtain ⟨hb2, hc2, hd2⟩ := badP_f hq92 hR.1.1
  rw [if_neg (by rw [hb2]; decide)] at eP
  rw [← hc2] at eP
  clear hc2 hb2 hq92
  rcases q1 with _ | g1
  · refine lv_astoreN (lv' := [(7, .null), (6, .ref (lc (8 + j))), (0, .ref (lc 0)), (1, .int (nI j)), (2, .int ra), (3, .int ch), (4, .int (bI am)), (5, .int kn)]) hx hb d_Q_terms_14 hl (by decide) rfl (fun ls hl => ?_)
    refine lv_aload_n hx hb d_Q_terms_16 rfl (lv_at hl 2 rfl) ?_
    refine lv_iload hx hb d_Q_terms_17 (lv_at hl 7 rfl) ?_
    refine lv_aload hx hb d_Q_terms_19 (lv_at hl 1 rfl) ?_
    refine kc_q (kr_V 2 (C := "QuoteGraph") (As := [.int kn, .ref (lc (8 + j))]) (rest := []) (c_Q_extraPartAt l hl9 G A lc s z u hR kn j hj0) hx hb hml hown ht hw.1 gw_470 gw_472 gw_6 gw_42 gw_473 ⟨⟨by decide, by decide⟩, by decide +kernel⟩ ⟨by first | decide | (dsimp only; omega), by first | decide | (dsimp only; omega)⟩ (kr_Q hw) rfl hl.1 rfl (lv_room (Nat.le_of_ble_eq_true rfl)) d_Q_terms_21 ⟨by first | decide | (dsimp only; omega), by first | decide | (dsimp only; omega)⟩) hw.1 (fun E ce q9 u1 H1 locs1 hp hw1 hce hcv hcl => ?_) (fun r3 u3 H3 locs3 hp3 hw3 => ?_)
    · obtain ⟨rfl, hN1, hN2, hq9⟩ := hp
      replace hq9 := hq9.symm; subst hq9
      exact kt_out htab hlocks hw1 hce hcv hcl (by rw [eP, if_pos (badP_t hN1 hN2 hR.1.1)]; exact ⟨(by decide : (1 : Nat) ≠ 0), rfl, z, hR, fQ.rf⟩) (by decide) (by decide)
    obtain ⟨q2, er3, hq93, hq3⟩ := hp3; replace hq3 := hq3.symm; subst hq3; subst er3
    have hw : Sk G A lc s z n0 u u st H3 locs3 := ⟨hw3, hw.2⟩
    obtain ⟨hb3, hc3, hd3⟩ := badP_f hq93 hR.1.1
    rw [if_neg (by rw [hb3]; decide)] at eP
    rw [← hc3] at eP
    clear hc3 hb3 hq93
    rcases q2 with _ | g2
    · refine lv_astoreN (lv' := [(8, .null), (7, .null), (6, .ref (lc (8 + j))), (0, .ref (lc 0)), (1, .int (nI j)), (2, .int ra), (3, .int ch), (4, .int (bI am)), (5, .int kn)]) hx hb d_Q_terms_24 hl (by decide) rfl (fun ls hl => ?_)
      refine lv_iload_n hx hb d_Q_terms_26 rfl (lv_at hl 6 rfl) ?_
      refine lv_iconst (v := 1) hx hb d_Q_terms_27 (by decide) ?_
      refine lv_bipush (v := 15) hx hb d_Q_terms_28 (by decide) ?_
      refine kc_v (kr_S 3 (As := [.int ch, .int (1 : Int32), .int (15 : Int32)]) (rest := []) (c_Q_checkRange l hl9 G A u ch 1 15) hx hb hml hown ht hw.1 gw_389 gw_390 gw_42 gw_391 ⟨⟨by decide, by decide⟩, by decide +kernel⟩ ⟨by first | decide | (dsimp only; omega), by first | decide | (dsimp only; omega)⟩ rfl hl.1 rfl (lv_room (Nat.le_of_ble_eq_true rfl)) d_Q_terms_30 ⟨by first | decide | (dsimp only; omega), by first | decide | (dsimp only; omega)⟩) hw.1 (fun E ce q9 u1 H1 locs1 hp hw1 hce hcv hcl => ?_) (fun u4 H4 locs4 hp4 hw4 => ?_)
      · obtain ⟨rfl, hN, hq9⟩ := hp
        replace hq9 := hq9.symm; subst hq9
        exact kt_out htab hlocks hw1 hce hcv hcl (by rw [eP, if_pos (inR_f hN)]; exact ⟨(by decide : (1 : Nat) ≠ 0), rfl, z, hR, fQ.rf⟩) (by decide) (by decide)
      obtain ⟨hlo4, hhi4, hq4⟩ := hp4; replace hq4 := hq4.symm; subst hq4
      have hw : Sk G A lc s z n0 u u st H4 locs4 := ⟨hw4, hw.2⟩
      rw [if_neg (by rw [inR_t hlo4 hhi4]; decide)] at eP
      refine lv_aload hx hb d_Q_terms_33 (lv_at hl 2 rfl) ?_
      refine kc_v (kr_S 1 (As := [.ref (lc (8 + j))]) (rest := []) (c_Q_checkNotFrozen l hl9 G A lc s z u hR j hj0) hx hb hml hown ht hw.1 gw_500 gw_501 gw_42 gw_502 ⟨⟨by decide, by decide⟩, by decide +kernel⟩ ⟨by first | decide | (dsimp only; omega), by first | decide | (dsimp only; omega)⟩ rfl hl.1 rfl (lv_room (Nat.le_of_ble_eq_true rfl)) d_Q_terms_35 ⟨by first | decide | (dsimp only; omega), by first | decide | (dsimp only; omega)⟩) hw.1 (fun E ce q9 u1 H1 locs1 hp hw1 hce hcv hcl => ?_) (fun u5 H5 locs5 hp5 hw5 => ?_)
      · obtain ⟨rfl, hN, hq9⟩ := hp
        replace hq9 := hq9.symm; subst hq9
        exact kt_out htab hlocks hw1 hce hcv hcl (by rw [eP, if_pos hN]; exact ⟨(by decide : (2 : Nat) ≠ 0), rfl, z, hR, fQ.rf⟩) (by decide) (by decide)
      obtain ⟨hfr, hq5⟩ := hp5; replace hq5 := hq5.symm; subst hq5
      have hw : Sk G A lc s z n0 u u st H5 locs5 := ⟨hw5, hw.2⟩
      rw [if_neg (by rw [hfr]; decide)] at eP
      refine lv_aload hx hb d_Q_terms_38 (lv_at hl 2 rfl) ?_
      refine lv_aloadN hx hb d_Q_terms_40 (lv_at hl 1 rfl) ?_
      refine lv_aloadN hx hb d_Q_terms_42 (lv_at hl 0 rfl) ?_
      refine kc_v (kr_V 2 (C := "QuoteGraph$Option") (As := [.null, .null]) (rest := []) (c_Op_takeParts l G A lc s z u hR j hj0 h3 none none hd2 hd3) hx hb hml hown ht hw.1 gw_504 gw_505 gw_506 gw_57 gw_507 ⟨⟨by decide, by decide⟩, by decide +kernel⟩ ⟨by first | decide | (dsimp only; omega), by first | decide | (dsimp only; omega)⟩ (by have h := kr_N hw hj; rw [h3] at h; exact h) rfl hl.1 rfl (lv_room (Nat.le_of_ble_eq_true rfl)) d_Q_terms_44 ⟨by first | decide | (dsimp only; omega), by first | decide | (dsimp only; omega)⟩) hw.1 (fun _ _ _ _ _ _ h => h.elim) (fun u6 H6 locs6 hp6 hw6 => ?_)
      obtain ⟨f9, g3, g4⟩ := hp6
      have hw : Sk G A lc (ptQ s j none none) (zS_pr z (va_up (z_pr z) j f9)) n0 u u6 st H6 locs6 := ⟨hw6, g3, by rw [← hn0]; exact g4, hn0⟩
      refine lv_aload hx hb d_Q_terms_47 (lv_at hl 2 rfl) ?_
      refine lv_iload_n hx hb d_Q_terms_49 rfl (lv_at hl 6 rfl) ?_
      refine kp_chance ch hx hb ht hown hw hj h3 gw_416 d_Q_terms_50 (fun H7 locs7 u7 hw => ?_)
      refine lv_aload hx hb d_Q_terms_53 (lv_at hl 2 rfl) ?_
      refine lv_iload hx hb d_Q_terms_55 (lv_at hl 7 rfl) ?_
      refine kp_american am hx hb ht hown hw hj h3 gw_418 d_Q_terms_57 (fun H8 locs8 u8 hw => ?_)
      refine lv_aload_n hx hb d_Q_terms_60 rfl (lv_at hl 3 rfl) ?_
      refine lv_aload hx hb d_Q_terms_61 (lv_at hl 2 rfl) ?_
      refine kc_v (kr_V 1 (C := "QuoteGraph") (As := [.ref (lc (8 + j))]) (rest := []) (c_tell l G A lc 17 (qS_us (qS_ch (ptQ s j none none) (va_up (q_ch (ptQ s j none none)) j ch)) (va_up (q_us (qS_ch (ptQ s j none none) (va_up (q_ch (ptQ s j none none)) j ch))) j am)) (zS_pr z (va_up (z_pr z) j f9)) u8 hw.2.1 (vc_17 hR.1.1) j hj0) hx hb hml hown ht hw.1 gw_508 gw_510 gw_9 gw_42 gw_511 ⟨⟨by decide, by decide⟩, by decide +kernel⟩ ⟨by first | decide | (dsimp only; omega), by first | decide | (dsimp only; omega)⟩ (kr_Q hw) rfl hl.1 rfl (lv_room (Nat.le_of_ble_eq_true rfl)) d_Q_terms_63 ⟨by first | decide | (dsimp only; omega), by first | decide | (dsimp only; omega)⟩) hw.1 (fun _ _ _ _ _ _ h => h.elim) (fun u9 H9 locs9 hp9 hw9 => ?_)
      obtain ⟨g1, g2⟩ := hp9
      have hf9 := hw.2.2.1
      exact kt_v hx hb hr hlocks hw9 d_Q_terms_66 (by rw [eP]; exact ⟨rfl, _, g1, by rw [hn0]; exact hf9.tr (by rw [← hn0]; exact g2)⟩) (by first | decide | (dsimp only; omega)) (by first | decide | (dsimp only; omega))
    · refine lv_astore (lv' := [(8, .ref (lc (8 + g2))), (7, .null), (6, .ref (lc (8 + j))), (0, .ref (lc 0)), (1, .int (nI j)), (2, .int ra), (3, .int ch), (4, .int (bI am)), (5, .int kn)]) hx hb d_Q_terms_24 hl (by decide) rfl (fun ls hl => ?_)
      refine lv_iload_n hx hb d_Q_terms_26 rfl (lv_at hl 6 rfl) ?_
      refine lv_iconst (v := 1) hx hb d_Q_terms_27 (by decide) ?_
      refine lv_bipush (v := 15) hx hb d_Q_terms_28 (by decide) ?_
      refine kc_v (kr_S 3 (As := [.int ch, .int (1 : Int32), .int (15 : Int32)]) (rest := []) (c_Q_checkRange l hl9 G A u ch 1 15) hx hb hml hown ht hw.1 gw_389 gw_390 gw_42 gw_391 ⟨⟨by decide, by decide⟩, by decide +kernel⟩ ⟨by first | decide | (dsimp only; omega), by first | decide | (dsimp only; omega)⟩ rfl hl.1 rfl (lv_room (Nat.le_of_ble_eq_true rfl)) d_Q_terms_30 ⟨by first | decide | (dsimp only; omega), by first | decide | (dsimp only; omega)⟩) hw.1 (fun E ce q9 u1 H1 locs1 hp hw1 hce hcv hcl => ?_) (fun u10 H10 locs10 hp10 hw10 => ?_)
      · obtain ⟨rfl, hN, hq9⟩ := hp
        replace hq9 := hq9.symm; subst hq9
        exact kt_out htab hlocks hw1 hce hcv hcl (by rw [eP, if_pos (inR_f hN)]; exact ⟨(by decide : (1 : Nat) ≠ 0), rfl, z, hR, fQ.rf⟩) (by decide) (by decide)
      obtain ⟨hlo10, hhi10, hq10⟩ := hp10; replace hq10 := hq10.symm; subst hq10
      have hw : Sk G A lc s z n0 u u st H10 locs10 := ⟨hw10, hw.2⟩
      rw [if_neg (by rw [inR_t hlo10 hhi10]; decide)] at eP
      refine lv_aload hx hb d_Q_terms_33 (lv_at hl 2 rfl) ?_
      refine kc_v (kr_S 1 (As := [.ref (lc (8 + j))]) (rest := []) (c_Q_checkNotFrozen l hl9 G A lc s z u hR j hj0) hx hb hml hown ht hw.1 gw_500 gw_501 gw_42 gw_502 ⟨⟨by decide, by decide⟩, by decide +kernel⟩ ⟨by first | decide | (dsimp only; omega), by first | decide | (dsimp only; omega)⟩ rfl hl.1 rfl (lv_room (Nat.le_of_ble_eq_true rfl)) d_Q_terms_35 ⟨by first | decide | (dsimp only; omega), by first | decide | (dsimp only; omega)⟩) hw.1 (fun E ce q9 u1 H1 locs1 hp hw1 hce hcv hcl => ?_) (fun u11 H11 locs11 hp11 hw11 => ?_)
      · obtain ⟨rfl, hN, hq9⟩ := hp
        replace hq9 := hq9.symm; subst hq9
        exact kt_out htab hlocks hw1 hce hcv hcl (by rw [eP, if_pos hN]; exact ⟨(by decide : (2 : Nat) ≠ 0), rfl, z, hR, fQ.rf⟩) (by decide) (by decide)
      obtain ⟨hfr, hq11⟩ := hp11; replace hq11 := hq11.symm; subst hq11
      have hw : Sk G A lc s z n0 u u st H11 locs11 := ⟨hw11, hw.2⟩
      rw [if_neg (by rw [hfr]; decide)] at eP
      refine lv_aload hx hb d_Q_terms_38 (lv_at hl 2 rfl) ?_
      refine lv_aloadN hx hb d_Q_terms_40 (lv_at hl 1 rfl) ?_
      refine lv_aload hx hb d_Q_terms_42 (lv_at hl 0 rfl) ?_
      refine kc_v (kr_V 2 (C := "QuoteGraph$Option") (As := [.null, .ref (lc (8 + g2))]) (rest := []) (c_Op_takeParts l G A lc s z u hR j hj0 h3 none (some g2) hd2 hd3) hx hb hml hown ht hw.1 gw_504 gw_505 gw_506 gw_57 gw_507 ⟨⟨by decide, by decide⟩, by decide +kernel⟩ ⟨by first | decide | (dsimp only; omega), by first | decide | (dsimp only; omega)⟩ (by have h := kr_N hw hj; rw [h3] at h; exact h) rfl hl.1 rfl (lv_room (Nat.le_of_ble_eq_true rfl)) d_Q_terms_44 ⟨by first | decide | (dsimp only; omega), by first | decide | (dsimp only; omega)⟩) hw.1 (fun _ _ _ _ _ _ h => h.elim) (fun u12 H12 locs12 hp12 hw12 => ?_)
      obtain ⟨f9, g3, g4⟩ := hp12
      have hw : Sk G A lc (ptQ s j none (some g2)) (zS_pr z (va_up (z_pr z) j f9)) n0 u u12 st H12 locs12 := ⟨hw12, g3, by rw [← hn0]; exact g4, hn0⟩
      refine lv_aload hx hb d_Q_terms_47 (lv_at hl 2 rfl) ?_
      refine lv_iload_n hx hb d_Q_terms_49 rfl (lv_at hl 6 rfl) ?_
      refine kp_chance ch hx hb ht hown hw hj h3 gw_416 d_Q_terms_50 (fun H13 locs13 u13 hw => ?_)
      refine lv_aload hx hb d_Q_terms_53 (lv_at hl 2 rfl) ?_
      refine lv_iload hx hb d_Q_terms_55 (lv_at hl 7 rfl) ?_
      refine kp_american am hx hb ht hown hw hj h3 gw_418 d_Q_terms_57 (fun H14 locs14 u14 hw => ?_)
      refine lv_aload_n hx hb d_Q_terms_60 rfl (lv_at hl 3 rfl) ?_
      refine lv_aload hx hb d_Q_terms_61 (lv_at hl 2 rfl) ?_
      refine kc_v (kr_V 1 (C := "QuoteGraph") (As := [.ref (lc (8 + j))]) (rest := []) (c_tell l G A lc 17 (qS_us (qS_ch (ptQ s j none (some g2)) (va_up (q_ch (ptQ s j none (some g2))) j ch)) (va_up (q_us (qS_ch (ptQ s j none (some g2)) (va_up (q_ch (ptQ s j none (some g2))) j ch))) j am)) (zS_pr z (va_up (z_pr z) j f9)) u14 hw.2.1 (vc_17 hR.1.1) j hj0) hx hb hml hown ht hw.1 gw_508 gw_510 gw_9 gw_42 gw_511 ⟨⟨by decide, by decide⟩, by decide +kernel⟩ ⟨by first | decide | (dsimp only; omega), by first | decide | (dsimp only; omega)⟩ (kr_Q hw) rfl hl.1 rfl (lv_room (Nat.le_of_ble_eq_true rfl)) d_Q_terms_63 ⟨by first | decide | (dsimp only; omega), by first | decide | (dsimp only; omega)⟩) hw.1 (fun _ _ _ _ _ _ h => h.elim) (fun u15 H15 locs15 hp15 hw15 => ?_)
      obtain ⟨g1, g2⟩ := hp15
      have hf9 := hw.2.2.1
      exact kt_v hx hb hr hlocks hw15 d_Q_terms_66 (by rw [eP]; exact ⟨rfl, _, g1, by rw [hn0]; exact hf9.tr (by rw [← hn0]; exact g2)⟩) (by first | decide | (dsimp only; omega)) (by first | decide | (dsimp only; omega))
  · refine lv_astore (lv' := [(7, .ref (lc (8 + g1))), (6, .ref (lc (8 + j))), (0, .ref (lc 0)), (1, .int (nI j)), (2, .int ra), (3, .int ch), (4, .int (bI am)), (5, .int kn)]) hx hb d_Q_terms_14 hl (by decide) rfl (fun ls hl => ?_)
    refine lv_aload_n hx hb d_Q_terms_16 rfl (lv_at hl 2 rfl) ?_
    refine lv_iload hx hb d_Q_terms_17 (lv_at hl 7 rfl) ?_
    refine lv_aload hx hb d_Q_terms_19 (lv_at hl 1 rfl) ?_
    refine kc_q (kr_V 2 (C := "QuoteGraph") (As := [.int kn, .ref (lc (8 + j))]) (rest := []) (c_Q_extraPartAt l hl9 G A lc s z u hR kn j hj0) hx hb hml hown ht hw.1 gw_470 gw_472 gw_6 gw_42 gw_473 ⟨⟨by decide, by decide⟩, by decide +kernel⟩ ⟨by first | decide | (dsimp only; omega), by first | decide | (dsimp only; omega)⟩ (kr_Q hw) rfl hl.1 rfl (lv_room (Nat.le_of_ble_eq_true rfl)) d_Q_terms_21 ⟨by first | decide | (dsimp only; omega), by first | decide | (dsimp only; omega)⟩) hw.1 (fun E ce q9 u1 H1 locs1 hp hw1 hce hcv hcl => ?_) (fun r16 u16 H16 locs16 hp16 hw16 => ?_)
    · obtain ⟨rfl, hN1, hN2, hq9⟩ := hp
      replace hq9 := hq9.symm; subst hq9
      exact kt_out htab hlocks hw1 hce hcv hcl (by rw [eP, if_pos (badP_t hN1 hN2 hR.1.1)]; exact ⟨(by decide : (1 : Nat) ≠ 0), rfl, z, hR, fQ.rf⟩) (by decide) (by decide)
    obtain ⟨q2, er16, hq916, hq16⟩ := hp16; replace hq16 := hq16.symm; subst hq16; subst er16
    have hw : Sk G A lc s z n0 u u st H16 locs16 := ⟨hw16, hw.2⟩
    obtain ⟨hb16, hc16, hd16⟩ := badP_f hq916 hR.1.1
    rw [if_neg (by rw [hb16]; decide)] at eP
    rw [← hc16] at eP
    clear hc16 hb16 hq916
    rcases q2 with _ | g2
    · refine lv_astoreN (lv' := [(8, .null), (7, .ref (lc (8 + g1))), (6, .ref (lc (8 + j))), (0, .ref (lc 0)), (1, .int (nI j)), (2, .int ra), (3, .int ch), (4, .int (bI am)), (5, .int kn)]) hx hb d_Q_terms_24 hl (by decide) rfl (fun ls hl => ?_)
      refine lv_iload_n hx hb d_Q_terms_26 rfl (lv_at hl 6 rfl) ?_
      refine lv_iconst (v := 1) hx hb d_Q_terms_27 (by decide) ?_
      refine lv_bipush (v := 15) hx hb d_Q_terms_28 (by decide) ?_
      refine kc_v (kr_S 3 (As := [.int ch, .int (1 : Int32), .int (15 : Int32)]) (rest := []) (c_Q_checkRange l hl9 G A u ch 1 15) hx hb hml hown ht hw.1 gw_389 gw_390 gw_42 gw_391 ⟨⟨by decide, by decide⟩, by decide +kernel⟩ ⟨by first | decide | (dsimp only; omega), by first | decide | (dsimp only; omega)⟩ rfl hl.1 rfl (lv_room (Nat.le_of_ble_eq_true rfl)) d_Q_terms_30 ⟨by first | decide | (dsimp only; omega), by first | decide | (dsimp only; omega)⟩) hw.1 (fun E ce q9 u1 H1 locs1 hp hw1 hce hcv hcl => ?_) (fun u17 H17 locs17 hp17 hw17 => ?_)
      · obtain ⟨rfl, hN, hq9⟩ := hp
        replace hq9 := hq9.symm; subst hq9
        exact kt_out htab hlocks hw1 hce hcv hcl (by rw [eP, if_pos (inR_f hN)]; exact ⟨(by decide : (1 : Nat) ≠ 0), rfl, z, hR, fQ.rf⟩) (by decide) (by decide)
      obtain ⟨hlo17, hhi17, hq17⟩ := hp17; replace hq17 := hq17.symm; subst hq17
      have hw : Sk G A lc s z n0 u u st H17 locs17 := ⟨hw17, hw.2⟩
      rw [if_neg (by rw [inR_t hlo17 hhi17]; decide)] at eP
      refine lv_aload hx hb d_Q_terms_33 (lv_at hl 2 rfl) ?_
      refine kc_v (kr_S 1 (As := [.ref (lc (8 + j))]) (rest := []) (c_Q_checkNotFrozen l hl9 G A lc s z u hR j hj0) hx hb hml hown ht hw.1 gw_500 gw_501 gw_42 gw_502 ⟨⟨by decide, by decide⟩, by decide +kernel⟩ ⟨by first | decide | (dsimp only; omega), by first | decide | (dsimp only; omega)⟩ rfl hl.1 rfl (lv_room (Nat.le_of_ble_eq_true rfl)) d_Q_terms_35 ⟨by first | decide | (dsimp only; omega), by first | decide | (dsimp only; omega)⟩) hw.1 (fun E ce q9 u1 H1 locs1 hp hw1 hce hcv hcl => ?_) (fun u18 H18 locs18 hp18 hw18 => ?_)
      · obtain ⟨rfl, hN, hq9⟩ := hp
        replace hq9 := hq9.symm; subst hq9
        exact kt_out htab hlocks hw1 hce hcv hcl (by rw [eP, if_pos hN]; exact ⟨(by decide : (2 : Nat) ≠ 0), rfl, z, hR, fQ.rf⟩) (by decide) (by decide)
      obtain ⟨hfr, hq18⟩ := hp18; replace hq18 := hq18.symm; subst hq18
      have hw : Sk G A lc s z n0 u u st H18 locs18 := ⟨hw18, hw.2⟩
      rw [if_neg (by rw [hfr]; decide)] at eP
      refine lv_aload hx hb d_Q_terms_38 (lv_at hl 2 rfl) ?_
      refine lv_aload hx hb d_Q_terms_40 (lv_at hl 1 rfl) ?_
      refine lv_aloadN hx hb d_Q_terms_42 (lv_at hl 0 rfl) ?_
      refine kc_v (kr_V 2 (C := "QuoteGraph$Option") (As := [.ref (lc (8 + g1)), .null]) (rest := []) (c_Op_takeParts l G A lc s z u hR j hj0 h3 (some g1) none hd2 hd16) hx hb hml hown ht hw.1 gw_504 gw_505 gw_506 gw_57 gw_507 ⟨⟨by decide, by decide⟩, by decide +kernel⟩ ⟨by first | decide | (dsimp only; omega), by first | decide | (dsimp only; omega)⟩ (by have h := kr_N hw hj; rw [h3] at h; exact h) rfl hl.1 rfl (lv_room (Nat.le_of_ble_eq_true rfl)) d_Q_terms_44 ⟨by first | decide | (dsimp only; omega), by first | decide | (dsimp only; omega)⟩) hw.1 (fun _ _ _ _ _ _ h => h.elim) (fun u19 H19 locs19 hp19 hw19 => ?_)
      obtain ⟨f9, g3, g4⟩ := hp19
      have hw : Sk G A lc (ptQ s j (some g1) none) (zS_pr z (va_up (z_pr z) j f9)) n0 u u19 st H19 locs19 := ⟨hw19, g3, by rw [← hn0]; exact g4, hn0⟩
      refine lv_aload hx hb d_Q_terms_47 (lv_at hl 2 rfl) ?_
      refine lv_iload_n hx hb d_Q_terms_49 rfl (lv_at hl 6 rfl) ?_
      refine kp_chance ch hx hb ht hown hw hj h3 gw_416 d_Q_terms_50 (fun H20 locs20 u20 hw => ?_)
      refine lv_aload hx hb d_Q_terms_53 (lv_at hl 2 rfl) ?_
      refine lv_iload hx hb d_Q_terms_55 (lv_at hl 7 rfl) ?_
      refine kp_american am hx hb ht hown hw hj h3 gw_418 d_Q_terms_57 (fun H21 locs21 u21 hw => ?_)
      refine lv_aload_n hx hb d_Q_terms_60 rfl (lv_at hl 3 rfl) ?_
      refine lv_aload hx hb d_Q_terms_61 (lv_at hl 2 rfl) ?_
      refine kc_v (kr_V 1 (C := "QuoteGraph") (As := [.ref (lc (8 + j))]) (rest := []) (c_tell l G A lc 17 (qS_us (qS_ch (ptQ s j (some g1) none) (va_up (q_ch (ptQ s j (some g1) none)) j ch)) (va_up (q_us (qS_ch (ptQ s j (some g1) none) (va_up (q_ch (ptQ s j (some g1) none)) j ch))) j am)) (zS_pr z (va_up (z_pr z) j f9)) u21 hw.2.1 (vc_17 hR.1.1) j hj0) hx hb hml hown ht hw.1 gw_508 gw_510 gw_9 gw_42 gw_511 ⟨⟨by decide, by decide⟩, by decide +kernel⟩ ⟨by first | decide | (dsimp only; omega), by first | decide | (dsimp only; omega)⟩ (kr_Q hw) rfl hl.1 rfl (lv_room (Nat.le_of_ble_eq_true rfl)) d_Q_terms_63 ⟨by first | decide | (dsimp only; omega), by first | decide | (dsimp only; omega)⟩) hw.1 (fun _ _ _ _ _ _ h => h.elim) (fun u22 H22 locs22 hp22 hw22 => ?_)
      obtain ⟨g1, g2⟩ := hp22
      have hf9 := hw.2.2.1
      exact kt_v hx hb hr hlocks hw22 d_Q_terms_66 (by rw [eP]; exact ⟨rfl, _, g1, by rw [hn0]; exact hf9.tr (by rw [← hn0]; exact g2)⟩) (by first | decide | (dsimp only; omega)) (by first | decide | (dsimp only; omega))
    · refine lv_astore (lv' := [(8, .ref (lc (8 + g2))), (7, .ref (lc (8 + g1))), (6, .ref (lc (8 + j))), (0, .ref (lc 0)), (1, .int (nI j)), (2, .int ra), (3, .int ch), (4, .int (bI am)), (5, .int kn)]) hx hb d_Q_terms_24 hl (by decide) rfl (fun ls hl => ?_)
      refine lv_iload_n hx hb d_Q_terms_26 rfl (lv_at hl 6 rfl) ?_
      refine lv_iconst (v := 1) hx hb d_Q_terms_27 (by decide) ?_
      refine lv_bipush (v := 15) hx hb d_Q_terms_28 (by decide) ?_
      refine kc_v (kr_S 3 (As := [.int ch, .int (1 : Int32), .int (15 : Int32)]) (rest := []) (c_Q_checkRange l hl9 G A u ch 1 15) hx hb hml hown ht hw.1 gw_389 gw_390 gw_42 gw_391 ⟨⟨by decide, by decide⟩, by decide +kernel⟩ ⟨by first | decide | (dsimp only; omega), by first | decide | (dsimp only; omega)⟩ rfl hl.1 rfl (lv_room (Nat.le_of_ble_eq_true rfl)) d_Q_terms_30 ⟨by first | decide | (dsimp only; omega), by first | decide | (dsimp only; omega)⟩) hw.1 (fun E ce q9 u1 H1 locs1 hp hw1 hce hcv hcl => ?_) (fun u23 H23 locs23 hp23 hw23 => ?_)
      · obtain ⟨rfl, hN, hq9⟩ := hp
        replace hq9 := hq9.symm; subst hq9
        exact kt_out htab hlocks hw1 hce hcv hcl (by rw [eP, if_pos (inR_f hN)]; exact ⟨(by decide : (1 : Nat) ≠ 0), rfl, z, hR, fQ.rf⟩) (by decide) (by decide)
      obtain ⟨hlo23, hhi23, hq23⟩ := hp23; replace hq23 := hq23.symm; subst hq23
      have hw : Sk G A lc s z n0 u u st H23 locs23 := ⟨hw23, hw.2⟩
      rw [if_neg (by rw [inR_t hlo23 hhi23]; decide)] at eP
      refine lv_aload hx hb d_Q_terms_33 (lv_at hl 2 rfl) ?_
      refine kc_v (kr_S 1 (As := [.ref (lc (8 + j))]) (rest := []) (c_Q_checkNotFrozen l hl9 G A lc s z u hR j hj0) hx hb hml hown ht hw.1 gw_500 gw_501 gw_42 gw_502 ⟨⟨by decide, by decide⟩, by decide +kernel⟩ ⟨by first | decide | (dsimp only; omega), by first | decide | (dsimp only; omega)⟩ rfl hl.1 rfl (lv_room (Nat.le_of_ble_eq_true rfl)) d_Q_terms_35 ⟨by first | decide | (dsimp only; omega), by first | decide | (dsimp only; omega)⟩) hw.1 (fun E ce q9 u1 H1 locs1 hp hw1 hce hcv hcl => ?_) (fun u24 H24 locs24 hp24 hw24 => ?_)
      · obtain ⟨rfl, hN, hq9⟩ := hp
        replace hq9 := hq9.symm; subst hq9
        exact kt_out htab hlocks hw1 hce hcv hcl (by rw [eP, if_pos hN]; exact ⟨(by decide : (2 : Nat) ≠ 0), rfl, z, hR, fQ.rf⟩) (by decide) (by decide)
      obtain ⟨hfr, hq24⟩ := hp24; replace hq24 := hq24.symm; subst hq24
      have hw : Sk G A lc s z n0 u u st H24 locs24 := ⟨hw24, hw.2⟩
      rw [if_neg (by rw [hfr]; decide)] at eP
      refine lv_aload hx hb d_Q_terms_38 (lv_at hl 2 rfl) ?_
      refine lv_aload hx hb d_Q_terms_40 (lv_at hl 1 rfl) ?_
      refine lv_aload hx hb d_Q_terms_42 (lv_at hl 0 rfl) ?_
      refine kc_v (kr_V 2 (C := "QuoteGraph$Option") (As := [.ref (lc (8 + g1)), .ref (lc (8 + g2))]) (rest := []) (c_Op_takeParts l G A lc s z u hR j hj0 h3 (some g1) (some g2) hd2 hd16) hx hb hml hown ht hw.1 gw_504 gw_505 gw_506 gw_57 gw_507 ⟨⟨by decide, by decide⟩, by decide +kernel⟩ ⟨by first | decide | (dsimp only; omega), by first | decide | (dsimp only; omega)⟩ (by have h := kr_N hw hj; rw [h3] at h; exact h) rfl hl.1 rfl (lv_room (Nat.le_of_ble_eq_true rfl)) d_Q_terms_44 ⟨by first | decide | (dsimp only; omega), by first | decide | (dsimp only; omega)⟩) hw.1 (fun _ _ _ _ _ _ h => h.elim) (fun u25 H25 locs25 hp25 hw25 => ?_)
      obtain ⟨f9, g3, g4⟩ := hp25
      have hw : Sk G A lc (ptQ s j (some g1) (some g2)) (zS_pr z (va_up (z_pr z) j f9)) n0 u u25 st H25 locs25 := ⟨hw25, g3, by rw [← hn0]; exact g4, hn0⟩
      refine lv_aload hx hb d_Q_terms_47 (lv_at hl 2 rfl) ?_
      refine lv_iload_n hx hb d_Q_terms_49 rfl (lv_at hl 6 rfl) ?_
      refine kp_chance ch hx hb ht hown hw hj h3 gw_416 d_Q_terms_50 (fun H26 locs26 u26 hw => ?_)
      refine lv_aload hx hb d_Q_terms_53 (lv_at hl 2 rfl) ?_
      refine lv_iload hx hb d_Q_terms_55 (lv_at hl 7 rfl) ?_
      refine kp_american am hx hb ht hown hw hj h3 gw_418 d_Q_terms_57 (fun H27 locs27 u27 hw => ?_)
      refine lv_aload_n hx hb d_Q_terms_60 rfl (lv_at hl 3 rfl) ?_
      refine lv_aload hx hb d_Q_terms_61 (lv_at hl 2 rfl) ?_
      refine kc_v (kr_V 1 (C := "QuoteGraph") (As := [.ref (lc (8 + j))]) (rest := []) (c_tell l G A lc 17 (qS_us (qS_ch (ptQ s j (some g1) (some g2)) (va_up (q_ch (ptQ s j (some g1) (some g2))) j ch)) (va_up (q_us (qS_ch (ptQ s j (some g1) (some g2)) (va_up (q_ch (ptQ s j (some g1) (some g2))) j ch))) j am)) (zS_pr z (va_up (z_pr z) j f9)) u27 hw.2.1 (vc_17 hR.1.1) j hj0) hx hb hml hown ht hw.1 gw_508 gw_510 gw_9 gw_42 gw_511 ⟨⟨by decide, by decide⟩, by decide +kernel⟩ ⟨by first | decide | (dsimp only; omega), by first | decide | (dsimp only; omega)⟩ (kr_Q hw) rfl hl.1 rfl (lv_room (Nat.le_of_ble_eq_true rfl)) d_Q_terms_63 ⟨by first | decide | (dsimp only; omega), by first | decide | (dsimp only; omega)⟩) hw.1 (fun _ _ _ _ _ _ h => h.elim) (fun u28 H28 locs28 hp28 hw28 => ?_)
      obtain ⟨g1, g2⟩ := hp28
      have hf9 := hw.2.2.1
      exact kt_v hx hb hr hlocks hw28 d_Q_terms_66 (by rw [eP]; exact ⟨rfl, _, g1, by rw [hn0]; exact hf9.tr (by rw [← hn0]; exact g2)⟩) (by first | decide | (dsimp only; omega)) (by first | decide | (dsimp only; omega))
set_option maxHeartbeats 4000000 in
set_option maxRecDepth 100000 in
theorem c_Q_engine (l : Launch) (hl9 : l.stackTraces = false) (G : GT) (A : Nat → Prop) (lc : Nat → Nat) (s : QS) (z : ZS) (u : WT) (hR : rQ G lc s z u) (o eg sz : Int32) : Kt l y_Q_engine b_Q_engine 6 none 37 921 1 6 0 0 1 6 G A u [.ref (lc 0), .int o, .int eg, .int sz] (KQ G A (Rv (fun u' => (pEngine s o eg sz).1 = 0 ∧ ∃ z', rQ G lc (pEngine s o eg sz).2.2 z' u' ∧ fQ lc (q_n s) u u'))) (fun E u' => (pEngine s o eg sz).1 ≠ 0 ∧ E = exS (pEngine s o eg sz).1 ∧ ∃ z', rQ G lc (pEngine s o eg sz).2.2 z' u' ∧ fQ lc (q_n s) u u') := by
  refine k_of (by decide) (Nat.le_of_ble_eq_true rfl) (fun p e st m below meth c ls hx hb hr hlocks hml htab hname hown ht hw hl => ?_)
  have hl : lv_has ls 6 [(0, .ref (lc 0)), (1, .int o), (2, .int eg), (3, .int sz)] := hl
  obtain ⟨n0, hn0⟩ : ∃ n0, q_n s = n0 := ⟨_, rfl⟩
  have hw : Sk G A lc s z n0 u u st st.heap [] := ⟨hw, hR, fQ.rf, hn0⟩
  refine lv_aload_n hx hb d_Q_engine_0 rfl (lv_at hl 0 rfl) ?_
  refine lv_iload_n hx hb d_Q_engine_1 rfl (lv_at hl 1 rfl) ?_
  refine kc_a (kr_V 1 (C := "QuoteGraph") (As := [.int o]) (rest := []) (c_Q_optionAt l hl9 G A lc s z u hR o) hx hb hml hown ht hw.1 gw_465 gw_467 gw_5 gw_42 gw_468 ⟨⟨by decide, by decide⟩, by decide +kernel⟩ ⟨by first | decide | (dsimp only; omega), by first | decide | (dsimp only; omega)⟩ (kr_Q hw) rfl hl.1 rfl (lv_room (Nat.le_of_ble_eq_true rfl)) d_Q_engine_2 ⟨by first | decide | (dsimp only; omega), by first | decide | (dsimp only; omega)⟩) hw.1 (fun E ce q9 u1 H1 locs1 hp hw1 hce hcv hcl => ?_) (fun r1 u1 H1 locs1 hp1 hw1 => ?_)
  · obtain ⟨rfl, hN, hq9⟩ := hp
    replace hq9 := hq9.symm; subst hq9
    rcases hN with hN | ⟨j, hj, rfl, hso⟩
    · exact kt_out htab hlocks hw1 hce hcv hcl (by rw [show pEngine s o eg sz = (1, (), s) from wN_f hN]; exact ⟨(by decide : (1 : Nat) ≠ 0), rfl, z, hR, fQ.rf⟩) (by decide) (by decide)
    · exact kt_out htab hlocks hw1 hce hcv hcl (by rw [show pEngine s (nI j) eg sz = (1, (), s) from (wN_t hj hR.1.1).trans (if_pos hso)]; exact ⟨(by decide : (1 : Nat) ≠ 0), rfl, z, hR, fQ.rf⟩) (by decide) (by decide)
  obtain ⟨j, hj, rfl, h3, er1, hq1⟩ := hp1; replace hq1 := hq1.symm; subst hq1; subst er1
  have hj0 := hj; rw [hn0] at hj
  have hw : Sk G A lc s z n0 u u st H1 locs1 := ⟨hw1, hw.2⟩
  have eP : pEngine s (nI j) eg sz = (if inR eg 0 2 = false then (1, (), s) else if inR sz (leastS eg) (mostS eg) = false then (1, (), s) else if q_fr s j = true then (2, (), s) else (0, (), tellF 17 (engQ s j (kN eg) sz) j)) := (wN_t hj0 hR.1.1).trans (if_neg (by rw [Classical.not_not]; exact h3))
  refine lv_astore (lv' := [(4, .ref (lc (8 + j))), (0, .ref (lc 0)), (1, .int (nI j)), (2, .int eg), (3, .int sz)]) hx hb d_Q_engine_5 hl (by decide) rfl (fun ls hl => ?_)
  refine lv_iload_n hx hb d_Q_engine_7 rfl (lv_at hl 3 rfl) ?_
  refine lv_iconst (v := 0) hx hb d_Q_engine_8 (by decide) ?_
  refine lv_aload_n hx hb d_Q_engine_9 rfl (lv_at hl 1 rfl) ?_
  refine kg_Q 1 (by decide) hx hb ht hown hw gw_122 rfl rfl d_Q_engine_10 ?_
  obtain ⟨hm2, he2⟩ := hR.at (liv_s (k := 2) (by omega))
  refine k_alen 5 (v := 3) hx hb hw.1 hm2 he2 rfl rfl d_Q_engine_13 ?_
  refine lv_iconst (v := 1) hx hb d_Q_engine_14 (by decide) ?_
  refine lv_isub hx hb d_Q_engine_15 ?_
  refine kc_v (kr_S 3 (As := [.int eg, .int (0 : Int32), .int ((3 : Int32) - (1 : Int32))]) (rest := []) (c_Q_checkRange l hl9 G A u eg 0 2) hx hb hml hown ht hw.1 gw_389 gw_390 gw_42 gw_391 ⟨⟨by decide, by decide⟩, by decide +kernel⟩ ⟨by first | decide | (dsimp only; omega), by first | decide | (dsimp only; omega)⟩ rfl hl.1 rfl (lv_room (Nat.le_of_ble_eq_true rfl)) d_Q_engine_16 ⟨by first | decide | (dsimp only; omega), by first | decide | (dsimp only; omega)⟩) hw.1 (fun E ce q9 u1 H1 locs1 hp hw1 hce hcv hcl => ?_) (fun u2 H2 locs2 hp2 hw2 => ?_)
  · obtain ⟨rfl, hN, hq9⟩ := hp
    replace hq9 := hq9.symm; subst hq9
    exact kt_out htab hlocks hw1 hce hcv hcl (by rw [eP, if_pos (inR_f hN)]; exact ⟨(by decide : (1 : Nat) ≠ 0), rfl, z, hR, fQ.rf⟩) (by decide) (by decide)
  obtain ⟨hlo2, hhi2, hq2⟩ := hp2; replace hq2 := hq2.symm; subst hq2
  have hw : Sk G A lc s z n0 u u st H2 locs2 := ⟨hw2, hw.2⟩
  rw [if_neg (by rw [inR_t hlo2 hhi2]; decide)] at eP
  refine lv_aload_n hx hb d_Q_engine_19 rfl (lv_at hl 1 rfl) ?_
  refine kg_Q 1 (by decide) hx hb ht hown hw gw_122 rfl rfl d_Q_engine_20 ?_
  refine lv_iload_n hx hb d_Q_engine_23 rfl (lv_at hl 3 rfl) ?_
  rcases e_of hlo2 hhi2 with rfl | rfl | rfl
  · refine ka_engines (k := 0) rfl (by decide) hx hb hw d_Q_engine_24 ?_
    obtain ⟨hmE, heE⟩ := hR.at (liv_s (k := 5 + 0) (by omega))
    have heE : u.2 (lc (5 + 0)) = .inr (5, [.int 0, .int 0, .ref (lc 3)]) := heE
    refine lv_astore (lv' := [(5, .ref (lc (5 + 0))), (4, .ref (lc (8 + j))), (0, .ref (lc 0)), (1, .int (nI j)), (2, .int (nI 0)), (3, .int sz)]) hx hb d_Q_engine_25 hl (by decide) rfl (fun ls hl => ?_)
    refine lv_iload_n hx hb d_Q_engine_27 rfl (lv_at hl 5 rfl) ?_
    refine lv_aload hx hb d_Q_engine_28 (lv_at hl 0 rfl) ?_
    refine k_get hx hb ht i_La hown hw.1 hmE heE rfl 0 (by decide) gw_86 (fun _ h => h) rfl d_Q_engine_30 ?_
    refine lv_aload hx hb d_Q_engine_33 (lv_at hl 0 rfl) ?_
    refine k_get hx hb ht i_La hown hw.1 hmE heE rfl 1 (by decide) gw_88 (fun _ h => h) rfl d_Q_engine_35 ?_
    replace eP : pEngine s (nI j) (nI 0) sz = (if inR sz 0 0 = false then (1, (), s) else if q_fr s j = true then (2, (), s) else (0, (), tellF 17 (engQ s j 0 sz) j)) := eP
    refine kc_v (kr_S 3 (As := [.int sz, .int (0 : Int32), .int (0 : Int32)]) (rest := []) (c_Q_checkRange l hl9 G A u sz 0 0) hx hb hml hown ht hw.1 gw_389 gw_390 gw_42 gw_391 ⟨⟨by decide, by decide⟩, by decide +kernel⟩ ⟨by first | decide | (dsimp only; omega), by first | decide | (dsimp only; omega)⟩ rfl hl.1 rfl (lv_room (Nat.le_of_ble_eq_true rfl)) d_Q_engine_38 ⟨by first | decide | (dsimp only; omega), by first | decide | (dsimp only; omega)⟩) hw.1 (fun E ce q9 u1 H1 locs1 hp hw1 hce hcv hcl => ?_) (fun u3 H3 locs3 hp3 hw3 => ?_)
    · obtain ⟨rfl, hN, hq9⟩ := hp
      replace hq9 := hq9.symm; subst hq9
      exact kt_out htab hlocks hw1 hce hcv hcl (by rw [eP, if_pos (inR_f hN)]; exact ⟨(by decide : (1 : Nat) ≠ 0), rfl, z, hR, fQ.rf⟩) (by decide) (by decide)
    obtain ⟨hlo3, hhi3, hq3⟩ := hp3; replace hq3 := hq3.symm; subst hq3
    have hw : Sk G A lc s z n0 u u st H3 locs3 := ⟨hw3, hw.2⟩
    rw [if_neg (by rw [inR_t hlo3 hhi3]; decide)] at eP
    refine lv_aload hx hb d_Q_engine_41 (lv_at hl 1 rfl) ?_
    refine kc_v (kr_S 1 (As := [.ref (lc (8 + j))]) (rest := []) (c_Q_checkNotFrozen l hl9 G A lc s z u hR j hj0) hx hb hml hown ht hw.1 gw_500 gw_501 gw_42 gw_502 ⟨⟨by decide, by decide⟩, by decide +kernel⟩ ⟨by first | decide | (dsimp only; omega), by first | decide | (dsimp only; omega)⟩ rfl hl.1 rfl (lv_room (Nat.le_of_ble_eq_true rfl)) d_Q_engine_43 ⟨by first | decide | (dsimp only; omega), by first | decide | (dsimp only; omega)⟩) hw.1 (fun E ce q9 u1 H1 locs1 hp hw1 hce hcv hcl => ?_) (fun u4 H4 locs4 hp4 hw4 => ?_)
    · obtain ⟨rfl, hN, hq9⟩ := hp
      replace hq9 := hq9.symm; subst hq9
      exact kt_out htab hlocks hw1 hce hcv hcl (by rw [eP, if_pos hN]; exact ⟨(by decide : (2 : Nat) ≠ 0), rfl, z, hR, fQ.rf⟩) (by decide) (by decide)
    obtain ⟨hfr, hq4⟩ := hp4; replace hq4 := hq4.symm; subst hq4
    have hw : Sk G A lc s z n0 u u st H4 locs4 := ⟨hw4, hw.2⟩
    rw [if_neg (by rw [hfr]; decide)] at eP
    refine lv_aload hx hb d_Q_engine_46 (lv_at hl 1 rfl) ?_
    refine lv_aload hx hb d_Q_engine_48 (lv_at hl 0 rfl) ?_
    refine kp_engine 0 (by decide) hx hb ht hown hw hj h3 gw_421 d_Q_engine_50 (fun H5 locs5 u5 hw => ?_)
    refine lv_aload hx hb d_Q_engine_53 (lv_at hl 1 rfl) ?_
    refine lv_iload_n hx hb d_Q_engine_55 rfl (lv_at hl 5 rfl) ?_
    refine kp_size sz hx hb ht hown hw hj h3 gw_424 d_Q_engine_56 (fun H6 locs6 u6 hw => ?_)
    refine lv_aload_n hx hb d_Q_engine_59 rfl (lv_at hl 2 rfl) ?_
    refine lv_aload hx hb d_Q_engine_60 (lv_at hl 1 rfl) ?_
    refine kc_v (kr_V 1 (C := "QuoteGraph") (As := [.ref (lc (8 + j))]) (rest := []) (c_tell l G A lc 17 (qS_sz (qS_en s (va_up (q_en s) j 0)) (va_up (q_sz (qS_en s (va_up (q_en s) j 0))) j sz)) z u6 hw.2.1 (vc_17 hR.1.1) j hj0) hx hb hml hown ht hw.1 gw_508 gw_510 gw_9 gw_42 gw_511 ⟨⟨by decide, by decide⟩, by decide +kernel⟩ ⟨by first | decide | (dsimp only; omega), by first | decide | (dsimp only; omega)⟩ (kr_Q hw) rfl hl.1 rfl (lv_room (Nat.le_of_ble_eq_true rfl)) d_Q_engine_62 ⟨by first | decide | (dsimp only; omega), by first | decide | (dsimp only; omega)⟩) hw.1 (fun _ _ _ _ _ _ h => h.elim) (fun u7 H7 locs7 hp7 hw7 => ?_)
    obtain ⟨g1, g2⟩ := hp7
    have hf9 := hw.2.2.1
    exact kt_v hx hb hr hlocks hw7 d_Q_engine_65 (by rw [eP]; exact ⟨rfl, _, g1, by rw [hn0]; exact hf9.tr (by rw [← hn0]; exact g2)⟩) (by first | decide | (dsimp only; omega)) (by first | decide | (dsimp only; omega))
  · refine ka_engines (k := 1) rfl (by decide) hx hb hw d_Q_engine_24 ?_
    obtain ⟨hmE, heE⟩ := hR.at (liv_s (k := 5 + 1) (by omega))
    have heE : u.2 (lc (5 + 1)) = .inr (6, [.int 0, .int 6, .long (z_dw z)]) := heE
    refine lv_astore (lv' := [(5, .ref (lc (5 + 1))), (4, .ref (lc (8 + j))), (0, .ref (lc 0)), (1, .int (nI j)), (2, .int (nI 1)), (3, .int sz)]) hx hb d_Q_engine_25 hl (by decide) rfl (fun ls hl => ?_)
    refine lv_iload_n hx hb d_Q_engine_27 rfl (lv_at hl 5 rfl) ?_
    refine lv_aload hx hb d_Q_engine_28 (lv_at hl 0 rfl) ?_
    refine k_get hx hb ht i_Pa hown hw.1 hmE heE rfl 0 (by decide) gw_86 (fun _ h => h) rfl d_Q_engine_30 ?_
    refine lv_aload hx hb d_Q_engine_33 (lv_at hl 0 rfl) ?_
    refine k_get hx hb ht i_Pa hown hw.1 hmE heE rfl 1 (by decide) gw_88 (fun _ h => h) rfl d_Q_engine_35 ?_
    replace eP : pEngine s (nI j) (nI 1) sz = (if inR sz 0 6 = false then (1, (), s) else if q_fr s j = true then (2, (), s) else (0, (), tellF 17 (engQ s j 1 sz) j)) := eP
    refine kc_v (kr_S 3 (As := [.int sz, .int (0 : Int32), .int (6 : Int32)]) (rest := []) (c_Q_checkRange l hl9 G A u sz 0 6) hx hb hml hown ht hw.1 gw_389 gw_390 gw_42 gw_391 ⟨⟨by decide, by decide⟩, by decide +kernel⟩ ⟨by first | decide | (dsimp only; omega), by first | decide | (dsimp only; omega)⟩ rfl hl.1 rfl (lv_room (Nat.le_of_ble_eq_true rfl)) d_Q_engine_38 ⟨by first | decide | (dsimp only; omega), by first | decide | (dsimp only; omega)⟩) hw.1 (fun E ce q9 u1 H1 locs1 hp hw1 hce hcv hcl => ?_) (fun u8 H8 locs8 hp8 hw8 => ?_)
    · obtain ⟨rfl, hN, hq9⟩ := hp
      replace hq9 := hq9.symm; subst hq9
      exact kt_out htab hlocks hw1 hce hcv hcl (by rw [eP, if_pos (inR_f hN)]; exact ⟨(by decide : (1 : Nat) ≠ 0), rfl, z, hR, fQ.rf⟩) (by decide) (by decide)
    obtain ⟨hlo8, hhi8, hq8⟩ := hp8; replace hq8 := hq8.symm; subst hq8
    have hw : Sk G A lc s z n0 u u st H8 locs8 := ⟨hw8, hw.2⟩
    rw [if_neg (by rw [inR_t hlo8 hhi8]; decide)] at eP
    refine lv_aload hx hb d_Q_engine_41 (lv_at hl 1 rfl) ?_
    refine kc_v (kr_S 1 (As := [.ref (lc (8 + j))]) (rest := []) (c_Q_checkNotFrozen l hl9 G A lc s z u hR j hj0) hx hb hml hown ht hw.1 gw_500 gw_501 gw_42 gw_502 ⟨⟨by decide, by decide⟩, by decide +kernel⟩ ⟨by first | decide | (dsimp only; omega), by first | decide | (dsimp only; omega)⟩ rfl hl.1 rfl (lv_room (Nat.le_of_ble_eq_true rfl)) d_Q_engine_43 ⟨by first | decide | (dsimp only; omega), by first | decide | (dsimp only; omega)⟩) hw.1 (fun E ce q9 u1 H1 locs1 hp hw1 hce hcv hcl => ?_) (fun u9 H9 locs9 hp9 hw9 => ?_)
    · obtain ⟨rfl, hN, hq9⟩ := hp
      replace hq9 := hq9.symm; subst hq9
      exact kt_out htab hlocks hw1 hce hcv hcl (by rw [eP, if_pos hN]; exact ⟨(by decide : (2 : Nat) ≠ 0), rfl, z, hR, fQ.rf⟩) (by decide) (by decide)
    obtain ⟨hfr, hq9⟩ := hp9; replace hq9 := hq9.symm; subst hq9
    have hw : Sk G A lc s z n0 u u st H9 locs9 := ⟨hw9, hw.2⟩
    rw [if_neg (by rw [hfr]; decide)] at eP
    refine lv_aload hx hb d_Q_engine_46 (lv_at hl 1 rfl) ?_
    refine lv_aload hx hb d_Q_engine_48 (lv_at hl 0 rfl) ?_
    refine kp_engine 1 (by decide) hx hb ht hown hw hj h3 gw_421 d_Q_engine_50 (fun H10 locs10 u10 hw => ?_)
    refine lv_aload hx hb d_Q_engine_53 (lv_at hl 1 rfl) ?_
    refine lv_iload_n hx hb d_Q_engine_55 rfl (lv_at hl 5 rfl) ?_
    refine kp_size sz hx hb ht hown hw hj h3 gw_424 d_Q_engine_56 (fun H11 locs11 u11 hw => ?_)
    refine lv_aload_n hx hb d_Q_engine_59 rfl (lv_at hl 2 rfl) ?_
    refine lv_aload hx hb d_Q_engine_60 (lv_at hl 1 rfl) ?_
    refine kc_v (kr_V 1 (C := "QuoteGraph") (As := [.ref (lc (8 + j))]) (rest := []) (c_tell l G A lc 17 (qS_sz (qS_en s (va_up (q_en s) j 1)) (va_up (q_sz (qS_en s (va_up (q_en s) j 1))) j sz)) z u11 hw.2.1 (vc_17 hR.1.1) j hj0) hx hb hml hown ht hw.1 gw_508 gw_510 gw_9 gw_42 gw_511 ⟨⟨by decide, by decide⟩, by decide +kernel⟩ ⟨by first | decide | (dsimp only; omega), by first | decide | (dsimp only; omega)⟩ (kr_Q hw) rfl hl.1 rfl (lv_room (Nat.le_of_ble_eq_true rfl)) d_Q_engine_62 ⟨by first | decide | (dsimp only; omega), by first | decide | (dsimp only; omega)⟩) hw.1 (fun _ _ _ _ _ _ h => h.elim) (fun u12 H12 locs12 hp12 hw12 => ?_)
    obtain ⟨g1, g2⟩ := hp12
    have hf9 := hw.2.2.1
    exact kt_v hx hb hr hlocks hw12 d_Q_engine_65 (by rw [eP]; exact ⟨rfl, _, g1, by rw [hn0]; exact hf9.tr (by rw [← hn0]; exact g2)⟩) (by first | decide | (dsimp only; omega)) (by first | decide | (dsimp only; omega))
  · refine ka_engines (k := 2) rfl (by decide) hx hb hw d_Q_engine_24 ?_
    obtain ⟨hmE, heE⟩ := hR.at (liv_s (k := 5 + 2) (by omega))
    have heE : u.2 (lc (5 + 2)) = .inr (7, [.int 1, .int 20, .ref (lc 4)]) := heE
    refine lv_astore (lv' := [(5, .ref (lc (5 + 2))), (4, .ref (lc (8 + j))), (0, .ref (lc 0)), (1, .int (nI j)), (2, .int (nI 2)), (3, .int sz)]) hx hb d_Q_engine_25 hl (by decide) rfl (fun ls hl => ?_)
    refine lv_iload_n hx hb d_Q_engine_27 rfl (lv_at hl 5 rfl) ?_
    refine lv_aload hx hb d_Q_engine_28 (lv_at hl 0 rfl) ?_
    refine k_get hx hb ht i_Ne hown hw.1 hmE heE rfl 0 (by decide) gw_86 (fun _ h => h) rfl d_Q_engine_30 ?_
    refine lv_aload hx hb d_Q_engine_33 (lv_at hl 0 rfl) ?_
    refine k_get hx hb ht i_Ne hown hw.1 hmE heE rfl 1 (by decide) gw_88 (fun _ h => h) rfl d_Q_engine_35 ?_
    replace eP : pEngine s (nI j) (nI 2) sz = (if inR sz 1 20 = false then (1, (), s) else if q_fr s j = true then (2, (), s) else (0, (), tellF 17 (engQ s j 2 sz) j)) := eP
    refine kc_v (kr_S 3 (As := [.int sz, .int (1 : Int32), .int (20 : Int32)]) (rest := []) (c_Q_checkRange l hl9 G A u sz 1 20) hx hb hml hown ht hw.1 gw_389 gw_390 gw_42 gw_391 ⟨⟨by decide, by decide⟩, by decide +kernel⟩ ⟨by first | decide | (dsimp only; omega), by first | decide | (dsimp only; omega)⟩ rfl hl.1 rfl (lv_room (Nat.le_of_ble_eq_true rfl)) d_Q_engine_38 ⟨by first | decide | (dsimp only; omega), by first | decide | (dsimp only; omega)⟩) hw.1 (fun E ce q9 u1 H1 locs1 hp hw1 hce hcv hcl => ?_) (fun u13 H13 locs13 hp13 hw13 => ?_)
    · obtain ⟨rfl, hN, hq9⟩ := hp
      replace hq9 := hq9.symm; subst hq9
      exact kt_out htab hlocks hw1 hce hcv hcl (by rw [eP, if_pos (inR_f hN)]; exact ⟨(by decide : (1 : Nat) ≠ 0), rfl, z, hR, fQ.rf⟩) (by decide) (by decide)
    obtain ⟨hlo13, hhi13, hq13⟩ := hp13; replace hq13 := hq13.symm; subst hq13
    have hw : Sk G A lc s z n0 u u st H13 locs13 := ⟨hw13, hw.2⟩
    rw [if_neg (by rw [inR_t hlo13 hhi13]; decide)] at eP
    refine lv_aload hx hb d_Q_engine_41 (lv_at hl 1 rfl) ?_
    refine kc_v (kr_S 1 (As := [.ref (lc (8 + j))]) (rest := []) (c_Q_checkNotFrozen l hl9 G A lc s z u hR j hj0) hx hb hml hown ht hw.1 gw_500 gw_501 gw_42 gw_502 ⟨⟨by decide, by decide⟩, by decide +kernel⟩ ⟨by first | decide | (dsimp only; omega), by first | decide | (dsimp only; omega)⟩ rfl hl.1 rfl (lv_room (Nat.le_of_ble_eq_true rfl)) d_Q_engine_43 ⟨by first | decide | (dsimp only; omega), by first | decide | (dsimp only; omega)⟩) hw.1 (fun E ce q9 u1 H1 locs1 hp hw1 hce hcv hcl => ?_) (fun u14 H14 locs14 hp14 hw14 => ?_)
    · obtain ⟨rfl, hN, hq9⟩ := hp
      replace hq9 := hq9.symm; subst hq9
      exact kt_out htab hlocks hw1 hce hcv hcl (by rw [eP, if_pos hN]; exact ⟨(by decide : (2 : Nat) ≠ 0), rfl, z, hR, fQ.rf⟩) (by decide) (by decide)
    obtain ⟨hfr, hq14⟩ := hp14; replace hq14 := hq14.symm; subst hq14
    have hw : Sk G A lc s z n0 u u st H14 locs14 := ⟨hw14, hw.2⟩
    rw [if_neg (by rw [hfr]; decide)] at eP
    refine lv_aload hx hb d_Q_engine_46 (lv_at hl 1 rfl) ?_
    refine lv_aload hx hb d_Q_engine_48 (lv_at hl 0 rfl) ?_
    refine kp_engine 2 (by decide) hx hb ht hown hw hj h3 gw_421 d_Q_engine_50 (fun H15 locs15 u15 hw => ?_)
    refine lv_aload hx hb d_Q_engine_53 (lv_at hl 1 rfl) ?_
    refine lv_iload_n hx hb d_Q_engine_55 rfl (lv_at hl 5 rfl) ?_
    refine kp_size sz hx hb ht hown hw hj h3 gw_424 d_Q_engine_56 (fun H16 locs16 u16 hw => ?_)
    refine lv_aload_n hx hb d_Q_engine_59 rfl (lv_at hl 2 rfl) ?_
    refine lv_aload hx hb d_Q_engine_60 (lv_at hl 1 rfl) ?_
    refine kc_v (kr_V 1 (C := "QuoteGraph") (As := [.ref (lc (8 + j))]) (rest := []) (c_tell l G A lc 17 (qS_sz (qS_en s (va_up (q_en s) j 2)) (va_up (q_sz (qS_en s (va_up (q_en s) j 2))) j sz)) z u16 hw.2.1 (vc_17 hR.1.1) j hj0) hx hb hml hown ht hw.1 gw_508 gw_510 gw_9 gw_42 gw_511 ⟨⟨by decide, by decide⟩, by decide +kernel⟩ ⟨by first | decide | (dsimp only; omega), by first | decide | (dsimp only; omega)⟩ (kr_Q hw) rfl hl.1 rfl (lv_room (Nat.le_of_ble_eq_true rfl)) d_Q_engine_62 ⟨by first | decide | (dsimp only; omega), by first | decide | (dsimp only; omega)⟩) hw.1 (fun _ _ _ _ _ _ h => h.elim) (fun u17 H17 locs17 hp17 hw17 => ?_)
    obtain ⟨g1, g2⟩ := hp17
    have hf9 := hw.2.2.1
    exact kt_v hx hb hr hlocks hw17 d_Q_engine_65 (by rw [eP]; exact ⟨rfl, _, g1, by rw [hn0]; exact hf9.tr (by rw [← hn0]; exact g2)⟩) (by first | decide | (dsimp only; omega)) (by first | decide | (dsimp only; omega))

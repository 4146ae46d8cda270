/-! 34.make2: contracts of quote, blend, greater, option -/
theorem NP.put {u u1 u2 : WT} {a b : Nat} {x x' y : va_E} (h : NP u u1 a x b y) (hab : a ≠ b) (h' : N1 u1 u2 a x') : NP u u2 a x' b y := ⟨h.1, h'.1.trans h.2.1, h'.2.1, (h'.2.2 b (Ne.symm hab)).trans h.2.2.2.1, fun c h1 h2 => (h'.2.2 c h1).trans (h.2.2.2.2 c h1 h2)⟩
theorem ndB_new {lc : Nat → Nat} {s : QS} {z : ZS} {a b t : Nat} {am : Int64} {pa pb : Option Nat} {wa wb : Int64} {kd sp : Int32} {f : Nat → Option Nat} (hn : q_n s < 16) : ndB (addL lc (q_n s) a b) (addQ s t am pa pb wa wb kd sp) (addZ z (q_n s) f) (q_n s) = [.int (nI (q_n s)), .ref b, .int (nI (if t = 0 then 0 else 2)), .long am, .int (bI (decide (t = 0))), .int 0, .int 0, .int 0, .long 0, .int 0] := by
  have hnp : np (addQ s t am pa pb wa wb kd sp) (q_n s) = if t = 0 then 0 else 2 := by
    unfold np
    rw [show q_pt (addQ s t am pa pb wa wb kd sp) (q_n s) = (fun k => if k = 0 then pa else if k = 1 then pb else none) from va_up_self _ _ _, show q_so (addQ s t am pa pb wa wb kd sp) (q_n s) = t from va_up_self _ _ _]; rfl
  show ([.int (nI (q_n s)), .ref (addL lc (q_n s) a b (24 + q_n s)), .int (nI (np (addQ s t am pa pb wa wb kd sp) (q_n s))), .long (va_up (q_am s) (q_n s) am (q_n s)), .int (bI (va_up (q_va s) (q_n s) (decide (t = 0)) (q_n s))), .int (bI (va_up (q_fr s) (q_n s) false (q_n s))), .int (bI (va_up (q_mi s) (q_n s) false (q_n s))), .int (va_up (q_tw s) (q_n s) 0 (q_n s)), .long (va_up (z_ra z) (q_n s) 0 (q_n s)), .int (bI (va_up (z_rv z) (q_n s) false (q_n s)))] : List Value) = _
  rw [hnp, va_up_self, va_up_self, va_up_self, va_up_self, va_up_self, va_up_self, va_up_self, show addL lc (q_n s) a b (24 + q_n s) = b by unfold addL; rw [if_neg (by omega), if_pos rfl]]; rfl
theorem ndX_new {lc : Nat → Nat} {s : QS} {a b t : Nat} {am : Int64} {pa pb : Option Nat} {wa wb : Int64} {kd sp : Int32} (hn : q_n s < 16) (h : t = 0 ∨ t = 2) : ndX (addL lc (q_n s) a b) (addQ s t am pa pb wa wb kd sp) (q_n s) = [] := by
  unfold ndX
  rw [show q_so (addQ s t am pa pb wa wb kd sp) (q_n s) = t from va_up_self _ _ _, if_neg (by omega), if_neg (by omega)]
theorem ndX_new1 {lc : Nat → Nat} {s : QS} {a b : Nat} {am : Int64} {pa pb : Option Nat} {wa wb : Int64} {kd sp : Int32} (hn : q_n s < 16) : ndX (addL lc (q_n s) a b) (addQ s 1 am pa pb wa wb kd sp) (q_n s) = [.long wa, .long wb] := by
  rw [ndX_B (show q_so (addQ s 1 am pa pb wa wb kd sp) (q_n s) = 1 from va_up_self _ _ _)]
  show ([.long (va_up (q_wa s) (q_n s) wa (q_n s)), .long (va_up (q_wb s) (q_n s) wb (q_n s))] : List Value) = _
  rw [va_up_self, va_up_self]
theorem ndX_new3 {lc : Nat → Nat} {s : QS} {a b i j : Nat} {am : Int64} {wa wb : Int64} {kd sp : Int32} (hn : q_n s < 16) (hi : i < q_n s) (hj : j < q_n s) : ndX (addL lc (q_n s) a b) (addQ s 3 am (some i) (some j) wa wb kd sp) (q_n s) = [.ref (lc (8 + i)), .ref (lc (8 + j)), .int kd, .long wa, .int sp, .null, .null, .int 8, .int 0, .ref (lc 5), .int 0] := by
  rw [ndX_O (show q_so (addQ s 3 am (some i) (some j) wa wb kd sp) (q_n s) = 3 from va_up_self _ _ _)]
  rw [show q_pt (addQ s 3 am (some i) (some j) wa wb kd sp) (q_n s) = (fun k => if k = 0 then some i else if k = 1 then some j else none) from va_up_self _ _ _]
  show ([.ref (addL lc (q_n s) a b (8 + i)), .ref (addL lc (q_n s) a b (8 + j)), .int (va_up (q_kd s) (q_n s) kd (q_n s)), .long (va_up (q_wa s) (q_n s) wa (q_n s)), .int (va_up (q_sp s) (q_n s) sp (q_n s)), .null, .null, .int (va_up (q_ch s) (q_n s) 8 (q_n s)), .int (bI (va_up (q_us s) (q_n s) false (q_n s))), .ref (addL lc (q_n s) a b (5 + va_up (q_en s) (q_n s) 0 (q_n s))), .int (va_up (q_sz s) (q_n s) 0 (q_n s))] : List Value) = _
  rw [va_up_self, va_up_self, va_up_self, va_up_self, va_up_self, va_up_self, va_up_self, addL_o (liv_n hi) hn, addL_o (liv_n hj) hn, addL_o (liv_s (by omega)) hn]; rfl
/-- the call's world: the state S', the class's places may be more; what was not the class's is not now -/
def gQ (G : GT) (lc : Nat → Nat) (s : QS) (u : WT) (S' : QS) (u' : WT) : Prop := ∃ (lc' : Nat → Nat) (z' : ZS), lc' 0 = lc 0 ∧ rQ G lc' S' z' u' ∧ fQ lc (q_n s) u u' ∧ ∀ c, c ∈ u.1 → (∀ k, liv (q_n s) k → lc k ≠ c) → ∀ k, liv (q_n S') k → lc' k ≠ c
theorem gQ.of {G : GT} {lc : Nat → Nat} {s S' : QS} {u u' : WT} (hn : q_n S' = q_n s) (h : ∃ z', rQ G lc S' z' u' ∧ fQ lc (q_n s) u u') : gQ G lc s u S' u' := by
  obtain ⟨z', h1, h2⟩ := h
  exact ⟨lc, z', rfl, h1, h2, fun c _ h k hk => h k (by rw [← hn]; exact hk)⟩
theorem gQ.rf {G : GT} {lc : Nat → Nat} {s : QS} {z : ZS} {u : WT} (h : rQ G lc s z u) : gQ G lc s u s u := gQ.of rfl ⟨z, h, fQ.rf⟩
theorem gQ_add {G : GT} {lc : Nat → Nat} {s : QS} {z : ZS} {u u1 u2 u' : WT} (hR : rQ G lc s z u) (hn : q_n s < 16) {t : Nat} {am : Int64} {pa pb : Option Nat} {wa wb : Int64} {kd sp : Int32} {f : Nat → Option Nat} {a b : Nat} {v x y : va_E} (ht : t < 4)
    (hp0 : t = 0 → pa = none ∧ pb = none) (hp1 : t ≠ 0 → ∃ i j, pa = some i ∧ pb = some j ∧ i < q_n s ∧ j < q_n s ∧ f 0 = some (lc (8 + i)) ∧ f 1 = some (lc (8 + j))) (h : NB u u1 a v) (h' : NP u1 u2 a x b y)
    (hx : x = .inr (t + 1, ndB (addL lc (q_n s) a b) (addQ s t am pa pb wa wb kd sp) (addZ z (q_n s) f) (q_n s) ++ ndX (addL lc (q_n s) a b) (addQ s t am pa pb wa wb kd sp) (q_n s))) (hy : y = .inl (G.2.1 4, plen t, rfs f)) (hu : u'.1 = u2.1)
    (e0 : u'.2 (lc 0) = .inr (0, [.ref (lc 1), .ref (lc 2), .int (nI (q_n s + 1)), .int (q_tl s), .int (q_wk s), .int (q_fl s)])) (e1 : u'.2 (lc 1) = .inl (G.2.1 4, 16, rfs (va_up (fun j => if j < q_n s then some (lc (8 + j)) else none) (q_n s) (some a)))) (ho : ∀ c, c ≠ lc 0 → c ≠ lc 1 → u'.2 c = u2.2 c) : gQ G lc s u (addQ s t am pa pb wa wb kd sp) u' := by
  have hw := NewN.mk hR h h' hu e0 e1 ho
  subst hx hy
  obtain ⟨g1, g2⟩ := rQ_add hR hn ht hp0 hp1 hw
  refine ⟨_, _, addL_o (liv_s (by omega)) hn, g1, g2, fun c hc hne k hk => ?_⟩
  rcases (liv_s1 hn).mp hk with hl | rfl | rfl
  · rw [addL_o hl hn]; exact hne k hl
  · rw [show addL lc (q_n s) a b (8 + q_n s) = a by unfold addL; rw [if_pos rfl]]; exact fun e => hw.ha (e ▸ hc)
  · rw [show addL lc (q_n s) a b (24 + q_n s) = b by unfold addL; rw [if_neg (by omega), if_pos rfl]]; exact fun e => hw.hb (e ▸ hc)
def room (s : QS) (s' : QS) : Nat × Int32 × QS := if q_n s < 16 then (0, nI (q_n s), s') else (2, 0, s)
def pQuote (s : QS) (i : Int32) : Nat × Int32 × QS := if inE i 100000 = false then (1, 0, s) else room s (addQ s 0 (128 * i.toInt64) none none 0 0 0 0)
def pBlend (s : QS) (a b x y : Int32) : Nat × Int32 × QS := wN s a 0 (fun i => wN s b 0 (fun j => if inE x 16 = false then (1, 0, s) else if inE y 16 = false then (1, 0, s) else room s (addQ s 1 0 (some i) (some j) x.toInt64 y.toInt64 0 0)))
def pGreater (s : QS) (a b : Int32) : Nat × Int32 × QS := wN s a 0 (fun i => wN s b 0 (fun j => room s (addQ s 2 0 (some i) (some j) 0 0 0 0)))
def inR (x a b : Int32) : Bool := decide (¬ x < a) && decide (x ≤ b)
theorem inR_t {x a b : Int32} (h1 : ¬ x < a) (h2 : x ≤ b) : inR x a b = true := by unfold inR; rw [decide_eq_true h1, decide_eq_true h2]; rfl
theorem inR_f {x a b : Int32} (h : x < a ∨ b < x) : inR x a b = false := by
  unfold inR
  rcases h with h | h
  · rw [decide_eq_false (p := ¬ x < a) (fun g => g h), Bool.false_and]
  · rw [decide_eq_false (p := x ≤ b) (fun g => by rw [← i_nlt] at g; exact g h), Bool.and_false]
def pOption (s : QS) (a b kd x sp : Int32) : Nat × Int32 × QS := wN s a 0 (fun i => wN s b 0 (fun j => if inR kd 0 3 = false then (1, 0, s) else if inE x 100000 = false then (1, 0, s) else if inR sp 1 20 = false then (1, 0, s) else room s (addQ s 3 0 (some i) (some j) (128 * x.toInt64) 0 kd sp)))
section XEng
variable {p : Program} {l : Launch} {e : Env} {R : Room} {st : State} {m : MethodId} {args : Array Value} {below : List Frame} {meth : Method} {c : Code} {H : Heap} {locs : List Loc} {cells slots : Nat} {Q : State → Prop}
variable {cc : ByteArray} {pc : Nat} {ls : Array Slot} {rest : List Value} {G : GT} {A : Nat → Prop} {u0 u : WT} {lc : Nat → Nat} {s : QS} {z : ZS} {n0 : Nat}
/-- the k-th engine -/
theorem ka_engines {i : Int32} {k : Nat} (hi : i = nI k) (hk : k < 3) (hexec : p.tables.exec = Jvm.exec) (hb : c.code = cc) (hw : Sk G A lc s z n0 u0 u st H locs) (hdg : decode cc pc = .ok (.aaload, 1))
    (kk : W p l e R st m args below meth c H locs cells slots Q (F0 m (pc + 1) ls (.ref (lc (5 + k)) :: rest))) : W p l e R st m args below meth c H locs cells slots Q (F0 m pc ls (.int i :: .ref (lc 2) :: rest)) := by
  obtain ⟨ha, he⟩ := hw.2.1.at (liv_s (k := 2) (by omega))
  subst hi
  refine k_aldq 5 hexec hb hw.1 ha he rfl (vp_in_nI (by omega) (by omega)) hdg ?_
  rw [nI_clamp (by omega)]
  show W p l e R st m args below meth c H locs cells slots Q (F0 m (pc + 1) ls (va_rf (if k < 3 then some (lc (5 + k)) else none) :: rest))
  rw [if_pos hk]
  exact kk
end XEng
theorem Sk_nd {G : GT} {A : Nat → Prop} {lc : Nat → Nat} {s : QS} {z : ZS} {n0 : Nat} {u0 u : WT} {st : State} {H : Heap} {locs : List Loc} {j : Nat} (hw : Sk G A lc s z n0 u0 u st H locs) (hj : j < n0) : isNd u (lc (8 + j)) := by
  obtain ⟨h1, h2, h3⟩ := hw.nj hj
  exact ⟨h1, q_so s j, _, h3, h2⟩
set_option maxHeartbeats 4000000 in
set_option maxRecDepth 100000 in
theorem c_Q_quote (l : Launch) (hl9 : l.stackTraces = false) (G : GT) (A : Nat → Prop) (lc : Nat → Nat) (s : QS) (z : ZS) (u : WT) (hR : rQ G lc s z u) (i : Int32) : Kt l y_Q_quote b_Q_quote 5 (some .int) 7 124 2 10 2 10 1 6 G A u [.ref (lc 0), .double (e8 i)] (KQ G A (Ri (fun r u' => (pQuote s i).1 = 0 ∧ r = (pQuote s i).2.1 ∧ gQ G lc s u (pQuote s i).2.2 u'))) (fun E u' => (pQuote s i).1 ≠ 0 ∧ E = exS (pQuote s i).1 ∧ gQ G lc s u (pQuote s i).2.2 u') := by
  refine k_of (by decide) (Nat.le_of_ble_eq_true rfl) (fun p e st m below meth c ls hx hb hr hlocks hml htab hname hown ht hw hl => ?_)
  have hl : lv_has ls 5 [(0, .ref (lc 0)), (1, .double (e8 i))] := hl
  obtain ⟨n0, hn0⟩ : ∃ n0, q_n s = n0 := ⟨_, rfl⟩
  have hw : Sk G A lc s z n0 u u st st.heap [] := ⟨hw, hR, fQ.rf, hn0⟩
  have eP : pQuote s i = (if inE i 100000 = false then (1, 0, s) else room s (addQ s 0 (128 * i.toInt64) none none 0 0 0 0)) := rfl
  refine lv_ldc2 (v := 128) hx hb hown (ht _ gw_153) d_Q_quote_0 ?_
  refine lv_dload_n hx hb d_Q_quote_3 rfl (lv_at hl 1 rfl) ?_
  refine lv_ldc (v := 100000) hx hb hown (ht _ gw_154) d_Q_quote_4 ?_
  refine kc_l (kr_S 2 (As := [.double (e8 i), .int (100000 : Int32)]) (rest := [.long (128 : Int64)]) (c_Q_eighthsOf l hl9 G A u i 100000 (by decide) (by decide)) hx hb hml hown ht hw.1 gw_155 gw_156 gw_42 gw_157 ⟨⟨by decide, by decide⟩, by decide +kernel⟩ ⟨by first | decide | (dsimp only; omega), by first | decide | (dsimp only; omega)⟩ rfl hl.1 rfl (lv_room (Nat.le_of_ble_eq_true rfl)) d_Q_quote_6 ⟨by first | decide | (dsimp only; omega), by first | decide | (dsimp only; omega)⟩) hw.1 (fun E ce q9 u1 H1 locs1 hp hw1 hce hcv hcl => ?_) (fun r1 u1 H1 locs1 hp1 hw1 => ?_)
  · obtain ⟨rfl, hN, hq9⟩ := hp
    replace hN : inE i 100000 = false := hN
    replace hq9 := hq9.symm; subst hq9
    exact kt_out htab hlocks hw1 hce hcv hcl (by rw [eP, if_pos hN]; exact ⟨(by decide : (1 : Nat) ≠ 0), rfl, gQ.rf hR⟩) (by decide) (by decide)
  obtain ⟨er1, hini, hq1⟩ := hp1
  replace hq1 := hq1.symm; subst hq1
  have hw : Sk G A lc s z n0 u u st H1 locs1 := ⟨hw1, hw.2⟩
  subst er1
  replace hini : inE i 100000 = true := hini
  rw [if_neg (by rw [hini]; decide)] at eP
  refine lv_lmul hx hb d_Q_quote_9 ?_
  refine lv_lstore_n (lv' := [(3, .long ((128 : Int64) * i.toInt64)), (0, .ref (lc 0)), (1, .double (e8 i))]) hx hb d_Q_quote_10 rfl hl (by decide) rfl (fun ls hl => ?_)
  refine lv_aload_n hx hb d_Q_quote_11 rfl (lv_at hl 1 rfl) ?_
  refine kc_v (kr_V 0 (C := "QuoteGraph") (As := []) (rest := []) (c_Q_checkRoom l hl9 G A lc s z u hR) hx hb hml hown ht hw.1 gw_228 gw_230 gw_1 gw_42 gw_231 ⟨⟨by decide, by decide⟩, by decide +kernel⟩ ⟨by first | decide | (dsimp only; omega), by first | decide | (dsimp only; omega)⟩ (kr_Q hw) rfl hl.1 rfl (lv_room (Nat.le_of_ble_eq_true rfl)) d_Q_quote_12 ⟨by first | decide | (dsimp only; omega), by first | decide | (dsimp only; omega)⟩) hw.1 (fun E ce q9 u1 H1 locs1 hp hw1 hce hcv hcl => ?_) (fun u2 H2 locs2 hp2 hw2 => ?_)
  · obtain ⟨rfl, hN, hq9⟩ := hp
    replace hq9 := hq9.symm; subst hq9
    exact kt_out htab hlocks hw1 hce hcv hcl (by rw [eP]; unfold room; rw [if_neg (by omega)]; exact ⟨(by decide : (2 : Nat) ≠ 0), rfl, gQ.rf hR⟩) (by decide) (by decide)
  obtain ⟨hlt, hq2⟩ := hp2; replace hq2 := hq2.symm; subst hq2
  have hw : Sk G A lc s z n0 u u st H2 locs2 := ⟨hw2, hw.2⟩
  unfold room at eP; rw [if_pos hlt] at eP
  refine lv_aload_n hx hb d_Q_quote_15 rfl (lv_at hl 1 rfl) ?_
  refine k_new (ci := 1) (fs := D10 ++ ([] : List Value)) hx hb ht i_Qt t_Qt t_Qt_ok hown gw_248 gw_249 gw_54 hw.1 rfl (by decide +kernel) (by first | decide | (dsimp only; omega)) (by first | decide | (dsimp only; omega)) d_Q_quote_16 (fun a H3 ha9 hw3 => ?_)
  obtain ⟨u3, hu3⟩ : ∃ v : WT, v = (u.1 ++ [a], va_up u.2 a (.inr (1, D10 ++ ([] : List Value)))) := ⟨_, rfl⟩
  rw [← hu3] at hw3
  have nb : NB u u3 a (.inr (1, D10 ++ ([] : List Value))) := by rw [hu3]; exact ⟨ha9, rfl, va_up_self _ _ _, fun x hx => va_up_ne _ _ hx⟩
  have hw : Sk G A lc s z n0 u u3 st H3 locs2 := ⟨hw3, hR.ext (gr.nb nb), (gr.nb nb).fQ, hn0⟩
  refine lv_dup hx hb d_Q_quote_19 rfl ?_
  refine lv_aload_n hx hb d_Q_quote_20 rfl (lv_at hl 1 rfl) ?_
  refine kg_Q 2 (by decide) hx hb ht hown hw gw_123 rfl rfl d_Q_quote_21 ?_
  refine lv_lload_n hx hb d_Q_quote_24 rfl (lv_at hl 0 rfl) ?_
  refine kc_v (kr_I 2 (As := [.int (nI n0), .long ((128 : Int64) * i.toInt64)]) (rest := [.ref a, .ref (lc 0)]) (c_Qt_init l G A u3 a nb.in nb.2.2.1 (nI n0) (128 * i.toInt64)) hx hb hml hown ht hw.1 rfl gw_250 gw_251 gw_54 gw_252 ⟨⟨by decide, by decide⟩, by decide +kernel⟩ ⟨by first | decide | (dsimp only; omega), by first | decide | (dsimp only; omega)⟩ rfl hl.1 rfl (lv_room (Nat.le_of_ble_eq_true rfl)) d_Q_quote_25 ⟨by first | decide | (dsimp only; omega), by first | decide | (dsimp only; omega)⟩) hw.1 (fun _ _ _ _ _ _ h => h.elim) (fun u4 H4 locs4 hp4 hw4 => ?_)
  obtain ⟨b, np⟩ := hp4
  have hg3 : gr u u4 := gr.np nb np
  have hw : Sk G A lc s z n0 u u4 st H4 locs4 := ⟨hw4, hR.ext hg3, hg3.fQ, hn0⟩
  have hma : a ∈ u4.1 := by rw [np.2.1]; exact List.mem_append_left _ nb.in
  have hne : ∀ k, k < 8 → a ≠ lc k := fun k hk e => nb.1 (e ▸ (hR.at (liv_s hk)).1)
  refine kc_i (kr_V 1 (C := "QuoteGraph") (As := [.ref a]) (rest := []) (c_Q_add l G A lc s z u4 hw.2.1 hlt a 0 (by decide) [.ref b, .int 0, .long (128 * i.toInt64), .int 1, .int 0, .int 0, .int 0, .long 0, .int 0] ([] : List Value) hma (by rw [hn0]; exact np.2.2.1) hne) hx hb hml hown ht hw.1 gw_313 gw_315 gw_2 gw_42 gw_316 ⟨⟨by decide, by decide⟩, by decide +kernel⟩ ⟨by first | decide | (dsimp only; omega), by first | decide | (dsimp only; omega)⟩ (kr_Q hw) rfl hl.1 rfl (lv_room (Nat.le_of_ble_eq_true rfl)) d_Q_quote_28 ⟨by first | decide | (dsimp only; omega), by first | decide | (dsimp only; omega)⟩) hw.1 (fun _ _ _ _ _ _ h => h.elim) (fun r5 u5 H5 locs5 hp5 hw5 => ?_)
  obtain ⟨er5, hu9, e09, e19, ho9⟩ := hp5; subst er5
  exact kt_i hx hb hr hlocks hw5 d_Q_quote_31 (by rw [eP]; exact ⟨rfl, rfl, gQ_add hR hlt (f := fun _ => none) (by decide) (fun _ => ⟨rfl, rfl⟩) (fun h => absurd rfl h) nb np (by rw [ndB_new hlt, ndX_new hlt (Or.inl rfl), hn0]; rfl) rfl hu9 e09 e19 ho9⟩) (by first | decide | (dsimp only; omega)) (by first | decide | (dsimp only; omega))
set_option maxHeartbeats 4000000 in
set_option maxRecDepth 100000 in
theorem c_Q_greater (l : Launch) (hl9 : l.stackTraces = false) (G : GT) (A : Nat → Prop) (lc : Nat → Nat) (s : QS) (z : ZS) (u : WT) (hR : rQ G lc s z u) (a0 b0 : Int32) : Kt l y_Q_greater b_Q_greater 5 (some .int) 7 121 2 12 2 12 1 6 G A u [.ref (lc 0), .int a0, .int b0] (KQ G A (Ri (fun r u' => (pGreater s a0 b0).1 = 0 ∧ r = (pGreater s a0 b0).2.1 ∧ gQ G lc s u (pGreater s a0 b0).2.2 u'))) (fun E u' => (pGreater s a0 b0).1 ≠ 0 ∧ E = exS (pGreater s a0 b0).1 ∧ gQ G lc s u (pGreater s a0 b0).2.2 u') := by
  refine k_of (by decide) (Nat.le_of_ble_eq_true rfl) (fun p e st m below meth c ls hx hb hr hlocks hml htab hname hown ht hw hl => ?_)
  have hl : lv_has ls 5 [(0, .ref (lc 0)), (1, .int a0), (2, .int b0)] := hl
  obtain ⟨n0, hn0⟩ : ∃ n0, q_n s = n0 := ⟨_, rfl⟩
  have hw : Sk G A lc s z n0 u u st st.heap [] := ⟨hw, hR, fQ.rf, hn0⟩
  refine lv_aload_n hx hb d_Q_greater_0 rfl (lv_at hl 0 rfl) ?_
  refine lv_iload_n hx hb d_Q_greater_1 rfl (lv_at hl 1 rfl) ?_
  refine kc_a (kr_V 1 (C := "QuoteGraph") (As := [.int a0]) (rest := []) (c_Q_nodeAt l hl9 G A lc s z u hw.2.1 a0) hx hb hml hown ht hw.1 gw_324 gw_326 gw_3 gw_42 gw_327 ⟨⟨by decide, by decide⟩, by decide +kernel⟩ ⟨by first | decide | (dsimp only; omega), by first | decide | (dsimp only; omega)⟩ (kr_Q hw) rfl hl.1 rfl (lv_room (Nat.le_of_ble_eq_true rfl)) d_Q_greater_2 ⟨by first | decide | (dsimp only; omega), by first | decide | (dsimp only; omega)⟩) hw.1 (fun E ce q9 u1 H1 locs1 hp hw1 hce hcv hcl => ?_) (fun r1 u1 H1 locs1 hp1 hw1 => ?_)
  · obtain ⟨rfl, hN, hq9⟩ := hp
    replace hq9 := hq9.symm; subst hq9
    exact kt_out htab hlocks hw1 hce hcv hcl (by rw [show pGreater s a0 b0 = (1, 0, s) from wN_f hN]; exact ⟨(by decide : (1 : Nat) ≠ 0), rfl, gQ.rf hR⟩) (by decide) (by decide)
  obtain ⟨i, hi, rfl, er1, hq1⟩ := hp1; replace hq1 := hq1.symm; subst hq1; subst er1
  rw [hn0] at hi
  have hw : Sk G A lc s z n0 u u st H1 locs1 := ⟨hw1, hw.2⟩
  have eP0 : pGreater s (nI i) b0 = wN s b0 0 (fun j => room s (addQ s 2 0 (some i) (some j) 0 0 0 0)) := wN_t (by rw [hn0]; exact hi) hR.1.1
  refine lv_astore_n (lv' := [(3, .ref (lc (8 + i))), (0, .ref (lc 0)), (1, .int (nI i)), (2, .int b0)]) hx hb d_Q_greater_5 rfl hl (by decide) rfl (fun ls hl => ?_)
  refine lv_aload_n hx hb d_Q_greater_6 rfl (lv_at hl 1 rfl) ?_
  refine lv_iload_n hx hb d_Q_greater_7 rfl (lv_at hl 3 rfl) ?_
  refine kc_a (kr_V 1 (C := "QuoteGraph") (As := [.int b0]) (rest := []) (c_Q_nodeAt l hl9 G A lc s z u hw.2.1 b0) hx hb hml hown ht hw.1 gw_324 gw_326 gw_3 gw_42 gw_327 ⟨⟨by decide, by decide⟩, by decide +kernel⟩ ⟨by first | decide | (dsimp only; omega), by first | decide | (dsimp only; omega)⟩ (kr_Q hw) rfl hl.1 rfl (lv_room (Nat.le_of_ble_eq_true rfl)) d_Q_greater_8 ⟨by first | decide | (dsimp only; omega), by first | decide | (dsimp only; omega)⟩) hw.1 (fun E ce q9 u1 H1 locs1 hp hw1 hce hcv hcl => ?_) (fun r2 u2 H2 locs2 hp2 hw2 => ?_)
  · obtain ⟨rfl, hN, hq9⟩ := hp
    replace hq9 := hq9.symm; subst hq9
    exact kt_out htab hlocks hw1 hce hcv hcl (by rw [eP0, wN_f hN]; exact ⟨(by decide : (1 : Nat) ≠ 0), rfl, gQ.rf hR⟩) (by decide) (by decide)
  obtain ⟨j, hj, rfl, er2, hq2⟩ := hp2; replace hq2 := hq2.symm; subst hq2; subst er2
  rw [hn0] at hj
  have hw : Sk G A lc s z n0 u u st H2 locs2 := ⟨hw2, hw.2⟩
  have eP : pGreater s (nI i) (nI j) = room s (addQ s 2 0 (some i) (some j) 0 0 0 0) := eP0.trans (wN_t (by rw [hn0]; exact hj) hR.1.1)
  refine lv_astore (lv' := [(4, .ref (lc (8 + j))), (3, .ref (lc (8 + i))), (0, .ref (lc 0)), (1, .int (nI i)), (2, .int (nI j))]) hx hb d_Q_greater_11 hl (by decide) rfl (fun ls hl => ?_)
  refine lv_aload_n hx hb d_Q_greater_13 rfl (lv_at hl 2 rfl) ?_
  refine kc_v (kr_V 0 (C := "QuoteGraph") (As := []) (rest := []) (c_Q_checkRoom l hl9 G A lc s z u hR) hx hb hml hown ht hw.1 gw_228 gw_230 gw_1 gw_42 gw_231 ⟨⟨by decide, by decide⟩, by decide +kernel⟩ ⟨by first | decide | (dsimp only; omega), by first | decide | (dsimp only; omega)⟩ (kr_Q hw) rfl hl.1 rfl (lv_room (Nat.le_of_ble_eq_true rfl)) d_Q_greater_14 ⟨by first | decide | (dsimp only; omega), by first | decide | (dsimp only; omega)⟩) hw.1 (fun E ce q9 u1 H1 locs1 hp hw1 hce hcv hcl => ?_) (fun u3 H3 locs3 hp3 hw3 => ?_)
  · obtain ⟨rfl, hN, hq9⟩ := hp
    replace hq9 := hq9.symm; subst hq9
    exact kt_out htab hlocks hw1 hce hcv hcl (by rw [eP]; unfold room; rw [if_neg (by omega)]; exact ⟨(by decide : (2 : Nat) ≠ 0), rfl, gQ.rf hR⟩) (by decide) (by decide)
  obtain ⟨hlt, hq3⟩ := hp3; replace hq3 := hq3.symm; subst hq3
  have hw : Sk G A lc s z n0 u u st H3 locs3 := ⟨hw3, hw.2⟩
  unfold room at eP; rw [if_pos hlt] at eP
  refine lv_aload_n hx hb d_Q_greater_17 rfl (lv_at hl 2 rfl) ?_
  refine k_new (ci := 3) (fs := D10 ++ ([] : List Value)) hx hb ht i_Gr t_Gr t_Gr_ok hown gw_364 gw_365 gw_56 hw.1 rfl (by decide +kernel) (by first | decide | (dsimp only; omega)) (by first | decide | (dsimp only; omega)) d_Q_greater_18 (fun a H4 ha9 hw4 => ?_)
  obtain ⟨u4, hu4⟩ : ∃ v : WT, v = (u.1 ++ [a], va_up u.2 a (.inr (3, D10 ++ ([] : List Value)))) := ⟨_, rfl⟩
  rw [← hu4] at hw4
  have nb : NB u u4 a (.inr (3, D10 ++ ([] : List Value))) := by rw [hu4]; exact ⟨ha9, rfl, va_up_self _ _ _, fun x hx => va_up_ne _ _ hx⟩
  have hw : Sk G A lc s z n0 u u4 st H4 locs3 := ⟨hw4, hR.ext (gr.nb nb), (gr.nb nb).fQ, hn0⟩
  refine lv_dup hx hb d_Q_greater_21 rfl ?_
  refine lv_aload_n hx hb d_Q_greater_22 rfl (lv_at hl 2 rfl) ?_
  refine kg_Q 2 (by decide) hx hb ht hown hw gw_123 rfl rfl d_Q_greater_23 ?_
  refine lv_aload_n hx hb d_Q_greater_26 rfl (lv_at hl 1 rfl) ?_
  refine lv_aload hx hb d_Q_greater_27 (lv_at hl 0 rfl) ?_
  refine kc_v (kr_I 3 (As := [.int (nI n0), .ref (lc (8 + i)), .ref (lc (8 + j))]) (rest := [.ref a, .ref (lc 0)]) (c_Gr_init l G A u4 a nb.in nb.2.2.1 (nI n0) _ _ (Sk_nd hw hi) (Sk_nd hw hj)) hx hb hml hown ht hw.1 rfl gw_366 gw_367 gw_56 gw_368 ⟨⟨by decide, by decide⟩, by decide +kernel⟩ ⟨by first | decide | (dsimp only; omega), by first | decide | (dsimp only; omega)⟩ rfl hl.1 rfl (lv_room (Nat.le_of_ble_eq_true rfl)) d_Q_greater_29 ⟨by first | decide | (dsimp only; omega), by first | decide | (dsimp only; omega)⟩) hw.1 (fun _ _ _ _ _ _ h => h.elim) (fun u5 H5 locs5 hp5 hw5 => ?_)
  obtain ⟨b, np⟩ := hp5
  have hg3 : gr u u5 := gr.np nb np
  have hw : Sk G A lc s z n0 u u5 st H5 locs5 := ⟨hw5, hR.ext hg3, hg3.fQ, hn0⟩
  have hma : a ∈ u5.1 := by rw [np.2.1]; exact List.mem_append_left _ nb.in
  have hne : ∀ k, k < 8 → a ≠ lc k := fun k hk e => nb.1 (e ▸ (hR.at (liv_s hk)).1)
  refine kc_i (kr_V 1 (C := "QuoteGraph") (As := [.ref a]) (rest := []) (c_Q_add l G A lc s z u5 hw.2.1 hlt a 2 (by decide) [.ref b, .int 2, .long 0, .int 0, .int 0, .int 0, .int 0, .long 0, .int 0] ([] : List Value) hma (by rw [hn0]; exact np.2.2.1) hne) hx hb hml hown ht hw.1 gw_313 gw_315 gw_2 gw_42 gw_316 ⟨⟨by decide, by decide⟩, by decide +kernel⟩ ⟨by first | decide | (dsimp only; omega), by first | decide | (dsimp only; omega)⟩ (kr_Q hw) rfl hl.1 rfl (lv_room (Nat.le_of_ble_eq_true rfl)) d_Q_greater_32 ⟨by first | decide | (dsimp only; omega), by first | decide | (dsimp only; omega)⟩) hw.1 (fun _ _ _ _ _ _ h => h.elim) (fun r6 u6 H6 locs6 hp6 hw6 => ?_)
  obtain ⟨er6, hu9, e09, e19, ho9⟩ := hp6; subst er6
  exact kt_i hx hb hr hlocks hw6 d_Q_greater_35 (by rw [eP]; exact ⟨rfl, rfl, gQ_add hR hlt (by decide) (fun h => absurd h (by decide)) (fun _ => ⟨i, j, rfl, rfl, by rw [hn0]; exact hi, by rw [hn0]; exact hj, rfl, rfl⟩) nb np (by rw [ndB_new hlt, ndX_new hlt (Or.inr rfl), hn0]; rfl) rfl hu9 e09 e19 ho9⟩) (by first | decide | (dsimp only; omega)) (by first | decide | (dsimp only; omega))
set_option maxHeartbeats 4000000 in
set_option maxRecDepth 100000 in
theorem c_Q_blend (l : Launch) (hl9 : l.stackTraces = false) (G : GT) (A : Nat → Prop) (lc : Nat → Nat) (s : QS) (z : ZS) (u : WT) (hR : rQ G lc s z u) (a0 b0 x y : Int32) : Kt l y_Q_blend b_Q_blend 13 (some .int) 7 124 2 14 2 14 1 6 G A u [.ref (lc 0), .int a0, .int b0, .double (e8 x), .double (e8 y)] (KQ G A (Ri (fun r u' => (pBlend s a0 b0 x y).1 = 0 ∧ r = (pBlend s a0 b0 x y).2.1 ∧ gQ G lc s u (pBlend s a0 b0 x y).2.2 u'))) (fun E u' => (pBlend s a0 b0 x y).1 ≠ 0 ∧ E = exS (pBlend s a0 b0 x y).1 ∧ gQ G lc s u (pBlend s a0 b0 x y).2.2 u') := by
  refine k_of (by decide) (Nat.le_of_ble_eq_true rfl) (fun p e st m below meth c ls hx hb hr hlocks hml htab hname hown ht hw hl => ?_)
  have hl : lv_has ls 13 [(0, .ref (lc 0)), (1, .int a0), (2, .int b0), (3, .double (e8 x)), (5, .double (e8 y))] := hl
  obtain ⟨n0, hn0⟩ : ∃ n0, q_n s = n0 := ⟨_, rfl⟩
  have hw : Sk G A lc s z n0 u u st st.heap [] := ⟨hw, hR, fQ.rf, hn0⟩
  refine lv_aload_n hx hb d_Q_blend_0 rfl (lv_at hl 0 rfl) ?_
  refine lv_iload_n hx hb d_Q_blend_1 rfl (lv_at hl 1 rfl) ?_
  refine kc_a (kr_V 1 (C := "QuoteGraph") (As := [.int a0]) (rest := []) (c_Q_nodeAt l hl9 G A lc s z u hw.2.1 a0) hx hb hml hown ht hw.1 gw_324 gw_326 gw_3 gw_42 gw_327 ⟨⟨by decide, by decide⟩, by decide +kernel⟩ ⟨by first | decide | (dsimp only; omega), by first | decide | (dsimp only; omega)⟩ (kr_Q hw) rfl hl.1 rfl (lv_room (Nat.le_of_ble_eq_true rfl)) d_Q_blend_2 ⟨by first | decide | (dsimp only; omega), by first | decide | (dsimp only; omega)⟩) hw.1 (fun E ce q9 u1 H1 locs1 hp hw1 hce hcv hcl => ?_) (fun r1 u1 H1 locs1 hp1 hw1 => ?_)
  · obtain ⟨rfl, hN, hq9⟩ := hp
    replace hq9 := hq9.symm; subst hq9
    exact kt_out htab hlocks hw1 hce hcv hcl (by rw [show pBlend s a0 b0 x y = (1, 0, s) from wN_f hN]; exact ⟨(by decide : (1 : Nat) ≠ 0), rfl, gQ.rf hR⟩) (by decide) (by decide)
  obtain ⟨i, hi, rfl, er1, hq1⟩ := hp1; replace hq1 := hq1.symm; subst hq1; subst er1
  rw [hn0] at hi
  have hw : Sk G A lc s z n0 u u st H1 locs1 := ⟨hw1, hw.2⟩
  have eP0 : pBlend s (nI i) b0 x y = wN s b0 0 (fun j => (if inE x 16 = false then (1, 0, s) else if inE y 16 = false then (1, 0, s) else room s (addQ s 1 0 (some i) (some j) x.toInt64 y.toInt64 0 0))) := wN_t (by rw [hn0]; exact hi) hR.1.1
  refine lv_astore (lv' := [(7, .ref (lc (8 + i))), (0, .ref (lc 0)), (1, .int (nI i)), (2, .int b0), (3, .double (e8 x)), (5, .double (e8 y))]) hx hb d_Q_blend_5 hl (by decide) rfl (fun ls hl => ?_)
  refine lv_aload_n hx hb d_Q_blend_7 rfl (lv_at hl 1 rfl) ?_
  refine lv_iload_n hx hb d_Q_blend_8 rfl (lv_at hl 3 rfl) ?_
  refine kc_a (kr_V 1 (C := "QuoteGraph") (As := [.int b0]) (rest := []) (c_Q_nodeAt l hl9 G A lc s z u hw.2.1 b0) hx hb hml hown ht hw.1 gw_324 gw_326 gw_3 gw_42 gw_327 ⟨⟨by decide, by decide⟩, by decide +kernel⟩ ⟨by first | decide | (dsimp only; omega), by first | decide | (dsimp only; omega)⟩ (kr_Q hw) rfl hl.1 rfl (lv_room (Nat.le_of_ble_eq_true rfl)) d_Q_blend_9 ⟨by first | decide | (dsimp only; omega), by first | decide | (dsimp only; omega)⟩) hw.1 (fun E ce q9 u1 H1 locs1 hp hw1 hce hcv hcl => ?_) (fun r2 u2 H2 locs2 hp2 hw2 => ?_)
  · obtain ⟨rfl, hN, hq9⟩ := hp
    replace hq9 := hq9.symm; subst hq9
    exact kt_out htab hlocks hw1 hce hcv hcl (by rw [eP0, wN_f hN]; exact ⟨(by decide : (1 : Nat) ≠ 0), rfl, gQ.rf hR⟩) (by decide) (by decide)
  obtain ⟨j, hj, rfl, er2, hq2⟩ := hp2; replace hq2 := hq2.symm; subst hq2; subst er2
  rw [hn0] at hj
  have hw : Sk G A lc s z n0 u u st H2 locs2 := ⟨hw2, hw.2⟩
  have eP : pBlend s (nI i) (nI j) x y = (if inE x 16 = false then (1, 0, s) else if inE y 16 = false then (1, 0, s) else room s (addQ s 1 0 (some i) (some j) x.toInt64 y.toInt64 0 0)) := eP0.trans (wN_t (by rw [hn0]; exact hj) hR.1.1)
  refine lv_astore (lv' := [(8, .ref (lc (8 + j))), (7, .ref (lc (8 + i))), (0, .ref (lc 0)), (1, .int (nI i)), (2, .int (nI j)), (3, .double (e8 x)), (5, .double (e8 y))]) hx hb d_Q_blend_12 hl (by decide) rfl (fun ls hl => ?_)
  refine lv_dload_n hx hb d_Q_blend_14 rfl (lv_at hl 5 rfl) ?_
  refine lv_bipush (v := 16) hx hb d_Q_blend_15 (by decide) ?_
  refine kc_l (kr_S 2 (As := [.double (e8 x), .int (16 : Int32)]) (rest := []) (c_Q_eighthsOf l hl9 G A u x 16 (by decide) (by decide)) hx hb hml hown ht hw.1 gw_155 gw_156 gw_42 gw_157 ⟨⟨by decide, by decide⟩, by decide +kernel⟩ ⟨by first | decide | (dsimp only; omega), by first | decide | (dsimp only; omega)⟩ rfl hl.1 rfl (lv_room (Nat.le_of_ble_eq_true rfl)) d_Q_blend_17 ⟨by first | decide | (dsimp only; omega), by first | decide | (dsimp only; omega)⟩) hw.1 (fun E ce q9 u1 H1 locs1 hp hw1 hce hcv hcl => ?_) (fun r3 u3 H3 locs3 hp3 hw3 => ?_)
  · obtain ⟨rfl, hN, hq9⟩ := hp
    replace hN : inE x 16 = false := hN
    replace hq9 := hq9.symm; subst hq9
    exact kt_out htab hlocks hw1 hce hcv hcl (by rw [eP, if_pos hN]; exact ⟨(by decide : (1 : Nat) ≠ 0), rfl, gQ.rf hR⟩) (by decide) (by decide)
  obtain ⟨er3, hinx, hq3⟩ := hp3
  replace hq3 := hq3.symm; subst hq3
  have hw : Sk G A lc s z n0 u u st H3 locs3 := ⟨hw3, hw.2⟩
  subst er3
  replace hinx : inE x 16 = true := hinx
  rw [if_neg (by rw [hinx]; decide)] at eP
  refine lv_lstore (lv' := [(9, .long x.toInt64), (8, .ref (lc (8 + j))), (7, .ref (lc (8 + i))), (0, .ref (lc 0)), (1, .int (nI i)), (2, .int (nI j)), (3, .double (e8 x)), (5, .double (e8 y))]) hx hb d_Q_blend_20 hl (by decide) rfl (fun ls hl => ?_)
  refine lv_dload hx hb d_Q_blend_22 (lv_at hl 7 rfl) ?_
  refine lv_bipush (v := 16) hx hb d_Q_blend_24 (by decide) ?_
  refine kc_l (kr_S 2 (As := [.double (e8 y), .int (16 : Int32)]) (rest := []) (c_Q_eighthsOf l hl9 G A u y 16 (by decide) (by decide)) hx hb hml hown ht hw.1 gw_155 gw_156 gw_42 gw_157 ⟨⟨by decide, by decide⟩, by decide +kernel⟩ ⟨by first | decide | (dsimp only; omega), by first | decide | (dsimp only; omega)⟩ rfl hl.1 rfl (lv_room (Nat.le_of_ble_eq_true rfl)) d_Q_blend_26 ⟨by first | decide | (dsimp only; omega), by first | decide | (dsimp only; omega)⟩) hw.1 (fun E ce q9 u1 H1 locs1 hp hw1 hce hcv hcl => ?_) (fun r4 u4 H4 locs4 hp4 hw4 => ?_)
  · obtain ⟨rfl, hN, hq9⟩ := hp
    replace hN : inE y 16 = false := hN
    replace hq9 := hq9.symm; subst hq9
    exact kt_out htab hlocks hw1 hce hcv hcl (by rw [eP, if_pos hN]; exact ⟨(by decide : (1 : Nat) ≠ 0), rfl, gQ.rf hR⟩) (by decide) (by decide)
  obtain ⟨er4, hiny, hq4⟩ := hp4
  replace hq4 := hq4.symm; subst hq4
  have hw : Sk G A lc s z n0 u u st H4 locs4 := ⟨hw4, hw.2⟩
  subst er4
  replace hiny : inE y 16 = true := hiny
  rw [if_neg (by rw [hiny]; decide)] at eP
  refine lv_lstore (lv' := [(11, .long y.toInt64), (9, .long x.toInt64), (8, .ref (lc (8 + j))), (7, .ref (lc (8 + i))), (0, .ref (lc 0)), (1, .int (nI i)), (2, .int (nI j)), (3, .double (e8 x)), (5, .double (e8 y))]) hx hb d_Q_blend_29 hl (by decide) rfl (fun ls hl => ?_)
  refine lv_aload_n hx hb d_Q_blend_31 rfl (lv_at hl 4 rfl) ?_
  refine kc_v (kr_V 0 (C := "QuoteGraph") (As := []) (rest := []) (c_Q_checkRoom l hl9 G A lc s z u hR) hx hb hml hown ht hw.1 gw_228 gw_230 gw_1 gw_42 gw_231 ⟨⟨by decide, by decide⟩, by decide +kernel⟩ ⟨by first | decide | (dsimp only; omega), by first | decide | (dsimp only; omega)⟩ (kr_Q hw) rfl hl.1 rfl (lv_room (Nat.le_of_ble_eq_true rfl)) d_Q_blend_32 ⟨by first | decide | (dsimp only; omega), by first | decide | (dsimp only; omega)⟩) hw.1 (fun E ce q9 u1 H1 locs1 hp hw1 hce hcv hcl => ?_) (fun u5 H5 locs5 hp5 hw5 => ?_)
  · obtain ⟨rfl, hN, hq9⟩ := hp
    replace hq9 := hq9.symm; subst hq9
    exact kt_out htab hlocks hw1 hce hcv hcl (by rw [eP]; unfold room; rw [if_neg (by omega)]; exact ⟨(by decide : (2 : Nat) ≠ 0), rfl, gQ.rf hR⟩) (by decide) (by decide)
  obtain ⟨hlt, hq5⟩ := hp5; replace hq5 := hq5.symm; subst hq5
  have hw : Sk G A lc s z n0 u u st H5 locs5 := ⟨hw5, hw.2⟩
  unfold room at eP; rw [if_pos hlt] at eP
  refine lv_aload_n hx hb d_Q_blend_35 rfl (lv_at hl 4 rfl) ?_
  refine k_new (ci := 2) (fs := D10 ++ [.long 0, .long 0]) hx hb ht i_Bl t_Bl t_Bl_ok hown gw_333 gw_334 gw_55 hw.1 rfl (by decide +kernel) (by first | decide | (dsimp only; omega)) (by first | decide | (dsimp only; omega)) d_Q_blend_36 (fun a H6 ha9 hw6 => ?_)
  obtain ⟨u6, hu6⟩ : ∃ v : WT, v = (u.1 ++ [a], va_up u.2 a (.inr (2, D10 ++ [.long 0, .long 0]))) := ⟨_, rfl⟩
  rw [← hu6] at hw6
  have nb : NB u u6 a (.inr (2, D10 ++ [.long 0, .long 0])) := by rw [hu6]; exact ⟨ha9, rfl, va_up_self _ _ _, fun x hx => va_up_ne _ _ hx⟩
  have hw : Sk G A lc s z n0 u u6 st H6 locs5 := ⟨hw6, hR.ext (gr.nb nb), (gr.nb nb).fQ, hn0⟩
  refine lv_dup hx hb d_Q_blend_39 rfl ?_
  refine lv_aload_n hx hb d_Q_blend_40 rfl (lv_at hl 4 rfl) ?_
  refine kg_Q 2 (by decide) hx hb ht hown hw gw_123 rfl rfl d_Q_blend_41 ?_
  refine lv_aload hx hb d_Q_blend_44 (lv_at hl 3 rfl) ?_
  refine lv_aload hx hb d_Q_blend_46 (lv_at hl 2 rfl) ?_
  refine lv_lload hx hb d_Q_blend_48 (lv_at hl 1 rfl) ?_
  refine lv_lload hx hb d_Q_blend_50 (lv_at hl 0 rfl) ?_
  refine kc_v (kr_I 5 (As := [.int (nI n0), .ref (lc (8 + i)), .ref (lc (8 + j)), .long x.toInt64, .long y.toInt64]) (rest := [.ref a, .ref (lc 0)]) (c_Bl_init l G A u6 a nb.in nb.2.2.1 (nI n0) _ _ (Sk_nd hw hi) (Sk_nd hw hj) x.toInt64 y.toInt64) hx hb hml hown ht hw.1 rfl gw_335 gw_336 gw_55 gw_337 ⟨⟨by decide, by decide⟩, by decide +kernel⟩ ⟨by first | decide | (dsimp only; omega), by first | decide | (dsimp only; omega)⟩ rfl hl.1 rfl (lv_room (Nat.le_of_ble_eq_true rfl)) d_Q_blend_52 ⟨by first | decide | (dsimp only; omega), by first | decide | (dsimp only; omega)⟩) hw.1 (fun _ _ _ _ _ _ h => h.elim) (fun u7 H7 locs7 hp7 hw7 => ?_)
  obtain ⟨b, np⟩ := hp7
  have hg3 : gr u u7 := gr.np nb np
  have hw : Sk G A lc s z n0 u u7 st H7 locs7 := ⟨hw7, hR.ext hg3, hg3.fQ, hn0⟩
  have hma : a ∈ u7.1 := by rw [np.2.1]; exact List.mem_append_left _ nb.in
  have hne : ∀ k, k < 8 → a ≠ lc k := fun k hk e => nb.1 (e ▸ (hR.at (liv_s hk)).1)
  refine kc_i (kr_V 1 (C := "QuoteGraph") (As := [.ref a]) (rest := []) (c_Q_add l G A lc s z u7 hw.2.1 hlt a 1 (by decide) [.ref b, .int 2, .long 0, .int 0, .int 0, .int 0, .int 0, .long 0, .int 0] [.long x.toInt64, .long y.toInt64] hma (by rw [hn0]; exact np.2.2.1) hne) hx hb hml hown ht hw.1 gw_313 gw_315 gw_2 gw_42 gw_316 ⟨⟨by decide, by decide⟩, by decide +kernel⟩ ⟨by first | decide | (dsimp only; omega), by first | decide | (dsimp only; omega)⟩ (kr_Q hw) rfl hl.1 rfl (lv_room (Nat.le_of_ble_eq_true rfl)) d_Q_blend_55 ⟨by first | decide | (dsimp only; omega), by first | decide | (dsimp only; omega)⟩) hw.1 (fun _ _ _ _ _ _ h => h.elim) (fun r8 u8 H8 locs8 hp8 hw8 => ?_)
  obtain ⟨er8, hu9, e09, e19, ho9⟩ := hp8; subst er8
  exact kt_i hx hb hr hlocks hw8 d_Q_blend_58 (by rw [eP]; exact ⟨rfl, rfl, gQ_add hR hlt (by decide) (fun h => absurd h (by decide)) (fun _ => ⟨i, j, rfl, rfl, by rw [hn0]; exact hi, by rw [hn0]; exact hj, rfl, rfl⟩) nb np (by rw [ndB_new hlt, ndX_new1 hlt, hn0]; rfl) rfl hu9 e09 e19 ho9⟩) (by first | decide | (dsimp only; omega)) (by first | decide | (dsimp only; omega))
set_option maxHeartbeats 4000000 in
set_option maxRecDepth 100000 in
theorem c_Q_option (l : Launch) (hl9 : l.stackTraces = false) (G : GT) (A : Nat → Prop) (lc : Nat → Nat) (s : QS) (z : ZS) (u : WT) (hR : rQ G lc s z u) (a0 b0 kd x sp : Int32) : Kt l y_Q_option b_Q_option 12 (some .int) 7 124 2 25 2 25 1 6 G A u [.ref (lc 0), .int a0, .int b0, .int kd, .double (e8 x), .int sp] (KQ G A (Ri (fun r u' => (pOption s a0 b0 kd x sp).1 = 0 ∧ r = (pOption s a0 b0 kd x sp).2.1 ∧ gQ G lc s u (pOption s a0 b0 kd x sp).2.2 u'))) (fun E u' => (pOption s a0 b0 kd x sp).1 ≠ 0 ∧ E = exS (pOption s a0 b0 kd x sp).1 ∧ gQ G lc s u (pOption s a0 b0 kd x sp).2.2 u') := by
  refine k_of (by decide) (Nat.le_of_ble_eq_true rfl) (fun p e st m below meth c ls hx hb hr hlocks hml htab hname hown ht hw hl => ?_)
  have hl : lv_has ls 12 [(0, .ref (lc 0)), (1, .int a0), (2, .int b0), (3, .int kd), (4, .double (e8 x)), (6, .int sp)] := hl
  obtain ⟨n0, hn0⟩ : ∃ n0, q_n s = n0 := ⟨_, rfl⟩
  have hw : Sk G A lc s z n0 u u st st.heap [] := ⟨hw, hR, fQ.rf, hn0⟩
  refine lv_aload_n hx hb d_Q_option_0 rfl (lv_at hl 0 rfl) ?_
  refine lv_iload_n hx hb d_Q_option_1 rfl (lv_at hl 1 rfl) ?_
  refine kc_a (kr_V 1 (C := "QuoteGraph") (As := [.int a0]) (rest := []) (c_Q_nodeAt l hl9 G A lc s z u hw.2.1 a0) hx hb hml hown ht hw.1 gw_324 gw_326 gw_3 gw_42 gw_327 ⟨⟨by decide, by decide⟩, by decide +kernel⟩ ⟨by first | decide | (dsimp only; omega), by first | decide | (dsimp only; omega)⟩ (kr_Q hw) rfl hl.1 rfl (lv_room (Nat.le_of_ble_eq_true rfl)) d_Q_option_2 ⟨by first | decide | (dsimp only; omega), by first | decide | (dsimp only; omega)⟩) hw.1 (fun E ce q9 u1 H1 locs1 hp hw1 hce hcv hcl => ?_) (fun r1 u1 H1 locs1 hp1 hw1 => ?_)
  · obtain ⟨rfl, hN, hq9⟩ := hp
    replace hq9 := hq9.symm; subst hq9
    exact kt_out htab hlocks hw1 hce hcv hcl (by rw [show pOption s a0 b0 kd x sp = (1, 0, s) from wN_f hN]; exact ⟨(by decide : (1 : Nat) ≠ 0), rfl, gQ.rf hR⟩) (by decide) (by decide)
  obtain ⟨i, hi, rfl, er1, hq1⟩ := hp1; replace hq1 := hq1.symm; subst hq1; subst er1
  rw [hn0] at hi
  have hw : Sk G A lc s z n0 u u st H1 locs1 := ⟨hw1, hw.2⟩
  have eP0 : pOption s (nI i) b0 kd x sp = wN s b0 0 (fun j => (if inR kd 0 3 = false then (1, 0, s) else if inE x 100000 = false then (1, 0, s) else if inR sp 1 20 = false then (1, 0, s) else room s (addQ s 3 0 (some i) (some j) (128 * x.toInt64) 0 kd sp))) := wN_t (by rw [hn0]; exact hi) hR.1.1
  refine lv_astore (lv' := [(7, .ref (lc (8 + i))), (0, .ref (lc 0)), (1, .int (nI i)), (2, .int b0), (3, .int kd), (4, .double (e8 x)), (6, .int sp)]) hx hb d_Q_option_5 hl (by decide) rfl (fun ls hl => ?_)
  refine lv_aload_n hx hb d_Q_option_7 rfl (lv_at hl 1 rfl) ?_
  refine lv_iload_n hx hb d_Q_option_8 rfl (lv_at hl 3 rfl) ?_
  refine kc_a (kr_V 1 (C := "QuoteGraph") (As := [.int b0]) (rest := []) (c_Q_nodeAt l hl9 G A lc s z u hw.2.1 b0) hx hb hml hown ht hw.1 gw_324 gw_326 gw_3 gw_42 gw_327 ⟨⟨by decide, by decide⟩, by decide +kernel⟩ ⟨by first | decide | (dsimp only; omega), by first | decide | (dsimp only; omega)⟩ (kr_Q hw) rfl hl.1 rfl (lv_room (Nat.le_of_ble_eq_true rfl)) d_Q_option_9 ⟨by first | decide | (dsimp only; omega), by first | decide | (dsimp only; omega)⟩) hw.1 (fun E ce q9 u1 H1 locs1 hp hw1 hce hcv hcl => ?_) (fun r2 u2 H2 locs2 hp2 hw2 => ?_)
  · obtain ⟨rfl, hN, hq9⟩ := hp
    replace hq9 := hq9.symm; subst hq9
    exact kt_out htab hlocks hw1 hce hcv hcl (by rw [eP0, wN_f hN]; exact ⟨(by decide : (1 : Nat) ≠ 0), rfl, gQ.rf hR⟩) (by decide) (by decide)
  obtain ⟨j, hj, rfl, er2, hq2⟩ := hp2; replace hq2 := hq2.symm; subst hq2; subst er2
  rw [hn0] at hj
  have hw : Sk G A lc s z n0 u u st H2 locs2 := ⟨hw2, hw.2⟩
  have eP : pOption s (nI i) (nI j) kd x sp = (if inR kd 0 3 = false then (1, 0, s) else if inE x 100000 = false then (1, 0, s) else if inR sp 1 20 = false then (1, 0, s) else room s (addQ s 3 0 (some i) (some j) (128 * x.toInt64) 0 kd sp)) := eP0.trans (wN_t (by rw [hn0]; exact hj) hR.1.1)
  refine lv_astore (lv' := [(8, .ref (lc (8 + j))), (7, .ref (lc (8 + i))), (0, .ref (lc 0)), (1, .int (nI i)), (2, .int (nI j)), (3, .int kd), (4, .double (e8 x)), (6, .int sp)]) hx hb d_Q_option_12 hl (by decide) rfl (fun ls hl => ?_)
  refine lv_iload_n hx hb d_Q_option_14 rfl (lv_at hl 5 rfl) ?_
  refine lv_iconst (v := 0) hx hb d_Q_option_15 (by decide) ?_
  refine lv_iconst (v := 3) hx hb d_Q_option_16 (by decide) ?_
  refine kc_v (kr_S 3 (As := [.int kd, .int (0 : Int32), .int (3 : Int32)]) (rest := []) (c_Q_checkRange l hl9 G A u kd 0 3) hx hb hml hown ht hw.1 gw_389 gw_390 gw_42 gw_391 ⟨⟨by decide, by decide⟩, by decide +kernel⟩ ⟨by first | decide | (dsimp only; omega), by first | decide | (dsimp only; omega)⟩ rfl hl.1 rfl (lv_room (Nat.le_of_ble_eq_true rfl)) d_Q_option_17 ⟨by first | decide | (dsimp only; omega), by first | decide | (dsimp only; omega)⟩) hw.1 (fun E ce q9 u1 H1 locs1 hp hw1 hce hcv hcl => ?_) (fun u3 H3 locs3 hp3 hw3 => ?_)
  · obtain ⟨rfl, hN, hq9⟩ := hp
    replace hq9 := hq9.symm; subst hq9
    exact kt_out htab hlocks hw1 hce hcv hcl (by rw [eP, if_pos (inR_f hN)]; exact ⟨(by decide : (1 : Nat) ≠ 0), rfl, gQ.rf hR⟩) (by decide) (by decide)
  obtain ⟨hlo3, hhi3, hq3⟩ := hp3; replace hq3 := hq3.symm; subst hq3
  have hw : Sk G A lc s z n0 u u st H3 locs3 := ⟨hw3, hw.2⟩
  rw [if_neg (by rw [inR_t hlo3 hhi3]; decide)] at eP
  refine lv_ldc2 (v := 128) hx hb hown (ht _ gw_153) d_Q_option_20 ?_
  refine lv_dload hx hb d_Q_option_23 (lv_at hl 6 rfl) ?_
  refine lv_ldc (v := 100000) hx hb hown (ht _ gw_154) d_Q_option_25 ?_
  refine kc_l (kr_S 2 (As := [.double (e8 x), .int (100000 : Int32)]) (rest := [.long (128 : Int64)]) (c_Q_eighthsOf l hl9 G A u x 100000 (by decide) (by decide)) hx hb hml hown ht hw.1 gw_155 gw_156 gw_42 gw_157 ⟨⟨by decide, by decide⟩, by decide +kernel⟩ ⟨by first | decide | (dsimp only; omega), by first | decide | (dsimp only; omega)⟩ rfl hl.1 rfl (lv_room (Nat.le_of_ble_eq_true rfl)) d_Q_option_27 ⟨by first | decide | (dsimp only; omega), by first | decide | (dsimp only; omega)⟩) hw.1 (fun E ce q9 u1 H1 locs1 hp hw1 hce hcv hcl => ?_) (fun r4 u4 H4 locs4 hp4 hw4 => ?_)
  · obtain ⟨rfl, hN, hq9⟩ := hp
    replace hN : inE x 100000 = false := hN
    replace hq9 := hq9.symm; subst hq9
    exact kt_out htab hlocks hw1 hce hcv hcl (by rw [eP, if_pos hN]; exact ⟨(by decide : (1 : Nat) ≠ 0), rfl, gQ.rf hR⟩) (by decide) (by decide)
  obtain ⟨er4, hinx, hq4⟩ := hp4
  replace hq4 := hq4.symm; subst hq4
  have hw : Sk G A lc s z n0 u u st H4 locs4 := ⟨hw4, hw.2⟩
  subst er4
  replace hinx : inE x 100000 = true := hinx
  rw [if_neg (by rw [hinx]; decide)] at eP
  refine lv_lmul hx hb d_Q_option_30 ?_
  refine lv_lstore (lv' := [(9, .long ((128 : Int64) * x.toInt64)), (8, .ref (lc (8 + j))), (7, .ref (lc (8 + i))), (0, .ref (lc 0)), (1, .int (nI i)), (2, .int (nI j)), (3, .int kd), (4, .double (e8 x)), (6, .int sp)]) hx hb d_Q_option_31 hl (by decide) rfl (fun ls hl => ?_)
  refine lv_iload hx hb d_Q_option_33 (lv_at hl 8 rfl) ?_
  refine lv_iconst (v := 1) hx hb d_Q_option_35 (by decide) ?_
  refine lv_bipush (v := 20) hx hb d_Q_option_36 (by decide) ?_
  refine kc_v (kr_S 3 (As := [.int sp, .int (1 : Int32), .int (20 : Int32)]) (rest := []) (c_Q_checkRange l hl9 G A u sp 1 20) hx hb hml hown ht hw.1 gw_389 gw_390 gw_42 gw_391 ⟨⟨by decide, by decide⟩, by decide +kernel⟩ ⟨by first | decide | (dsimp only; omega), by first | decide | (dsimp only; omega)⟩ rfl hl.1 rfl (lv_room (Nat.le_of_ble_eq_true rfl)) d_Q_option_38 ⟨by first | decide | (dsimp only; omega), by first | decide | (dsimp only; omega)⟩) hw.1 (fun E ce q9 u1 H1 locs1 hp hw1 hce hcv hcl => ?_) (fun u5 H5 locs5 hp5 hw5 => ?_)
  · obtain ⟨rfl, hN, hq9⟩ := hp
    replace hq9 := hq9.symm; subst hq9
    exact kt_out htab hlocks hw1 hce hcv hcl (by rw [eP, if_pos (inR_f hN)]; exact ⟨(by decide : (1 : Nat) ≠ 0), rfl, gQ.rf hR⟩) (by decide) (by decide)
  obtain ⟨hlo5, hhi5, hq5⟩ := hp5; replace hq5 := hq5.symm; subst hq5
  have hw : Sk G A lc s z n0 u u st H5 locs5 := ⟨hw5, hw.2⟩
  rw [if_neg (by rw [inR_t hlo5 hhi5]; decide)] at eP
  refine lv_aload_n hx hb d_Q_option_41 rfl (lv_at hl 3 rfl) ?_
  refine kc_v (kr_V 0 (C := "QuoteGraph") (As := []) (rest := []) (c_Q_checkRoom l hl9 G A lc s z u hR) hx hb hml hown ht hw.1 gw_228 gw_230 gw_1 gw_42 gw_231 ⟨⟨by decide, by decide⟩, by decide +kernel⟩ ⟨by first | decide | (dsimp only; omega), by first | decide | (dsimp only; omega)⟩ (kr_Q hw) rfl hl.1 rfl (lv_room (Nat.le_of_ble_eq_true rfl)) d_Q_option_42 ⟨by first | decide | (dsimp only; omega), by first | decide | (dsimp only; omega)⟩) hw.1 (fun E ce q9 u1 H1 locs1 hp hw1 hce hcv hcl => ?_) (fun u6 H6 locs6 hp6 hw6 => ?_)
  · obtain ⟨rfl, hN, hq9⟩ := hp
    replace hq9 := hq9.symm; subst hq9
    exact kt_out htab hlocks hw1 hce hcv hcl (by rw [eP]; unfold room; rw [if_neg (by omega)]; exact ⟨(by decide : (2 : Nat) ≠ 0), rfl, gQ.rf hR⟩) (by decide) (by decide)
  obtain ⟨hlt, hq6⟩ := hp6; replace hq6 := hq6.symm; subst hq6
  have hw : Sk G A lc s z n0 u u st H6 locs6 := ⟨hw6, hw.2⟩
  unfold room at eP; rw [if_pos hlt] at eP
  refine k_new (ci := 4) (fs := D10 ++ [.null, .null, .int 0, .long 0, .int 0, .null, .null, .int 0, .int 0, .null, .int 0]) hx hb ht i_Op t_Op t_Op_ok hown gw_393 gw_394 gw_57 hw.1 rfl (by decide +kernel) (by first | decide | (dsimp only; omega)) (by first | decide | (dsimp only; omega)) d_Q_option_45 (fun a H7 ha9 hw7 => ?_)
  obtain ⟨u7, hu7⟩ : ∃ v : WT, v = (u.1 ++ [a], va_up u.2 a (.inr (4, D10 ++ [.null, .null, .int 0, .long 0, .int 0, .null, .null, .int 0, .int 0, .null, .int 0]))) := ⟨_, rfl⟩
  rw [← hu7] at hw7
  have nb : NB u u7 a (.inr (4, D10 ++ [.null, .null, .int 0, .long 0, .int 0, .null, .null, .int 0, .int 0, .null, .int 0])) := by rw [hu7]; exact ⟨ha9, rfl, va_up_self _ _ _, fun x hx => va_up_ne _ _ hx⟩
  have hw : Sk G A lc s z n0 u u7 st H7 locs6 := ⟨hw7, hR.ext (gr.nb nb), (gr.nb nb).fQ, hn0⟩
  refine lv_dup hx hb d_Q_option_48 rfl ?_
  refine lv_aload_n hx hb d_Q_option_49 rfl (lv_at hl 3 rfl) ?_
  refine kg_Q 2 (by decide) hx hb ht hown hw gw_123 rfl rfl d_Q_option_50 ?_
  refine lv_aload hx hb d_Q_option_53 (lv_at hl 2 rfl) ?_
  refine lv_aload hx hb d_Q_option_55 (lv_at hl 1 rfl) ?_
  refine lv_iload_n hx hb d_Q_option_57 rfl (lv_at hl 6 rfl) ?_
  refine lv_lload hx hb d_Q_option_58 (lv_at hl 0 rfl) ?_
  refine lv_iload hx hb d_Q_option_60 (lv_at hl 8 rfl) ?_
  refine kc_v (kr_I 6 (As := [.int (nI n0), .ref (lc (8 + i)), .ref (lc (8 + j)), .int kd, .long ((128 : Int64) * x.toInt64), .int sp]) (rest := [.ref a]) (c_Op_init l G A u7 a nb.in nb.2.2.1 (nI n0) _ _ (Sk_nd hw hi) (Sk_nd hw hj) kd (128 * x.toInt64) sp) hx hb hml hown ht hw.1 rfl gw_395 gw_396 gw_57 gw_397 ⟨⟨by decide, by decide⟩, by decide +kernel⟩ ⟨by first | decide | (dsimp only; omega), by first | decide | (dsimp only; omega)⟩ rfl hl.1 rfl (lv_room (Nat.le_of_ble_eq_true rfl)) d_Q_option_62 ⟨by first | decide | (dsimp only; omega), by first | decide | (dsimp only; omega)⟩) hw.1 (fun _ _ _ _ _ _ h => h.elim) (fun u8 H8 locs8 hp8 hw8 => ?_)
  obtain ⟨b, np⟩ := hp8
  have hg3 : gr u u8 := gr.np nb np
  have hw : Sk G A lc s z n0 u u8 st H8 locs8 := ⟨hw8, hR.ext hg3, hg3.fQ, hn0⟩
  have hma : a ∈ u8.1 := by rw [np.2.1]; exact List.mem_append_left _ nb.in
  have hne : ∀ k, k < 8 → a ≠ lc k := fun k hk e => nb.1 (e ▸ (hR.at (liv_s hk)).1)
  refine lv_astore (lv' := [(11, .ref a), (9, .long ((128 : Int64) * x.toInt64)), (8, .ref (lc (8 + j))), (7, .ref (lc (8 + i))), (0, .ref (lc 0)), (1, .int (nI i)), (2, .int (nI j)), (3, .int kd), (4, .double (e8 x)), (6, .int sp)]) hx hb d_Q_option_65 hl (by decide) rfl (fun ls hl => ?_)
  refine lv_aload hx hb d_Q_option_67 (lv_at hl 0 rfl) ?_
  refine lv_aload_n hx hb d_Q_option_69 rfl (lv_at hl 4 rfl) ?_
  refine kg_Q 1 (by decide) hx hb ht hown hw gw_122 rfl rfl d_Q_option_70 ?_
  refine lv_iconst (v := 0) hx hb d_Q_option_73 (by decide) ?_
  refine ka_engines (k := 0) rfl (by decide) hx hb hw d_Q_option_74 ?_
  refine x_put hx hb ht i_Op t_Op t_Op_ok n_Op hown hw.1 hma np.2.2.1 (ty := .object "QuoteGraph$Engine") (fs' := [.int (nI n0), .ref b, .int 2, .long 0, .int 0, .int 0, .int 0, .int 0, .long 0, .int 0, .ref (lc (8 + i)), .ref (lc (8 + j)), .int kd, .long (128 * x.toInt64), .int sp, .null, .null, .int 8, .int 0, .ref (lc (5 + 0)), .int 0]) rfl 19 (by decide) gw_421 (Or.inl rfl) rfl rfl (by decide +kernel) rfl rfl (Nat.le_of_ble_eq_true rfl) d_Q_option_75 (fun H8 locs8 u8 hw8 n8 => ?_)
  replace np := np.put (fun e => np.1 (e ▸ nb.in)) n8
  have hg8 : gr u u8 := gr.np nb np
  have hma : a ∈ u8.1 := by rw [np.2.1]; exact List.mem_append_left _ nb.in
  have hw : Sk G A lc s z n0 u u8 st H8 locs8 := ⟨hw8, hR.ext hg8, hg8.fQ, hn0⟩
  refine lv_aload_n hx hb d_Q_option_78 rfl (lv_at hl 4 rfl) ?_
  refine lv_aload hx hb d_Q_option_79 (lv_at hl 0 rfl) ?_
  refine kc_i (kr_V 1 (C := "QuoteGraph") (As := [.ref a]) (rest := []) (c_Q_add l G A lc s z u8 hw.2.1 hlt a 3 (by decide) [.ref b, .int 2, .long 0, .int 0, .int 0, .int 0, .int 0, .long 0, .int 0] [.ref (lc (8 + i)), .ref (lc (8 + j)), .int kd, .long (128 * x.toInt64), .int sp, .null, .null, .int 8, .int 0, .ref (lc (5 + 0)), .int 0] hma (by rw [hn0]; exact np.2.2.1) hne) hx hb hml hown ht hw.1 gw_313 gw_315 gw_2 gw_42 gw_316 ⟨⟨by decide, by decide⟩, by decide +kernel⟩ ⟨by first | decide | (dsimp only; omega), by first | decide | (dsimp only; omega)⟩ (kr_Q hw) rfl hl.1 rfl (lv_room (Nat.le_of_ble_eq_true rfl)) d_Q_option_81 ⟨by first | decide | (dsimp only; omega), by first | decide | (dsimp only; omega)⟩) hw.1 (fun _ _ _ _ _ _ h => h.elim) (fun r9 u9 H9 locs9 hp9 hw9 => ?_)
  obtain ⟨er9, hu9, e09, e19, ho9⟩ := hp9; subst er9
  exact kt_i hx hb hr hlocks hw9 d_Q_option_84 (by rw [eP]; exact ⟨rfl, rfl, gQ_add hR hlt (by decide) (fun h => absurd h (by decide)) (fun _ => ⟨i, j, rfl, rfl, by rw [hn0]; exact hi, by rw [hn0]; exact hj, rfl, rfl⟩) nb np (by rw [ndB_new hlt, ndX_new3 hlt (by rw [hn0]; exact hi) (by rw [hn0]; exact hj), hn0]; rfl) rfl hu9 e09 e19 ho9⟩) (by first | decide | (dsimp only; omega)) (by first | decide | (dsimp only; omega))

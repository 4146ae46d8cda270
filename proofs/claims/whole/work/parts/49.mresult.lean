/-! 49.mresult: contracts of valueOfOption, result -/
theorem k_cut {p : Program} {l : Launch} {e : Env} {R : Room} {st : State} {m : MethodId} {args : Array Value} {below : List Frame} {meth : Method} {c : Code} {H : Heap} {locs : List Loc} {cells slots : Nat} {Q : State → Prop} {g : JFrame} (pc : Nat) (J : Array Slot → Heap → List Loc → Prop)
    (h : ∀ ls H locs, J ls H locs → W p l e R st m args below meth c H locs cells slots Q (F0 m pc ls [])) (kk : (∀ ls H locs, J ls H locs → W p l e R st m args below meth c H locs cells slots Q (F0 m pc ls [])) → W p l e R st m args below meth c H locs cells slots Q g) : W p l e R st m args below meth c H locs cells slots Q g := kk h
/-- amounts, weights, chances are small -/
def bnd (s : QS) : Prop := ∀ j, j < q_n s → (q_am s j).toInt.natAbs ≤ 1024000000 ∧ (q_wa s j).toInt.natAbs ≤ 102400000 ∧ (q_so s j = 1 → (q_wa s j).toInt.natAbs ≤ 128 ∧ (q_wb s j).toInt.natAbs ≤ 128) ∧ (q_so s j = 3 → ∃ c, 1 ≤ c ∧ c ≤ 15 ∧ q_ch s j = nI c)
theorem bnd.o {s : QS} (h : bnd s) (hok : okQ s) {o : Nat} (ho : o < q_n s) (h3 : q_so s o = 3) : bnO s o := by
  obtain ⟨h1, h2⟩ := opt_p hok ho h3
  exact ⟨(h _ h1).1, (h _ h2).1, (h o ho).2.1, (h o ho).2.2.2 h3⟩
/-- what the prices leave of the reference's own -/
def mK (m m' : MS) : Prop := m_li m' = m_li m ∧ m_ne m' = m_ne m ∧ m_oh m' = m_oh m ∧ m_ov m' = m_ov m ∧ m_th m' = m_th m
theorem mK.rf {m : MS} : mK m m := ⟨rfl, rfl, rfl, rfl, rfl⟩
theorem mK.tr {m m' m'' : MS} (h : mK m m') (h' : mK m' m'') : mK m m'' := ⟨h'.1.trans h.1, h'.2.1.trans h.2.1, h'.2.2.1.trans h.2.2.1, h'.2.2.2.1.trans h.2.2.2.1, h'.2.2.2.2.trans h.2.2.2.2⟩
theorem mK_ro (m : MS) (x : Nat → Int64) : mK m (mS_ro m x) := ⟨by simp only [m_li, mS_ro], by simp only [m_ne, mS_ro], by simp only [m_oh, mS_ro], by simp only [m_ov, mS_ro], by simp only [m_th, mS_ro]⟩
theorem mK_fe (m : MS) (x : Nat → Int64) : mK m (mS_fe m x) := ⟨by simp only [m_li, mS_fe], by simp only [m_ne, mS_fe], by simp only [m_oh, mS_fe], by simp only [m_ov, mS_fe], by simp only [m_th, mS_fe]⟩
theorem mK_tr (m : MS) (x : Int32) : mK m (mS_tr m x) := ⟨by simp only [m_li, mS_tr], by simp only [m_ne, mS_tr], by simp only [m_oh, mS_tr], by simp only [m_ov, mS_tr], by simp only [m_th, mS_tr]⟩
theorem mK_nw (m : MS) (x : Int32) : mK m (mS_nw m x) := ⟨by simp only [m_li, mS_nw], by simp only [m_ne, mS_nw], by simp only [m_oh, mS_nw], by simp only [m_ov, mS_nw], by simp only [m_th, mS_nw]⟩
theorem mK_sp (m : MS) (x : Int64) : mK m (mS_sp m x) := ⟨by simp only [m_li, mS_sp], by simp only [m_ne, mS_sp], by simp only [m_oh, mS_sp], by simp only [m_ov, mS_sp], by simp only [m_th, mS_sp]⟩
theorem mK_mv (m : MS) (x : Int64) : mK m (mS_mv m x) := ⟨by simp only [m_li, mS_mv], by simp only [m_ne, mS_mv], by simp only [m_oh, mS_mv], by simp only [m_ov, mS_mv], by simp only [m_th, mS_mv]⟩
theorem mK_kn (m : MS) (x : Int64) : mK m (mS_kn m x) := ⟨by simp only [m_li, mS_kn], by simp only [m_ne, mS_kn], by simp only [m_oh, mS_kn], by simp only [m_ov, mS_kn], by simp only [m_th, mS_kn]⟩
theorem mK_dc (m : MS) (x : Int64) : mK m (mS_dc m x) := ⟨by simp only [m_li, mS_dc], by simp only [m_ne, mS_dc], by simp only [m_oh, mS_dc], by simp only [m_ov, mS_dc], by simp only [m_th, mS_dc]⟩
theorem oW_3 {s : QS} {o : Nat} (h : q_en s o = 1 ∧ q_us s o = true) : oWork s o = (3, 0) := by unfold oWork; rw [if_pos h]
theorem oW_b {s : QS} {o : Nat} (h : ¬ (q_en s o = 1 ∧ q_us s o = true)) (hb : ¬ 0 < oM s o ∨ oTak s o < 0 ∨ 1024 < oTak s o) : oWork s o = (2, 0) := by
  unfold oWork
  rw [if_neg h]
  split
  · rfl
  · split
    · rfl
    · rename_i h2
      have hb : oTak s o < 0 ∨ 1024 < oTak s o := hb.elim (fun h => absurd h h2) id
      rw [if_pos hb]
def prV (V : Option Int64) : Nat × Int64 := match V with
  | none => (2, 0)
  | some v => (0, v)
theorem oW_g {s : QS} {o : Nat} (h : ¬ (q_en s o = 1 ∧ q_us s o = true)) (h1 : 0 < oM s o) (h2 : ¬ oTak s o < 0) (h3 : ¬ 1024 < oTak s o) (h4 : ¬ (q_en s o = 2 ∧ ¬ q_ch s o ≤ 8)) {V : Option Int64} (hV : oPrice s o (1024 - oTak s o) = V) : oWork s o = prV V := by
  unfold oWork
  rw [if_neg h, if_neg h4, if_neg (fun h => h h1), if_neg (fun h => h.elim h2 h3), ← hV]; rfl
theorem oW_c {s : QS} {o : Nat} (h : ¬ (q_en s o = 1 ∧ q_us s o = true)) (h4 : q_en s o = 2 ∧ ¬ q_ch s o ≤ 8) : oWork s o = (2, 0) := by
  unfold oWork; rw [if_neg h, if_pos h4]
/-- the mark and the answer of a work -/
def wkR (w : Nat × Int64) (t : Int32) (r : Int64) : Prop := t = nI w.1 ∧ (w.1 ≠ 2 → r = w.2)
theorem wkR_V {w : Nat × Int64} {V : Option Int64} {t : Int32} {r : Int64} (h : (t = 0 ∧ V = some r) ∨ (t = 2 ∧ V = none)) (e : w = prV V) : wkR w t r := by
  rcases h with ⟨h1, h2⟩ | ⟨h1, h2⟩
  · rw [h2] at e; rw [e]; exact ⟨h1, fun _ => rfl⟩
  · rw [h2] at e; rw [e]; exact ⟨h1, fun h => absurd rfl h⟩
theorem D_r {t : Int64} (h1 : ¬ t < 0) (h2 : ¬ 1024 < t) : 0 ≤ (1024 - t).toInt ∧ (1024 - t).toInt ≤ 1024 := by
  rw [lt_l] at h1 h2
  have h1 : ¬ t.toInt < 0 := h1
  have h2 : ¬ (1024 : Int) < t.toInt := h2
  have e : (1024 - t).toInt = 1024 - t.toInt := l_sub (x := 1024) (by show _ ≤ (1024 : Int) - _; omega) (by show (1024 : Int) - _ < _; omega)
  rw [e]; omega
theorem oTak_n {s : QS} {o : Nat} (h : q_pt s o 2 = none) : oTak s o = 0 := by unfold oTak; rw [h]
theorem oTak_s {s : QS} {o k : Nat} (h : q_pt s o 2 = some k) : oTak s o = flr (q_am s k) 1024 := by rw [flrG]; unfold oTak; rw [h]
set_option maxHeartbeats 4000000 in
set_option maxRecDepth 100000 in
theorem c_M_valueOfOption (l : Launch) (G : GT) (A : Nat → Prop) (lm : Nat → Nat) (s : QS) (m : MS) (u : WT) (hR : rM G lm s m u) (hok : okQ s) (o : Nat) (ho : o < q_n s) (h3o : q_so s o = 3) (hbd : bnd s) (hinv : invO s o) (htr : m_tr m = 0) : Kt l y_M_valueOfOption b_M_valueOfOption 4 (some .long) 3 77 0 0 0 0 0 0 G A u [.ref (lm 0), .int (nI o)] (KQ G A (Rl (fun r u' => ∃ m', mK m m' ∧ wkR (oWork s o) (m_tr m') r ∧ rM G lm s m' u' ∧ fM lm u u'))) (NX) := by
  refine k_of (by decide) (Nat.le_of_ble_eq_true rfl) (fun p e st mt below meth c ls hx hb hr hlocks hml htab hname hown ht hw hl => ?_)
  have hl : lv_has ls 4 [(0, .ref (lm 0)), (1, .int (nI o))] := hl
  have hw : Mk G A lm s m u u st st.heap [] := ⟨hw, hR, fM.rf⟩
  refine k_cut 31 (fun ls H locs => lv_has ls 4 [(0, .ref (lm 0)), (1, .int (nI o))] ∧ ¬ (q_en s o = 1 ∧ q_us s o = true) ∧ ∃ u9, Mk G A lm s (mS_nw m (nI o)) u u9 st H locs) (fun ls H locs hJ => ?_) (fun K => ?_)
  · obtain ⟨hl, hw⟩ := hJ
    obtain ⟨hA9, u9, hw⟩ := hw
    obtain ⟨x0, hx0, hlt0⟩ := (hok.2 o ho).2.1 0 (by decide) (by omega)
    obtain ⟨x1, hx1, hlt1⟩ := (hok.2 o ho).2.1 1 (by decide) (by omega)
    refine k_cut 107 (fun ls H locs => lv_has ls 4 [(0, .ref (lm 0)), (1, .int (nI o)), (2, .long (oTak s o))] ∧ ∃ u9, Mk G A lm s (mS_mv (mS_sp (mS_nw m (nI o)) (oS s o)) (oM s o)) u u9 st H locs) (fun ls H locs hJ => ?_) (fun K2 => ?_)
    · obtain ⟨hl, hw⟩ := hJ
      obtain ⟨u9, hw⟩ := hw
      refine k_cut 139 (fun ls H locs => ∃ kn9 : Int64, lv_has ls 4 [(0, .ref (lm 0)), (1, .int (nI o)), (2, .long (oTak s o))] ∧ (∀ k, q_pt s o 3 = some k → kn9 = q_am s k) ∧ ∃ u9, Mk G A lm s (mS_kn (mS_mv (mS_sp (mS_nw m (nI o)) (oS s o)) (oM s o)) kn9) u u9 st H locs) (fun ls H locs hJ => ?_) (fun K3 => ?_)
      · obtain ⟨kn9, hl, hw⟩ := hJ
        obtain ⟨hkn9, u9, hw⟩ := hw
        refine lv_aload_n hx hb d_M_valueOfOption_139 rfl (lv_at hl 0 rfl) ?_
        refine lv_ldc2 (v := 1024) hx hb hown (ht _ gw_986) d_M_valueOfOption_140 ?_
        refine lv_lload_n hx hb d_M_valueOfOption_143 rfl (lv_at hl 2 rfl) ?_
        refine lv_lsub hx hb d_M_valueOfOption_144 ?_
        refine mp_discount ((1024 : Int64) - (oTak s o)) hx hb ht hown hw gw_828 d_M_valueOfOption_145 (fun H1 locs1 u1 hw => ?_)
        refine lv_aload_n hx hb d_M_valueOfOption_148 rfl (lv_at hl 0 rfl) ?_
        refine mg 29 (by decide) hx hb ht hown hw gw_826 rfl rfl d_M_valueOfOption_149 ?_
        rw [show m_mv (mS_dc (mS_kn (mS_mv (mS_sp (mS_nw m (nI o)) (oS s o)) (oM s o)) kn9) (1024 - oTak s o)) = oM s o from rfl]
        refine lv_lconst (v := 0) hx hb d_M_valueOfOption_152 (by decide) ?_
        refine W.lcmp hx hb d_M_valueOfOption_153 ?_
        refine lv_if_le (tgt := 171) hx hb d_M_valueOfOption_154 (by decide) (fun c2 => ?_) (fun c2 => ?_)
        · refine lv_aload_n hx hb d_M_valueOfOption_171 rfl (lv_at hl 0 rfl) ?_
          refine lv_iconst (v := 2) hx hb d_M_valueOfOption_172 (by decide) ?_
          refine mp_trouble (2 : Int32) hx hb ht hown hw gw_823 d_M_valueOfOption_173 (fun H3 locs3 u3 hw => ?_)
          refine lv_lconst (v := 0) hx hb d_M_valueOfOption_176 (by decide) ?_
          exact kt_l hx hb hr hlocks hw.1 d_M_valueOfOption_177 (by exact ⟨(mS_tr (mS_dc (mS_kn (mS_mv (mS_sp (mS_nw m (nI o)) (oS s o)) (oM s o)) kn9) (1024 - oTak s o)) (2 : Int32)), ((((((mK.rf.tr (mK_nw _ _)).tr (mK_sp _ _)).tr (mK_mv _ _)).tr (mK_kn _ _)).tr (mK_dc _ _)).tr (mK_tr _ _)), by rw [oW_b hA9 (Or.inl (fun h => absurd ((lg_cmp_gt _ _).mpr h) (by rw [i_nlt]; exact c2)))]; exact ⟨rfl, fun h => absurd rfl h⟩, hw.2.1, hw.2.2⟩) (by first | decide | (dsimp only; omega)) (by first | decide | (dsimp only; omega))
        · have h1 : 0 < oM s o := (lg_cmp_gt _ _).mp (by rw [← i_nle]; exact c2)
          refine lv_lload_n hx hb d_M_valueOfOption_157 rfl (lv_at hl 2 rfl) ?_
          refine lv_lconst (v := 0) hx hb d_M_valueOfOption_158 (by decide) ?_
          refine W.lcmp hx hb d_M_valueOfOption_159 ?_
          refine lv_if_lt (tgt := 171) hx hb d_M_valueOfOption_160 (by decide) (fun c4 => ?_) (fun c4 => ?_)
          · refine lv_aload_n hx hb d_M_valueOfOption_171 rfl (lv_at hl 0 rfl) ?_
            refine lv_iconst (v := 2) hx hb d_M_valueOfOption_172 (by decide) ?_
            refine mp_trouble (2 : Int32) hx hb ht hown hw gw_823 d_M_valueOfOption_173 (fun H5 locs5 u5 hw => ?_)
            refine lv_lconst (v := 0) hx hb d_M_valueOfOption_176 (by decide) ?_
            exact kt_l hx hb hr hlocks hw.1 d_M_valueOfOption_177 (by exact ⟨(mS_tr (mS_dc (mS_kn (mS_mv (mS_sp (mS_nw m (nI o)) (oS s o)) (oM s o)) kn9) (1024 - oTak s o)) (2 : Int32)), ((((((mK.rf.tr (mK_nw _ _)).tr (mK_sp _ _)).tr (mK_mv _ _)).tr (mK_kn _ _)).tr (mK_dc _ _)).tr (mK_tr _ _)), by rw [oW_b hA9 (Or.inr (Or.inl ((lg_cmp_lt _ _).mp c4)))]; exact ⟨rfl, fun h => absurd rfl h⟩, hw.2.1, hw.2.2⟩) (by first | decide | (dsimp only; omega)) (by first | decide | (dsimp only; omega))
          · have h2 : ¬ oTak s o < 0 := fun h => c4 ((lg_cmp_lt _ _).mpr h)
            refine lv_lload_n hx hb d_M_valueOfOption_163 rfl (lv_at hl 2 rfl) ?_
            refine lv_ldc2 (v := 1024) hx hb hown (ht _ gw_986) d_M_valueOfOption_164 ?_
            refine W.lcmp hx hb d_M_valueOfOption_167 ?_
            refine lv_if_le (tgt := 178) hx hb d_M_valueOfOption_168 (by decide) (fun c6 => ?_) (fun c6 => ?_)
            · have h3 : ¬ 1024 < oTak s o := fun h => absurd ((lg_cmp_gt _ _).mpr h) (by rw [i_nlt]; exact c6)
              have htr9 : m_tr (mS_dc (mS_kn (mS_mv (mS_sp (mS_nw m (nI o)) (oS s o)) (oM s o)) kn9) (1024 - oTak s o)) = 0 := by rw [show m_tr (mS_dc (mS_kn (mS_mv (mS_sp (mS_nw m (nI o)) (oS s o)) (oM s o)) kn9) (1024 - oTak s o)) = m_tr m by simp only [m_tr, mS_dc, mS_kn, mS_mv, mS_sp, mS_nw]]; exact htr
              have hD := D_r h2 h3
              have hbn := hbd.o hok ho h3o
              obtain ⟨i1, i2, i3, i4, i5, i6⟩ := hinv
              refine lv_aload_n hx hb d_M_valueOfOption_178 rfl (lv_at hl 0 rfl) ?_
              refine mg 13 (by decide) hx hb ht hown hw gw_810 rfl rfl d_M_valueOfOption_179 ?_
              refine lv_iload_n hx hb d_M_valueOfOption_182 rfl (lv_at hl 1 rfl) ?_
              refine ma_engine (j := o) rfl (by have := hR.2.2.2; omega) hx hb hw d_M_valueOfOption_183 ?_
              refine lv_if_ne (tgt := 194) hx hb d_M_valueOfOption_184 (by decide) (fun c7 => ?_) (fun c7 => ?_)
              · have he0 : ¬ q_en s o = 0 := fun h => c7 (by rw [h]; rfl)
                refine lv_aload_n hx hb d_M_valueOfOption_194 rfl (lv_at hl 0 rfl) ?_
                refine mg 13 (by decide) hx hb ht hown hw gw_810 rfl rfl d_M_valueOfOption_195 ?_
                refine lv_iload_n hx hb d_M_valueOfOption_198 rfl (lv_at hl 1 rfl) ?_
                refine ma_engine (j := o) rfl (by have := hR.2.2.2; omega) hx hb hw d_M_valueOfOption_199 ?_
                refine lv_iconst (v := 1) hx hb d_M_valueOfOption_200 (by decide) ?_
                refine lv_icmp_ne (tgt := 211) hx hb d_M_valueOfOption_201 (by decide) (fun c8 => ?_) (fun c8 => ?_)
                · have he2 : q_en s o = 2 := by have h5 : ¬ q_en s o = 1 := (fun h => c8 (by rw [h]; rfl)); have := (hok.2 o ho).2.2.2.2.2; omega
                  obtain ⟨i7, i8⟩ := i6 he2
                  refine lv_aload_n hx hb d_M_valueOfOption_211 rfl (lv_at hl 0 rfl) ?_
                  refine kc_l (kr_V 0 (C := "QuoteGraphModel") (As := []) (rest := []) (c_M_net l G A lm s (mS_dc (mS_kn (mS_mv (mS_sp (mS_nw m (nI o)) (oS s o)) (oM s o)) kn9) (1024 - oTak s o)) u1 hw.2.1 hok o ho rfl hkn9 (1024 - oTak s o) hD rfl rfl rfl hbn htr9 (szN s o) (spN s o) i7 i8 i3 i4 i1) hx hb hml hown ht hw.1 gw_1019 gw_1021 gw_40 gw_47 gw_1022 ⟨⟨by decide, by decide⟩, by decide +kernel⟩ ⟨by first | decide | (dsimp only; omega), by first | decide | (dsimp only; omega)⟩ (kr_M hw) rfl hl.1 rfl (lv_room (Nat.le_of_ble_eq_true rfl)) d_M_valueOfOption_212 ⟨by first | decide | (dsimp only; omega), by first | decide | (dsimp only; omega)⟩) hw.1 (fun _ _ _ _ _ _ h => h.elim) (fun r9 u9 H9 locs9 hp9 hw9 => ?_)
                  obtain ⟨g9, h9, t9, w1, w2, w3⟩ := hp9
                  have hw : Mk G A lm s (mS_tr (mS_fe (mS_ro (mS_dc (mS_kn (mS_mv (mS_sp (mS_nw m (nI o)) (oS s o)) (oM s o)) kn9) (1024 - oTak s o)) g9) h9) t9) u u9 st H9 locs9 := ⟨hw9, w1, hw.2.2.tr w2⟩
                  have hwk : wkR (oWork s o) t9 r9 := by
                    rcases w3 with ⟨w4, w5⟩ | ⟨w4, w5⟩
                    · rw [oW_c hA9 ⟨he2, w4⟩]; exact ⟨w5, fun h => absurd rfl h⟩
                    · exact wkR_V w5 (oW_g hA9 h1 h2 h3 (fun h => h.2 w4) (show oPrice s o (1024 - oTak s o) = _ by unfold oPrice; rw [if_neg he0, if_neg (by rw [he2]; decide), netV_ext s o _ _ _ i7 _ (m_ro (mS_dc (mS_kn (mS_mv (mS_sp (mS_nw m (nI o)) (oS s o)) (oM s o)) kn9) (1024 - oTak s o)))]))
                  exact kt_l hx hb hr hlocks hw.1 d_M_valueOfOption_215 (by exact ⟨(mS_tr (mS_fe (mS_ro (mS_dc (mS_kn (mS_mv (mS_sp (mS_nw m (nI o)) (oS s o)) (oM s o)) kn9) (1024 - oTak s o)) g9) h9) t9), ((((((((mK.rf.tr (mK_nw _ _)).tr (mK_sp _ _)).tr (mK_mv _ _)).tr (mK_kn _ _)).tr (mK_dc _ _)).tr (mK_ro _ _)).tr (mK_fe _ _)).tr (mK_tr _ _)), hwk, hw.2.1, hw.2.2⟩) (by first | decide | (dsimp only; omega)) (by first | decide | (dsimp only; omega))
                · have he1 : q_en s o = 1 := nI_inj9 (b := 1) c8 (by have := (hok.2 o ho).2.2.2.2.2; omega)
                  refine lv_aload_n hx hb d_M_valueOfOption_204 rfl (lv_at hl 0 rfl) ?_
                  refine kc_l (kr_V 0 (C := "QuoteGraphModel") (As := []) (rest := []) (c_M_paths l G A lm s (mS_dc (mS_kn (mS_mv (mS_sp (mS_nw m (nI o)) (oS s o)) (oM s o)) kn9) (1024 - oTak s o)) u1 hw.2.1 hok o ho rfl hkn9 (1024 - oTak s o) hD rfl rfl rfl hbn htr9 (szN s o) (spN s o) (i5 he1) i3 i4 i1) hx hb hml hown ht hw.1 gw_1009 gw_1011 gw_39 gw_47 gw_1012 ⟨⟨by decide, by decide⟩, by decide +kernel⟩ ⟨by first | decide | (dsimp only; omega), by first | decide | (dsimp only; omega)⟩ (kr_M hw) rfl hl.1 rfl (lv_room (Nat.le_of_ble_eq_true rfl)) d_M_valueOfOption_205 ⟨by first | decide | (dsimp only; omega), by first | decide | (dsimp only; omega)⟩) hw.1 (fun _ _ _ _ _ _ h => h.elim) (fun r10 u10 H10 locs10 hp10 hw10 => ?_)
                  obtain ⟨t9, w1, w2, w3⟩ := hp10
                  have hw : Mk G A lm s (mS_tr (mS_dc (mS_kn (mS_mv (mS_sp (mS_nw m (nI o)) (oS s o)) (oM s o)) kn9) (1024 - oTak s o)) t9) u u10 st H10 locs10 := ⟨hw10, w1, hw.2.2.tr w2⟩
                  have eW := oW_g hA9 h1 h2 h3 (fun h => by rw [he1] at h; exact absurd h.1 (by decide)) (V := _) (show oPrice s o (1024 - oTak s o) = _ by unfold oPrice; rw [if_neg he0, if_pos he1])
                  refine lv_goto (tgt := 215) hx hb d_M_valueOfOption_208 (by decide) ?_
                  exact kt_l hx hb hr hlocks hw.1 d_M_valueOfOption_215 (by exact ⟨(mS_tr (mS_dc (mS_kn (mS_mv (mS_sp (mS_nw m (nI o)) (oS s o)) (oM s o)) kn9) (1024 - oTak s o)) t9), ((((((mK.rf.tr (mK_nw _ _)).tr (mK_sp _ _)).tr (mK_mv _ _)).tr (mK_kn _ _)).tr (mK_dc _ _)).tr (mK_tr _ _)), wkR_V w3 eW, hw.2.1, hw.2.2⟩) (by first | decide | (dsimp only; omega)) (by first | decide | (dsimp only; omega))
              · have he0 : q_en s o = 0 := nI_inj9 (b := 0) c7 (by have := (hok.2 o ho).2.2.2.2.2; omega)
                refine lv_aload_n hx hb d_M_valueOfOption_187 rfl (lv_at hl 0 rfl) ?_
                refine kc_l (kr_V 0 (C := "QuoteGraphModel") (As := []) (rest := []) (c_M_lattice l G A lm s (mS_dc (mS_kn (mS_mv (mS_sp (mS_nw m (nI o)) (oS s o)) (oM s o)) kn9) (1024 - oTak s o)) u1 hw.2.1 hok o ho rfl hkn9 (1024 - oTak s o) hD rfl rfl rfl hbn htr9 (spN s o) i2 i3 i1) hx hb hml hown ht hw.1 gw_987 gw_989 gw_35 gw_47 gw_990 ⟨⟨by decide, by decide⟩, by decide +kernel⟩ ⟨by first | decide | (dsimp only; omega), by first | decide | (dsimp only; omega)⟩ (kr_M hw) rfl hl.1 rfl (lv_room (Nat.le_of_ble_eq_true rfl)) d_M_valueOfOption_188 ⟨by first | decide | (dsimp only; omega), by first | decide | (dsimp only; omega)⟩) hw.1 (fun _ _ _ _ _ _ h => h.elim) (fun r11 u11 H11 locs11 hp11 hw11 => ?_)
                obtain ⟨g9, t9, w1, w2, w3⟩ := hp11
                have hw : Mk G A lm s (mS_tr (mS_ro (mS_dc (mS_kn (mS_mv (mS_sp (mS_nw m (nI o)) (oS s o)) (oM s o)) kn9) (1024 - oTak s o)) g9) t9) u u11 st H11 locs11 := ⟨hw11, w1, hw.2.2.tr w2⟩
                have eW := oW_g hA9 h1 h2 h3 (fun h => by rw [he0] at h; exact absurd h.1 (by decide)) (V := _) (show oPrice s o (1024 - oTak s o) = _ by unfold oPrice; rw [if_pos he0, latV_ext s o _ _ _ (m_ro (mS_dc (mS_kn (mS_mv (mS_sp (mS_nw m (nI o)) (oS s o)) (oM s o)) kn9) (1024 - oTak s o)))])
                refine lv_goto (tgt := 215) hx hb d_M_valueOfOption_191 (by decide) ?_
                exact kt_l hx hb hr hlocks hw.1 d_M_valueOfOption_215 (by exact ⟨(mS_tr (mS_ro (mS_dc (mS_kn (mS_mv (mS_sp (mS_nw m (nI o)) (oS s o)) (oM s o)) kn9) (1024 - oTak s o)) g9) t9), (((((((mK.rf.tr (mK_nw _ _)).tr (mK_sp _ _)).tr (mK_mv _ _)).tr (mK_kn _ _)).tr (mK_dc _ _)).tr (mK_ro _ _)).tr (mK_tr _ _)), wkR_V w3 eW, hw.2.1, hw.2.2⟩) (by first | decide | (dsimp only; omega)) (by first | decide | (dsimp only; omega))
            · refine lv_aload_n hx hb d_M_valueOfOption_171 rfl (lv_at hl 0 rfl) ?_
              refine lv_iconst (v := 2) hx hb d_M_valueOfOption_172 (by decide) ?_
              refine mp_trouble (2 : Int32) hx hb ht hown hw gw_823 d_M_valueOfOption_173 (fun H12 locs12 u12 hw => ?_)
              refine lv_lconst (v := 0) hx hb d_M_valueOfOption_176 (by decide) ?_
              exact kt_l hx hb hr hlocks hw.1 d_M_valueOfOption_177 (by exact ⟨(mS_tr (mS_dc (mS_kn (mS_mv (mS_sp (mS_nw m (nI o)) (oS s o)) (oM s o)) kn9) (1024 - oTak s o)) (2 : Int32)), ((((((mK.rf.tr (mK_nw _ _)).tr (mK_sp _ _)).tr (mK_mv _ _)).tr (mK_kn _ _)).tr (mK_dc _ _)).tr (mK_tr _ _)), by rw [oW_b hA9 (Or.inr (Or.inr ((lg_cmp_gt _ _).mp (by rw [← i_nle]; exact c6))))]; exact ⟨rfl, fun h => absurd rfl h⟩, hw.2.1, hw.2.2⟩) (by first | decide | (dsimp only; omega)) (by first | decide | (dsimp only; omega))
      · refine lv_aload_n hx hb d_M_valueOfOption_107 rfl (lv_at hl 0 rfl) ?_
        refine mg 1 (by decide) hx hb ht hown hw gw_798 rfl rfl d_M_valueOfOption_108 ?_
        refine lv_iload_n hx hb d_M_valueOfOption_111 rfl (lv_at hl 1 rfl) ?_
        refine lv_iconst (v := 4) hx hb d_M_valueOfOption_112 (by decide) ?_
        refine lv_imul hx hb d_M_valueOfOption_113 ?_
        refine lv_iconst (v := 3) hx hb d_M_valueOfOption_114 (by decide) ?_
        refine lv_iadd hx hb d_M_valueOfOption_115 ?_
        refine ma_part (j := (4 * o + 3)) (mul4 _ 3) (by have := hR.2.2.2; omega) hx hb hw d_M_valueOfOption_116 ?_
        rw [show m_pt (mS_mv (mS_sp (mS_nw m (nI o)) (oS s o)) (oM s o)) (4 * o + 3) = pI (q_pt s o 3) from hw.2.1.2.2.1 o 3 ho (by decide)]
        rcases hq3 : q_pt s o 3 with _ | x3
        · refine lv_if_lt (tgt := 139) hx hb d_M_valueOfOption_117 (by decide) (fun c7 => ?_) (fun c7 => ?_)
          · exact K3 ls H locs ⟨m_kn m, lv_sub hl [0, 1, 2] rfl, (fun k h => by rw [hq3] at h; cases h), u9, hw⟩
          · exact absurd (show pI none < 0 from by decide) c7
        · have hlt3 := (hok.2 o ho).2.2.2.2.1 3 x3 hq3
          refine lv_if_lt (tgt := 139) hx hb d_M_valueOfOption_117 (by decide) (fun c7 => ?_) (fun c7 => ?_)
          · exact absurd c7 (nI_pos (by have := hR.2.2.2; omega))
          · refine lv_aload_n hx hb d_M_valueOfOption_120 rfl (lv_at hl 0 rfl) ?_
            refine lv_aload_n hx hb d_M_valueOfOption_121 rfl (lv_at hl 0 rfl) ?_
            refine mg 2 (by decide) hx hb ht hown hw gw_799 rfl rfl d_M_valueOfOption_122 ?_
            refine lv_aload_n hx hb d_M_valueOfOption_125 rfl (lv_at hl 0 rfl) ?_
            refine mg 1 (by decide) hx hb ht hown hw gw_798 rfl rfl d_M_valueOfOption_126 ?_
            refine lv_iload_n hx hb d_M_valueOfOption_129 rfl (lv_at hl 1 rfl) ?_
            refine lv_iconst (v := 4) hx hb d_M_valueOfOption_130 (by decide) ?_
            refine lv_imul hx hb d_M_valueOfOption_131 ?_
            refine lv_iconst (v := 3) hx hb d_M_valueOfOption_132 (by decide) ?_
            refine lv_iadd hx hb d_M_valueOfOption_133 ?_
            refine ma_part (j := (4 * o + 3)) (mul4 _ 3) (by have := hR.2.2.2; omega) hx hb hw d_M_valueOfOption_134 ?_
            rw [show m_pt (mS_mv (mS_sp (mS_nw m (nI o)) (oS s o)) (oM s o)) (4 * o + 3) = nI x3 from (hw.2.1.2.2.1 o 3 ho (by decide)).trans (by rw [hq3]; rfl)]
            refine ma_held (j := x3) rfl (by have := hR.2.2.2; have := hlt3; omega) hx hb hw d_M_valueOfOption_135 ?_
            refine mp_knock (q_am s x3) hx hb ht hown hw gw_827 d_M_valueOfOption_136 (fun H13 locs13 u13 hw => ?_)
            exact K3 ls H13 locs13 ⟨q_am s x3, lv_sub hl [0, 1, 2] rfl, (fun k h => by rw [hq3] at h; cases h; rfl), u13, hw⟩
    · refine lv_aload_n hx hb d_M_valueOfOption_31 rfl (lv_at hl 0 rfl) ?_
      refine lv_aload_n hx hb d_M_valueOfOption_32 rfl (lv_at hl 0 rfl) ?_
      refine mg 2 (by decide) hx hb ht hown hw gw_799 rfl rfl d_M_valueOfOption_33 ?_
      refine lv_aload_n hx hb d_M_valueOfOption_36 rfl (lv_at hl 0 rfl) ?_
      refine mg 1 (by decide) hx hb ht hown hw gw_798 rfl rfl d_M_valueOfOption_37 ?_
      refine lv_iload_n hx hb d_M_valueOfOption_40 rfl (lv_at hl 1 rfl) ?_
      refine lv_iconst (v := 4) hx hb d_M_valueOfOption_41 (by decide) ?_
      refine lv_imul hx hb d_M_valueOfOption_42 ?_
      refine ma_part (j := (4 * o)) (mul40 _) (by have := hR.2.2.2; omega) hx hb hw d_M_valueOfOption_43 ?_
      rw [show m_pt (mS_nw m (nI o)) (4 * o) = nI x0 from (hw.2.1.2.2.1 o 0 ho (by decide)).trans (by rw [hx0]; rfl)]
      refine ma_held (j := x0) rfl (by have := hR.2.2.2; have := hlt0; omega) hx hb hw d_M_valueOfOption_44 ?_
      rw [show q_am s x0 = oS s o by unfold oS; rw [hx0]; rfl]
      refine mp_spot (oS s o) hx hb ht hown hw gw_825 d_M_valueOfOption_45 (fun H14 locs14 u14 hw => ?_)
      refine lv_aload_n hx hb d_M_valueOfOption_48 rfl (lv_at hl 0 rfl) ?_
      refine lv_aload_n hx hb d_M_valueOfOption_49 rfl (lv_at hl 0 rfl) ?_
      refine mg 2 (by decide) hx hb ht hown hw gw_799 rfl rfl d_M_valueOfOption_50 ?_
      refine lv_aload_n hx hb d_M_valueOfOption_53 rfl (lv_at hl 0 rfl) ?_
      refine mg 1 (by decide) hx hb ht hown hw gw_798 rfl rfl d_M_valueOfOption_54 ?_
      refine lv_iload_n hx hb d_M_valueOfOption_57 rfl (lv_at hl 1 rfl) ?_
      refine lv_iconst (v := 4) hx hb d_M_valueOfOption_58 (by decide) ?_
      refine lv_imul hx hb d_M_valueOfOption_59 ?_
      refine lv_iconst (v := 1) hx hb d_M_valueOfOption_60 (by decide) ?_
      refine lv_iadd hx hb d_M_valueOfOption_61 ?_
      refine ma_part (j := (4 * o + 1)) (mul4 _ 1) (by have := hR.2.2.2; omega) hx hb hw d_M_valueOfOption_62 ?_
      rw [show m_pt (mS_sp (mS_nw m (nI o)) (oS s o)) (4 * o + 1) = nI x1 from (hw.2.1.2.2.1 o 1 ho (by decide)).trans (by rw [hx1]; rfl)]
      refine ma_held (j := x1) rfl (by have := hR.2.2.2; have := hlt1; omega) hx hb hw d_M_valueOfOption_63 ?_
      rw [show q_am s x1 = oM s o by unfold oM; rw [hx1]; rfl]
      refine mp_move (oM s o) hx hb ht hown hw gw_826 d_M_valueOfOption_64 (fun H15 locs15 u15 hw => ?_)
      refine lv_aload_n hx hb d_M_valueOfOption_67 rfl (lv_at hl 0 rfl) ?_
      refine mg 1 (by decide) hx hb ht hown hw gw_798 rfl rfl d_M_valueOfOption_68 ?_
      refine lv_iload_n hx hb d_M_valueOfOption_71 rfl (lv_at hl 1 rfl) ?_
      refine lv_iconst (v := 4) hx hb d_M_valueOfOption_72 (by decide) ?_
      refine lv_imul hx hb d_M_valueOfOption_73 ?_
      refine lv_iconst (v := 2) hx hb d_M_valueOfOption_74 (by decide) ?_
      refine lv_iadd hx hb d_M_valueOfOption_75 ?_
      refine ma_part (j := (4 * o + 2)) (mul4 _ 2) (by have := hR.2.2.2; omega) hx hb hw d_M_valueOfOption_76 ?_
      rw [show m_pt (mS_mv (mS_sp (mS_nw m (nI o)) (oS s o)) (oM s o)) (4 * o + 2) = pI (q_pt s o 2) from hw.2.1.2.2.1 o 2 ho (by decide)]
      rcases hq2 : q_pt s o 2 with _ | x2
      · refine lv_if_ge (tgt := 84) hx hb d_M_valueOfOption_77 (by decide) (fun c7 => ?_) (fun c7 => ?_)
        · exact absurd c7 (by decide)
        · refine lv_lconst (v := 0) hx hb d_M_valueOfOption_80 (by decide) ?_
          refine lv_goto (tgt := 106) hx hb d_M_valueOfOption_81 (by decide) ?_
          refine lv_lstore_n (lv' := [(2, .long (0 : Int64)), (0, .ref (lm 0)), (1, .int (nI o))]) hx hb d_M_valueOfOption_106 rfl hl (by decide) rfl (fun ls hl => ?_)
          have hl : lv_has ls 4 [(2, .long (oTak s o)), (0, .ref (lm 0)), (1, .int (nI o))] := by rw [oTak_n hq2]; exact hl
          exact K2 ls H15 locs15 ⟨lv_sub hl [1, 2, 0] rfl, u15, hw⟩
      · have hlt2 := (hok.2 o ho).2.2.2.2.1 2 x2 hq2
        refine lv_if_ge (tgt := 84) hx hb d_M_valueOfOption_77 (by decide) (fun c7 => ?_) (fun c7 => ?_)
        · refine lv_aload_n hx hb d_M_valueOfOption_84 rfl (lv_at hl 0 rfl) ?_
          refine lv_aload_n hx hb d_M_valueOfOption_85 rfl (lv_at hl 0 rfl) ?_
          refine mg 2 (by decide) hx hb ht hown hw gw_799 rfl rfl d_M_valueOfOption_86 ?_
          refine lv_aload_n hx hb d_M_valueOfOption_89 rfl (lv_at hl 0 rfl) ?_
          refine mg 1 (by decide) hx hb ht hown hw gw_798 rfl rfl d_M_valueOfOption_90 ?_
          refine lv_iload_n hx hb d_M_valueOfOption_93 rfl (lv_at hl 1 rfl) ?_
          refine lv_iconst (v := 4) hx hb d_M_valueOfOption_94 (by decide) ?_
          refine lv_imul hx hb d_M_valueOfOption_95 ?_
          refine lv_iconst (v := 2) hx hb d_M_valueOfOption_96 (by decide) ?_
          refine lv_iadd hx hb d_M_valueOfOption_97 ?_
          refine ma_part (j := (4 * o + 2)) (mul4 _ 2) (by have := hR.2.2.2; omega) hx hb hw d_M_valueOfOption_98 ?_
          rw [show m_pt (mS_mv (mS_sp (mS_nw m (nI o)) (oS s o)) (oM s o)) (4 * o + 2) = nI x2 from (hw.2.1.2.2.1 o 2 ho (by decide)).trans (by rw [hq2]; rfl)]
          refine ma_held (j := x2) rfl (by have := hR.2.2.2; have := hlt2; omega) hx hb hw d_M_valueOfOption_99 ?_
          refine lv_ldc2 (v := 1024) hx hb hown (ht _ gw_986) d_M_valueOfOption_100 ?_
          refine kc_l (kr_V 2 (C := "QuoteGraphModel") (As := [.long (q_am s x2), .long (1024 : Int64)]) (rest := []) (c_M_floored l G A u15 (lm 0) (q_am s x2) (1024) (by decide)) hx hb hml hown ht hw.1 gw_978 gw_980 gw_33 gw_47 gw_981 ⟨⟨by decide, by decide⟩, by decide +kernel⟩ ⟨by first | decide | (dsimp only; omega), by first | decide | (dsimp only; omega)⟩ (kr_M hw) rfl hl.1 rfl (lv_room (Nat.le_of_ble_eq_true rfl)) d_M_valueOfOption_103 ⟨by first | decide | (dsimp only; omega), by first | decide | (dsimp only; omega)⟩) hw.1 (fun _ _ _ _ _ _ h => h.elim) (fun r16 u16 H16 locs16 hp16 hw16 => ?_)
          obtain ⟨er16, hq16⟩ := hp16
          replace hq16 := hq16.symm; subst hq16
          subst er16
          have hw : Mk G A lm s (mS_mv (mS_sp (mS_nw m (nI o)) (oS s o)) (oM s o)) u u15 st H16 locs16 := ⟨hw16, hw.2⟩
          rw [← oTak_s hq2]
          refine lv_lstore_n (lv' := [(2, .long (oTak s o)), (0, .ref (lm 0)), (1, .int (nI o))]) hx hb d_M_valueOfOption_106 rfl hl (by decide) rfl (fun ls hl => ?_)
          exact K2 ls H16 locs16 ⟨lv_sub hl [1, 2, 0] rfl, u15, hw⟩
        · exact absurd (show (0 : Int32) ≤ nI x2 from i_nlt.mp (nI_pos (by have := hR.2.2.2; omega))) c7
  · refine lv_aload_n hx hb d_M_valueOfOption_0 rfl (lv_at hl 0 rfl) ?_
    refine lv_iload_n hx hb d_M_valueOfOption_1 rfl (lv_at hl 1 rfl) ?_
    refine mp_now (nI o) hx hb ht hown hw gw_824 d_M_valueOfOption_2 (fun H17 locs17 u17 hw => ?_)
    have hw : Mk G A lm s (mS_nw m (nI o)) u u17 st H17 locs17 := hw
    refine lv_aload_n hx hb d_M_valueOfOption_5 rfl (lv_at hl 0 rfl) ?_
    refine mg 13 (by decide) hx hb ht hown hw gw_810 rfl rfl d_M_valueOfOption_6 ?_
    refine lv_iload_n hx hb d_M_valueOfOption_9 rfl (lv_at hl 1 rfl) ?_
    refine ma_engine (j := o) rfl (by have := hR.2.2.2; omega) hx hb hw d_M_valueOfOption_10 ?_
    refine lv_iconst (v := 1) hx hb d_M_valueOfOption_11 (by decide) ?_
    refine lv_icmp_ne (tgt := 31) hx hb d_M_valueOfOption_12 (by decide) (fun c18 => ?_) (fun c18 => ?_)
    · exact K ls H17 locs17 ⟨lv_sub hl [0, 1] rfl, (fun h => c18 (by rw [h.1]; rfl)), u17, hw⟩
    · have he1 : q_en s o = 1 := nI_inj9 (b := 1) c18 (by have := (hok.2 o ho).2.2.2.2.2; omega)
      refine lv_aload_n hx hb d_M_valueOfOption_15 rfl (lv_at hl 0 rfl) ?_
      refine mg 12 (by decide) hx hb ht hown hw gw_809 rfl rfl d_M_valueOfOption_16 ?_
      refine lv_iload_n hx hb d_M_valueOfOption_19 rfl (lv_at hl 1 rfl) ?_
      refine ma_american (j := o) rfl (by have := hR.2.2.2; omega) hx hb hw d_M_valueOfOption_20 ?_
      refine lv_if_eq (tgt := 31) hx hb d_M_valueOfOption_21 (by decide) (fun c19 => ?_) (fun c19 => ?_)
      · exact K ls H17 locs17 ⟨lv_sub hl [0, 1] rfl, (fun h => by rw [(bI_eq _).mp c19] at h; exact absurd h.2 (by decide)), u17, hw⟩
      · refine lv_aload_n hx hb d_M_valueOfOption_24 rfl (lv_at hl 0 rfl) ?_
        refine lv_iconst (v := 3) hx hb d_M_valueOfOption_25 (by decide) ?_
        refine mp_trouble (3 : Int32) hx hb ht hown hw gw_823 d_M_valueOfOption_26 (fun H20 locs20 u20 hw => ?_)
        refine lv_lconst (v := 0) hx hb d_M_valueOfOption_29 (by decide) ?_
        exact kt_l hx hb hr hlocks hw.1 d_M_valueOfOption_30 (by exact ⟨(mS_tr (mS_nw m (nI o)) (3 : Int32)), ((mK.rf.tr (mK_nw _ _)).tr (mK_tr _ _)), by rw [oW_3 ⟨he1, (bI_ne _).mp c19⟩]; exact ⟨rfl, fun _ => rfl⟩, hw.2.1, hw.2.2⟩) (by first | decide | (dsimp only; omega)) (by first | decide | (dsimp only; omega))
/-- what the reference works out before the last look -/
def rsV (s : QS) (j : Nat) : Nat × Int64 := if q_so s j = 1 then (0, rndL (q_wa s j * q_am s (cp s j 0) + q_wb s j * q_am s (cp s j 1)) 3) else if q_so s j = 2 then (0, mxL (q_am s (cp s j 0)) (q_am s (cp s j 1))) else oWork s j
theorem bl_e {s : QS} {j x0 x1 : Nat} (hb : bnd s) (hj : j < q_n s) (h1 : q_so s j = 1) (h0 : x0 < q_n s) (h2 : x1 < q_n s) : flr (q_wa s j * q_am s x0 + q_wb s j * q_am s x1 + 4) 8 = rndL (q_wa s j * q_am s x0 + q_wb s j * q_am s x1) 3 := by
  obtain ⟨-, -, h3, -⟩ := hb j hj
  obtain ⟨h4, h5⟩ := h3 h1
  have h6 := mulB h4 (hb x0 h0).1
  have h7 := mulB h5 (hb x1 h2).1
  have e1 : (q_wa s j * q_am s x0).toInt = (q_wa s j).toInt * (q_am s x0).toInt := l_mul (by omega) (by omega)
  have e2 : (q_wb s j * q_am s x1).toInt = (q_wb s j).toInt * (q_am s x1).toInt := l_mul (by omega) (by omega)
  refine flr3 ?_
  rw [l_add (by rw [e1, e2]; omega) (by rw [e1, e2]; omega), e1, e2]; omega
theorem wkA_r {s : QS} {j : Nat} (h0 : q_so s j ≠ 0) : wkA s j = if (rsV s j).1 = 0 then (if bigL (rsV s j).2 = true then (2, 0) else (0, (rsV s j).2)) else ((rsV s j).1, 0) := by
  unfold wkA wkV rsV
  rw [if_neg h0]
  by_cases h1 : q_so s j = 1
  · rw [if_pos h1, if_pos h1]
    by_cases hg : bigL (rndL (q_wa s j * q_am s (cp s j 0) + q_wb s j * q_am s (cp s j 1)) 3) = true
    · simp [hg]
    · simp [hg]
  · rw [if_neg h1, if_neg h1]
set_option maxHeartbeats 4000000 in
set_option maxRecDepth 100000 in
theorem c_M_result (l : Launch) (G : GT) (A : Nat → Prop) (lm : Nat → Nat) (s : QS) (m : MS) (u : WT) (hR : rM G lm s m u) (hok : okQ s) (o : Nat) (ho : o < q_n s) (h0o : q_so s o ≠ 0) (hbd : bnd s) (hinv : q_so s o = 3 → invO s o) (htr : m_tr m = 0) : Kt l y_M_result b_M_result 6 (some .long) 4 100 0 0 0 0 0 0 G A u [.ref (lm 0), .int (nI o)] (KQ G A (Rl (fun r u' => ∃ m', mK m m' ∧ wkR (rsV s o) (m_tr m') r ∧ rM G lm s m' u' ∧ fM lm u u'))) (NX) := by
  refine k_of (by decide) (Nat.le_of_ble_eq_true rfl) (fun p e st mt below meth c ls hx hb hr hlocks hml htab hname hown ht hw hl => ?_)
  have hl : lv_has ls 6 [(0, .ref (lm 0)), (1, .int (nI o))] := hl
  have hw : Mk G A lm s m u u st st.heap [] := ⟨hw, hR, fM.rf⟩
  have h4 := (hok.2 o ho).1
  have hc : q_so s o = 1 ∨ q_so s o = 2 ∨ q_so s o = 3 := by omega
  rcases hc with hc | hc | hc
  · obtain ⟨x0, hx0, hlt0⟩ := (hok.2 o ho).2.1 0 (by decide) (by omega)
    obtain ⟨x1, hx1, hlt1⟩ := (hok.2 o ho).2.1 1 (by decide) (by omega)
    have e0 : cp s o 0 = x0 := by unfold cp; rw [if_pos (by decide), hx0]; rfl
    have e1 : cp s o 1 = x1 := by unfold cp; rw [if_pos (by decide), hx1]; rfl
    refine lv_aload_n hx hb d_M_result_0 rfl (lv_at hl 0 rfl) ?_
    refine mg 0 (by decide) hx hb ht hown hw gw_797 rfl rfl d_M_result_1 ?_
    refine lv_iload_n hx hb d_M_result_4 rfl (lv_at hl 1 rfl) ?_
    refine ma_sort (j := o) rfl (by have := hR.2.2.2; omega) hx hb hw d_M_result_5 ?_
    rw [hc]
    refine lv_iconst (v := 3) hx hb d_M_result_6 (by decide) ?_
    refine lv_icmp_ge (tgt := 26) hx hb d_M_result_7 (by decide) (fun c9 => ?_) (fun c9 => ?_)
    · exact absurd c9 (by decide)
    · refine lv_aload_n hx hb d_M_result_10 rfl (lv_at hl 0 rfl) ?_
      refine mg 2 (by decide) hx hb ht hown hw gw_799 rfl rfl d_M_result_11 ?_
      refine lv_aload_n hx hb d_M_result_14 rfl (lv_at hl 0 rfl) ?_
      refine mg 1 (by decide) hx hb ht hown hw gw_798 rfl rfl d_M_result_15 ?_
      refine lv_iload_n hx hb d_M_result_18 rfl (lv_at hl 1 rfl) ?_
      refine lv_iconst (v := 4) hx hb d_M_result_19 (by decide) ?_
      refine lv_imul hx hb d_M_result_20 ?_
      refine ma_part (j := (4 * o)) (mul40 _) (by have := hR.2.2.2; omega) hx hb hw d_M_result_21 ?_
      rw [show m_pt m (4 * o) = nI x0 from (hw.2.1.2.2.1 o 0 ho (by decide)).trans (by rw [hx0]; rfl)]
      refine ma_held (j := x0) rfl (by have := hR.2.2.2; have := hlt0; omega) hx hb hw d_M_result_22 ?_
      refine lv_goto (tgt := 27) hx hb d_M_result_23 (by decide) ?_
      refine lv_lstore_n (lv' := [(2, .long (q_am s x0)), (0, .ref (lm 0)), (1, .int (nI o))]) hx hb d_M_result_27 rfl hl (by decide) rfl (fun ls hl => ?_)
      refine lv_aload_n hx hb d_M_result_28 rfl (lv_at hl 1 rfl) ?_
      refine mg 0 (by decide) hx hb ht hown hw gw_797 rfl rfl d_M_result_29 ?_
      refine lv_iload_n hx hb d_M_result_32 rfl (lv_at hl 2 rfl) ?_
      refine ma_sort (j := o) rfl (by have := hR.2.2.2; omega) hx hb hw d_M_result_33 ?_
      rw [hc]
      refine lv_iconst (v := 3) hx hb d_M_result_34 (by decide) ?_
      refine lv_icmp_ge (tgt := 56) hx hb d_M_result_35 (by decide) (fun c8 => ?_) (fun c8 => ?_)
      · exact absurd c8 (by decide)
      · refine lv_aload_n hx hb d_M_result_38 rfl (lv_at hl 1 rfl) ?_
        refine mg 2 (by decide) hx hb ht hown hw gw_799 rfl rfl d_M_result_39 ?_
        refine lv_aload_n hx hb d_M_result_42 rfl (lv_at hl 1 rfl) ?_
        refine mg 1 (by decide) hx hb ht hown hw gw_798 rfl rfl d_M_result_43 ?_
        refine lv_iload_n hx hb d_M_result_46 rfl (lv_at hl 2 rfl) ?_
        refine lv_iconst (v := 4) hx hb d_M_result_47 (by decide) ?_
        refine lv_imul hx hb d_M_result_48 ?_
        refine lv_iconst (v := 1) hx hb d_M_result_49 (by decide) ?_
        refine lv_iadd hx hb d_M_result_50 ?_
        refine ma_part (j := (4 * o + 1)) (mul4 _ 1) (by have := hR.2.2.2; omega) hx hb hw d_M_result_51 ?_
        rw [show m_pt m (4 * o + 1) = nI x1 from (hw.2.1.2.2.1 o 1 ho (by decide)).trans (by rw [hx1]; rfl)]
        refine ma_held (j := x1) rfl (by have := hR.2.2.2; have := hlt1; omega) hx hb hw d_M_result_52 ?_
        refine lv_goto (tgt := 57) hx hb d_M_result_53 (by decide) ?_
        refine lv_lstore (lv' := [(4, .long (q_am s x1)), (2, .long (q_am s x0)), (0, .ref (lm 0)), (1, .int (nI o))]) hx hb d_M_result_57 hl (by decide) rfl (fun ls hl => ?_)
        refine lv_aload_n hx hb d_M_result_59 rfl (lv_at hl 2 rfl) ?_
        refine mg 0 (by decide) hx hb ht hown hw gw_797 rfl rfl d_M_result_60 ?_
        refine lv_iload_n hx hb d_M_result_63 rfl (lv_at hl 3 rfl) ?_
        refine ma_sort (j := o) rfl (by have := hR.2.2.2; omega) hx hb hw d_M_result_64 ?_
        rw [hc]
        refine lv_iconst (v := 1) hx hb d_M_result_65 (by decide) ?_
        refine lv_icmp_ne (tgt := 99) hx hb d_M_result_66 (by decide) (fun c7 => ?_) (fun c7 => ?_)
        · exact absurd rfl c7
        · refine lv_aload_n hx hb d_M_result_69 rfl (lv_at hl 2 rfl) ?_
          refine lv_aload_n hx hb d_M_result_70 rfl (lv_at hl 2 rfl) ?_
          refine mg 7 (by decide) hx hb ht hown hw gw_804 rfl rfl d_M_result_71 ?_
          refine lv_iload_n hx hb d_M_result_74 rfl (lv_at hl 3 rfl) ?_
          refine ma_weightA (j := o) rfl (by have := hR.2.2.2; omega) hx hb hw d_M_result_75 ?_
          refine lv_lload_n hx hb d_M_result_76 rfl (lv_at hl 1 rfl) ?_
          refine lv_lmul hx hb d_M_result_77 ?_
          refine lv_aload_n hx hb d_M_result_78 rfl (lv_at hl 2 rfl) ?_
          refine mg 8 (by decide) hx hb ht hown hw gw_805 rfl rfl d_M_result_79 ?_
          refine lv_iload_n hx hb d_M_result_82 rfl (lv_at hl 3 rfl) ?_
          refine ma_weightB (j := o) rfl (by have := hR.2.2.2; omega) hx hb hw d_M_result_83 ?_
          refine lv_lload hx hb d_M_result_84 (lv_at hl 0 rfl) ?_
          refine lv_lmul hx hb d_M_result_86 ?_
          refine lv_ladd hx hb d_M_result_87 ?_
          refine lv_ldc2 (v := 4) hx hb hown (ht _ gw_976) d_M_result_88 ?_
          refine lv_ladd hx hb d_M_result_91 ?_
          refine lv_ldc2 (v := 8) hx hb hown (ht _ gw_977) d_M_result_92 ?_
          refine kc_l (kr_V 2 (C := "QuoteGraphModel") (As := [.long ((((q_wa s o) * (q_am s x0)) + ((q_wb s o) * (q_am s x1))) + (4 : Int64)), .long (8 : Int64)]) (rest := []) (c_M_floored l G A u (lm 0) (q_wa s o * q_am s x0 + q_wb s o * q_am s x1 + 4) (8) (by decide)) hx hb hml hown ht hw.1 gw_978 gw_980 gw_33 gw_47 gw_981 ⟨⟨by decide, by decide⟩, by decide +kernel⟩ ⟨by first | decide | (dsimp only; omega), by first | decide | (dsimp only; omega)⟩ (kr_M hw) rfl hl.1 rfl (lv_room (Nat.le_of_ble_eq_true rfl)) d_M_result_95 ⟨by first | decide | (dsimp only; omega), by first | decide | (dsimp only; omega)⟩) hw.1 (fun _ _ _ _ _ _ h => h.elim) (fun r1 u1 H1 locs1 hp1 hw1 => ?_)
          obtain ⟨er1, hq1⟩ := hp1
          replace hq1 := hq1.symm; subst hq1
          subst er1
          have hw : Mk G A lm s m u u st H1 locs1 := ⟨hw1, hw.2⟩
          rw [bl_e hbd ho hc hlt0 hlt1]
          exact kt_l hx hb hr hlocks hw.1 d_M_result_98 (by exact ⟨m, mK.rf, ⟨by unfold rsV; rw [if_pos hc]; exact htr, fun _ => by unfold rsV; rw [if_pos hc, e0, e1]⟩, hw.2.1, hw.2.2⟩) (by first | decide | (dsimp only; omega)) (by first | decide | (dsimp only; omega))
  · obtain ⟨x0, hx0, hlt0⟩ := (hok.2 o ho).2.1 0 (by decide) (by omega)
    obtain ⟨x1, hx1, hlt1⟩ := (hok.2 o ho).2.1 1 (by decide) (by omega)
    have e0 : cp s o 0 = x0 := by unfold cp; rw [if_pos (by decide), hx0]; rfl
    have e1 : cp s o 1 = x1 := by unfold cp; rw [if_pos (by decide), hx1]; rfl
    refine lv_aload_n hx hb d_M_result_0 rfl (lv_at hl 0 rfl) ?_
    refine mg 0 (by decide) hx hb ht hown hw gw_797 rfl rfl d_M_result_1 ?_
    refine lv_iload_n hx hb d_M_result_4 rfl (lv_at hl 1 rfl) ?_
    refine ma_sort (j := o) rfl (by have := hR.2.2.2; omega) hx hb hw d_M_result_5 ?_
    rw [hc]
    refine lv_iconst (v := 3) hx hb d_M_result_6 (by decide) ?_
    refine lv_icmp_ge (tgt := 26) hx hb d_M_result_7 (by decide) (fun c9 => ?_) (fun c9 => ?_)
    · exact absurd c9 (by decide)
    · refine lv_aload_n hx hb d_M_result_10 rfl (lv_at hl 0 rfl) ?_
      refine mg 2 (by decide) hx hb ht hown hw gw_799 rfl rfl d_M_result_11 ?_
      refine lv_aload_n hx hb d_M_result_14 rfl (lv_at hl 0 rfl) ?_
      refine mg 1 (by decide) hx hb ht hown hw gw_798 rfl rfl d_M_result_15 ?_
      refine lv_iload_n hx hb d_M_result_18 rfl (lv_at hl 1 rfl) ?_
      refine lv_iconst (v := 4) hx hb d_M_result_19 (by decide) ?_
      refine lv_imul hx hb d_M_result_20 ?_
      refine ma_part (j := (4 * o)) (mul40 _) (by have := hR.2.2.2; omega) hx hb hw d_M_result_21 ?_
      rw [show m_pt m (4 * o) = nI x0 from (hw.2.1.2.2.1 o 0 ho (by decide)).trans (by rw [hx0]; rfl)]
      refine ma_held (j := x0) rfl (by have := hR.2.2.2; have := hlt0; omega) hx hb hw d_M_result_22 ?_
      refine lv_goto (tgt := 27) hx hb d_M_result_23 (by decide) ?_
      refine lv_lstore_n (lv' := [(2, .long (q_am s x0)), (0, .ref (lm 0)), (1, .int (nI o))]) hx hb d_M_result_27 rfl hl (by decide) rfl (fun ls hl => ?_)
      refine lv_aload_n hx hb d_M_result_28 rfl (lv_at hl 1 rfl) ?_
      refine mg 0 (by decide) hx hb ht hown hw gw_797 rfl rfl d_M_result_29 ?_
      refine lv_iload_n hx hb d_M_result_32 rfl (lv_at hl 2 rfl) ?_
      refine ma_sort (j := o) rfl (by have := hR.2.2.2; omega) hx hb hw d_M_result_33 ?_
      rw [hc]
      refine lv_iconst (v := 3) hx hb d_M_result_34 (by decide) ?_
      refine lv_icmp_ge (tgt := 56) hx hb d_M_result_35 (by decide) (fun c8 => ?_) (fun c8 => ?_)
      · exact absurd c8 (by decide)
      · refine lv_aload_n hx hb d_M_result_38 rfl (lv_at hl 1 rfl) ?_
        refine mg 2 (by decide) hx hb ht hown hw gw_799 rfl rfl d_M_result_39 ?_
        refine lv_aload_n hx hb d_M_result_42 rfl (lv_at hl 1 rfl) ?_
        refine mg 1 (by decide) hx hb ht hown hw gw_798 rfl rfl d_M_result_43 ?_
        refine lv_iload_n hx hb d_M_result_46 rfl (lv_at hl 2 rfl) ?_
        refine lv_iconst (v := 4) hx hb d_M_result_47 (by decide) ?_
        refine lv_imul hx hb d_M_result_48 ?_
        refine lv_iconst (v := 1) hx hb d_M_result_49 (by decide) ?_
        refine lv_iadd hx hb d_M_result_50 ?_
        refine ma_part (j := (4 * o + 1)) (mul4 _ 1) (by have := hR.2.2.2; omega) hx hb hw d_M_result_51 ?_
        rw [show m_pt m (4 * o + 1) = nI x1 from (hw.2.1.2.2.1 o 1 ho (by decide)).trans (by rw [hx1]; rfl)]
        refine ma_held (j := x1) rfl (by have := hR.2.2.2; have := hlt1; omega) hx hb hw d_M_result_52 ?_
        refine lv_goto (tgt := 57) hx hb d_M_result_53 (by decide) ?_
        refine lv_lstore (lv' := [(4, .long (q_am s x1)), (2, .long (q_am s x0)), (0, .ref (lm 0)), (1, .int (nI o))]) hx hb d_M_result_57 hl (by decide) rfl (fun ls hl => ?_)
        refine lv_aload_n hx hb d_M_result_59 rfl (lv_at hl 2 rfl) ?_
        refine mg 0 (by decide) hx hb ht hown hw gw_797 rfl rfl d_M_result_60 ?_
        refine lv_iload_n hx hb d_M_result_63 rfl (lv_at hl 3 rfl) ?_
        refine ma_sort (j := o) rfl (by have := hR.2.2.2; omega) hx hb hw d_M_result_64 ?_
        rw [hc]
        refine lv_iconst (v := 1) hx hb d_M_result_65 (by decide) ?_
        refine lv_icmp_ne (tgt := 99) hx hb d_M_result_66 (by decide) (fun c7 => ?_) (fun c7 => ?_)
        · refine lv_aload_n hx hb d_M_result_99 rfl (lv_at hl 2 rfl) ?_
          refine mg 0 (by decide) hx hb ht hown hw gw_797 rfl rfl d_M_result_100 ?_
          refine lv_iload_n hx hb d_M_result_103 rfl (lv_at hl 3 rfl) ?_
          refine ma_sort (j := o) rfl (by have := hR.2.2.2; omega) hx hb hw d_M_result_104 ?_
          rw [hc]
          refine lv_iconst (v := 2) hx hb d_M_result_105 (by decide) ?_
          refine lv_icmp_ne (tgt := 125) hx hb d_M_result_106 (by decide) (fun c6 => ?_) (fun c6 => ?_)
          · exact absurd rfl c6
          · refine lv_lload_n hx hb d_M_result_109 rfl (lv_at hl 1 rfl) ?_
            refine lv_lload hx hb d_M_result_110 (lv_at hl 0 rfl) ?_
            refine W.lcmp hx hb d_M_result_112 ?_
            refine lv_if_le (tgt := 120) hx hb d_M_result_113 (by decide) (fun c2 => ?_) (fun c2 => ?_)
            · refine lv_lload hx hb d_M_result_120 (lv_at hl 0 rfl) ?_
              refine lv_goto (tgt := 130) hx hb d_M_result_122 (by decide) ?_
              exact kt_l hx hb hr hlocks hw.1 d_M_result_130 (by exact ⟨m, mK.rf, ⟨by unfold rsV; rw [if_neg (by rw [hc]; decide), if_pos hc]; exact htr, fun _ => by unfold rsV; rw [if_neg (by rw [hc]; decide), if_pos hc, e0, e1]; unfold mxL; rw [if_neg (fun h => absurd ((lg_cmp_gt _ _).mpr h) (by rw [i_nlt]; exact c2))]⟩, hw.2.1, hw.2.2⟩) (by first | decide | (dsimp only; omega)) (by first | decide | (dsimp only; omega))
            · refine lv_lload_n hx hb d_M_result_116 rfl (lv_at hl 1 rfl) ?_
              refine lv_goto (tgt := 130) hx hb d_M_result_117 (by decide) ?_
              exact kt_l hx hb hr hlocks hw.1 d_M_result_130 (by exact ⟨m, mK.rf, ⟨by unfold rsV; rw [if_neg (by rw [hc]; decide), if_pos hc]; exact htr, fun _ => by unfold rsV; rw [if_neg (by rw [hc]; decide), if_pos hc, e0, e1]; unfold mxL; rw [if_pos ((lg_cmp_gt _ _).mp (by rw [← i_nle]; exact c2))]⟩, hw.2.1, hw.2.2⟩) (by first | decide | (dsimp only; omega)) (by first | decide | (dsimp only; omega))
        · exact absurd c7 (by decide)
  · refine lv_aload_n hx hb d_M_result_0 rfl (lv_at hl 0 rfl) ?_
    refine mg 0 (by decide) hx hb ht hown hw gw_797 rfl rfl d_M_result_1 ?_
    refine lv_iload_n hx hb d_M_result_4 rfl (lv_at hl 1 rfl) ?_
    refine ma_sort (j := o) rfl (by have := hR.2.2.2; omega) hx hb hw d_M_result_5 ?_
    rw [hc]
    refine lv_iconst (v := 3) hx hb d_M_result_6 (by decide) ?_
    refine lv_icmp_ge (tgt := 26) hx hb d_M_result_7 (by decide) (fun c9 => ?_) (fun c9 => ?_)
    · refine lv_lconst (v := 0) hx hb d_M_result_26 (by decide) ?_
      refine lv_lstore_n (lv' := [(2, .long (0 : Int64)), (0, .ref (lm 0)), (1, .int (nI o))]) hx hb d_M_result_27 rfl hl (by decide) rfl (fun ls hl => ?_)
      refine lv_aload_n hx hb d_M_result_28 rfl (lv_at hl 1 rfl) ?_
      refine mg 0 (by decide) hx hb ht hown hw gw_797 rfl rfl d_M_result_29 ?_
      refine lv_iload_n hx hb d_M_result_32 rfl (lv_at hl 2 rfl) ?_
      refine ma_sort (j := o) rfl (by have := hR.2.2.2; omega) hx hb hw d_M_result_33 ?_
      rw [hc]
      refine lv_iconst (v := 3) hx hb d_M_result_34 (by decide) ?_
      refine lv_icmp_ge (tgt := 56) hx hb d_M_result_35 (by decide) (fun c8 => ?_) (fun c8 => ?_)
      · refine lv_lconst (v := 0) hx hb d_M_result_56 (by decide) ?_
        refine lv_lstore (lv' := [(4, .long (0 : Int64)), (2, .long (0 : Int64)), (0, .ref (lm 0)), (1, .int (nI o))]) hx hb d_M_result_57 hl (by decide) rfl (fun ls hl => ?_)
        refine lv_aload_n hx hb d_M_result_59 rfl (lv_at hl 2 rfl) ?_
        refine mg 0 (by decide) hx hb ht hown hw gw_797 rfl rfl d_M_result_60 ?_
        refine lv_iload_n hx hb d_M_result_63 rfl (lv_at hl 3 rfl) ?_
        refine ma_sort (j := o) rfl (by have := hR.2.2.2; omega) hx hb hw d_M_result_64 ?_
        rw [hc]
        refine lv_iconst (v := 1) hx hb d_M_result_65 (by decide) ?_
        refine lv_icmp_ne (tgt := 99) hx hb d_M_result_66 (by decide) (fun c7 => ?_) (fun c7 => ?_)
        · refine lv_aload_n hx hb d_M_result_99 rfl (lv_at hl 2 rfl) ?_
          refine mg 0 (by decide) hx hb ht hown hw gw_797 rfl rfl d_M_result_100 ?_
          refine lv_iload_n hx hb d_M_result_103 rfl (lv_at hl 3 rfl) ?_
          refine ma_sort (j := o) rfl (by have := hR.2.2.2; omega) hx hb hw d_M_result_104 ?_
          rw [hc]
          refine lv_iconst (v := 2) hx hb d_M_result_105 (by decide) ?_
          refine lv_icmp_ne (tgt := 125) hx hb d_M_result_106 (by decide) (fun c6 => ?_) (fun c6 => ?_)
          · refine lv_aload_n hx hb d_M_result_125 rfl (lv_at hl 2 rfl) ?_
            refine lv_iload_n hx hb d_M_result_126 rfl (lv_at hl 3 rfl) ?_
            refine kc_l (kr_V 1 (C := "QuoteGraphModel") (As := [.int (nI o)]) (rest := []) (c_M_valueOfOption l G A lm s m u hR hok o ho hc hbd (hinv hc) htr) hx hb hml hown ht hw.1 gw_982 gw_984 gw_34 gw_47 gw_985 ⟨⟨by decide, by decide⟩, by decide +kernel⟩ ⟨by first | decide | (dsimp only; omega), by first | decide | (dsimp only; omega)⟩ (kr_M hw) rfl hl.1 rfl (lv_room (Nat.le_of_ble_eq_true rfl)) d_M_result_127 ⟨by first | decide | (dsimp only; omega), by first | decide | (dsimp only; omega)⟩) hw.1 (fun _ _ _ _ _ _ h => h.elim) (fun r3 u3 H3 locs3 hp3 hw3 => ?_)
            obtain ⟨m9, w1, w2, w3, w4⟩ := hp3
            have hw : Mk G A lm s m9 u u3 st H3 locs3 := ⟨hw3, w3, hw.2.2.tr w4⟩
            exact kt_l hx hb hr hlocks hw.1 d_M_result_130 (by exact ⟨m9, w1, by unfold rsV; rw [if_neg (by rw [hc]; decide), if_neg (by rw [hc]; decide)]; exact w2, hw.2.1, hw.2.2⟩) (by first | decide | (dsimp only; omega)) (by first | decide | (dsimp only; omega))
          · exact absurd c6 (by decide)
        · exact absurd c7 (by decide)
      · exact absurd (show (3 : Int32) ≤ nI 3 by decide) c8
    · exact absurd (show (3 : Int32) ≤ nI 3 by decide) c9

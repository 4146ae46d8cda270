/-! 58.law1: each case of the law's switch comes to the loop's end -/
theorem nI_z0 {n : Nat} (h : nI n = 0) (hn : n < 2 ^ 31) : n = 0 := nI_inj hn (by omega) (h.trans (show (0 : Int32) = nI 0 from rfl))
theorem c02.lt {n : Nat} (h : c02 n) : n < 2 ^ 31 := by rcases h with rfl | rfl | rfl <;> decide
theorem c01.lt {n : Nat} (h : c01 n) : n < 2 ^ 31 := by rcases h with rfl | rfl <;> decide
theorem c03.lt {n : Nat} (h : c03 n) : n < 2 ^ 31 := by rcases h with rfl | rfl | rfl | rfl <;> decide
/-- another name for the number on the stack -/
theorem lv_eqt {p : Program} {l : Launch} {e : Env} {R : Room} {st : State} {m : MethodId} {args : Array Value} {below : List Frame} {meth : Method} {c : Code} {H : Heap} {locs : List Loc} {cells slots : Nat} {Q : State → Prop} {pc : Nat} {ls : Array Slot} {rest : List Value} {x y : Int32} (h : x = y) (kk : W p l e R st m args below meth c H locs cells slots Q (F0 m pc ls (.int y :: rest))) : W p l e R st m args below meth c H locs cells slots Q (F0 m pc ls (.int x :: rest)) := by rw [h]; exact kk
theorem inv_pUses {s : QS} (hi : inv s) (a b : Int32) : inv (pUses s a b).2.2 := by rw [n_Uses hi.1.1.1]; exact hi
theorem inv_pNode {s : QS} (hi : inv s) (k v : Int32) : inv (pNode s k v).2.2 := by rw [n_Node hi.1.1.1]; exact hi
set_option maxHeartbeats 4000000 in
set_option maxRecDepth 100000 in
theorem law_0 {p : Program} {l : Launch} {e : Env} {st : State} {m : MethodId} {below : List Frame} {meth : Method} {c : Code} {H : Heap} {locs : List Loc} {cells slots : Nat} {Q : State → Prop} {ls : Array Slot} {G : GT} {A : Nat → Prop} {u : WT} {b L tj : Nat} {xs : Nat → Int32} (hl9 : l.stackTraces = false) (hx : p.tables.exec = Jvm.exec) (hb : c.code = code) (hml : c.maxLocals = 9) (hown : st.vm.findClass "QuoteGraphLaw" = some m.cls) (ht : ∀ w ∈ GW, w.before #[Value.ref b] st = true) (hX : va_X b L xs st st.heap) (hbl : b < st.heap.size) (hbA : ¬ A b) (hL : L ≤ 3072) (htj : 6 * tj + 6 ≤ L) (hcells : cells + 100 ≤ 601024) (hslots : slots + 1000 ≤ 7293034) {lc lm : Nat → Nat} {aL aD : Nat} {S : QS} {M : MS} {f : Nat → Int64} {g : Nat → UInt64} (hi : inv S) (hLW : LW G lc lm aL aD S S M f g u) (hw : Wk G A u st H locs) (hl : lv_has ls 9 [(0, .ref b), (1, .ref (lc 0)), (2, .ref (lm 0)), (3, .ref aL), (4, .ref aD), (5, .int (nI (6 * tj)))]) (K : ∀ (lc' : Nat → Nat) (S' : QS) (m' : MS) (f' : Nat → Int64) (g' : Nat → UInt64) (u' : WT) (ls : Array Slot) (H : Heap) (locs : List Loc), lc' 0 = lc 0 → inv S' → LW G lc' lm aL aD S' S' m' f' g' u' → Wk G A u' st H locs → lv_has ls 9 [(0, .ref b), (1, .ref (lc 0)), (2, .ref (lm 0)), (3, .ref aL), (4, .ref aD), (5, .int (nI (6 * tj)))] → W p l e RL st m #[Value.ref b] below meth c H locs (cells + 3) (slots + 25) Q (F0 m 1130 ls [])) : W p l e RL st m #[Value.ref b] below meth c H locs cells slots Q (F0 m 112 ls []) := by
  obtain ⟨z, hR, hRM, hoL, hoD, hsep, hsm, hld⟩ := id hLW
  refine lv_aload_n hx hb d_L_law_112 rfl (lv_at hl 1 rfl) ?_
  refine lv_aload_n hx hb d_L_law_113 rfl (lv_at hl 0 rfl) ?_
  refine lv_iload hx hb d_L_law_114 (lv_at hl 5 rfl) ?_
  refine lv_iconst (v := 1) hx hb d_L_law_116 (by decide) ?_
  refine lv_iadd hx hb d_L_law_117 ?_
  refine l_ld (k := 6 * tj + 1) (nI_6 _ 1) (by omega) hL hx hb hX hbl hbA hw d_L_law_118 ?_
  refine lv_i2d hx hb d_L_law_119 ?_
  refine lv_ldc2d (v := 4593671619917905920) hx hb hown (ht _ gw_1044) d_L_law_120 ?_
  refine lv_dmul hx hb d_L_law_123 (e8_n _) ?_
  rw [show FP.dmul (FP.i2d (xs (6 * tj + 1))) (4593671619917905920 : UInt64) = e8 (xs (6 * tj + 1)) from rfl]
  refine lv_aload_n hx hb d_L_law_124 rfl (lv_at hl 3 rfl) ?_
  refine kc_i (kr_SW 3 (As := [.ref (lc 0), .double (e8 (xs (6 * tj + 1))), .ref aL]) (rest := []) (c_L_quote l hl9 G A lc S z u hR (xs (6 * tj + 1)) aL hoL.1 (fun k hk => (hsep k hk).1) f hoL.2) hx hb hml hown ht hw gw_144 gw_145 gw_41 gw_146 ⟨⟨by decide, by decide⟩, by decide +kernel⟩ ⟨by first | decide | (dsimp only; omega), by first | decide | (dsimp only; omega)⟩ rfl hl.1 rfl (lv_room (Nat.le_of_ble_eq_true rfl)) d_L_law_125 ⟨by first | decide | (dsimp only; omega), by first | decide | (dsimp only; omega)⟩) hw (fun _ _ _ _ _ _ h => h.elim) (fun r1 u1 H1 locs1 hp1 hw1 => ?_)
  obtain ⟨er1, ⟨f1, hf1, hv1⟩, hlp⟩ := hp1; subst er1
  obtain ⟨lc1, hlc1, hLW1⟩ := hLW.hL hf1 hlp
  obtain ⟨z1, hR1, hRM1, hoL1, hoD1, hsep1, hsm1, hld1⟩ := id hLW1
  refine lv_istore (lv' := [(6, .int (nI (pQuote S (xs (6 * tj + 1))).1)), (0, .ref b), (1, .ref (lc 0)), (2, .ref (lm 0)), (3, .ref aL), (4, .ref aD), (5, .int (nI (6 * tj)))]) hx hb d_L_law_128 hl (by decide) rfl (fun ls hl => ?_)
  refine lv_aload_n hx hb d_L_law_130 rfl (lv_at hl 3 rfl) ?_
  refine lv_aload_n hx hb d_L_law_131 rfl (lv_at hl 1 rfl) ?_
  refine lv_iload hx hb d_L_law_132 (lv_at hl 6 rfl) ?_
  refine lv_iconst (v := 1) hx hb d_L_law_134 (by decide) ?_
  refine lv_iadd hx hb d_L_law_135 ?_
  refine l_ld (k := 6 * tj + 1) (nI_6 _ 1) (by omega) hL hx hb hX hbl hbA hw1 d_L_law_136 ?_
  refine lv_i2d hx hb d_L_law_137 ?_
  refine lv_ldc2d (v := 4593671619917905920) hx hb hown (ht _ gw_1044) d_L_law_138 ?_
  refine lv_dmul hx hb d_L_law_141 (e8_n _) ?_
  rw [show FP.dmul (FP.i2d (xs (6 * tj + 1))) (4593671619917905920 : UInt64) = e8 (xs (6 * tj + 1)) from rfl]
  refine kc_i (kr_V 1 (C := "QuoteGraphModel") (As := [.double (e8 (xs (6 * tj + 1)))]) (rest := []) (c_M_quote l G A lm S M u1 hRM1 hi.blk (xs (6 * tj + 1))) hx hb hml hown ht hw1 gw_900 gw_901 gw_902 gw_47 gw_903 ⟨⟨by decide, by decide⟩, by decide +kernel⟩ ⟨by first | decide | (dsimp only; omega), by first | decide | (dsimp only; omega)⟩ (lr_M hw1 hRM1) rfl hl.1 rfl (lv_room (Nat.le_of_ble_eq_true rfl)) d_L_law_142 ⟨by first | decide | (dsimp only; omega), by first | decide | (dsimp only; omega)⟩) hw1 (fun _ _ _ _ _ _ h => h.elim) (fun r2 u2 H2 locs2 hp2 hw2 => ?_)
  obtain ⟨er2, m2, ht2, hr2, hf2⟩ := hp2; subst er2
  have hLW2 := hLW1.mm hr2 hf2
  obtain ⟨z2, hR2, hRM2, hoL2, hoD2, hsep2, hsm2, hld2⟩ := id hLW2
  refine lv_istore (lv' := [(7, .int ((pQuote S (xs (6 * tj + 1))).2.1)), (6, .int (nI (pQuote S (xs (6 * tj + 1))).1)), (0, .ref b), (1, .ref (lc 0)), (2, .ref (lm 0)), (3, .ref aL), (4, .ref aD), (5, .int (nI (6 * tj)))]) hx hb d_L_law_145 hl (by decide) rfl (fun ls hl => ?_)
  refine lv_aload_n hx hb d_L_law_147 rfl (lv_at hl 4 rfl) ?_
  refine kc_i (kr_V 0 (C := "QuoteGraphModel") (As := []) (rest := []) (c_M_thrown l G A lm (pQuote S (xs (6 * tj + 1))).2.2 m2 u2 hRM2) hx hb hml hown ht hw2 gw_896 gw_897 gw_898 gw_47 gw_899 ⟨⟨by decide, by decide⟩, by decide +kernel⟩ ⟨by first | decide | (dsimp only; omega), by first | decide | (dsimp only; omega)⟩ (lr_M hw2 hRM2) rfl hl.1 rfl (lv_room (Nat.le_of_ble_eq_true rfl)) d_L_law_148 ⟨by first | decide | (dsimp only; omega), by first | decide | (dsimp only; omega)⟩) hw2 (fun _ _ _ _ _ _ h => h.elim) (fun r3 u3 H3 locs3 hp3 hw3 => ?_)
  obtain ⟨er3, hq3⟩ := hp3; replace hq3 := hq3.symm; subst hq3; subst er3
  rw [ht2]
  refine lv_iload hx hb d_L_law_151 (lv_at hl 1 rfl) ?_
  refine lv_icmp_eq (tgt := 158) hx hb d_L_law_153 (by decide) (fun c4 => ?_) (fun c4 => ?_)
  · refine lv_iload hx hb d_L_law_158 (lv_at hl 1 rfl) ?_
    refine lv_if_ne (tgt := 175) hx hb d_L_law_160 (by decide) (fun c5 => ?_) (fun c5 => ?_)
    · refine lv_goto (tgt := 1130) hx hb d_L_law_175 (by decide) ?_
      refine W.widen (k := cells + 3) (n := slots + 25) (by omega) (by omega) ?_
      exact K lc1 (pQuote S (xs (6 * tj + 1))).2.2 m2 f1 g u2 ls H3 locs3 hlc1 (inv_pQuote hi (xs (6 * tj + 1))) hLW2 hw3 (lv_sub hl [2, 3, 4, 5, 6, 7] rfl)
    · have hc0 : (pQuote S (xs (6 * tj + 1))).1 = 0 := nI_z0 c5 (cd_Quote S (xs (6 * tj + 1))).lt
      have hv0 := hv1 hc0
      refine lv_aload_n hx hb d_L_law_163 rfl (lv_at hl 5 rfl) ?_
      refine lv_iconst (v := 0) hx hb d_L_law_164 (by decide) ?_
      refine l_oL hx hb hw3 hoL2.1 hoL2.2 d_L_law_165 ?_
      refine lv_iload hx hb d_L_law_166 (lv_at hl 0 rfl) ?_
      refine lv_i2l hx hb d_L_law_168 rfl ?_
      refine W.lcmp hx hb d_L_law_169 ?_
      refine lv_if_eq (tgt := 175) hx hb d_L_law_170 (by decide) (fun c6 => ?_) (fun c6 => ?_)
      · refine lv_goto (tgt := 1130) hx hb d_L_law_175 (by decide) ?_
        refine W.widen (k := cells + 3) (n := slots + 25) (by omega) (by omega) ?_
        exact K lc1 (pQuote S (xs (6 * tj + 1))).2.2 m2 f1 g u2 ls H3 locs3 hlc1 (inv_pQuote hi (xs (6 * tj + 1))) hLW2 hw3 (lv_sub hl [2, 3, 4, 5, 6, 7] rfl)
      · exact absurd ((lg_cmp_eq _ _).mpr hv0) c6
  · exact absurd rfl c4
set_option maxHeartbeats 4000000 in
set_option maxRecDepth 100000 in
theorem law_1 {p : Program} {l : Launch} {e : Env} {st : State} {m : MethodId} {below : List Frame} {meth : Method} {c : Code} {H : Heap} {locs : List Loc} {cells slots : Nat} {Q : State → Prop} {ls : Array Slot} {G : GT} {A : Nat → Prop} {u : WT} {b L tj : Nat} {xs : Nat → Int32} (hl9 : l.stackTraces = false) (hx : p.tables.exec = Jvm.exec) (hb : c.code = code) (hml : c.maxLocals = 9) (hown : st.vm.findClass "QuoteGraphLaw" = some m.cls) (ht : ∀ w ∈ GW, w.before #[Value.ref b] st = true) (hX : va_X b L xs st st.heap) (hbl : b < st.heap.size) (hbA : ¬ A b) (hL : L ≤ 3072) (htj : 6 * tj + 6 ≤ L) (hcells : cells + 100 ≤ 601024) (hslots : slots + 1000 ≤ 7293034) {lc lm : Nat → Nat} {aL aD : Nat} {S : QS} {M : MS} {f : Nat → Int64} {g : Nat → UInt64} (hi : inv S) (hLW : LW G lc lm aL aD S S M f g u) (hw : Wk G A u st H locs) (hl : lv_has ls 9 [(0, .ref b), (1, .ref (lc 0)), (2, .ref (lm 0)), (3, .ref aL), (4, .ref aD), (5, .int (nI (6 * tj)))]) (K : ∀ (lc' : Nat → Nat) (S' : QS) (m' : MS) (f' : Nat → Int64) (g' : Nat → UInt64) (u' : WT) (ls : Array Slot) (H : Heap) (locs : List Loc), lc' 0 = lc 0 → inv S' → LW G lc' lm aL aD S' S' m' f' g' u' → Wk G A u' st H locs → lv_has ls 9 [(0, .ref b), (1, .ref (lc 0)), (2, .ref (lm 0)), (3, .ref aL), (4, .ref aD), (5, .int (nI (6 * tj)))] → W p l e RL st m #[Value.ref b] below meth c H locs (cells + 3) (slots + 25) Q (F0 m 1130 ls [])) : W p l e RL st m #[Value.ref b] below meth c H locs cells slots Q (F0 m 178 ls []) := by
  obtain ⟨z, hR, hRM, hoL, hoD, hsep, hsm, hld⟩ := id hLW
  refine lv_aload_n hx hb d_L_law_178 rfl (lv_at hl 1 rfl) ?_
  refine lv_aload_n hx hb d_L_law_179 rfl (lv_at hl 0 rfl) ?_
  refine lv_iload hx hb d_L_law_180 (lv_at hl 5 rfl) ?_
  refine lv_iconst (v := 1) hx hb d_L_law_182 (by decide) ?_
  refine lv_iadd hx hb d_L_law_183 ?_
  refine l_ld (k := 6 * tj + 1) (nI_6 _ 1) (by omega) hL hx hb hX hbl hbA hw d_L_law_184 ?_
  refine lv_aload_n hx hb d_L_law_185 rfl (lv_at hl 0 rfl) ?_
  refine lv_iload hx hb d_L_law_186 (lv_at hl 5 rfl) ?_
  refine lv_iconst (v := 2) hx hb d_L_law_188 (by decide) ?_
  refine lv_iadd hx hb d_L_law_189 ?_
  refine l_ld (k := 6 * tj + 2) (nI_6 _ 2) (by omega) hL hx hb hX hbl hbA hw d_L_law_190 ?_
  refine lv_aload_n hx hb d_L_law_191 rfl (lv_at hl 0 rfl) ?_
  refine lv_iload hx hb d_L_law_192 (lv_at hl 5 rfl) ?_
  refine lv_iconst (v := 3) hx hb d_L_law_194 (by decide) ?_
  refine lv_iadd hx hb d_L_law_195 ?_
  refine l_ld (k := 6 * tj + 3) (nI_6 _ 3) (by omega) hL hx hb hX hbl hbA hw d_L_law_196 ?_
  refine lv_i2d hx hb d_L_law_197 ?_
  refine lv_ldc2d (v := 4593671619917905920) hx hb hown (ht _ gw_1044) d_L_law_198 ?_
  refine lv_dmul hx hb d_L_law_201 (e8_n _) ?_
  rw [show FP.dmul (FP.i2d (xs (6 * tj + 3))) (4593671619917905920 : UInt64) = e8 (xs (6 * tj + 3)) from rfl]
  refine lv_aload_n hx hb d_L_law_202 rfl (lv_at hl 0 rfl) ?_
  refine lv_iload hx hb d_L_law_203 (lv_at hl 5 rfl) ?_
  refine lv_iconst (v := 4) hx hb d_L_law_205 (by decide) ?_
  refine lv_iadd hx hb d_L_law_206 ?_
  refine l_ld (k := 6 * tj + 4) (nI_6 _ 4) (by omega) hL hx hb hX hbl hbA hw d_L_law_207 ?_
  refine lv_i2d hx hb d_L_law_208 ?_
  refine lv_ldc2d (v := 4593671619917905920) hx hb hown (ht _ gw_1044) d_L_law_209 ?_
  refine lv_dmul hx hb d_L_law_212 (e8_n _) ?_
  rw [show FP.dmul (FP.i2d (xs (6 * tj + 4))) (4593671619917905920 : UInt64) = e8 (xs (6 * tj + 4)) from rfl]
  refine lv_aload_n hx hb d_L_law_213 rfl (lv_at hl 3 rfl) ?_
  refine kc_i (kr_SW 6 (As := [.ref (lc 0), .int (xs (6 * tj + 1)), .int (xs (6 * tj + 2)), .double (e8 (xs (6 * tj + 3))), .double (e8 (xs (6 * tj + 4))), .ref aL]) (rest := []) (c_L_blend l hl9 G A lc S z u hR (xs (6 * tj + 1)) (xs (6 * tj + 2)) (xs (6 * tj + 3)) (xs (6 * tj + 4)) aL hoL.1 (fun k hk => (hsep k hk).1) f hoL.2) hx hb hml hown ht hw gw_317 gw_318 gw_41 gw_319 ⟨⟨by decide, by decide⟩, by decide +kernel⟩ ⟨by first | decide | (dsimp only; omega), by first | decide | (dsimp only; omega)⟩ rfl hl.1 rfl (lv_room (Nat.le_of_ble_eq_true rfl)) d_L_law_214 ⟨by first | decide | (dsimp only; omega), by first | decide | (dsimp only; omega)⟩) hw (fun _ _ _ _ _ _ h => h.elim) (fun r1 u1 H1 locs1 hp1 hw1 => ?_)
  obtain ⟨er1, ⟨f1, hf1, hv1⟩, hlp⟩ := hp1; subst er1
  obtain ⟨lc1, hlc1, hLW1⟩ := hLW.hL hf1 hlp
  obtain ⟨z1, hR1, hRM1, hoL1, hoD1, hsep1, hsm1, hld1⟩ := id hLW1
  refine lv_istore (lv' := [(6, .int (nI (pBlend S (xs (6 * tj + 1)) (xs (6 * tj + 2)) (xs (6 * tj + 3)) (xs (6 * tj + 4))).1)), (0, .ref b), (1, .ref (lc 0)), (2, .ref (lm 0)), (3, .ref aL), (4, .ref aD), (5, .int (nI (6 * tj)))]) hx hb d_L_law_217 hl (by decide) rfl (fun ls hl => ?_)
  refine lv_aload_n hx hb d_L_law_219 rfl (lv_at hl 3 rfl) ?_
  refine lv_aload_n hx hb d_L_law_220 rfl (lv_at hl 1 rfl) ?_
  refine lv_iload hx hb d_L_law_221 (lv_at hl 6 rfl) ?_
  refine lv_iconst (v := 1) hx hb d_L_law_223 (by decide) ?_
  refine lv_iadd hx hb d_L_law_224 ?_
  refine l_ld (k := 6 * tj + 1) (nI_6 _ 1) (by omega) hL hx hb hX hbl hbA hw1 d_L_law_225 ?_
  refine lv_aload_n hx hb d_L_law_226 rfl (lv_at hl 1 rfl) ?_
  refine lv_iload hx hb d_L_law_227 (lv_at hl 6 rfl) ?_
  refine lv_iconst (v := 2) hx hb d_L_law_229 (by decide) ?_
  refine lv_iadd hx hb d_L_law_230 ?_
  refine l_ld (k := 6 * tj + 2) (nI_6 _ 2) (by omega) hL hx hb hX hbl hbA hw1 d_L_law_231 ?_
  refine lv_aload_n hx hb d_L_law_232 rfl (lv_at hl 1 rfl) ?_
  refine lv_iload hx hb d_L_law_233 (lv_at hl 6 rfl) ?_
  refine lv_iconst (v := 3) hx hb d_L_law_235 (by decide) ?_
  refine lv_iadd hx hb d_L_law_236 ?_
  refine l_ld (k := 6 * tj + 3) (nI_6 _ 3) (by omega) hL hx hb hX hbl hbA hw1 d_L_law_237 ?_
  refine lv_i2d hx hb d_L_law_238 ?_
  refine lv_ldc2d (v := 4593671619917905920) hx hb hown (ht _ gw_1044) d_L_law_239 ?_
  refine lv_dmul hx hb d_L_law_242 (e8_n _) ?_
  rw [show FP.dmul (FP.i2d (xs (6 * tj + 3))) (4593671619917905920 : UInt64) = e8 (xs (6 * tj + 3)) from rfl]
  refine lv_aload_n hx hb d_L_law_243 rfl (lv_at hl 1 rfl) ?_
  refine lv_iload hx hb d_L_law_244 (lv_at hl 6 rfl) ?_
  refine lv_iconst (v := 4) hx hb d_L_law_246 (by decide) ?_
  refine lv_iadd hx hb d_L_law_247 ?_
  refine l_ld (k := 6 * tj + 4) (nI_6 _ 4) (by omega) hL hx hb hX hbl hbA hw1 d_L_law_248 ?_
  refine lv_i2d hx hb d_L_law_249 ?_
  refine lv_ldc2d (v := 4593671619917905920) hx hb hown (ht _ gw_1044) d_L_law_250 ?_
  refine lv_dmul hx hb d_L_law_253 (e8_n _) ?_
  rw [show FP.dmul (FP.i2d (xs (6 * tj + 4))) (4593671619917905920 : UInt64) = e8 (xs (6 * tj + 4)) from rfl]
  refine kc_i (kr_V 4 (C := "QuoteGraphModel") (As := [.int (xs (6 * tj + 1)), .int (xs (6 * tj + 2)), .double (e8 (xs (6 * tj + 3))), .double (e8 (xs (6 * tj + 4)))]) (rest := []) (c_M_blend l G A lm S M u1 hRM1 hi.blk (xs (6 * tj + 1)) (xs (6 * tj + 2)) (xs (6 * tj + 3)) (xs (6 * tj + 4))) hx hb hml hown ht hw1 gw_915 gw_916 gw_917 gw_47 gw_918 ⟨⟨by decide, by decide⟩, by decide +kernel⟩ ⟨by first | decide | (dsimp only; omega), by first | decide | (dsimp only; omega)⟩ (lr_M hw1 hRM1) rfl hl.1 rfl (lv_room (Nat.le_of_ble_eq_true rfl)) d_L_law_254 ⟨by first | decide | (dsimp only; omega), by first | decide | (dsimp only; omega)⟩) hw1 (fun _ _ _ _ _ _ h => h.elim) (fun r2 u2 H2 locs2 hp2 hw2 => ?_)
  obtain ⟨er2, m2, ht2, hr2, hf2⟩ := hp2; subst er2
  have hLW2 := hLW1.mm hr2 hf2
  obtain ⟨z2, hR2, hRM2, hoL2, hoD2, hsep2, hsm2, hld2⟩ := id hLW2
  refine lv_istore (lv' := [(7, .int ((pBlend S (xs (6 * tj + 1)) (xs (6 * tj + 2)) (xs (6 * tj + 3)) (xs (6 * tj + 4))).2.1)), (6, .int (nI (pBlend S (xs (6 * tj + 1)) (xs (6 * tj + 2)) (xs (6 * tj + 3)) (xs (6 * tj + 4))).1)), (0, .ref b), (1, .ref (lc 0)), (2, .ref (lm 0)), (3, .ref aL), (4, .ref aD), (5, .int (nI (6 * tj)))]) hx hb d_L_law_257 hl (by decide) rfl (fun ls hl => ?_)
  refine lv_aload_n hx hb d_L_law_259 rfl (lv_at hl 4 rfl) ?_
  refine kc_i (kr_V 0 (C := "QuoteGraphModel") (As := []) (rest := []) (c_M_thrown l G A lm (pBlend S (xs (6 * tj + 1)) (xs (6 * tj + 2)) (xs (6 * tj + 3)) (xs (6 * tj + 4))).2.2 m2 u2 hRM2) hx hb hml hown ht hw2 gw_896 gw_897 gw_898 gw_47 gw_899 ⟨⟨by decide, by decide⟩, by decide +kernel⟩ ⟨by first | decide | (dsimp only; omega), by first | decide | (dsimp only; omega)⟩ (lr_M hw2 hRM2) rfl hl.1 rfl (lv_room (Nat.le_of_ble_eq_true rfl)) d_L_law_260 ⟨by first | decide | (dsimp only; omega), by first | decide | (dsimp only; omega)⟩) hw2 (fun _ _ _ _ _ _ h => h.elim) (fun r3 u3 H3 locs3 hp3 hw3 => ?_)
  obtain ⟨er3, hq3⟩ := hp3; replace hq3 := hq3.symm; subst hq3; subst er3
  rw [ht2]
  refine lv_iload hx hb d_L_law_263 (lv_at hl 1 rfl) ?_
  refine lv_icmp_eq (tgt := 270) hx hb d_L_law_265 (by decide) (fun c4 => ?_) (fun c4 => ?_)
  · refine lv_iload hx hb d_L_law_270 (lv_at hl 1 rfl) ?_
    refine lv_if_ne (tgt := 287) hx hb d_L_law_272 (by decide) (fun c5 => ?_) (fun c5 => ?_)
    · refine lv_goto (tgt := 1130) hx hb d_L_law_287 (by decide) ?_
      refine W.widen (k := cells + 3) (n := slots + 25) (by omega) (by omega) ?_
      exact K lc1 (pBlend S (xs (6 * tj + 1)) (xs (6 * tj + 2)) (xs (6 * tj + 3)) (xs (6 * tj + 4))).2.2 m2 f1 g u2 ls H3 locs3 hlc1 (inv_pBlend hi (xs (6 * tj + 1)) (xs (6 * tj + 2)) (xs (6 * tj + 3)) (xs (6 * tj + 4))) hLW2 hw3 (lv_sub hl [2, 3, 4, 5, 6, 7] rfl)
    · have hc0 : (pBlend S (xs (6 * tj + 1)) (xs (6 * tj + 2)) (xs (6 * tj + 3)) (xs (6 * tj + 4))).1 = 0 := nI_z0 c5 (cd_Blend S (xs (6 * tj + 1)) (xs (6 * tj + 2)) (xs (6 * tj + 3)) (xs (6 * tj + 4))).lt
      have hv0 := hv1 hc0
      refine lv_aload_n hx hb d_L_law_275 rfl (lv_at hl 5 rfl) ?_
      refine lv_iconst (v := 0) hx hb d_L_law_276 (by decide) ?_
      refine l_oL hx hb hw3 hoL2.1 hoL2.2 d_L_law_277 ?_
      refine lv_iload hx hb d_L_law_278 (lv_at hl 0 rfl) ?_
      refine lv_i2l hx hb d_L_law_280 rfl ?_
      refine W.lcmp hx hb d_L_law_281 ?_
      refine lv_if_eq (tgt := 287) hx hb d_L_law_282 (by decide) (fun c6 => ?_) (fun c6 => ?_)
      · refine lv_goto (tgt := 1130) hx hb d_L_law_287 (by decide) ?_
        refine W.widen (k := cells + 3) (n := slots + 25) (by omega) (by omega) ?_
        exact K lc1 (pBlend S (xs (6 * tj + 1)) (xs (6 * tj + 2)) (xs (6 * tj + 3)) (xs (6 * tj + 4))).2.2 m2 f1 g u2 ls H3 locs3 hlc1 (inv_pBlend hi (xs (6 * tj + 1)) (xs (6 * tj + 2)) (xs (6 * tj + 3)) (xs (6 * tj + 4))) hLW2 hw3 (lv_sub hl [2, 3, 4, 5, 6, 7] rfl)
      · exact absurd ((lg_cmp_eq _ _).mpr hv0) c6
  · exact absurd rfl c4
set_option maxHeartbeats 4000000 in
set_option maxRecDepth 100000 in
theorem law_2 {p : Program} {l : Launch} {e : Env} {st : State} {m : MethodId} {below : List Frame} {meth : Method} {c : Code} {H : Heap} {locs : List Loc} {cells slots : Nat} {Q : State → Prop} {ls : Array Slot} {G : GT} {A : Nat → Prop} {u : WT} {b L tj : Nat} {xs : Nat → Int32} (hl9 : l.stackTraces = false) (hx : p.tables.exec = Jvm.exec) (hb : c.code = code) (hml : c.maxLocals = 9) (hown : st.vm.findClass "QuoteGraphLaw" = some m.cls) (ht : ∀ w ∈ GW, w.before #[Value.ref b] st = true) (hX : va_X b L xs st st.heap) (hbl : b < st.heap.size) (hbA : ¬ A b) (hL : L ≤ 3072) (htj : 6 * tj + 6 ≤ L) (hcells : cells + 100 ≤ 601024) (hslots : slots + 1000 ≤ 7293034) {lc lm : Nat → Nat} {aL aD : Nat} {S : QS} {M : MS} {f : Nat → Int64} {g : Nat → UInt64} (hi : inv S) (hLW : LW G lc lm aL aD S S M f g u) (hw : Wk G A u st H locs) (hl : lv_has ls 9 [(0, .ref b), (1, .ref (lc 0)), (2, .ref (lm 0)), (3, .ref aL), (4, .ref aD), (5, .int (nI (6 * tj)))]) (K : ∀ (lc' : Nat → Nat) (S' : QS) (m' : MS) (f' : Nat → Int64) (g' : Nat → UInt64) (u' : WT) (ls : Array Slot) (H : Heap) (locs : List Loc), lc' 0 = lc 0 → inv S' → LW G lc' lm aL aD S' S' m' f' g' u' → Wk G A u' st H locs → lv_has ls 9 [(0, .ref b), (1, .ref (lc 0)), (2, .ref (lm 0)), (3, .ref aL), (4, .ref aD), (5, .int (nI (6 * tj)))] → W p l e RL st m #[Value.ref b] below meth c H locs (cells + 3) (slots + 25) Q (F0 m 1130 ls [])) : W p l e RL st m #[Value.ref b] below meth c H locs cells slots Q (F0 m 290 ls []) := by
  obtain ⟨z, hR, hRM, hoL, hoD, hsep, hsm, hld⟩ := id hLW
  refine lv_aload_n hx hb d_L_law_290 rfl (lv_at hl 1 rfl) ?_
  refine lv_aload_n hx hb d_L_law_291 rfl (lv_at hl 0 rfl) ?_
  refine lv_iload hx hb d_L_law_292 (lv_at hl 5 rfl) ?_
  refine lv_iconst (v := 1) hx hb d_L_law_294 (by decide) ?_
  refine lv_iadd hx hb d_L_law_295 ?_
  refine l_ld (k := 6 * tj + 1) (nI_6 _ 1) (by omega) hL hx hb hX hbl hbA hw d_L_law_296 ?_
  refine lv_aload_n hx hb d_L_law_297 rfl (lv_at hl 0 rfl) ?_
  refine lv_iload hx hb d_L_law_298 (lv_at hl 5 rfl) ?_
  refine lv_iconst (v := 2) hx hb d_L_law_300 (by decide) ?_
  refine lv_iadd hx hb d_L_law_301 ?_
  refine l_ld (k := 6 * tj + 2) (nI_6 _ 2) (by omega) hL hx hb hX hbl hbA hw d_L_law_302 ?_
  refine lv_aload_n hx hb d_L_law_303 rfl (lv_at hl 3 rfl) ?_
  refine kc_i (kr_SW 4 (As := [.ref (lc 0), .int (xs (6 * tj + 1)), .int (xs (6 * tj + 2)), .ref aL]) (rest := []) (c_L_greater l hl9 G A lc S z u hR (xs (6 * tj + 1)) (xs (6 * tj + 2)) aL hoL.1 (fun k hk => (hsep k hk).1) f hoL.2) hx hb hml hown ht hw gw_357 gw_358 gw_41 gw_359 ⟨⟨by decide, by decide⟩, by decide +kernel⟩ ⟨by first | decide | (dsimp only; omega), by first | decide | (dsimp only; omega)⟩ rfl hl.1 rfl (lv_room (Nat.le_of_ble_eq_true rfl)) d_L_law_304 ⟨by first | decide | (dsimp only; omega), by first | decide | (dsimp only; omega)⟩) hw (fun _ _ _ _ _ _ h => h.elim) (fun r1 u1 H1 locs1 hp1 hw1 => ?_)
  obtain ⟨er1, ⟨f1, hf1, hv1⟩, hlp⟩ := hp1; subst er1
  obtain ⟨lc1, hlc1, hLW1⟩ := hLW.hL hf1 hlp
  obtain ⟨z1, hR1, hRM1, hoL1, hoD1, hsep1, hsm1, hld1⟩ := id hLW1
  refine lv_istore (lv' := [(6, .int (nI (pGreater S (xs (6 * tj + 1)) (xs (6 * tj + 2))).1)), (0, .ref b), (1, .ref (lc 0)), (2, .ref (lm 0)), (3, .ref aL), (4, .ref aD), (5, .int (nI (6 * tj)))]) hx hb d_L_law_307 hl (by decide) rfl (fun ls hl => ?_)
  refine lv_aload_n hx hb d_L_law_309 rfl (lv_at hl 3 rfl) ?_
  refine lv_aload_n hx hb d_L_law_310 rfl (lv_at hl 1 rfl) ?_
  refine lv_iload hx hb d_L_law_311 (lv_at hl 6 rfl) ?_
  refine lv_iconst (v := 1) hx hb d_L_law_313 (by decide) ?_
  refine lv_iadd hx hb d_L_law_314 ?_
  refine l_ld (k := 6 * tj + 1) (nI_6 _ 1) (by omega) hL hx hb hX hbl hbA hw1 d_L_law_315 ?_
  refine lv_aload_n hx hb d_L_law_316 rfl (lv_at hl 1 rfl) ?_
  refine lv_iload hx hb d_L_law_317 (lv_at hl 6 rfl) ?_
  refine lv_iconst (v := 2) hx hb d_L_law_319 (by decide) ?_
  refine lv_iadd hx hb d_L_law_320 ?_
  refine l_ld (k := 6 * tj + 2) (nI_6 _ 2) (by omega) hL hx hb hX hbl hbA hw1 d_L_law_321 ?_
  refine kc_i (kr_V 2 (C := "QuoteGraphModel") (As := [.int (xs (6 * tj + 1)), .int (xs (6 * tj + 2))]) (rest := []) (c_M_greater l G A lm S M u1 hRM1 hi.blk (xs (6 * tj + 1)) (xs (6 * tj + 2))) hx hb hml hown ht hw1 gw_924 gw_925 gw_926 gw_47 gw_927 ⟨⟨by decide, by decide⟩, by decide +kernel⟩ ⟨by first | decide | (dsimp only; omega), by first | decide | (dsimp only; omega)⟩ (lr_M hw1 hRM1) rfl hl.1 rfl (lv_room (Nat.le_of_ble_eq_true rfl)) d_L_law_322 ⟨by first | decide | (dsimp only; omega), by first | decide | (dsimp only; omega)⟩) hw1 (fun _ _ _ _ _ _ h => h.elim) (fun r2 u2 H2 locs2 hp2 hw2 => ?_)
  obtain ⟨er2, m2, ht2, hr2, hf2⟩ := hp2; subst er2
  have hLW2 := hLW1.mm hr2 hf2
  obtain ⟨z2, hR2, hRM2, hoL2, hoD2, hsep2, hsm2, hld2⟩ := id hLW2
  refine lv_istore (lv' := [(7, .int ((pGreater S (xs (6 * tj + 1)) (xs (6 * tj + 2))).2.1)), (6, .int (nI (pGreater S (xs (6 * tj + 1)) (xs (6 * tj + 2))).1)), (0, .ref b), (1, .ref (lc 0)), (2, .ref (lm 0)), (3, .ref aL), (4, .ref aD), (5, .int (nI (6 * tj)))]) hx hb d_L_law_325 hl (by decide) rfl (fun ls hl => ?_)
  refine lv_aload_n hx hb d_L_law_327 rfl (lv_at hl 4 rfl) ?_
  refine kc_i (kr_V 0 (C := "QuoteGraphModel") (As := []) (rest := []) (c_M_thrown l G A lm (pGreater S (xs (6 * tj + 1)) (xs (6 * tj + 2))).2.2 m2 u2 hRM2) hx hb hml hown ht hw2 gw_896 gw_897 gw_898 gw_47 gw_899 ⟨⟨by decide, by decide⟩, by decide +kernel⟩ ⟨by first | decide | (dsimp only; omega), by first | decide | (dsimp only; omega)⟩ (lr_M hw2 hRM2) rfl hl.1 rfl (lv_room (Nat.le_of_ble_eq_true rfl)) d_L_law_328 ⟨by first | decide | (dsimp only; omega), by first | decide | (dsimp only; omega)⟩) hw2 (fun _ _ _ _ _ _ h => h.elim) (fun r3 u3 H3 locs3 hp3 hw3 => ?_)
  obtain ⟨er3, hq3⟩ := hp3; replace hq3 := hq3.symm; subst hq3; subst er3
  rw [ht2]
  refine lv_iload hx hb d_L_law_331 (lv_at hl 1 rfl) ?_
  refine lv_icmp_eq (tgt := 338) hx hb d_L_law_333 (by decide) (fun c4 => ?_) (fun c4 => ?_)
  · refine lv_iload hx hb d_L_law_338 (lv_at hl 1 rfl) ?_
    refine lv_if_ne (tgt := 355) hx hb d_L_law_340 (by decide) (fun c5 => ?_) (fun c5 => ?_)
    · refine lv_goto (tgt := 1130) hx hb d_L_law_355 (by decide) ?_
      refine W.widen (k := cells + 3) (n := slots + 25) (by omega) (by omega) ?_
      exact K lc1 (pGreater S (xs (6 * tj + 1)) (xs (6 * tj + 2))).2.2 m2 f1 g u2 ls H3 locs3 hlc1 (inv_pGreater hi (xs (6 * tj + 1)) (xs (6 * tj + 2))) hLW2 hw3 (lv_sub hl [2, 3, 4, 5, 6, 7] rfl)
    · have hc0 : (pGreater S (xs (6 * tj + 1)) (xs (6 * tj + 2))).1 = 0 := nI_z0 c5 (cd_Greater S (xs (6 * tj + 1)) (xs (6 * tj + 2))).lt
      have hv0 := hv1 hc0
      refine lv_aload_n hx hb d_L_law_343 rfl (lv_at hl 5 rfl) ?_
      refine lv_iconst (v := 0) hx hb d_L_law_344 (by decide) ?_
      refine l_oL hx hb hw3 hoL2.1 hoL2.2 d_L_law_345 ?_
      refine lv_iload hx hb d_L_law_346 (lv_at hl 0 rfl) ?_
      refine lv_i2l hx hb d_L_law_348 rfl ?_
      refine W.lcmp hx hb d_L_law_349 ?_
      refine lv_if_eq (tgt := 355) hx hb d_L_law_350 (by decide) (fun c6 => ?_) (fun c6 => ?_)
      · refine lv_goto (tgt := 1130) hx hb d_L_law_355 (by decide) ?_
        refine W.widen (k := cells + 3) (n := slots + 25) (by omega) (by omega) ?_
        exact K lc1 (pGreater S (xs (6 * tj + 1)) (xs (6 * tj + 2))).2.2 m2 f1 g u2 ls H3 locs3 hlc1 (inv_pGreater hi (xs (6 * tj + 1)) (xs (6 * tj + 2))) hLW2 hw3 (lv_sub hl [2, 3, 4, 5, 6, 7] rfl)
      · exact absurd ((lg_cmp_eq _ _).mpr hv0) c6
  · exact absurd rfl c4
set_option maxHeartbeats 4000000 in
set_option maxRecDepth 100000 in
theorem law_3 {p : Program} {l : Launch} {e : Env} {st : State} {m : MethodId} {below : List Frame} {meth : Method} {c : Code} {H : Heap} {locs : List Loc} {cells slots : Nat} {Q : State → Prop} {ls : Array Slot} {G : GT} {A : Nat → Prop} {u : WT} {b L tj : Nat} {xs : Nat → Int32} (hl9 : l.stackTraces = false) (hx : p.tables.exec = Jvm.exec) (hb : c.code = code) (hml : c.maxLocals = 9) (hown : st.vm.findClass "QuoteGraphLaw" = some m.cls) (ht : ∀ w ∈ GW, w.before #[Value.ref b] st = true) (hX : va_X b L xs st st.heap) (hbl : b < st.heap.size) (hbA : ¬ A b) (hL : L ≤ 3072) (htj : 6 * tj + 6 ≤ L) (hcells : cells + 100 ≤ 601024) (hslots : slots + 1000 ≤ 7293034) {lc lm : Nat → Nat} {aL aD : Nat} {S : QS} {M : MS} {f : Nat → Int64} {g : Nat → UInt64} (hi : inv S) (hLW : LW G lc lm aL aD S S M f g u) (hw : Wk G A u st H locs) (hl : lv_has ls 9 [(0, .ref b), (1, .ref (lc 0)), (2, .ref (lm 0)), (3, .ref aL), (4, .ref aD), (5, .int (nI (6 * tj)))]) (K : ∀ (lc' : Nat → Nat) (S' : QS) (m' : MS) (f' : Nat → Int64) (g' : Nat → UInt64) (u' : WT) (ls : Array Slot) (H : Heap) (locs : List Loc), lc' 0 = lc 0 → inv S' → LW G lc' lm aL aD S' S' m' f' g' u' → Wk G A u' st H locs → lv_has ls 9 [(0, .ref b), (1, .ref (lc 0)), (2, .ref (lm 0)), (3, .ref aL), (4, .ref aD), (5, .int (nI (6 * tj)))] → W p l e RL st m #[Value.ref b] below meth c H locs (cells + 3) (slots + 25) Q (F0 m 1130 ls [])) : W p l e RL st m #[Value.ref b] below meth c H locs cells slots Q (F0 m 358 ls []) := by
  obtain ⟨z, hR, hRM, hoL, hoD, hsep, hsm, hld⟩ := id hLW
  refine lv_aload_n hx hb d_L_law_358 rfl (lv_at hl 1 rfl) ?_
  refine lv_aload_n hx hb d_L_law_359 rfl (lv_at hl 0 rfl) ?_
  refine lv_iload hx hb d_L_law_360 (lv_at hl 5 rfl) ?_
  refine lv_iconst (v := 1) hx hb d_L_law_362 (by decide) ?_
  refine lv_iadd hx hb d_L_law_363 ?_
  refine l_ld (k := 6 * tj + 1) (nI_6 _ 1) (by omega) hL hx hb hX hbl hbA hw d_L_law_364 ?_
  refine lv_aload_n hx hb d_L_law_365 rfl (lv_at hl 0 rfl) ?_
  refine lv_iload hx hb d_L_law_366 (lv_at hl 5 rfl) ?_
  refine lv_iconst (v := 2) hx hb d_L_law_368 (by decide) ?_
  refine lv_iadd hx hb d_L_law_369 ?_
  refine l_ld (k := 6 * tj + 2) (nI_6 _ 2) (by omega) hL hx hb hX hbl hbA hw d_L_law_370 ?_
  refine lv_aload_n hx hb d_L_law_371 rfl (lv_at hl 0 rfl) ?_
  refine lv_iload hx hb d_L_law_372 (lv_at hl 5 rfl) ?_
  refine lv_iconst (v := 3) hx hb d_L_law_374 (by decide) ?_
  refine lv_iadd hx hb d_L_law_375 ?_
  refine l_ld (k := 6 * tj + 3) (nI_6 _ 3) (by omega) hL hx hb hX hbl hbA hw d_L_law_376 ?_
  refine lv_aload_n hx hb d_L_law_377 rfl (lv_at hl 0 rfl) ?_
  refine lv_iload hx hb d_L_law_378 (lv_at hl 5 rfl) ?_
  refine lv_iconst (v := 4) hx hb d_L_law_380 (by decide) ?_
  refine lv_iadd hx hb d_L_law_381 ?_
  refine l_ld (k := 6 * tj + 4) (nI_6 _ 4) (by omega) hL hx hb hX hbl hbA hw d_L_law_382 ?_
  refine lv_i2d hx hb d_L_law_383 ?_
  refine lv_ldc2d (v := 4593671619917905920) hx hb hown (ht _ gw_1044) d_L_law_384 ?_
  refine lv_dmul hx hb d_L_law_387 (e8_n _) ?_
  rw [show FP.dmul (FP.i2d (xs (6 * tj + 4))) (4593671619917905920 : UInt64) = e8 (xs (6 * tj + 4)) from rfl]
  refine lv_aload_n hx hb d_L_law_388 rfl (lv_at hl 0 rfl) ?_
  refine lv_iload hx hb d_L_law_389 (lv_at hl 5 rfl) ?_
  refine lv_iconst (v := 5) hx hb d_L_law_391 (by decide) ?_
  refine lv_iadd hx hb d_L_law_392 ?_
  refine l_ld (k := 6 * tj + 5) (nI_6 _ 5) (by omega) hL hx hb hX hbl hbA hw d_L_law_393 ?_
  refine lv_aload_n hx hb d_L_law_394 rfl (lv_at hl 3 rfl) ?_
  refine kc_i (kr_SW 7 (As := [.ref (lc 0), .int (xs (6 * tj + 1)), .int (xs (6 * tj + 2)), .int (xs (6 * tj + 3)), .double (e8 (xs (6 * tj + 4))), .int (xs (6 * tj + 5)), .ref aL]) (rest := []) (c_L_option l hl9 G A lc S z u hR (xs (6 * tj + 1)) (xs (6 * tj + 2)) (xs (6 * tj + 3)) (xs (6 * tj + 4)) (xs (6 * tj + 5)) aL hoL.1 (fun k hk => (hsep k hk).1) f hoL.2) hx hb hml hown ht hw gw_382 gw_383 gw_41 gw_384 ⟨⟨by decide, by decide⟩, by decide +kernel⟩ ⟨by first | decide | (dsimp only; omega), by first | decide | (dsimp only; omega)⟩ rfl hl.1 rfl (lv_room (Nat.le_of_ble_eq_true rfl)) d_L_law_395 ⟨by first | decide | (dsimp only; omega), by first | decide | (dsimp only; omega)⟩) hw (fun _ _ _ _ _ _ h => h.elim) (fun r1 u1 H1 locs1 hp1 hw1 => ?_)
  obtain ⟨er1, ⟨f1, hf1, hv1⟩, hlp⟩ := hp1; subst er1
  obtain ⟨lc1, hlc1, hLW1⟩ := hLW.hL hf1 hlp
  obtain ⟨z1, hR1, hRM1, hoL1, hoD1, hsep1, hsm1, hld1⟩ := id hLW1
  refine lv_istore (lv' := [(6, .int (nI (pOption S (xs (6 * tj + 1)) (xs (6 * tj + 2)) (xs (6 * tj + 3)) (xs (6 * tj + 4)) (xs (6 * tj + 5))).1)), (0, .ref b), (1, .ref (lc 0)), (2, .ref (lm 0)), (3, .ref aL), (4, .ref aD), (5, .int (nI (6 * tj)))]) hx hb d_L_law_398 hl (by decide) rfl (fun ls hl => ?_)
  refine lv_aload_n hx hb d_L_law_400 rfl (lv_at hl 3 rfl) ?_
  refine lv_aload_n hx hb d_L_law_401 rfl (lv_at hl 1 rfl) ?_
  refine lv_iload hx hb d_L_law_402 (lv_at hl 6 rfl) ?_
  refine lv_iconst (v := 1) hx hb d_L_law_404 (by decide) ?_
  refine lv_iadd hx hb d_L_law_405 ?_
  refine l_ld (k := 6 * tj + 1) (nI_6 _ 1) (by omega) hL hx hb hX hbl hbA hw1 d_L_law_406 ?_
  refine lv_aload_n hx hb d_L_law_407 rfl (lv_at hl 1 rfl) ?_
  refine lv_iload hx hb d_L_law_408 (lv_at hl 6 rfl) ?_
  refine lv_iconst (v := 2) hx hb d_L_law_410 (by decide) ?_
  refine lv_iadd hx hb d_L_law_411 ?_
  refine l_ld (k := 6 * tj + 2) (nI_6 _ 2) (by omega) hL hx hb hX hbl hbA hw1 d_L_law_412 ?_
  refine lv_aload_n hx hb d_L_law_413 rfl (lv_at hl 1 rfl) ?_
  refine lv_iload hx hb d_L_law_414 (lv_at hl 6 rfl) ?_
  refine lv_iconst (v := 3) hx hb d_L_law_416 (by decide) ?_
  refine lv_iadd hx hb d_L_law_417 ?_
  refine l_ld (k := 6 * tj + 3) (nI_6 _ 3) (by omega) hL hx hb hX hbl hbA hw1 d_L_law_418 ?_
  refine lv_aload_n hx hb d_L_law_419 rfl (lv_at hl 1 rfl) ?_
  refine lv_iload hx hb d_L_law_420 (lv_at hl 6 rfl) ?_
  refine lv_iconst (v := 4) hx hb d_L_law_422 (by decide) ?_
  refine lv_iadd hx hb d_L_law_423 ?_
  refine l_ld (k := 6 * tj + 4) (nI_6 _ 4) (by omega) hL hx hb hX hbl hbA hw1 d_L_law_424 ?_
  refine lv_i2d hx hb d_L_law_425 ?_
  refine lv_ldc2d (v := 4593671619917905920) hx hb hown (ht _ gw_1044) d_L_law_426 ?_
  refine lv_dmul hx hb d_L_law_429 (e8_n _) ?_
  rw [show FP.dmul (FP.i2d (xs (6 * tj + 4))) (4593671619917905920 : UInt64) = e8 (xs (6 * tj + 4)) from rfl]
  refine lv_aload_n hx hb d_L_law_430 rfl (lv_at hl 1 rfl) ?_
  refine lv_iload hx hb d_L_law_431 (lv_at hl 6 rfl) ?_
  refine lv_iconst (v := 5) hx hb d_L_law_433 (by decide) ?_
  refine lv_iadd hx hb d_L_law_434 ?_
  refine l_ld (k := 6 * tj + 5) (nI_6 _ 5) (by omega) hL hx hb hX hbl hbA hw1 d_L_law_435 ?_
  refine kc_i (kr_V 5 (C := "QuoteGraphModel") (As := [.int (xs (6 * tj + 1)), .int (xs (6 * tj + 2)), .int (xs (6 * tj + 3)), .double (e8 (xs (6 * tj + 4))), .int (xs (6 * tj + 5))]) (rest := []) (c_M_option l G A lm S M u1 hRM1 hi.blk (xs (6 * tj + 1)) (xs (6 * tj + 2)) (xs (6 * tj + 3)) (xs (6 * tj + 4)) (xs (6 * tj + 5))) hx hb hml hown ht hw1 gw_928 gw_929 gw_930 gw_47 gw_931 ⟨⟨by decide, by decide⟩, by decide +kernel⟩ ⟨by first | decide | (dsimp only; omega), by first | decide | (dsimp only; omega)⟩ (lr_M hw1 hRM1) rfl hl.1 rfl (lv_room (Nat.le_of_ble_eq_true rfl)) d_L_law_436 ⟨by first | decide | (dsimp only; omega), by first | decide | (dsimp only; omega)⟩) hw1 (fun _ _ _ _ _ _ h => h.elim) (fun r2 u2 H2 locs2 hp2 hw2 => ?_)
  obtain ⟨er2, m2, ht2, hr2, hf2⟩ := hp2; subst er2
  have hLW2 := hLW1.mm hr2 hf2
  obtain ⟨z2, hR2, hRM2, hoL2, hoD2, hsep2, hsm2, hld2⟩ := id hLW2
  refine lv_istore (lv' := [(7, .int ((pOption S (xs (6 * tj + 1)) (xs (6 * tj + 2)) (xs (6 * tj + 3)) (xs (6 * tj + 4)) (xs (6 * tj + 5))).2.1)), (6, .int (nI (pOption S (xs (6 * tj + 1)) (xs (6 * tj + 2)) (xs (6 * tj + 3)) (xs (6 * tj + 4)) (xs (6 * tj + 5))).1)), (0, .ref b), (1, .ref (lc 0)), (2, .ref (lm 0)), (3, .ref aL), (4, .ref aD), (5, .int (nI (6 * tj)))]) hx hb d_L_law_439 hl (by decide) rfl (fun ls hl => ?_)
  refine lv_aload_n hx hb d_L_law_441 rfl (lv_at hl 4 rfl) ?_
  refine kc_i (kr_V 0 (C := "QuoteGraphModel") (As := []) (rest := []) (c_M_thrown l G A lm (pOption S (xs (6 * tj + 1)) (xs (6 * tj + 2)) (xs (6 * tj + 3)) (xs (6 * tj + 4)) (xs (6 * tj + 5))).2.2 m2 u2 hRM2) hx hb hml hown ht hw2 gw_896 gw_897 gw_898 gw_47 gw_899 ⟨⟨by decide, by decide⟩, by decide +kernel⟩ ⟨by first | decide | (dsimp only; omega), by first | decide | (dsimp only; omega)⟩ (lr_M hw2 hRM2) rfl hl.1 rfl (lv_room (Nat.le_of_ble_eq_true rfl)) d_L_law_442 ⟨by first | decide | (dsimp only; omega), by first | decide | (dsimp only; omega)⟩) hw2 (fun _ _ _ _ _ _ h => h.elim) (fun r3 u3 H3 locs3 hp3 hw3 => ?_)
  obtain ⟨er3, hq3⟩ := hp3; replace hq3 := hq3.symm; subst hq3; subst er3
  rw [ht2]
  refine lv_iload hx hb d_L_law_445 (lv_at hl 1 rfl) ?_
  refine lv_icmp_eq (tgt := 452) hx hb d_L_law_447 (by decide) (fun c4 => ?_) (fun c4 => ?_)
  · refine lv_iload hx hb d_L_law_452 (lv_at hl 1 rfl) ?_
    refine lv_if_ne (tgt := 469) hx hb d_L_law_454 (by decide) (fun c5 => ?_) (fun c5 => ?_)
    · refine lv_goto (tgt := 1130) hx hb d_L_law_469 (by decide) ?_
      refine W.widen (k := cells + 3) (n := slots + 25) (by omega) (by omega) ?_
      exact K lc1 (pOption S (xs (6 * tj + 1)) (xs (6 * tj + 2)) (xs (6 * tj + 3)) (xs (6 * tj + 4)) (xs (6 * tj + 5))).2.2 m2 f1 g u2 ls H3 locs3 hlc1 (inv_pOption hi (xs (6 * tj + 1)) (xs (6 * tj + 2)) (xs (6 * tj + 3)) (xs (6 * tj + 4)) (xs (6 * tj + 5))) hLW2 hw3 (lv_sub hl [2, 3, 4, 5, 6, 7] rfl)
    · have hc0 : (pOption S (xs (6 * tj + 1)) (xs (6 * tj + 2)) (xs (6 * tj + 3)) (xs (6 * tj + 4)) (xs (6 * tj + 5))).1 = 0 := nI_z0 c5 (cd_Option S (xs (6 * tj + 1)) (xs (6 * tj + 2)) (xs (6 * tj + 3)) (xs (6 * tj + 4)) (xs (6 * tj + 5))).lt
      have hv0 := hv1 hc0
      refine lv_aload_n hx hb d_L_law_457 rfl (lv_at hl 5 rfl) ?_
      refine lv_iconst (v := 0) hx hb d_L_law_458 (by decide) ?_
      refine l_oL hx hb hw3 hoL2.1 hoL2.2 d_L_law_459 ?_
      refine lv_iload hx hb d_L_law_460 (lv_at hl 0 rfl) ?_
      refine lv_i2l hx hb d_L_law_462 rfl ?_
      refine W.lcmp hx hb d_L_law_463 ?_
      refine lv_if_eq (tgt := 469) hx hb d_L_law_464 (by decide) (fun c6 => ?_) (fun c6 => ?_)
      · refine lv_goto (tgt := 1130) hx hb d_L_law_469 (by decide) ?_
        refine W.widen (k := cells + 3) (n := slots + 25) (by omega) (by omega) ?_
        exact K lc1 (pOption S (xs (6 * tj + 1)) (xs (6 * tj + 2)) (xs (6 * tj + 3)) (xs (6 * tj + 4)) (xs (6 * tj + 5))).2.2 m2 f1 g u2 ls H3 locs3 hlc1 (inv_pOption hi (xs (6 * tj + 1)) (xs (6 * tj + 2)) (xs (6 * tj + 3)) (xs (6 * tj + 4)) (xs (6 * tj + 5))) hLW2 hw3 (lv_sub hl [2, 3, 4, 5, 6, 7] rfl)
      · exact absurd ((lg_cmp_eq _ _).mpr hv0) c6
  · exact absurd rfl c4
set_option maxHeartbeats 4000000 in
set_option maxRecDepth 100000 in
theorem law_4 {p : Program} {l : Launch} {e : Env} {st : State} {m : MethodId} {below : List Frame} {meth : Method} {c : Code} {H : Heap} {locs : List Loc} {cells slots : Nat} {Q : State → Prop} {ls : Array Slot} {G : GT} {A : Nat → Prop} {u : WT} {b L tj : Nat} {xs : Nat → Int32} (hl9 : l.stackTraces = false) (hx : p.tables.exec = Jvm.exec) (hb : c.code = code) (hml : c.maxLocals = 9) (hown : st.vm.findClass "QuoteGraphLaw" = some m.cls) (ht : ∀ w ∈ GW, w.before #[Value.ref b] st = true) (hX : va_X b L xs st st.heap) (hbl : b < st.heap.size) (hbA : ¬ A b) (hL : L ≤ 3072) (htj : 6 * tj + 6 ≤ L) (hcells : cells + 100 ≤ 601024) (hslots : slots + 1000 ≤ 7293034) {lc lm : Nat → Nat} {aL aD : Nat} {S : QS} {M : MS} {f : Nat → Int64} {g : Nat → UInt64} (hi : inv S) (hLW : LW G lc lm aL aD S S M f g u) (hw : Wk G A u st H locs) (hl : lv_has ls 9 [(0, .ref b), (1, .ref (lc 0)), (2, .ref (lm 0)), (3, .ref aL), (4, .ref aD), (5, .int (nI (6 * tj)))]) (K : ∀ (lc' : Nat → Nat) (S' : QS) (m' : MS) (f' : Nat → Int64) (g' : Nat → UInt64) (u' : WT) (ls : Array Slot) (H : Heap) (locs : List Loc), lc' 0 = lc 0 → inv S' → LW G lc' lm aL aD S' S' m' f' g' u' → Wk G A u' st H locs → lv_has ls 9 [(0, .ref b), (1, .ref (lc 0)), (2, .ref (lm 0)), (3, .ref aL), (4, .ref aD), (5, .int (nI (6 * tj)))] → W p l e RL st m #[Value.ref b] below meth c H locs (cells + 3) (slots + 25) Q (F0 m 1130 ls [])) : W p l e RL st m #[Value.ref b] below meth c H locs cells slots Q (F0 m 472 ls []) := by
  obtain ⟨z, hR, hRM, hoL, hoD, hsep, hsm, hld⟩ := id hLW
  refine lv_aload_n hx hb d_L_law_472 rfl (lv_at hl 1 rfl) ?_
  refine lv_aload_n hx hb d_L_law_473 rfl (lv_at hl 0 rfl) ?_
  refine lv_iload hx hb d_L_law_474 (lv_at hl 5 rfl) ?_
  refine lv_iconst (v := 1) hx hb d_L_law_476 (by decide) ?_
  refine lv_iadd hx hb d_L_law_477 ?_
  refine l_ld (k := 6 * tj + 1) (nI_6 _ 1) (by omega) hL hx hb hX hbl hbA hw d_L_law_478 ?_
  refine lv_aload_n hx hb d_L_law_479 rfl (lv_at hl 0 rfl) ?_
  refine lv_iload hx hb d_L_law_480 (lv_at hl 5 rfl) ?_
  refine lv_iconst (v := 2) hx hb d_L_law_482 (by decide) ?_
  refine lv_iadd hx hb d_L_law_483 ?_
  refine l_ld (k := 6 * tj + 2) (nI_6 _ 2) (by omega) hL hx hb hX hbl hbA hw d_L_law_484 ?_
  refine lv_aload_n hx hb d_L_law_485 rfl (lv_at hl 0 rfl) ?_
  refine lv_iload hx hb d_L_law_486 (lv_at hl 5 rfl) ?_
  refine lv_iconst (v := 3) hx hb d_L_law_488 (by decide) ?_
  refine lv_iadd hx hb d_L_law_489 ?_
  refine l_ld (k := 6 * tj + 3) (nI_6 _ 3) (by omega) hL hx hb hX hbl hbA hw d_L_law_490 ?_
  refine lv_aload_n hx hb d_L_law_491 rfl (lv_at hl 0 rfl) ?_
  refine lv_iload hx hb d_L_law_492 (lv_at hl 5 rfl) ?_
  refine lv_iconst (v := 4) hx hb d_L_law_494 (by decide) ?_
  refine lv_iadd hx hb d_L_law_495 ?_
  refine l_ld (k := 6 * tj + 4) (nI_6 _ 4) (by omega) hL hx hb hX hbl hbA hw d_L_law_496 ?_
  refine lv_if_eq (tgt := 504) hx hb d_L_law_497 (by decide) (fun c1 => ?_) (fun c1 => ?_)
  · refine lv_iconst (v := 0) hx hb d_L_law_504 (by decide) ?_
    have hbz : decide (xs (6 * tj + 4) ≠ 0) = false := decide_eq_false (fun h => h c1)
    have hbI : (0 : Int32) = bI (decide (xs (6 * tj + 4) ≠ 0)) := by rw [hbz]; rfl
    refine lv_eqt hbI ?_
    refine lv_aload_n hx hb d_L_law_505 rfl (lv_at hl 0 rfl) ?_
    refine lv_iload hx hb d_L_law_506 (lv_at hl 5 rfl) ?_
    refine lv_iconst (v := 5) hx hb d_L_law_508 (by decide) ?_
    refine lv_iadd hx hb d_L_law_509 ?_
    refine l_ld (k := 6 * tj + 5) (nI_6 _ 5) (by omega) hL hx hb hX hbl hbA hw d_L_law_510 ?_
    refine kc_i (kr_SW 6 (As := [.ref (lc 0), .int (xs (6 * tj + 1)), .int (xs (6 * tj + 2)), .int (xs (6 * tj + 3)), .int (bI (decide (xs (6 * tj + 4) ≠ 0))), .int (xs (6 * tj + 5))]) (rest := []) (c_L_terms l hl9 G A lc S z u hR (xs (6 * tj + 1)) (xs (6 * tj + 2)) (xs (6 * tj + 3)) (decide (xs (6 * tj + 4) ≠ 0)) (xs (6 * tj + 5)) ) hx hb hml hown ht hw gw_458 gw_459 gw_41 gw_460 ⟨⟨by decide, by decide⟩, by decide +kernel⟩ ⟨by first | decide | (dsimp only; omega), by first | decide | (dsimp only; omega)⟩ rfl hl.1 rfl (lv_room (Nat.le_of_ble_eq_true rfl)) d_L_law_511 ⟨by first | decide | (dsimp only; omega), by first | decide | (dsimp only; omega)⟩) hw (fun _ _ _ _ _ _ h => h.elim) (fun r2 u2 H2 locs2 hp2 hw2 => ?_)
    obtain ⟨er2, hgq⟩ := hp2; subst er2
    obtain ⟨lc1, hlc1, hLW1⟩ := hLW.hV hgq
    obtain ⟨z1, hR1, hRM1, hoL1, hoD1, hsep1, hsm1, hld1⟩ := id hLW1
    refine lv_istore (lv' := [(6, .int (nI (pTerms S (xs (6 * tj + 1)) (xs (6 * tj + 2)) (xs (6 * tj + 3)) (decide (xs (6 * tj + 4) ≠ 0)) (xs (6 * tj + 5))).1)), (0, .ref b), (1, .ref (lc 0)), (2, .ref (lm 0)), (3, .ref aL), (4, .ref aD), (5, .int (nI (6 * tj)))]) hx hb d_L_law_514 hl (by decide) rfl (fun ls hl => ?_)
    refine lv_aload_n hx hb d_L_law_516 rfl (lv_at hl 3 rfl) ?_
    refine lv_aload_n hx hb d_L_law_517 rfl (lv_at hl 1 rfl) ?_
    refine lv_iload hx hb d_L_law_518 (lv_at hl 6 rfl) ?_
    refine lv_iconst (v := 1) hx hb d_L_law_520 (by decide) ?_
    refine lv_iadd hx hb d_L_law_521 ?_
    refine l_ld (k := 6 * tj + 1) (nI_6 _ 1) (by omega) hL hx hb hX hbl hbA hw2 d_L_law_522 ?_
    refine lv_aload_n hx hb d_L_law_523 rfl (lv_at hl 1 rfl) ?_
    refine lv_iload hx hb d_L_law_524 (lv_at hl 6 rfl) ?_
    refine lv_iconst (v := 2) hx hb d_L_law_526 (by decide) ?_
    refine lv_iadd hx hb d_L_law_527 ?_
    refine l_ld (k := 6 * tj + 2) (nI_6 _ 2) (by omega) hL hx hb hX hbl hbA hw2 d_L_law_528 ?_
    refine lv_aload_n hx hb d_L_law_529 rfl (lv_at hl 1 rfl) ?_
    refine lv_iload hx hb d_L_law_530 (lv_at hl 6 rfl) ?_
    refine lv_iconst (v := 3) hx hb d_L_law_532 (by decide) ?_
    refine lv_iadd hx hb d_L_law_533 ?_
    refine l_ld (k := 6 * tj + 3) (nI_6 _ 3) (by omega) hL hx hb hX hbl hbA hw2 d_L_law_534 ?_
    refine lv_aload_n hx hb d_L_law_535 rfl (lv_at hl 1 rfl) ?_
    refine lv_iload hx hb d_L_law_536 (lv_at hl 6 rfl) ?_
    refine lv_iconst (v := 4) hx hb d_L_law_538 (by decide) ?_
    refine lv_iadd hx hb d_L_law_539 ?_
    refine l_ld (k := 6 * tj + 4) (nI_6 _ 4) (by omega) hL hx hb hX hbl hbA hw2 d_L_law_540 ?_
    refine lv_if_eq (tgt := 548) hx hb d_L_law_541 (by decide) (fun c3 => ?_) (fun c3 => ?_)
    · refine lv_iconst (v := 0) hx hb d_L_law_548 (by decide) ?_
      have hbz : decide (xs (6 * tj + 4) ≠ 0) = false := decide_eq_false (fun h => h c3)
      have hbI : (0 : Int32) = bI (decide (xs (6 * tj + 4) ≠ 0)) := by rw [hbz]; rfl
      refine lv_eqt hbI ?_
      refine lv_aload_n hx hb d_L_law_549 rfl (lv_at hl 1 rfl) ?_
      refine lv_iload hx hb d_L_law_550 (lv_at hl 6 rfl) ?_
      refine lv_iconst (v := 5) hx hb d_L_law_552 (by decide) ?_
      refine lv_iadd hx hb d_L_law_553 ?_
      refine l_ld (k := 6 * tj + 5) (nI_6 _ 5) (by omega) hL hx hb hX hbl hbA hw2 d_L_law_554 ?_
      refine kc_v (kr_V 5 (C := "QuoteGraphModel") (As := [.int (xs (6 * tj + 1)), .int (xs (6 * tj + 2)), .int (xs (6 * tj + 3)), .int (bI (decide (xs (6 * tj + 4) ≠ 0))), .int (xs (6 * tj + 5))]) (rest := []) (c_M_terms l G A lm S M u2 hRM1 hi.1.1 hi.2.1 (xs (6 * tj + 1)) (xs (6 * tj + 2)) (xs (6 * tj + 3)) (decide (xs (6 * tj + 4) ≠ 0)) (xs (6 * tj + 5))) hx hb hml hown ht hw2 gw_932 gw_933 gw_934 gw_47 gw_935 ⟨⟨by decide, by decide⟩, by decide +kernel⟩ ⟨by first | decide | (dsimp only; omega), by first | decide | (dsimp only; omega)⟩ (lr_M hw2 hRM1) rfl hl.1 rfl (lv_room (Nat.le_of_ble_eq_true rfl)) d_L_law_555 ⟨by first | decide | (dsimp only; omega), by first | decide | (dsimp only; omega)⟩) hw2 (fun _ _ _ _ _ _ h => h.elim) (fun u4 H4 locs4 hp4 hw4 => ?_)
      obtain ⟨m2, ht2, hr2, hf2⟩ := hp4
      have hLW2 := hLW1.mm hr2 hf2
      obtain ⟨z2, hR2, hRM2, hoL2, hoD2, hsep2, hsm2, hld2⟩ := id hLW2
      refine lv_aload_n hx hb d_L_law_558 rfl (lv_at hl 3 rfl) ?_
      refine kc_i (kr_V 0 (C := "QuoteGraphModel") (As := []) (rest := []) (c_M_thrown l G A lm (pTerms S (xs (6 * tj + 1)) (xs (6 * tj + 2)) (xs (6 * tj + 3)) (decide (xs (6 * tj + 4) ≠ 0)) (xs (6 * tj + 5))).2.2 m2 u4 hRM2) hx hb hml hown ht hw4 gw_896 gw_897 gw_898 gw_47 gw_899 ⟨⟨by decide, by decide⟩, by decide +kernel⟩ ⟨by first | decide | (dsimp only; omega), by first | decide | (dsimp only; omega)⟩ (lr_M hw4 hRM2) rfl hl.1 rfl (lv_room (Nat.le_of_ble_eq_true rfl)) d_L_law_559 ⟨by first | decide | (dsimp only; omega), by first | decide | (dsimp only; omega)⟩) hw4 (fun _ _ _ _ _ _ h => h.elim) (fun r5 u5 H5 locs5 hp5 hw5 => ?_)
      obtain ⟨er5, hq5⟩ := hp5; replace hq5 := hq5.symm; subst hq5; subst er5
      rw [ht2]
      refine lv_iload hx hb d_L_law_562 (lv_at hl 0 rfl) ?_
      refine lv_icmp_eq (tgt := 569) hx hb d_L_law_564 (by decide) (fun c6 => ?_) (fun c6 => ?_)
      · refine lv_goto (tgt := 1130) hx hb d_L_law_569 (by decide) ?_
        refine W.widen (k := cells + 3) (n := slots + 25) (by omega) (by omega) ?_
        exact K lc1 (pTerms S (xs (6 * tj + 1)) (xs (6 * tj + 2)) (xs (6 * tj + 3)) (decide (xs (6 * tj + 4) ≠ 0)) (xs (6 * tj + 5))).2.2 m2 f g u4 ls H5 locs5 hlc1 (inv_pTerms hi (xs (6 * tj + 1)) (xs (6 * tj + 2)) (xs (6 * tj + 3)) (decide (xs (6 * tj + 4) ≠ 0)) (xs (6 * tj + 5))) hLW2 hw5 (lv_sub hl [1, 2, 3, 4, 5, 6] rfl)
      · exact absurd rfl c6
    · refine lv_iconst (v := 1) hx hb d_L_law_544 (by decide) ?_
      refine lv_goto (tgt := 549) hx hb d_L_law_545 (by decide) ?_
      have hbz : decide (xs (6 * tj + 4) ≠ 0) = true := decide_eq_true c3
      have hbI : (1 : Int32) = bI (decide (xs (6 * tj + 4) ≠ 0)) := by rw [hbz]; rfl
      refine lv_eqt hbI ?_
      refine lv_aload_n hx hb d_L_law_549 rfl (lv_at hl 1 rfl) ?_
      refine lv_iload hx hb d_L_law_550 (lv_at hl 6 rfl) ?_
      refine lv_iconst (v := 5) hx hb d_L_law_552 (by decide) ?_
      refine lv_iadd hx hb d_L_law_553 ?_
      refine l_ld (k := 6 * tj + 5) (nI_6 _ 5) (by omega) hL hx hb hX hbl hbA hw2 d_L_law_554 ?_
      refine kc_v (kr_V 5 (C := "QuoteGraphModel") (As := [.int (xs (6 * tj + 1)), .int (xs (6 * tj + 2)), .int (xs (6 * tj + 3)), .int (bI (decide (xs (6 * tj + 4) ≠ 0))), .int (xs (6 * tj + 5))]) (rest := []) (c_M_terms l G A lm S M u2 hRM1 hi.1.1 hi.2.1 (xs (6 * tj + 1)) (xs (6 * tj + 2)) (xs (6 * tj + 3)) (decide (xs (6 * tj + 4) ≠ 0)) (xs (6 * tj + 5))) hx hb hml hown ht hw2 gw_932 gw_933 gw_934 gw_47 gw_935 ⟨⟨by decide, by decide⟩, by decide +kernel⟩ ⟨by first | decide | (dsimp only; omega), by first | decide | (dsimp only; omega)⟩ (lr_M hw2 hRM1) rfl hl.1 rfl (lv_room (Nat.le_of_ble_eq_true rfl)) d_L_law_555 ⟨by first | decide | (dsimp only; omega), by first | decide | (dsimp only; omega)⟩) hw2 (fun _ _ _ _ _ _ h => h.elim) (fun u7 H7 locs7 hp7 hw7 => ?_)
      obtain ⟨m2, ht2, hr2, hf2⟩ := hp7
      have hLW2 := hLW1.mm hr2 hf2
      obtain ⟨z2, hR2, hRM2, hoL2, hoD2, hsep2, hsm2, hld2⟩ := id hLW2
      refine lv_aload_n hx hb d_L_law_558 rfl (lv_at hl 3 rfl) ?_
      refine kc_i (kr_V 0 (C := "QuoteGraphModel") (As := []) (rest := []) (c_M_thrown l G A lm (pTerms S (xs (6 * tj + 1)) (xs (6 * tj + 2)) (xs (6 * tj + 3)) (decide (xs (6 * tj + 4) ≠ 0)) (xs (6 * tj + 5))).2.2 m2 u7 hRM2) hx hb hml hown ht hw7 gw_896 gw_897 gw_898 gw_47 gw_899 ⟨⟨by decide, by decide⟩, by decide +kernel⟩ ⟨by first | decide | (dsimp only; omega), by first | decide | (dsimp only; omega)⟩ (lr_M hw7 hRM2) rfl hl.1 rfl (lv_room (Nat.le_of_ble_eq_true rfl)) d_L_law_559 ⟨by first | decide | (dsimp only; omega), by first | decide | (dsimp only; omega)⟩) hw7 (fun _ _ _ _ _ _ h => h.elim) (fun r8 u8 H8 locs8 hp8 hw8 => ?_)
      obtain ⟨er8, hq8⟩ := hp8; replace hq8 := hq8.symm; subst hq8; subst er8
      rw [ht2]
      refine lv_iload hx hb d_L_law_562 (lv_at hl 0 rfl) ?_
      refine lv_icmp_eq (tgt := 569) hx hb d_L_law_564 (by decide) (fun c9 => ?_) (fun c9 => ?_)
      · refine lv_goto (tgt := 1130) hx hb d_L_law_569 (by decide) ?_
        refine W.widen (k := cells + 3) (n := slots + 25) (by omega) (by omega) ?_
        exact K lc1 (pTerms S (xs (6 * tj + 1)) (xs (6 * tj + 2)) (xs (6 * tj + 3)) (decide (xs (6 * tj + 4) ≠ 0)) (xs (6 * tj + 5))).2.2 m2 f g u7 ls H8 locs8 hlc1 (inv_pTerms hi (xs (6 * tj + 1)) (xs (6 * tj + 2)) (xs (6 * tj + 3)) (decide (xs (6 * tj + 4) ≠ 0)) (xs (6 * tj + 5))) hLW2 hw8 (lv_sub hl [1, 2, 3, 4, 5, 6] rfl)
      · exact absurd rfl c9
  · refine lv_iconst (v := 1) hx hb d_L_law_500 (by decide) ?_
    refine lv_goto (tgt := 505) hx hb d_L_law_501 (by decide) ?_
    have hbz : decide (xs (6 * tj + 4) ≠ 0) = true := decide_eq_true c1
    have hbI : (1 : Int32) = bI (decide (xs (6 * tj + 4) ≠ 0)) := by rw [hbz]; rfl
    refine lv_eqt hbI ?_
    refine lv_aload_n hx hb d_L_law_505 rfl (lv_at hl 0 rfl) ?_
    refine lv_iload hx hb d_L_law_506 (lv_at hl 5 rfl) ?_
    refine lv_iconst (v := 5) hx hb d_L_law_508 (by decide) ?_
    refine lv_iadd hx hb d_L_law_509 ?_
    refine l_ld (k := 6 * tj + 5) (nI_6 _ 5) (by omega) hL hx hb hX hbl hbA hw d_L_law_510 ?_
    refine kc_i (kr_SW 6 (As := [.ref (lc 0), .int (xs (6 * tj + 1)), .int (xs (6 * tj + 2)), .int (xs (6 * tj + 3)), .int (bI (decide (xs (6 * tj + 4) ≠ 0))), .int (xs (6 * tj + 5))]) (rest := []) (c_L_terms l hl9 G A lc S z u hR (xs (6 * tj + 1)) (xs (6 * tj + 2)) (xs (6 * tj + 3)) (decide (xs (6 * tj + 4) ≠ 0)) (xs (6 * tj + 5)) ) hx hb hml hown ht hw gw_458 gw_459 gw_41 gw_460 ⟨⟨by decide, by decide⟩, by decide +kernel⟩ ⟨by first | decide | (dsimp only; omega), by first | decide | (dsimp only; omega)⟩ rfl hl.1 rfl (lv_room (Nat.le_of_ble_eq_true rfl)) d_L_law_511 ⟨by first | decide | (dsimp only; omega), by first | decide | (dsimp only; omega)⟩) hw (fun _ _ _ _ _ _ h => h.elim) (fun r10 u10 H10 locs10 hp10 hw10 => ?_)
    obtain ⟨er10, hgq⟩ := hp10; subst er10
    obtain ⟨lc1, hlc1, hLW1⟩ := hLW.hV hgq
    obtain ⟨z1, hR1, hRM1, hoL1, hoD1, hsep1, hsm1, hld1⟩ := id hLW1
    refine lv_istore (lv' := [(6, .int (nI (pTerms S (xs (6 * tj + 1)) (xs (6 * tj + 2)) (xs (6 * tj + 3)) (decide (xs (6 * tj + 4) ≠ 0)) (xs (6 * tj + 5))).1)), (0, .ref b), (1, .ref (lc 0)), (2, .ref (lm 0)), (3, .ref aL), (4, .ref aD), (5, .int (nI (6 * tj)))]) hx hb d_L_law_514 hl (by decide) rfl (fun ls hl => ?_)
    refine lv_aload_n hx hb d_L_law_516 rfl (lv_at hl 3 rfl) ?_
    refine lv_aload_n hx hb d_L_law_517 rfl (lv_at hl 1 rfl) ?_
    refine lv_iload hx hb d_L_law_518 (lv_at hl 6 rfl) ?_
    refine lv_iconst (v := 1) hx hb d_L_law_520 (by decide) ?_
    refine lv_iadd hx hb d_L_law_521 ?_
    refine l_ld (k := 6 * tj + 1) (nI_6 _ 1) (by omega) hL hx hb hX hbl hbA hw10 d_L_law_522 ?_
    refine lv_aload_n hx hb d_L_law_523 rfl (lv_at hl 1 rfl) ?_
    refine lv_iload hx hb d_L_law_524 (lv_at hl 6 rfl) ?_
    refine lv_iconst (v := 2) hx hb d_L_law_526 (by decide) ?_
    refine lv_iadd hx hb d_L_law_527 ?_
    refine l_ld (k := 6 * tj + 2) (nI_6 _ 2) (by omega) hL hx hb hX hbl hbA hw10 d_L_law_528 ?_
    refine lv_aload_n hx hb d_L_law_529 rfl (lv_at hl 1 rfl) ?_
    refine lv_iload hx hb d_L_law_530 (lv_at hl 6 rfl) ?_
    refine lv_iconst (v := 3) hx hb d_L_law_532 (by decide) ?_
    refine lv_iadd hx hb d_L_law_533 ?_
    refine l_ld (k := 6 * tj + 3) (nI_6 _ 3) (by omega) hL hx hb hX hbl hbA hw10 d_L_law_534 ?_
    refine lv_aload_n hx hb d_L_law_535 rfl (lv_at hl 1 rfl) ?_
    refine lv_iload hx hb d_L_law_536 (lv_at hl 6 rfl) ?_
    refine lv_iconst (v := 4) hx hb d_L_law_538 (by decide) ?_
    refine lv_iadd hx hb d_L_law_539 ?_
    refine l_ld (k := 6 * tj + 4) (nI_6 _ 4) (by omega) hL hx hb hX hbl hbA hw10 d_L_law_540 ?_
    refine lv_if_eq (tgt := 548) hx hb d_L_law_541 (by decide) (fun c11 => ?_) (fun c11 => ?_)
    · refine lv_iconst (v := 0) hx hb d_L_law_548 (by decide) ?_
      have hbz : decide (xs (6 * tj + 4) ≠ 0) = false := decide_eq_false (fun h => h c11)
      have hbI : (0 : Int32) = bI (decide (xs (6 * tj + 4) ≠ 0)) := by rw [hbz]; rfl
      refine lv_eqt hbI ?_
      refine lv_aload_n hx hb d_L_law_549 rfl (lv_at hl 1 rfl) ?_
      refine lv_iload hx hb d_L_law_550 (lv_at hl 6 rfl) ?_
      refine lv_iconst (v := 5) hx hb d_L_law_552 (by decide) ?_
      refine lv_iadd hx hb d_L_law_553 ?_
      refine l_ld (k := 6 * tj + 5) (nI_6 _ 5) (by omega) hL hx hb hX hbl hbA hw10 d_L_law_554 ?_
      refine kc_v (kr_V 5 (C := "QuoteGraphModel") (As := [.int (xs (6 * tj + 1)), .int (xs (6 * tj + 2)), .int (xs (6 * tj + 3)), .int (bI (decide (xs (6 * tj + 4) ≠ 0))), .int (xs (6 * tj + 5))]) (rest := []) (c_M_terms l G A lm S M u10 hRM1 hi.1.1 hi.2.1 (xs (6 * tj + 1)) (xs (6 * tj + 2)) (xs (6 * tj + 3)) (decide (xs (6 * tj + 4) ≠ 0)) (xs (6 * tj + 5))) hx hb hml hown ht hw10 gw_932 gw_933 gw_934 gw_47 gw_935 ⟨⟨by decide, by decide⟩, by decide +kernel⟩ ⟨by first | decide | (dsimp only; omega), by first | decide | (dsimp only; omega)⟩ (lr_M hw10 hRM1) rfl hl.1 rfl (lv_room (Nat.le_of_ble_eq_true rfl)) d_L_law_555 ⟨by first | decide | (dsimp only; omega), by first | decide | (dsimp only; omega)⟩) hw10 (fun _ _ _ _ _ _ h => h.elim) (fun u12 H12 locs12 hp12 hw12 => ?_)
      obtain ⟨m2, ht2, hr2, hf2⟩ := hp12
      have hLW2 := hLW1.mm hr2 hf2
      obtain ⟨z2, hR2, hRM2, hoL2, hoD2, hsep2, hsm2, hld2⟩ := id hLW2
      refine lv_aload_n hx hb d_L_law_558 rfl (lv_at hl 3 rfl) ?_
      refine kc_i (kr_V 0 (C := "QuoteGraphModel") (As := []) (rest := []) (c_M_thrown l G A lm (pTerms S (xs (6 * tj + 1)) (xs (6 * tj + 2)) (xs (6 * tj + 3)) (decide (xs (6 * tj + 4) ≠ 0)) (xs (6 * tj + 5))).2.2 m2 u12 hRM2) hx hb hml hown ht hw12 gw_896 gw_897 gw_898 gw_47 gw_899 ⟨⟨by decide, by decide⟩, by decide +kernel⟩ ⟨by first | decide | (dsimp only; omega), by first | decide | (dsimp only; omega)⟩ (lr_M hw12 hRM2) rfl hl.1 rfl (lv_room (Nat.le_of_ble_eq_true rfl)) d_L_law_559 ⟨by first | decide | (dsimp only; omega), by first | decide | (dsimp only; omega)⟩) hw12 (fun _ _ _ _ _ _ h => h.elim) (fun r13 u13 H13 locs13 hp13 hw13 => ?_)
      obtain ⟨er13, hq13⟩ := hp13; replace hq13 := hq13.symm; subst hq13; subst er13
      rw [ht2]
      refine lv_iload hx hb d_L_law_562 (lv_at hl 0 rfl) ?_
      refine lv_icmp_eq (tgt := 569) hx hb d_L_law_564 (by decide) (fun c14 => ?_) (fun c14 => ?_)
      · refine lv_goto (tgt := 1130) hx hb d_L_law_569 (by decide) ?_
        refine W.widen (k := cells + 3) (n := slots + 25) (by omega) (by omega) ?_
        exact K lc1 (pTerms S (xs (6 * tj + 1)) (xs (6 * tj + 2)) (xs (6 * tj + 3)) (decide (xs (6 * tj + 4) ≠ 0)) (xs (6 * tj + 5))).2.2 m2 f g u12 ls H13 locs13 hlc1 (inv_pTerms hi (xs (6 * tj + 1)) (xs (6 * tj + 2)) (xs (6 * tj + 3)) (decide (xs (6 * tj + 4) ≠ 0)) (xs (6 * tj + 5))) hLW2 hw13 (lv_sub hl [1, 2, 3, 4, 5, 6] rfl)
      · exact absurd rfl c14
    · refine lv_iconst (v := 1) hx hb d_L_law_544 (by decide) ?_
      refine lv_goto (tgt := 549) hx hb d_L_law_545 (by decide) ?_
      have hbz : decide (xs (6 * tj + 4) ≠ 0) = true := decide_eq_true c11
      have hbI : (1 : Int32) = bI (decide (xs (6 * tj + 4) ≠ 0)) := by rw [hbz]; rfl
      refine lv_eqt hbI ?_
      refine lv_aload_n hx hb d_L_law_549 rfl (lv_at hl 1 rfl) ?_
      refine lv_iload hx hb d_L_law_550 (lv_at hl 6 rfl) ?_
      refine lv_iconst (v := 5) hx hb d_L_law_552 (by decide) ?_
      refine lv_iadd hx hb d_L_law_553 ?_
      refine l_ld (k := 6 * tj + 5) (nI_6 _ 5) (by omega) hL hx hb hX hbl hbA hw10 d_L_law_554 ?_
      refine kc_v (kr_V 5 (C := "QuoteGraphModel") (As := [.int (xs (6 * tj + 1)), .int (xs (6 * tj + 2)), .int (xs (6 * tj + 3)), .int (bI (decide (xs (6 * tj + 4) ≠ 0))), .int (xs (6 * tj + 5))]) (rest := []) (c_M_terms l G A lm S M u10 hRM1 hi.1.1 hi.2.1 (xs (6 * tj + 1)) (xs (6 * tj + 2)) (xs (6 * tj + 3)) (decide (xs (6 * tj + 4) ≠ 0)) (xs (6 * tj + 5))) hx hb hml hown ht hw10 gw_932 gw_933 gw_934 gw_47 gw_935 ⟨⟨by decide, by decide⟩, by decide +kernel⟩ ⟨by first | decide | (dsimp only; omega), by first | decide | (dsimp only; omega)⟩ (lr_M hw10 hRM1) rfl hl.1 rfl (lv_room (Nat.le_of_ble_eq_true rfl)) d_L_law_555 ⟨by first | decide | (dsimp only; omega), by first | decide | (dsimp only; omega)⟩) hw10 (fun _ _ _ _ _ _ h => h.elim) (fun u15 H15 locs15 hp15 hw15 => ?_)
      obtain ⟨m2, ht2, hr2, hf2⟩ := hp15
      have hLW2 := hLW1.mm hr2 hf2
      obtain ⟨z2, hR2, hRM2, hoL2, hoD2, hsep2, hsm2, hld2⟩ := id hLW2
      refine lv_aload_n hx hb d_L_law_558 rfl (lv_at hl 3 rfl) ?_
      refine kc_i (kr_V 0 (C := "QuoteGraphModel") (As := []) (rest := []) (c_M_thrown l G A lm (pTerms S (xs (6 * tj + 1)) (xs (6 * tj + 2)) (xs (6 * tj + 3)) (decide (xs (6 * tj + 4) ≠ 0)) (xs (6 * tj + 5))).2.2 m2 u15 hRM2) hx hb hml hown ht hw15 gw_896 gw_897 gw_898 gw_47 gw_899 ⟨⟨by decide, by decide⟩, by decide +kernel⟩ ⟨by first | decide | (dsimp only; omega), by first | decide | (dsimp only; omega)⟩ (lr_M hw15 hRM2) rfl hl.1 rfl (lv_room (Nat.le_of_ble_eq_true rfl)) d_L_law_559 ⟨by first | decide | (dsimp only; omega), by first | decide | (dsimp only; omega)⟩) hw15 (fun _ _ _ _ _ _ h => h.elim) (fun r16 u16 H16 locs16 hp16 hw16 => ?_)
      obtain ⟨er16, hq16⟩ := hp16; replace hq16 := hq16.symm; subst hq16; subst er16
      rw [ht2]
      refine lv_iload hx hb d_L_law_562 (lv_at hl 0 rfl) ?_
      refine lv_icmp_eq (tgt := 569) hx hb d_L_law_564 (by decide) (fun c17 => ?_) (fun c17 => ?_)
      · refine lv_goto (tgt := 1130) hx hb d_L_law_569 (by decide) ?_
        refine W.widen (k := cells + 3) (n := slots + 25) (by omega) (by omega) ?_
        exact K lc1 (pTerms S (xs (6 * tj + 1)) (xs (6 * tj + 2)) (xs (6 * tj + 3)) (decide (xs (6 * tj + 4) ≠ 0)) (xs (6 * tj + 5))).2.2 m2 f g u15 ls H16 locs16 hlc1 (inv_pTerms hi (xs (6 * tj + 1)) (xs (6 * tj + 2)) (xs (6 * tj + 3)) (decide (xs (6 * tj + 4) ≠ 0)) (xs (6 * tj + 5))) hLW2 hw16 (lv_sub hl [1, 2, 3, 4, 5, 6] rfl)
      · exact absurd rfl c17
set_option maxHeartbeats 4000000 in
set_option maxRecDepth 100000 in
theorem law_5 {p : Program} {l : Launch} {e : Env} {st : State} {m : MethodId} {below : List Frame} {meth : Method} {c : Code} {H : Heap} {locs : List Loc} {cells slots : Nat} {Q : State → Prop} {ls : Array Slot} {G : GT} {A : Nat → Prop} {u : WT} {b L tj : Nat} {xs : Nat → Int32} (hl9 : l.stackTraces = false) (hx : p.tables.exec = Jvm.exec) (hb : c.code = code) (hml : c.maxLocals = 9) (hown : st.vm.findClass "QuoteGraphLaw" = some m.cls) (ht : ∀ w ∈ GW, w.before #[Value.ref b] st = true) (hX : va_X b L xs st st.heap) (hbl : b < st.heap.size) (hbA : ¬ A b) (hL : L ≤ 3072) (htj : 6 * tj + 6 ≤ L) (hcells : cells + 100 ≤ 601024) (hslots : slots + 1000 ≤ 7293034) {lc lm : Nat → Nat} {aL aD : Nat} {S : QS} {M : MS} {f : Nat → Int64} {g : Nat → UInt64} (hi : inv S) (hLW : LW G lc lm aL aD S S M f g u) (hw : Wk G A u st H locs) (hl : lv_has ls 9 [(0, .ref b), (1, .ref (lc 0)), (2, .ref (lm 0)), (3, .ref aL), (4, .ref aD), (5, .int (nI (6 * tj)))]) (K : ∀ (lc' : Nat → Nat) (S' : QS) (m' : MS) (f' : Nat → Int64) (g' : Nat → UInt64) (u' : WT) (ls : Array Slot) (H : Heap) (locs : List Loc), lc' 0 = lc 0 → inv S' → LW G lc' lm aL aD S' S' m' f' g' u' → Wk G A u' st H locs → lv_has ls 9 [(0, .ref b), (1, .ref (lc 0)), (2, .ref (lm 0)), (3, .ref aL), (4, .ref aD), (5, .int (nI (6 * tj)))] → W p l e RL st m #[Value.ref b] below meth c H locs (cells + 3) (slots + 25) Q (F0 m 1130 ls [])) : W p l e RL st m #[Value.ref b] below meth c H locs cells slots Q (F0 m 572 ls []) := by
  obtain ⟨z, hR, hRM, hoL, hoD, hsep, hsm, hld⟩ := id hLW
  refine lv_aload_n hx hb d_L_law_572 rfl (lv_at hl 1 rfl) ?_
  refine lv_aload_n hx hb d_L_law_573 rfl (lv_at hl 0 rfl) ?_
  refine lv_iload hx hb d_L_law_574 (lv_at hl 5 rfl) ?_
  refine lv_iconst (v := 1) hx hb d_L_law_576 (by decide) ?_
  refine lv_iadd hx hb d_L_law_577 ?_
  refine l_ld (k := 6 * tj + 1) (nI_6 _ 1) (by omega) hL hx hb hX hbl hbA hw d_L_law_578 ?_
  refine lv_aload_n hx hb d_L_law_579 rfl (lv_at hl 0 rfl) ?_
  refine lv_iload hx hb d_L_law_580 (lv_at hl 5 rfl) ?_
  refine lv_iconst (v := 2) hx hb d_L_law_582 (by decide) ?_
  refine lv_iadd hx hb d_L_law_583 ?_
  refine l_ld (k := 6 * tj + 2) (nI_6 _ 2) (by omega) hL hx hb hX hbl hbA hw d_L_law_584 ?_
  refine lv_aload_n hx hb d_L_law_585 rfl (lv_at hl 0 rfl) ?_
  refine lv_iload hx hb d_L_law_586 (lv_at hl 5 rfl) ?_
  refine lv_iconst (v := 3) hx hb d_L_law_588 (by decide) ?_
  refine lv_iadd hx hb d_L_law_589 ?_
  refine l_ld (k := 6 * tj + 3) (nI_6 _ 3) (by omega) hL hx hb hX hbl hbA hw d_L_law_590 ?_
  refine kc_i (kr_SW 4 (As := [.ref (lc 0), .int (xs (6 * tj + 1)), .int (xs (6 * tj + 2)), .int (xs (6 * tj + 3))]) (rest := []) (c_L_engine l hl9 G A lc S z u hR (xs (6 * tj + 1)) (xs (6 * tj + 2)) (xs (6 * tj + 3)) ) hx hb hml hown ht hw gw_516 gw_517 gw_41 gw_518 ⟨⟨by decide, by decide⟩, by decide +kernel⟩ ⟨by first | decide | (dsimp only; omega), by first | decide | (dsimp only; omega)⟩ rfl hl.1 rfl (lv_room (Nat.le_of_ble_eq_true rfl)) d_L_law_591 ⟨by first | decide | (dsimp only; omega), by first | decide | (dsimp only; omega)⟩) hw (fun _ _ _ _ _ _ h => h.elim) (fun r1 u1 H1 locs1 hp1 hw1 => ?_)
  obtain ⟨er1, hgq⟩ := hp1; subst er1
  obtain ⟨lc1, hlc1, hLW1⟩ := hLW.hV hgq
  obtain ⟨z1, hR1, hRM1, hoL1, hoD1, hsep1, hsm1, hld1⟩ := id hLW1
  refine lv_istore (lv' := [(6, .int (nI (pEngine S (xs (6 * tj + 1)) (xs (6 * tj + 2)) (xs (6 * tj + 3))).1)), (0, .ref b), (1, .ref (lc 0)), (2, .ref (lm 0)), (3, .ref aL), (4, .ref aD), (5, .int (nI (6 * tj)))]) hx hb d_L_law_594 hl (by decide) rfl (fun ls hl => ?_)
  refine lv_aload_n hx hb d_L_law_596 rfl (lv_at hl 3 rfl) ?_
  refine lv_aload_n hx hb d_L_law_597 rfl (lv_at hl 1 rfl) ?_
  refine lv_iload hx hb d_L_law_598 (lv_at hl 6 rfl) ?_
  refine lv_iconst (v := 1) hx hb d_L_law_600 (by decide) ?_
  refine lv_iadd hx hb d_L_law_601 ?_
  refine l_ld (k := 6 * tj + 1) (nI_6 _ 1) (by omega) hL hx hb hX hbl hbA hw1 d_L_law_602 ?_
  refine lv_aload_n hx hb d_L_law_603 rfl (lv_at hl 1 rfl) ?_
  refine lv_iload hx hb d_L_law_604 (lv_at hl 6 rfl) ?_
  refine lv_iconst (v := 2) hx hb d_L_law_606 (by decide) ?_
  refine lv_iadd hx hb d_L_law_607 ?_
  refine l_ld (k := 6 * tj + 2) (nI_6 _ 2) (by omega) hL hx hb hX hbl hbA hw1 d_L_law_608 ?_
  refine lv_aload_n hx hb d_L_law_609 rfl (lv_at hl 1 rfl) ?_
  refine lv_iload hx hb d_L_law_610 (lv_at hl 6 rfl) ?_
  refine lv_iconst (v := 3) hx hb d_L_law_612 (by decide) ?_
  refine lv_iadd hx hb d_L_law_613 ?_
  refine l_ld (k := 6 * tj + 3) (nI_6 _ 3) (by omega) hL hx hb hX hbl hbA hw1 d_L_law_614 ?_
  refine kc_v (kr_V 3 (C := "QuoteGraphModel") (As := [.int (xs (6 * tj + 1)), .int (xs (6 * tj + 2)), .int (xs (6 * tj + 3))]) (rest := []) (c_M_engine l G A lm S M u1 hRM1 hi.1.1 hi.2.1 (xs (6 * tj + 1)) (xs (6 * tj + 2)) (xs (6 * tj + 3))) hx hb hml hown ht hw1 gw_956 gw_957 gw_958 gw_47 gw_959 ⟨⟨by decide, by decide⟩, by decide +kernel⟩ ⟨by first | decide | (dsimp only; omega), by first | decide | (dsimp only; omega)⟩ (lr_M hw1 hRM1) rfl hl.1 rfl (lv_room (Nat.le_of_ble_eq_true rfl)) d_L_law_615 ⟨by first | decide | (dsimp only; omega), by first | decide | (dsimp only; omega)⟩) hw1 (fun _ _ _ _ _ _ h => h.elim) (fun u2 H2 locs2 hp2 hw2 => ?_)
  obtain ⟨m2, ht2, hr2, hf2⟩ := hp2
  have hLW2 := hLW1.mm hr2 hf2
  obtain ⟨z2, hR2, hRM2, hoL2, hoD2, hsep2, hsm2, hld2⟩ := id hLW2
  refine lv_aload_n hx hb d_L_law_618 rfl (lv_at hl 3 rfl) ?_
  refine kc_i (kr_V 0 (C := "QuoteGraphModel") (As := []) (rest := []) (c_M_thrown l G A lm (pEngine S (xs (6 * tj + 1)) (xs (6 * tj + 2)) (xs (6 * tj + 3))).2.2 m2 u2 hRM2) hx hb hml hown ht hw2 gw_896 gw_897 gw_898 gw_47 gw_899 ⟨⟨by decide, by decide⟩, by decide +kernel⟩ ⟨by first | decide | (dsimp only; omega), by first | decide | (dsimp only; omega)⟩ (lr_M hw2 hRM2) rfl hl.1 rfl (lv_room (Nat.le_of_ble_eq_true rfl)) d_L_law_619 ⟨by first | decide | (dsimp only; omega), by first | decide | (dsimp only; omega)⟩) hw2 (fun _ _ _ _ _ _ h => h.elim) (fun r3 u3 H3 locs3 hp3 hw3 => ?_)
  obtain ⟨er3, hq3⟩ := hp3; replace hq3 := hq3.symm; subst hq3; subst er3
  rw [ht2]
  refine lv_iload hx hb d_L_law_622 (lv_at hl 0 rfl) ?_
  refine lv_icmp_eq (tgt := 629) hx hb d_L_law_624 (by decide) (fun c4 => ?_) (fun c4 => ?_)
  · refine lv_goto (tgt := 1130) hx hb d_L_law_629 (by decide) ?_
    refine W.widen (k := cells + 3) (n := slots + 25) (by omega) (by omega) ?_
    exact K lc1 (pEngine S (xs (6 * tj + 1)) (xs (6 * tj + 2)) (xs (6 * tj + 3))).2.2 m2 f g u2 ls H3 locs3 hlc1 (inv_pEngine hi (xs (6 * tj + 1)) (xs (6 * tj + 2)) (xs (6 * tj + 3))) hLW2 hw3 (lv_sub hl [1, 2, 3, 4, 5, 6] rfl)
  · exact absurd rfl c4
set_option maxHeartbeats 4000000 in
set_option maxRecDepth 100000 in
theorem law_6 {p : Program} {l : Launch} {e : Env} {st : State} {m : MethodId} {below : List Frame} {meth : Method} {c : Code} {H : Heap} {locs : List Loc} {cells slots : Nat} {Q : State → Prop} {ls : Array Slot} {G : GT} {A : Nat → Prop} {u : WT} {b L tj : Nat} {xs : Nat → Int32} (hl9 : l.stackTraces = false) (hx : p.tables.exec = Jvm.exec) (hb : c.code = code) (hml : c.maxLocals = 9) (hown : st.vm.findClass "QuoteGraphLaw" = some m.cls) (ht : ∀ w ∈ GW, w.before #[Value.ref b] st = true) (hX : va_X b L xs st st.heap) (hbl : b < st.heap.size) (hbA : ¬ A b) (hL : L ≤ 3072) (htj : 6 * tj + 6 ≤ L) (hcells : cells + 100 ≤ 601024) (hslots : slots + 1000 ≤ 7293034) {lc lm : Nat → Nat} {aL aD : Nat} {S : QS} {M : MS} {f : Nat → Int64} {g : Nat → UInt64} (hi : inv S) (hLW : LW G lc lm aL aD S S M f g u) (hw : Wk G A u st H locs) (hl : lv_has ls 9 [(0, .ref b), (1, .ref (lc 0)), (2, .ref (lm 0)), (3, .ref aL), (4, .ref aD), (5, .int (nI (6 * tj)))]) (K : ∀ (lc' : Nat → Nat) (S' : QS) (m' : MS) (f' : Nat → Int64) (g' : Nat → UInt64) (u' : WT) (ls : Array Slot) (H : Heap) (locs : List Loc), lc' 0 = lc 0 → inv S' → LW G lc' lm aL aD S' S' m' f' g' u' → Wk G A u' st H locs → lv_has ls 9 [(0, .ref b), (1, .ref (lc 0)), (2, .ref (lm 0)), (3, .ref aL), (4, .ref aD), (5, .int (nI (6 * tj)))] → W p l e RL st m #[Value.ref b] below meth c H locs (cells + 3) (slots + 25) Q (F0 m 1130 ls [])) : W p l e RL st m #[Value.ref b] below meth c H locs cells slots Q (F0 m 632 ls []) := by
  obtain ⟨z, hR, hRM, hoL, hoD, hsep, hsm, hld⟩ := id hLW
  refine lv_aload_n hx hb d_L_law_632 rfl (lv_at hl 1 rfl) ?_
  refine lv_aload_n hx hb d_L_law_633 rfl (lv_at hl 0 rfl) ?_
  refine lv_iload hx hb d_L_law_634 (lv_at hl 5 rfl) ?_
  refine lv_iconst (v := 1) hx hb d_L_law_636 (by decide) ?_
  refine lv_iadd hx hb d_L_law_637 ?_
  refine l_ld (k := 6 * tj + 1) (nI_6 _ 1) (by omega) hL hx hb hX hbl hbA hw d_L_law_638 ?_
  refine lv_aload_n hx hb d_L_law_639 rfl (lv_at hl 0 rfl) ?_
  refine lv_iload hx hb d_L_law_640 (lv_at hl 5 rfl) ?_
  refine lv_iconst (v := 2) hx hb d_L_law_642 (by decide) ?_
  refine lv_iadd hx hb d_L_law_643 ?_
  refine l_ld (k := 6 * tj + 2) (nI_6 _ 2) (by omega) hL hx hb hX hbl hbA hw d_L_law_644 ?_
  refine lv_i2d hx hb d_L_law_645 ?_
  refine lv_ldc2d (v := 4593671619917905920) hx hb hown (ht _ gw_1044) d_L_law_646 ?_
  refine lv_dmul hx hb d_L_law_649 (e8_n _) ?_
  rw [show FP.dmul (FP.i2d (xs (6 * tj + 2))) (4593671619917905920 : UInt64) = e8 (xs (6 * tj + 2)) from rfl]
  refine lv_aload_n hx hb d_L_law_650 rfl (lv_at hl 3 rfl) ?_
  refine kc_i (kr_SW 4 (As := [.ref (lc 0), .int (xs (6 * tj + 1)), .double (e8 (xs (6 * tj + 2))), .ref aL]) (rest := []) (c_L_set l hl9 G A lc S z u hR (xs (6 * tj + 1)) (xs (6 * tj + 2)) aL hoL.1 (fun k hk => (hsep k hk).1) f hoL.2) hx hb hml hown ht hw gw_523 gw_524 gw_41 gw_525 ⟨⟨by decide, by decide⟩, by decide +kernel⟩ ⟨by first | decide | (dsimp only; omega), by first | decide | (dsimp only; omega)⟩ rfl hl.1 rfl (lv_room (Nat.le_of_ble_eq_true rfl)) d_L_law_651 ⟨by first | decide | (dsimp only; omega), by first | decide | (dsimp only; omega)⟩) hw (fun _ _ _ _ _ _ h => h.elim) (fun r1 u1 H1 locs1 hp1 hw1 => ?_)
  obtain ⟨er1, ⟨f1, hf1, hv1⟩, hlp⟩ := hp1; subst er1
  obtain ⟨lc1, hlc1, hLW1⟩ := hLW.hL hf1 hlp
  obtain ⟨z1, hR1, hRM1, hoL1, hoD1, hsep1, hsm1, hld1⟩ := id hLW1
  refine lv_istore (lv' := [(6, .int (nI (pSet S (xs (6 * tj + 1)) (xs (6 * tj + 2))).1)), (0, .ref b), (1, .ref (lc 0)), (2, .ref (lm 0)), (3, .ref aL), (4, .ref aD), (5, .int (nI (6 * tj)))]) hx hb d_L_law_654 hl (by decide) rfl (fun ls hl => ?_)
  refine lv_aload_n hx hb d_L_law_656 rfl (lv_at hl 3 rfl) ?_
  refine lv_aload_n hx hb d_L_law_657 rfl (lv_at hl 1 rfl) ?_
  refine lv_iload hx hb d_L_law_658 (lv_at hl 6 rfl) ?_
  refine lv_iconst (v := 1) hx hb d_L_law_660 (by decide) ?_
  refine lv_iadd hx hb d_L_law_661 ?_
  refine l_ld (k := 6 * tj + 1) (nI_6 _ 1) (by omega) hL hx hb hX hbl hbA hw1 d_L_law_662 ?_
  refine lv_aload_n hx hb d_L_law_663 rfl (lv_at hl 1 rfl) ?_
  refine lv_iload hx hb d_L_law_664 (lv_at hl 6 rfl) ?_
  refine lv_iconst (v := 2) hx hb d_L_law_666 (by decide) ?_
  refine lv_iadd hx hb d_L_law_667 ?_
  refine l_ld (k := 6 * tj + 2) (nI_6 _ 2) (by omega) hL hx hb hX hbl hbA hw1 d_L_law_668 ?_
  refine lv_i2d hx hb d_L_law_669 ?_
  refine lv_ldc2d (v := 4593671619917905920) hx hb hown (ht _ gw_1044) d_L_law_670 ?_
  refine lv_dmul hx hb d_L_law_673 (e8_n _) ?_
  rw [show FP.dmul (FP.i2d (xs (6 * tj + 2))) (4593671619917905920 : UInt64) = e8 (xs (6 * tj + 2)) from rfl]
  refine kc_i (kr_V 2 (C := "QuoteGraphModel") (As := [.int (xs (6 * tj + 1)), .double (e8 (xs (6 * tj + 2)))]) (rest := []) (c_M_set l G A lm S M u1 hRM1 hi.1.1 hi.2.1 (xs (6 * tj + 1)) (xs (6 * tj + 2))) hx hb hml hown ht hw1 gw_960 gw_961 gw_962 gw_47 gw_963 ⟨⟨by decide, by decide⟩, by decide +kernel⟩ ⟨by first | decide | (dsimp only; omega), by first | decide | (dsimp only; omega)⟩ (lr_M hw1 hRM1) rfl hl.1 rfl (lv_room (Nat.le_of_ble_eq_true rfl)) d_L_law_674 ⟨by first | decide | (dsimp only; omega), by first | decide | (dsimp only; omega)⟩) hw1 (fun _ _ _ _ _ _ h => h.elim) (fun r2 u2 H2 locs2 hp2 hw2 => ?_)
  obtain ⟨er2, m2, ht2, hr2, hf2⟩ := hp2; subst er2
  have hLW2 := hLW1.mm hr2 hf2
  obtain ⟨z2, hR2, hRM2, hoL2, hoD2, hsep2, hsm2, hld2⟩ := id hLW2
  refine lv_istore (lv' := [(7, .int ((pSet S (xs (6 * tj + 1)) (xs (6 * tj + 2))).2.1)), (6, .int (nI (pSet S (xs (6 * tj + 1)) (xs (6 * tj + 2))).1)), (0, .ref b), (1, .ref (lc 0)), (2, .ref (lm 0)), (3, .ref aL), (4, .ref aD), (5, .int (nI (6 * tj)))]) hx hb d_L_law_677 hl (by decide) rfl (fun ls hl => ?_)
  refine lv_aload_n hx hb d_L_law_679 rfl (lv_at hl 4 rfl) ?_
  refine kc_i (kr_V 0 (C := "QuoteGraphModel") (As := []) (rest := []) (c_M_thrown l G A lm (pSet S (xs (6 * tj + 1)) (xs (6 * tj + 2))).2.2 m2 u2 hRM2) hx hb hml hown ht hw2 gw_896 gw_897 gw_898 gw_47 gw_899 ⟨⟨by decide, by decide⟩, by decide +kernel⟩ ⟨by first | decide | (dsimp only; omega), by first | decide | (dsimp only; omega)⟩ (lr_M hw2 hRM2) rfl hl.1 rfl (lv_room (Nat.le_of_ble_eq_true rfl)) d_L_law_680 ⟨by first | decide | (dsimp only; omega), by first | decide | (dsimp only; omega)⟩) hw2 (fun _ _ _ _ _ _ h => h.elim) (fun r3 u3 H3 locs3 hp3 hw3 => ?_)
  obtain ⟨er3, hq3⟩ := hp3; replace hq3 := hq3.symm; subst hq3; subst er3
  rw [ht2]
  refine lv_iload hx hb d_L_law_683 (lv_at hl 1 rfl) ?_
  refine lv_icmp_eq (tgt := 690) hx hb d_L_law_685 (by decide) (fun c4 => ?_) (fun c4 => ?_)
  · refine lv_iload hx hb d_L_law_690 (lv_at hl 1 rfl) ?_
    refine lv_if_ne (tgt := 707) hx hb d_L_law_692 (by decide) (fun c5 => ?_) (fun c5 => ?_)
    · refine lv_goto (tgt := 1130) hx hb d_L_law_707 (by decide) ?_
      refine W.widen (k := cells + 3) (n := slots + 25) (by omega) (by omega) ?_
      exact K lc1 (pSet S (xs (6 * tj + 1)) (xs (6 * tj + 2))).2.2 m2 f1 g u2 ls H3 locs3 hlc1 (inv_pSet hi (xs (6 * tj + 1)) (xs (6 * tj + 2))) hLW2 hw3 (lv_sub hl [2, 3, 4, 5, 6, 7] rfl)
    · have hc0 : (pSet S (xs (6 * tj + 1)) (xs (6 * tj + 2))).1 = 0 := nI_z0 c5 (cd_Set S (xs (6 * tj + 1)) (xs (6 * tj + 2))).lt
      have hv0 := hv1 hc0
      refine lv_aload_n hx hb d_L_law_695 rfl (lv_at hl 5 rfl) ?_
      refine lv_iconst (v := 0) hx hb d_L_law_696 (by decide) ?_
      refine l_oL hx hb hw3 hoL2.1 hoL2.2 d_L_law_697 ?_
      refine lv_iload hx hb d_L_law_698 (lv_at hl 0 rfl) ?_
      refine lv_i2l hx hb d_L_law_700 rfl ?_
      refine W.lcmp hx hb d_L_law_701 ?_
      refine lv_if_eq (tgt := 707) hx hb d_L_law_702 (by decide) (fun c6 => ?_) (fun c6 => ?_)
      · refine lv_goto (tgt := 1130) hx hb d_L_law_707 (by decide) ?_
        refine W.widen (k := cells + 3) (n := slots + 25) (by omega) (by omega) ?_
        exact K lc1 (pSet S (xs (6 * tj + 1)) (xs (6 * tj + 2))).2.2 m2 f1 g u2 ls H3 locs3 hlc1 (inv_pSet hi (xs (6 * tj + 1)) (xs (6 * tj + 2))) hLW2 hw3 (lv_sub hl [2, 3, 4, 5, 6, 7] rfl)
      · exact absurd ((lg_cmp_eq _ _).mpr hv0) c6
  · exact absurd rfl c4
set_option maxHeartbeats 4000000 in
set_option maxRecDepth 100000 in
theorem law_7 {p : Program} {l : Launch} {e : Env} {st : State} {m : MethodId} {below : List Frame} {meth : Method} {c : Code} {H : Heap} {locs : List Loc} {cells slots : Nat} {Q : State → Prop} {ls : Array Slot} {G : GT} {A : Nat → Prop} {u : WT} {b L tj : Nat} {xs : Nat → Int32} (hl9 : l.stackTraces = false) (hx : p.tables.exec = Jvm.exec) (hb : c.code = code) (hml : c.maxLocals = 9) (hown : st.vm.findClass "QuoteGraphLaw" = some m.cls) (ht : ∀ w ∈ GW, w.before #[Value.ref b] st = true) (hX : va_X b L xs st st.heap) (hbl : b < st.heap.size) (hbA : ¬ A b) (hL : L ≤ 3072) (htj : 6 * tj + 6 ≤ L) (hcells : cells + 100 ≤ 601024) (hslots : slots + 1000 ≤ 7293034) {lc lm : Nat → Nat} {aL aD : Nat} {S : QS} {M : MS} {f : Nat → Int64} {g : Nat → UInt64} (hi : inv S) (hLW : LW G lc lm aL aD S S M f g u) (hw : Wk G A u st H locs) (hl : lv_has ls 9 [(0, .ref b), (1, .ref (lc 0)), (2, .ref (lm 0)), (3, .ref aL), (4, .ref aD), (5, .int (nI (6 * tj)))]) (K : ∀ (lc' : Nat → Nat) (S' : QS) (m' : MS) (f' : Nat → Int64) (g' : Nat → UInt64) (u' : WT) (ls : Array Slot) (H : Heap) (locs : List Loc), lc' 0 = lc 0 → inv S' → LW G lc' lm aL aD S' S' m' f' g' u' → Wk G A u' st H locs → lv_has ls 9 [(0, .ref b), (1, .ref (lc 0)), (2, .ref (lm 0)), (3, .ref aL), (4, .ref aD), (5, .int (nI (6 * tj)))] → W p l e RL st m #[Value.ref b] below meth c H locs (cells + 3) (slots + 25) Q (F0 m 1130 ls [])) : W p l e RL st m #[Value.ref b] below meth c H locs cells slots Q (F0 m 710 ls []) := by
  obtain ⟨z, hR, hRM, hoL, hoD, hsep, hsm, hld⟩ := id hLW
  obtain ⟨rk, hI, hr17⟩ := hi.aI
  refine lv_aload_n hx hb d_L_law_710 rfl (lv_at hl 1 rfl) ?_
  refine lv_aload_n hx hb d_L_law_711 rfl (lv_at hl 0 rfl) ?_
  refine lv_iload hx hb d_L_law_712 (lv_at hl 5 rfl) ?_
  refine lv_iconst (v := 1) hx hb d_L_law_714 (by decide) ?_
  refine lv_iadd hx hb d_L_law_715 ?_
  refine l_ld (k := 6 * tj + 1) (nI_6 _ 1) (by omega) hL hx hb hX hbl hbA hw d_L_law_716 ?_
  refine lv_aload hx hb d_L_law_717 (lv_at hl 4 rfl) ?_
  refine kc_i (kr_SW 3 (As := [.ref (lc 0), .int (xs (6 * tj + 1)), .ref aD]) (rest := []) (c_L_value l hl9 G A lc S z u hR hi.rnk hi.1.2.1 (xs (6 * tj + 1)) aD hoD.1 (fun k hk => (hsep k hk).2.1) g hoD.2) hx hb hml hown ht hw gw_535 gw_536 gw_41 gw_537 ⟨⟨by decide, by decide⟩, by decide +kernel⟩ ⟨by first | decide | (dsimp only; omega), by first | decide | (dsimp only; omega)⟩ rfl hl.1 rfl (lv_room (Nat.le_of_ble_eq_true rfl)) d_L_law_719 ⟨by first | decide | (dsimp only; omega), by first | decide | (dsimp only; omega)⟩) hw (fun _ _ _ _ _ _ h => h.elim) (fun r1 u1 H1 locs1 hp1 hw1 => ?_)
  obtain ⟨er1, ⟨f1, hf1, hv1⟩, hlp⟩ := hp1; subst er1
  obtain ⟨lc1, hlc1, hLW1⟩ := hLW.hD hf1 hlp
  obtain ⟨z1, hR1, hRM1, hoL1, hoD1, hsep1, hsm1, hld1⟩ := id hLW1
  refine lv_istore (lv' := [(6, .int (nI (pValue S (xs (6 * tj + 1))).1)), (0, .ref b), (1, .ref (lc 0)), (2, .ref (lm 0)), (3, .ref aL), (4, .ref aD), (5, .int (nI (6 * tj)))]) hx hb d_L_law_722 hl (by decide) rfl (fun ls hl => ?_)
  refine lv_aload_n hx hb d_L_law_724 rfl (lv_at hl 3 rfl) ?_
  refine lv_aload_n hx hb d_L_law_725 rfl (lv_at hl 1 rfl) ?_
  refine lv_iload hx hb d_L_law_726 (lv_at hl 6 rfl) ?_
  refine lv_iconst (v := 1) hx hb d_L_law_728 (by decide) ?_
  refine lv_iadd hx hb d_L_law_729 ?_
  refine l_ld (k := 6 * tj + 1) (nI_6 _ 1) (by omega) hL hx hb hX hbl hbA hw1 d_L_law_730 ?_
  refine kc_d (kr_V 1 (C := "QuoteGraphModel") (As := [.int (xs (6 * tj + 1))]) (rest := []) (c_M_value l G A lm S M u1 hRM1 rk hI hr17 (xs (6 * tj + 1))) hx hb hml hown ht hw1 gw_964 gw_965 gw_966 gw_47 gw_967 ⟨⟨by decide, by decide⟩, by decide +kernel⟩ ⟨by first | decide | (dsimp only; omega), by first | decide | (dsimp only; omega)⟩ (lr_M hw1 hRM1) rfl hl.1 rfl (lv_room (Nat.le_of_ble_eq_true rfl)) d_L_law_731 ⟨by first | decide | (dsimp only; omega), by first | decide | (dsimp only; omega)⟩) hw1 (fun _ _ _ _ _ _ h => h.elim) (fun r2 u2 H2 locs2 hp2 hw2 => ?_)
  obtain ⟨er2, m2, ht2, hr2, hf2⟩ := hp2; subst er2
  have hLW2 := hLW1.mm hr2 hf2
  obtain ⟨z2, hR2, hRM2, hoL2, hoD2, hsep2, hsm2, hld2⟩ := id hLW2
  refine lv_dstore (lv' := [(7, .double ((pValue S (xs (6 * tj + 1))).2.1)), (6, .int (nI (pValue S (xs (6 * tj + 1))).1)), (0, .ref b), (1, .ref (lc 0)), (2, .ref (lm 0)), (3, .ref aL), (4, .ref aD), (5, .int (nI (6 * tj)))]) hx hb d_L_law_734 hl (by decide) rfl (fun ls hl => ?_)
  refine lv_aload_n hx hb d_L_law_736 rfl (lv_at hl 4 rfl) ?_
  refine kc_i (kr_V 0 (C := "QuoteGraphModel") (As := []) (rest := []) (c_M_thrown l G A lm (pValue S (xs (6 * tj + 1))).2.2 m2 u2 hRM2) hx hb hml hown ht hw2 gw_896 gw_897 gw_898 gw_47 gw_899 ⟨⟨by decide, by decide⟩, by decide +kernel⟩ ⟨by first | decide | (dsimp only; omega), by first | decide | (dsimp only; omega)⟩ (lr_M hw2 hRM2) rfl hl.1 rfl (lv_room (Nat.le_of_ble_eq_true rfl)) d_L_law_737 ⟨by first | decide | (dsimp only; omega), by first | decide | (dsimp only; omega)⟩) hw2 (fun _ _ _ _ _ _ h => h.elim) (fun r3 u3 H3 locs3 hp3 hw3 => ?_)
  obtain ⟨er3, hq3⟩ := hp3; replace hq3 := hq3.symm; subst hq3; subst er3
  rw [ht2]
  refine lv_iload hx hb d_L_law_740 (lv_at hl 1 rfl) ?_
  refine lv_icmp_eq (tgt := 747) hx hb d_L_law_742 (by decide) (fun c4 => ?_) (fun c4 => ?_)
  · refine lv_iload hx hb d_L_law_747 (lv_at hl 1 rfl) ?_
    refine lv_if_ne (tgt := 784) hx hb d_L_law_749 (by decide) (fun c5 => ?_) (fun c5 => ?_)
    · refine lv_goto (tgt := 1130) hx hb d_L_law_784 (by decide) ?_
      refine W.widen (k := cells + 3) (n := slots + 25) (by omega) (by omega) ?_
      exact K lc1 (pValue S (xs (6 * tj + 1))).2.2 m2 f f1 u2 ls H3 locs3 hlc1 (inv_pValue hi (xs (6 * tj + 1))) hLW2 hw3 (lv_sub hl [2, 3, 4, 5, 6, 7] rfl)
    · have hc0 : (pValue S (xs (6 * tj + 1))).1 = 0 := nI_z0 c5 (cd_Value S (xs (6 * tj + 1))).lt
      have hv0 := hv1 hc0
      refine lv_aload hx hb d_L_law_752 (lv_at hl 6 rfl) ?_
      refine lv_iconst (v := 0) hx hb d_L_law_754 (by decide) ?_
      refine l_oD hx hb hw3 hoD2.1 hoD2.2 d_L_law_755 ?_
      refine lv_dload hx hb d_L_law_756 (lv_at hl 0 rfl) ?_
      rw [hv0]
      refine lv_dcmp hx hb d_L_law_758 ?_
      refine lv_if_eq (tgt := 784) hx hb d_L_law_759 (by decide) (fun c6 => ?_) (fun c6 => ?_)
      · refine lv_goto (tgt := 1130) hx hb d_L_law_784 (by decide) ?_
        refine W.widen (k := cells + 3) (n := slots + 25) (by omega) (by omega) ?_
        exact K lc1 (pValue S (xs (6 * tj + 1))).2.2 m2 f f1 u2 ls H3 locs3 hlc1 (inv_pValue hi (xs (6 * tj + 1))) hLW2 hw3 (lv_sub hl [2, 3, 4, 5, 6, 7] rfl)
      · refine lv_aload hx hb d_L_law_762 (lv_at hl 6 rfl) ?_
        refine lv_iconst (v := 0) hx hb d_L_law_764 (by decide) ?_
        refine l_oD hx hb hw3 hoD2.1 hoD2.2 d_L_law_765 ?_
        refine lv_aload hx hb d_L_law_766 (lv_at hl 6 rfl) ?_
        refine lv_iconst (v := 0) hx hb d_L_law_768 (by decide) ?_
        refine l_oD hx hb hw3 hoD2.1 hoD2.2 d_L_law_769 ?_
        rw [hv0]
        refine lv_dcmp hx hb d_L_law_770 ?_
        refine lv_if_eq (tgt := 782) hx hb d_L_law_771 (by decide) (fun c7 => ?_) (fun c7 => ?_)
        · exact absurd c7 c6
        · refine lv_dload hx hb d_L_law_774 (lv_at hl 0 rfl) ?_
          refine lv_dload hx hb d_L_law_776 (lv_at hl 0 rfl) ?_
          refine lv_dcmp hx hb d_L_law_778 ?_
          refine lv_if_ne (tgt := 784) hx hb d_L_law_779 (by decide) (fun c8 => ?_) (fun c8 => ?_)
          · refine lv_goto (tgt := 1130) hx hb d_L_law_784 (by decide) ?_
            refine W.widen (k := cells + 3) (n := slots + 25) (by omega) (by omega) ?_
            exact K lc1 (pValue S (xs (6 * tj + 1))).2.2 m2 f f1 u2 ls H3 locs3 hlc1 (inv_pValue hi (xs (6 * tj + 1))) hLW2 hw3 (lv_sub hl [2, 3, 4, 5, 6, 7] rfl)
          · exact absurd c8 c6
  · exact absurd rfl c4
set_option maxHeartbeats 4000000 in
set_option maxRecDepth 100000 in
theorem law_8 {p : Program} {l : Launch} {e : Env} {st : State} {m : MethodId} {below : List Frame} {meth : Method} {c : Code} {H : Heap} {locs : List Loc} {cells slots : Nat} {Q : State → Prop} {ls : Array Slot} {G : GT} {A : Nat → Prop} {u : WT} {b L tj : Nat} {xs : Nat → Int32} (hl9 : l.stackTraces = false) (hx : p.tables.exec = Jvm.exec) (hb : c.code = code) (hml : c.maxLocals = 9) (hown : st.vm.findClass "QuoteGraphLaw" = some m.cls) (ht : ∀ w ∈ GW, w.before #[Value.ref b] st = true) (hX : va_X b L xs st st.heap) (hbl : b < st.heap.size) (hbA : ¬ A b) (hL : L ≤ 3072) (htj : 6 * tj + 6 ≤ L) (hcells : cells + 100 ≤ 601024) (hslots : slots + 1000 ≤ 7293034) {lc lm : Nat → Nat} {aL aD : Nat} {S : QS} {M : MS} {f : Nat → Int64} {g : Nat → UInt64} (hi : inv S) (hLW : LW G lc lm aL aD S S M f g u) (hw : Wk G A u st H locs) (hl : lv_has ls 9 [(0, .ref b), (1, .ref (lc 0)), (2, .ref (lm 0)), (3, .ref aL), (4, .ref aD), (5, .int (nI (6 * tj)))]) (K : ∀ (lc' : Nat → Nat) (S' : QS) (m' : MS) (f' : Nat → Int64) (g' : Nat → UInt64) (u' : WT) (ls : Array Slot) (H : Heap) (locs : List Loc), lc' 0 = lc 0 → inv S' → LW G lc' lm aL aD S' S' m' f' g' u' → Wk G A u' st H locs → lv_has ls 9 [(0, .ref b), (1, .ref (lc 0)), (2, .ref (lm 0)), (3, .ref aL), (4, .ref aD), (5, .int (nI (6 * tj)))] → W p l e RL st m #[Value.ref b] below meth c H locs (cells + 3) (slots + 25) Q (F0 m 1130 ls [])) : W p l e RL st m #[Value.ref b] below meth c H locs cells slots Q (F0 m 787 ls []) := by
  obtain ⟨z, hR, hRM, hoL, hoD, hsep, hsm, hld⟩ := id hLW
  refine lv_aload_n hx hb d_L_law_787 rfl (lv_at hl 1 rfl) ?_
  refine lv_aload_n hx hb d_L_law_788 rfl (lv_at hl 0 rfl) ?_
  refine lv_iload hx hb d_L_law_789 (lv_at hl 5 rfl) ?_
  refine lv_iconst (v := 1) hx hb d_L_law_791 (by decide) ?_
  refine lv_iadd hx hb d_L_law_792 ?_
  refine l_ld (k := 6 * tj + 1) (nI_6 _ 1) (by omega) hL hx hb hX hbl hbA hw d_L_law_793 ?_
  refine lv_aload_n hx hb d_L_law_794 rfl (lv_at hl 0 rfl) ?_
  refine lv_iload hx hb d_L_law_795 (lv_at hl 5 rfl) ?_
  refine lv_iconst (v := 2) hx hb d_L_law_797 (by decide) ?_
  refine lv_iadd hx hb d_L_law_798 ?_
  refine l_ld (k := 6 * tj + 2) (nI_6 _ 2) (by omega) hL hx hb hX hbl hbA hw d_L_law_799 ?_
  refine lv_if_eq (tgt := 807) hx hb d_L_law_800 (by decide) (fun c1 => ?_) (fun c1 => ?_)
  · refine lv_iconst (v := 0) hx hb d_L_law_807 (by decide) ?_
    have hbz : decide (xs (6 * tj + 2) ≠ 0) = false := decide_eq_false (fun h => h c1)
    have hbI : (0 : Int32) = bI (decide (xs (6 * tj + 2) ≠ 0)) := by rw [hbz]; rfl
    refine lv_eqt hbI ?_
    refine kc_i (kr_SW 3 (As := [.ref (lc 0), .int (xs (6 * tj + 1)), .int (bI (decide (xs (6 * tj + 2) ≠ 0)))]) (rest := []) (c_L_freeze l hl9 G A lc S z u hR (xs (6 * tj + 1)) (decide (xs (6 * tj + 2) ≠ 0)) ) hx hb hml hown ht hw gw_717 gw_718 gw_41 gw_719 ⟨⟨by decide, by decide⟩, by decide +kernel⟩ ⟨by first | decide | (dsimp only; omega), by first | decide | (dsimp only; omega)⟩ rfl hl.1 rfl (lv_room (Nat.le_of_ble_eq_true rfl)) d_L_law_808 ⟨by first | decide | (dsimp only; omega), by first | decide | (dsimp only; omega)⟩) hw (fun _ _ _ _ _ _ h => h.elim) (fun r2 u2 H2 locs2 hp2 hw2 => ?_)
    obtain ⟨er2, hgq⟩ := hp2; subst er2
    obtain ⟨lc1, hlc1, hLW1⟩ := hLW.hV hgq
    obtain ⟨z1, hR1, hRM1, hoL1, hoD1, hsep1, hsm1, hld1⟩ := id hLW1
    refine lv_istore (lv' := [(6, .int (nI (pFreeze S (xs (6 * tj + 1)) (decide (xs (6 * tj + 2) ≠ 0))).1)), (0, .ref b), (1, .ref (lc 0)), (2, .ref (lm 0)), (3, .ref aL), (4, .ref aD), (5, .int (nI (6 * tj)))]) hx hb d_L_law_811 hl (by decide) rfl (fun ls hl => ?_)
    refine lv_aload_n hx hb d_L_law_813 rfl (lv_at hl 3 rfl) ?_
    refine lv_aload_n hx hb d_L_law_814 rfl (lv_at hl 1 rfl) ?_
    refine lv_iload hx hb d_L_law_815 (lv_at hl 6 rfl) ?_
    refine lv_iconst (v := 1) hx hb d_L_law_817 (by decide) ?_
    refine lv_iadd hx hb d_L_law_818 ?_
    refine l_ld (k := 6 * tj + 1) (nI_6 _ 1) (by omega) hL hx hb hX hbl hbA hw2 d_L_law_819 ?_
    refine lv_aload_n hx hb d_L_law_820 rfl (lv_at hl 1 rfl) ?_
    refine lv_iload hx hb d_L_law_821 (lv_at hl 6 rfl) ?_
    refine lv_iconst (v := 2) hx hb d_L_law_823 (by decide) ?_
    refine lv_iadd hx hb d_L_law_824 ?_
    refine l_ld (k := 6 * tj + 2) (nI_6 _ 2) (by omega) hL hx hb hX hbl hbA hw2 d_L_law_825 ?_
    refine lv_if_eq (tgt := 833) hx hb d_L_law_826 (by decide) (fun c3 => ?_) (fun c3 => ?_)
    · refine lv_iconst (v := 0) hx hb d_L_law_833 (by decide) ?_
      have hbz : decide (xs (6 * tj + 2) ≠ 0) = false := decide_eq_false (fun h => h c3)
      have hbI : (0 : Int32) = bI (decide (xs (6 * tj + 2) ≠ 0)) := by rw [hbz]; rfl
      refine lv_eqt hbI ?_
      refine kc_v (kr_V 2 (C := "QuoteGraphModel") (As := [.int (xs (6 * tj + 1)), .int (bI (decide (xs (6 * tj + 2) ≠ 0)))]) (rest := []) (c_M_freeze l G A lm S M u2 hRM1 hi.1.1 hi.2.1 hi.2.2.1 (xs (6 * tj + 1)) (decide (xs (6 * tj + 2) ≠ 0))) hx hb hml hown ht hw2 gw_1023 gw_1024 gw_1025 gw_47 gw_1026 ⟨⟨by decide, by decide⟩, by decide +kernel⟩ ⟨by first | decide | (dsimp only; omega), by first | decide | (dsimp only; omega)⟩ (lr_M hw2 hRM1) rfl hl.1 rfl (lv_room (Nat.le_of_ble_eq_true rfl)) d_L_law_834 ⟨by first | decide | (dsimp only; omega), by first | decide | (dsimp only; omega)⟩) hw2 (fun _ _ _ _ _ _ h => h.elim) (fun u4 H4 locs4 hp4 hw4 => ?_)
      obtain ⟨m2, ht2, hr2, hf2⟩ := hp4
      have hLW2 := hLW1.mm hr2 hf2
      obtain ⟨z2, hR2, hRM2, hoL2, hoD2, hsep2, hsm2, hld2⟩ := id hLW2
      refine lv_aload_n hx hb d_L_law_837 rfl (lv_at hl 3 rfl) ?_
      refine kc_i (kr_V 0 (C := "QuoteGraphModel") (As := []) (rest := []) (c_M_thrown l G A lm (pFreeze S (xs (6 * tj + 1)) (decide (xs (6 * tj + 2) ≠ 0))).2.2 m2 u4 hRM2) hx hb hml hown ht hw4 gw_896 gw_897 gw_898 gw_47 gw_899 ⟨⟨by decide, by decide⟩, by decide +kernel⟩ ⟨by first | decide | (dsimp only; omega), by first | decide | (dsimp only; omega)⟩ (lr_M hw4 hRM2) rfl hl.1 rfl (lv_room (Nat.le_of_ble_eq_true rfl)) d_L_law_838 ⟨by first | decide | (dsimp only; omega), by first | decide | (dsimp only; omega)⟩) hw4 (fun _ _ _ _ _ _ h => h.elim) (fun r5 u5 H5 locs5 hp5 hw5 => ?_)
      obtain ⟨er5, hq5⟩ := hp5; replace hq5 := hq5.symm; subst hq5; subst er5
      rw [ht2]
      refine lv_iload hx hb d_L_law_841 (lv_at hl 0 rfl) ?_
      refine lv_icmp_eq (tgt := 848) hx hb d_L_law_843 (by decide) (fun c6 => ?_) (fun c6 => ?_)
      · refine lv_goto (tgt := 1130) hx hb d_L_law_848 (by decide) ?_
        refine W.widen (k := cells + 3) (n := slots + 25) (by omega) (by omega) ?_
        exact K lc1 (pFreeze S (xs (6 * tj + 1)) (decide (xs (6 * tj + 2) ≠ 0))).2.2 m2 f g u4 ls H5 locs5 hlc1 (inv_pFreeze hi (xs (6 * tj + 1)) (decide (xs (6 * tj + 2) ≠ 0))) hLW2 hw5 (lv_sub hl [1, 2, 3, 4, 5, 6] rfl)
      · exact absurd rfl c6
    · refine lv_iconst (v := 1) hx hb d_L_law_829 (by decide) ?_
      refine lv_goto (tgt := 834) hx hb d_L_law_830 (by decide) ?_
      have hbz : decide (xs (6 * tj + 2) ≠ 0) = true := decide_eq_true c3
      have hbI : (1 : Int32) = bI (decide (xs (6 * tj + 2) ≠ 0)) := by rw [hbz]; rfl
      refine lv_eqt hbI ?_
      refine kc_v (kr_V 2 (C := "QuoteGraphModel") (As := [.int (xs (6 * tj + 1)), .int (bI (decide (xs (6 * tj + 2) ≠ 0)))]) (rest := []) (c_M_freeze l G A lm S M u2 hRM1 hi.1.1 hi.2.1 hi.2.2.1 (xs (6 * tj + 1)) (decide (xs (6 * tj + 2) ≠ 0))) hx hb hml hown ht hw2 gw_1023 gw_1024 gw_1025 gw_47 gw_1026 ⟨⟨by decide, by decide⟩, by decide +kernel⟩ ⟨by first | decide | (dsimp only; omega), by first | decide | (dsimp only; omega)⟩ (lr_M hw2 hRM1) rfl hl.1 rfl (lv_room (Nat.le_of_ble_eq_true rfl)) d_L_law_834 ⟨by first | decide | (dsimp only; omega), by first | decide | (dsimp only; omega)⟩) hw2 (fun _ _ _ _ _ _ h => h.elim) (fun u7 H7 locs7 hp7 hw7 => ?_)
      obtain ⟨m2, ht2, hr2, hf2⟩ := hp7
      have hLW2 := hLW1.mm hr2 hf2
      obtain ⟨z2, hR2, hRM2, hoL2, hoD2, hsep2, hsm2, hld2⟩ := id hLW2
      refine lv_aload_n hx hb d_L_law_837 rfl (lv_at hl 3 rfl) ?_
      refine kc_i (kr_V 0 (C := "QuoteGraphModel") (As := []) (rest := []) (c_M_thrown l G A lm (pFreeze S (xs (6 * tj + 1)) (decide (xs (6 * tj + 2) ≠ 0))).2.2 m2 u7 hRM2) hx hb hml hown ht hw7 gw_896 gw_897 gw_898 gw_47 gw_899 ⟨⟨by decide, by decide⟩, by decide +kernel⟩ ⟨by first | decide | (dsimp only; omega), by first | decide | (dsimp only; omega)⟩ (lr_M hw7 hRM2) rfl hl.1 rfl (lv_room (Nat.le_of_ble_eq_true rfl)) d_L_law_838 ⟨by first | decide | (dsimp only; omega), by first | decide | (dsimp only; omega)⟩) hw7 (fun _ _ _ _ _ _ h => h.elim) (fun r8 u8 H8 locs8 hp8 hw8 => ?_)
      obtain ⟨er8, hq8⟩ := hp8; replace hq8 := hq8.symm; subst hq8; subst er8
      rw [ht2]
      refine lv_iload hx hb d_L_law_841 (lv_at hl 0 rfl) ?_
      refine lv_icmp_eq (tgt := 848) hx hb d_L_law_843 (by decide) (fun c9 => ?_) (fun c9 => ?_)
      · refine lv_goto (tgt := 1130) hx hb d_L_law_848 (by decide) ?_
        refine W.widen (k := cells + 3) (n := slots + 25) (by omega) (by omega) ?_
        exact K lc1 (pFreeze S (xs (6 * tj + 1)) (decide (xs (6 * tj + 2) ≠ 0))).2.2 m2 f g u7 ls H8 locs8 hlc1 (inv_pFreeze hi (xs (6 * tj + 1)) (decide (xs (6 * tj + 2) ≠ 0))) hLW2 hw8 (lv_sub hl [1, 2, 3, 4, 5, 6] rfl)
      · exact absurd rfl c9
  · refine lv_iconst (v := 1) hx hb d_L_law_803 (by decide) ?_
    refine lv_goto (tgt := 808) hx hb d_L_law_804 (by decide) ?_
    have hbz : decide (xs (6 * tj + 2) ≠ 0) = true := decide_eq_true c1
    have hbI : (1 : Int32) = bI (decide (xs (6 * tj + 2) ≠ 0)) := by rw [hbz]; rfl
    refine lv_eqt hbI ?_
    refine kc_i (kr_SW 3 (As := [.ref (lc 0), .int (xs (6 * tj + 1)), .int (bI (decide (xs (6 * tj + 2) ≠ 0)))]) (rest := []) (c_L_freeze l hl9 G A lc S z u hR (xs (6 * tj + 1)) (decide (xs (6 * tj + 2) ≠ 0)) ) hx hb hml hown ht hw gw_717 gw_718 gw_41 gw_719 ⟨⟨by decide, by decide⟩, by decide +kernel⟩ ⟨by first | decide | (dsimp only; omega), by first | decide | (dsimp only; omega)⟩ rfl hl.1 rfl (lv_room (Nat.le_of_ble_eq_true rfl)) d_L_law_808 ⟨by first | decide | (dsimp only; omega), by first | decide | (dsimp only; omega)⟩) hw (fun _ _ _ _ _ _ h => h.elim) (fun r10 u10 H10 locs10 hp10 hw10 => ?_)
    obtain ⟨er10, hgq⟩ := hp10; subst er10
    obtain ⟨lc1, hlc1, hLW1⟩ := hLW.hV hgq
    obtain ⟨z1, hR1, hRM1, hoL1, hoD1, hsep1, hsm1, hld1⟩ := id hLW1
    refine lv_istore (lv' := [(6, .int (nI (pFreeze S (xs (6 * tj + 1)) (decide (xs (6 * tj + 2) ≠ 0))).1)), (0, .ref b), (1, .ref (lc 0)), (2, .ref (lm 0)), (3, .ref aL), (4, .ref aD), (5, .int (nI (6 * tj)))]) hx hb d_L_law_811 hl (by decide) rfl (fun ls hl => ?_)
    refine lv_aload_n hx hb d_L_law_813 rfl (lv_at hl 3 rfl) ?_
    refine lv_aload_n hx hb d_L_law_814 rfl (lv_at hl 1 rfl) ?_
    refine lv_iload hx hb d_L_law_815 (lv_at hl 6 rfl) ?_
    refine lv_iconst (v := 1) hx hb d_L_law_817 (by decide) ?_
    refine lv_iadd hx hb d_L_law_818 ?_
    refine l_ld (k := 6 * tj + 1) (nI_6 _ 1) (by omega) hL hx hb hX hbl hbA hw10 d_L_law_819 ?_
    refine lv_aload_n hx hb d_L_law_820 rfl (lv_at hl 1 rfl) ?_
    refine lv_iload hx hb d_L_law_821 (lv_at hl 6 rfl) ?_
    refine lv_iconst (v := 2) hx hb d_L_law_823 (by decide) ?_
    refine lv_iadd hx hb d_L_law_824 ?_
    refine l_ld (k := 6 * tj + 2) (nI_6 _ 2) (by omega) hL hx hb hX hbl hbA hw10 d_L_law_825 ?_
    refine lv_if_eq (tgt := 833) hx hb d_L_law_826 (by decide) (fun c11 => ?_) (fun c11 => ?_)
    · refine lv_iconst (v := 0) hx hb d_L_law_833 (by decide) ?_
      have hbz : decide (xs (6 * tj + 2) ≠ 0) = false := decide_eq_false (fun h => h c11)
      have hbI : (0 : Int32) = bI (decide (xs (6 * tj + 2) ≠ 0)) := by rw [hbz]; rfl
      refine lv_eqt hbI ?_
      refine kc_v (kr_V 2 (C := "QuoteGraphModel") (As := [.int (xs (6 * tj + 1)), .int (bI (decide (xs (6 * tj + 2) ≠ 0)))]) (rest := []) (c_M_freeze l G A lm S M u10 hRM1 hi.1.1 hi.2.1 hi.2.2.1 (xs (6 * tj + 1)) (decide (xs (6 * tj + 2) ≠ 0))) hx hb hml hown ht hw10 gw_1023 gw_1024 gw_1025 gw_47 gw_1026 ⟨⟨by decide, by decide⟩, by decide +kernel⟩ ⟨by first | decide | (dsimp only; omega), by first | decide | (dsimp only; omega)⟩ (lr_M hw10 hRM1) rfl hl.1 rfl (lv_room (Nat.le_of_ble_eq_true rfl)) d_L_law_834 ⟨by first | decide | (dsimp only; omega), by first | decide | (dsimp only; omega)⟩) hw10 (fun _ _ _ _ _ _ h => h.elim) (fun u12 H12 locs12 hp12 hw12 => ?_)
      obtain ⟨m2, ht2, hr2, hf2⟩ := hp12
      have hLW2 := hLW1.mm hr2 hf2
      obtain ⟨z2, hR2, hRM2, hoL2, hoD2, hsep2, hsm2, hld2⟩ := id hLW2
      refine lv_aload_n hx hb d_L_law_837 rfl (lv_at hl 3 rfl) ?_
      refine kc_i (kr_V 0 (C := "QuoteGraphModel") (As := []) (rest := []) (c_M_thrown l G A lm (pFreeze S (xs (6 * tj + 1)) (decide (xs (6 * tj + 2) ≠ 0))).2.2 m2 u12 hRM2) hx hb hml hown ht hw12 gw_896 gw_897 gw_898 gw_47 gw_899 ⟨⟨by decide, by decide⟩, by decide +kernel⟩ ⟨by first | decide | (dsimp only; omega), by first | decide | (dsimp only; omega)⟩ (lr_M hw12 hRM2) rfl hl.1 rfl (lv_room (Nat.le_of_ble_eq_true rfl)) d_L_law_838 ⟨by first | decide | (dsimp only; omega), by first | decide | (dsimp only; omega)⟩) hw12 (fun _ _ _ _ _ _ h => h.elim) (fun r13 u13 H13 locs13 hp13 hw13 => ?_)
      obtain ⟨er13, hq13⟩ := hp13; replace hq13 := hq13.symm; subst hq13; subst er13
      rw [ht2]
      refine lv_iload hx hb d_L_law_841 (lv_at hl 0 rfl) ?_
      refine lv_icmp_eq (tgt := 848) hx hb d_L_law_843 (by decide) (fun c14 => ?_) (fun c14 => ?_)
      · refine lv_goto (tgt := 1130) hx hb d_L_law_848 (by decide) ?_
        refine W.widen (k := cells + 3) (n := slots + 25) (by omega) (by omega) ?_
        exact K lc1 (pFreeze S (xs (6 * tj + 1)) (decide (xs (6 * tj + 2) ≠ 0))).2.2 m2 f g u12 ls H13 locs13 hlc1 (inv_pFreeze hi (xs (6 * tj + 1)) (decide (xs (6 * tj + 2) ≠ 0))) hLW2 hw13 (lv_sub hl [1, 2, 3, 4, 5, 6] rfl)
      · exact absurd rfl c14
    · refine lv_iconst (v := 1) hx hb d_L_law_829 (by decide) ?_
      refine lv_goto (tgt := 834) hx hb d_L_law_830 (by decide) ?_
      have hbz : decide (xs (6 * tj + 2) ≠ 0) = true := decide_eq_true c11
      have hbI : (1 : Int32) = bI (decide (xs (6 * tj + 2) ≠ 0)) := by rw [hbz]; rfl
      refine lv_eqt hbI ?_
      refine kc_v (kr_V 2 (C := "QuoteGraphModel") (As := [.int (xs (6 * tj + 1)), .int (bI (decide (xs (6 * tj + 2) ≠ 0)))]) (rest := []) (c_M_freeze l G A lm S M u10 hRM1 hi.1.1 hi.2.1 hi.2.2.1 (xs (6 * tj + 1)) (decide (xs (6 * tj + 2) ≠ 0))) hx hb hml hown ht hw10 gw_1023 gw_1024 gw_1025 gw_47 gw_1026 ⟨⟨by decide, by decide⟩, by decide +kernel⟩ ⟨by first | decide | (dsimp only; omega), by first | decide | (dsimp only; omega)⟩ (lr_M hw10 hRM1) rfl hl.1 rfl (lv_room (Nat.le_of_ble_eq_true rfl)) d_L_law_834 ⟨by first | decide | (dsimp only; omega), by first | decide | (dsimp only; omega)⟩) hw10 (fun _ _ _ _ _ _ h => h.elim) (fun u15 H15 locs15 hp15 hw15 => ?_)
      obtain ⟨m2, ht2, hr2, hf2⟩ := hp15
      have hLW2 := hLW1.mm hr2 hf2
      obtain ⟨z2, hR2, hRM2, hoL2, hoD2, hsep2, hsm2, hld2⟩ := id hLW2
      refine lv_aload_n hx hb d_L_law_837 rfl (lv_at hl 3 rfl) ?_
      refine kc_i (kr_V 0 (C := "QuoteGraphModel") (As := []) (rest := []) (c_M_thrown l G A lm (pFreeze S (xs (6 * tj + 1)) (decide (xs (6 * tj + 2) ≠ 0))).2.2 m2 u15 hRM2) hx hb hml hown ht hw15 gw_896 gw_897 gw_898 gw_47 gw_899 ⟨⟨by decide, by decide⟩, by decide +kernel⟩ ⟨by first | decide | (dsimp only; omega), by first | decide | (dsimp only; omega)⟩ (lr_M hw15 hRM2) rfl hl.1 rfl (lv_room (Nat.le_of_ble_eq_true rfl)) d_L_law_838 ⟨by first | decide | (dsimp only; omega), by first | decide | (dsimp only; omega)⟩) hw15 (fun _ _ _ _ _ _ h => h.elim) (fun r16 u16 H16 locs16 hp16 hw16 => ?_)
      obtain ⟨er16, hq16⟩ := hp16; replace hq16 := hq16.symm; subst hq16; subst er16
      rw [ht2]
      refine lv_iload hx hb d_L_law_841 (lv_at hl 0 rfl) ?_
      refine lv_icmp_eq (tgt := 848) hx hb d_L_law_843 (by decide) (fun c17 => ?_) (fun c17 => ?_)
      · refine lv_goto (tgt := 1130) hx hb d_L_law_848 (by decide) ?_
        refine W.widen (k := cells + 3) (n := slots + 25) (by omega) (by omega) ?_
        exact K lc1 (pFreeze S (xs (6 * tj + 1)) (decide (xs (6 * tj + 2) ≠ 0))).2.2 m2 f g u15 ls H16 locs16 hlc1 (inv_pFreeze hi (xs (6 * tj + 1)) (decide (xs (6 * tj + 2) ≠ 0))) hLW2 hw16 (lv_sub hl [1, 2, 3, 4, 5, 6] rfl)
      · exact absurd rfl c17
set_option maxHeartbeats 4000000 in
set_option maxRecDepth 100000 in
theorem law_9 {p : Program} {l : Launch} {e : Env} {st : State} {m : MethodId} {below : List Frame} {meth : Method} {c : Code} {H : Heap} {locs : List Loc} {cells slots : Nat} {Q : State → Prop} {ls : Array Slot} {G : GT} {A : Nat → Prop} {u : WT} {b L tj : Nat} {xs : Nat → Int32} (hl9 : l.stackTraces = false) (hx : p.tables.exec = Jvm.exec) (hb : c.code = code) (hml : c.maxLocals = 9) (hown : st.vm.findClass "QuoteGraphLaw" = some m.cls) (ht : ∀ w ∈ GW, w.before #[Value.ref b] st = true) (hX : va_X b L xs st st.heap) (hbl : b < st.heap.size) (hbA : ¬ A b) (hL : L ≤ 3072) (htj : 6 * tj + 6 ≤ L) (hcells : cells + 100 ≤ 601024) (hslots : slots + 1000 ≤ 7293034) {lc lm : Nat → Nat} {aL aD : Nat} {S : QS} {M : MS} {f : Nat → Int64} {g : Nat → UInt64} (hi : inv S) (hLW : LW G lc lm aL aD S S M f g u) (hw : Wk G A u st H locs) (hl : lv_has ls 9 [(0, .ref b), (1, .ref (lc 0)), (2, .ref (lm 0)), (3, .ref aL), (4, .ref aD), (5, .int (nI (6 * tj)))]) (K : ∀ (lc' : Nat → Nat) (S' : QS) (m' : MS) (f' : Nat → Int64) (g' : Nat → UInt64) (u' : WT) (ls : Array Slot) (H : Heap) (locs : List Loc), lc' 0 = lc 0 → inv S' → LW G lc' lm aL aD S' S' m' f' g' u' → Wk G A u' st H locs → lv_has ls 9 [(0, .ref b), (1, .ref (lc 0)), (2, .ref (lm 0)), (3, .ref aL), (4, .ref aD), (5, .int (nI (6 * tj)))] → W p l e RL st m #[Value.ref b] below meth c H locs (cells + 3) (slots + 25) Q (F0 m 1130 ls [])) : W p l e RL st m #[Value.ref b] below meth c H locs cells slots Q (F0 m 851 ls []) := by
  obtain ⟨z, hR, hRM, hoL, hoD, hsep, hsm, hld⟩ := id hLW
  obtain ⟨rk, hI, hr17⟩ := hi.aI
  refine lv_aload_n hx hb d_L_law_851 rfl (lv_at hl 1 rfl) ?_
  refine lv_aload_n hx hb d_L_law_852 rfl (lv_at hl 0 rfl) ?_
  refine lv_iload hx hb d_L_law_853 (lv_at hl 5 rfl) ?_
  refine lv_iconst (v := 1) hx hb d_L_law_855 (by decide) ?_
  refine lv_iadd hx hb d_L_law_856 ?_
  refine l_ld (k := 6 * tj + 1) (nI_6 _ 1) (by omega) hL hx hb hX hbl hbA hw d_L_law_857 ?_
  refine lv_aload_n hx hb d_L_law_858 rfl (lv_at hl 0 rfl) ?_
  refine lv_iload hx hb d_L_law_859 (lv_at hl 5 rfl) ?_
  refine lv_iconst (v := 2) hx hb d_L_law_861 (by decide) ?_
  refine lv_iadd hx hb d_L_law_862 ?_
  refine l_ld (k := 6 * tj + 2) (nI_6 _ 2) (by omega) hL hx hb hX hbl hbA hw d_L_law_863 ?_
  refine lv_aload_n hx hb d_L_law_864 rfl (lv_at hl 0 rfl) ?_
  refine lv_iload hx hb d_L_law_865 (lv_at hl 5 rfl) ?_
  refine lv_iconst (v := 3) hx hb d_L_law_867 (by decide) ?_
  refine lv_iadd hx hb d_L_law_868 ?_
  refine l_ld (k := 6 * tj + 3) (nI_6 _ 3) (by omega) hL hx hb hX hbl hbA hw d_L_law_869 ?_
  refine lv_i2d hx hb d_L_law_870 ?_
  refine lv_ldc2d (v := 4593671619917905920) hx hb hown (ht _ gw_1044) d_L_law_871 ?_
  refine lv_dmul hx hb d_L_law_874 (e8_n _) ?_
  rw [show FP.dmul (FP.i2d (xs (6 * tj + 3))) (4593671619917905920 : UInt64) = e8 (xs (6 * tj + 3)) from rfl]
  refine lv_aload hx hb d_L_law_875 (lv_at hl 4 rfl) ?_
  refine kc_i (kr_SW 5 (As := [.ref (lc 0), .int (xs (6 * tj + 1)), .int (xs (6 * tj + 2)), .double (e8 (xs (6 * tj + 3))), .ref aD]) (rest := []) (c_L_bump l hl9 G A lc S z u hR hi.rnk hi.1.2.1 (xs (6 * tj + 1)) (xs (6 * tj + 2)) (xs (6 * tj + 3)) aD hoD.1 (fun k hk => (hsep k hk).2.1) g hoD.2) hx hb hml hown ht hw gw_726 gw_727 gw_41 gw_728 ⟨⟨by decide, by decide⟩, by decide +kernel⟩ ⟨by first | decide | (dsimp only; omega), by first | decide | (dsimp only; omega)⟩ rfl hl.1 rfl (lv_room (Nat.le_of_ble_eq_true rfl)) d_L_law_877 ⟨by first | decide | (dsimp only; omega), by first | decide | (dsimp only; omega)⟩) hw (fun _ _ _ _ _ _ h => h.elim) (fun r1 u1 H1 locs1 hp1 hw1 => ?_)
  obtain ⟨er1, ⟨f1, hf1, hv1⟩, hlp⟩ := hp1; subst er1
  obtain ⟨lc1, hlc1, hLW1⟩ := hLW.hD hf1 hlp
  obtain ⟨z1, hR1, hRM1, hoL1, hoD1, hsep1, hsm1, hld1⟩ := id hLW1
  refine lv_istore (lv' := [(6, .int (nI (pBump S (xs (6 * tj + 1)) (xs (6 * tj + 2)) (xs (6 * tj + 3))).1)), (0, .ref b), (1, .ref (lc 0)), (2, .ref (lm 0)), (3, .ref aL), (4, .ref aD), (5, .int (nI (6 * tj)))]) hx hb d_L_law_880 hl (by decide) rfl (fun ls hl => ?_)
  refine lv_aload_n hx hb d_L_law_882 rfl (lv_at hl 3 rfl) ?_
  refine lv_aload_n hx hb d_L_law_883 rfl (lv_at hl 1 rfl) ?_
  refine lv_iload hx hb d_L_law_884 (lv_at hl 6 rfl) ?_
  refine lv_iconst (v := 1) hx hb d_L_law_886 (by decide) ?_
  refine lv_iadd hx hb d_L_law_887 ?_
  refine l_ld (k := 6 * tj + 1) (nI_6 _ 1) (by omega) hL hx hb hX hbl hbA hw1 d_L_law_888 ?_
  refine lv_aload_n hx hb d_L_law_889 rfl (lv_at hl 1 rfl) ?_
  refine lv_iload hx hb d_L_law_890 (lv_at hl 6 rfl) ?_
  refine lv_iconst (v := 2) hx hb d_L_law_892 (by decide) ?_
  refine lv_iadd hx hb d_L_law_893 ?_
  refine l_ld (k := 6 * tj + 2) (nI_6 _ 2) (by omega) hL hx hb hX hbl hbA hw1 d_L_law_894 ?_
  refine lv_aload_n hx hb d_L_law_895 rfl (lv_at hl 1 rfl) ?_
  refine lv_iload hx hb d_L_law_896 (lv_at hl 6 rfl) ?_
  refine lv_iconst (v := 3) hx hb d_L_law_898 (by decide) ?_
  refine lv_iadd hx hb d_L_law_899 ?_
  refine l_ld (k := 6 * tj + 3) (nI_6 _ 3) (by omega) hL hx hb hX hbl hbA hw1 d_L_law_900 ?_
  refine lv_i2d hx hb d_L_law_901 ?_
  refine lv_ldc2d (v := 4593671619917905920) hx hb hown (ht _ gw_1044) d_L_law_902 ?_
  refine lv_dmul hx hb d_L_law_905 (e8_n _) ?_
  rw [show FP.dmul (FP.i2d (xs (6 * tj + 3))) (4593671619917905920 : UInt64) = e8 (xs (6 * tj + 3)) from rfl]
  refine kc_d (kr_V 3 (C := "QuoteGraphModel") (As := [.int (xs (6 * tj + 1)), .int (xs (6 * tj + 2)), .double (e8 (xs (6 * tj + 3)))]) (rest := []) (c_M_bump l G A lm S M u1 hRM1 rk hI hr17 hi.2.2.2.2.2.1 (xs (6 * tj + 1)) (xs (6 * tj + 2)) (xs (6 * tj + 3))) hx hb hml hown ht hw1 gw_1027 gw_1028 gw_1029 gw_47 gw_1030 ⟨⟨by decide, by decide⟩, by decide +kernel⟩ ⟨by first | decide | (dsimp only; omega), by first | decide | (dsimp only; omega)⟩ (lr_M hw1 hRM1) rfl hl.1 rfl (lv_room (Nat.le_of_ble_eq_true rfl)) d_L_law_906 ⟨by first | decide | (dsimp only; omega), by first | decide | (dsimp only; omega)⟩) hw1 (fun _ _ _ _ _ _ h => h.elim) (fun r2 u2 H2 locs2 hp2 hw2 => ?_)
  obtain ⟨er2, m2, ht2, hr2, hf2⟩ := hp2; subst er2
  have hLW2 := hLW1.mm hr2 hf2
  obtain ⟨z2, hR2, hRM2, hoL2, hoD2, hsep2, hsm2, hld2⟩ := id hLW2
  refine lv_dstore (lv' := [(7, .double ((pBump S (xs (6 * tj + 1)) (xs (6 * tj + 2)) (xs (6 * tj + 3))).2.1)), (6, .int (nI (pBump S (xs (6 * tj + 1)) (xs (6 * tj + 2)) (xs (6 * tj + 3))).1)), (0, .ref b), (1, .ref (lc 0)), (2, .ref (lm 0)), (3, .ref aL), (4, .ref aD), (5, .int (nI (6 * tj)))]) hx hb d_L_law_909 hl (by decide) rfl (fun ls hl => ?_)
  refine lv_aload_n hx hb d_L_law_911 rfl (lv_at hl 4 rfl) ?_
  refine kc_i (kr_V 0 (C := "QuoteGraphModel") (As := []) (rest := []) (c_M_thrown l G A lm (pBump S (xs (6 * tj + 1)) (xs (6 * tj + 2)) (xs (6 * tj + 3))).2.2 m2 u2 hRM2) hx hb hml hown ht hw2 gw_896 gw_897 gw_898 gw_47 gw_899 ⟨⟨by decide, by decide⟩, by decide +kernel⟩ ⟨by first | decide | (dsimp only; omega), by first | decide | (dsimp only; omega)⟩ (lr_M hw2 hRM2) rfl hl.1 rfl (lv_room (Nat.le_of_ble_eq_true rfl)) d_L_law_912 ⟨by first | decide | (dsimp only; omega), by first | decide | (dsimp only; omega)⟩) hw2 (fun _ _ _ _ _ _ h => h.elim) (fun r3 u3 H3 locs3 hp3 hw3 => ?_)
  obtain ⟨er3, hq3⟩ := hp3; replace hq3 := hq3.symm; subst hq3; subst er3
  rw [ht2]
  refine lv_iload hx hb d_L_law_915 (lv_at hl 1 rfl) ?_
  refine lv_icmp_eq (tgt := 922) hx hb d_L_law_917 (by decide) (fun c4 => ?_) (fun c4 => ?_)
  · refine lv_iload hx hb d_L_law_922 (lv_at hl 1 rfl) ?_
    refine lv_if_ne (tgt := 959) hx hb d_L_law_924 (by decide) (fun c5 => ?_) (fun c5 => ?_)
    · refine lv_goto (tgt := 1130) hx hb d_L_law_959 (by decide) ?_
      refine W.widen (k := cells + 3) (n := slots + 25) (by omega) (by omega) ?_
      exact K lc1 (pBump S (xs (6 * tj + 1)) (xs (6 * tj + 2)) (xs (6 * tj + 3))).2.2 m2 f f1 u2 ls H3 locs3 hlc1 (inv_pBump hi (xs (6 * tj + 1)) (xs (6 * tj + 2)) (xs (6 * tj + 3))) hLW2 hw3 (lv_sub hl [2, 3, 4, 5, 6, 7] rfl)
    · have hc0 : (pBump S (xs (6 * tj + 1)) (xs (6 * tj + 2)) (xs (6 * tj + 3))).1 = 0 := nI_z0 c5 (cd_Bump S (xs (6 * tj + 1)) (xs (6 * tj + 2)) (xs (6 * tj + 3))).lt
      have hv0 := hv1 hc0
      refine lv_aload hx hb d_L_law_927 (lv_at hl 6 rfl) ?_
      refine lv_iconst (v := 0) hx hb d_L_law_929 (by decide) ?_
      refine l_oD hx hb hw3 hoD2.1 hoD2.2 d_L_law_930 ?_
      refine lv_dload hx hb d_L_law_931 (lv_at hl 0 rfl) ?_
      rw [hv0]
      refine lv_dcmp hx hb d_L_law_933 ?_
      refine lv_if_eq (tgt := 959) hx hb d_L_law_934 (by decide) (fun c6 => ?_) (fun c6 => ?_)
      · refine lv_goto (tgt := 1130) hx hb d_L_law_959 (by decide) ?_
        refine W.widen (k := cells + 3) (n := slots + 25) (by omega) (by omega) ?_
        exact K lc1 (pBump S (xs (6 * tj + 1)) (xs (6 * tj + 2)) (xs (6 * tj + 3))).2.2 m2 f f1 u2 ls H3 locs3 hlc1 (inv_pBump hi (xs (6 * tj + 1)) (xs (6 * tj + 2)) (xs (6 * tj + 3))) hLW2 hw3 (lv_sub hl [2, 3, 4, 5, 6, 7] rfl)
      · refine lv_aload hx hb d_L_law_937 (lv_at hl 6 rfl) ?_
        refine lv_iconst (v := 0) hx hb d_L_law_939 (by decide) ?_
        refine l_oD hx hb hw3 hoD2.1 hoD2.2 d_L_law_940 ?_
        refine lv_aload hx hb d_L_law_941 (lv_at hl 6 rfl) ?_
        refine lv_iconst (v := 0) hx hb d_L_law_943 (by decide) ?_
        refine l_oD hx hb hw3 hoD2.1 hoD2.2 d_L_law_944 ?_
        rw [hv0]
        refine lv_dcmp hx hb d_L_law_945 ?_
        refine lv_if_eq (tgt := 957) hx hb d_L_law_946 (by decide) (fun c7 => ?_) (fun c7 => ?_)
        · exact absurd c7 c6
        · refine lv_dload hx hb d_L_law_949 (lv_at hl 0 rfl) ?_
          refine lv_dload hx hb d_L_law_951 (lv_at hl 0 rfl) ?_
          refine lv_dcmp hx hb d_L_law_953 ?_
          refine lv_if_ne (tgt := 959) hx hb d_L_law_954 (by decide) (fun c8 => ?_) (fun c8 => ?_)
          · refine lv_goto (tgt := 1130) hx hb d_L_law_959 (by decide) ?_
            refine W.widen (k := cells + 3) (n := slots + 25) (by omega) (by omega) ?_
            exact K lc1 (pBump S (xs (6 * tj + 1)) (xs (6 * tj + 2)) (xs (6 * tj + 3))).2.2 m2 f f1 u2 ls H3 locs3 hlc1 (inv_pBump hi (xs (6 * tj + 1)) (xs (6 * tj + 2)) (xs (6 * tj + 3))) hLW2 hw3 (lv_sub hl [2, 3, 4, 5, 6, 7] rfl)
          · exact absurd c8 c6
  · exact absurd rfl c4
set_option maxHeartbeats 4000000 in
set_option maxRecDepth 100000 in
theorem law_10 {p : Program} {l : Launch} {e : Env} {st : State} {m : MethodId} {below : List Frame} {meth : Method} {c : Code} {H : Heap} {locs : List Loc} {cells slots : Nat} {Q : State → Prop} {ls : Array Slot} {G : GT} {A : Nat → Prop} {u : WT} {b L tj : Nat} {xs : Nat → Int32} (hl9 : l.stackTraces = false) (hx : p.tables.exec = Jvm.exec) (hb : c.code = code) (hml : c.maxLocals = 9) (hown : st.vm.findClass "QuoteGraphLaw" = some m.cls) (ht : ∀ w ∈ GW, w.before #[Value.ref b] st = true) (hX : va_X b L xs st st.heap) (hbl : b < st.heap.size) (hbA : ¬ A b) (hL : L ≤ 3072) (htj : 6 * tj + 6 ≤ L) (hcells : cells + 100 ≤ 601024) (hslots : slots + 1000 ≤ 7293034) {lc lm : Nat → Nat} {aL aD : Nat} {S : QS} {M : MS} {f : Nat → Int64} {g : Nat → UInt64} (hi : inv S) (hLW : LW G lc lm aL aD S S M f g u) (hw : Wk G A u st H locs) (hl : lv_has ls 9 [(0, .ref b), (1, .ref (lc 0)), (2, .ref (lm 0)), (3, .ref aL), (4, .ref aD), (5, .int (nI (6 * tj)))]) (K : ∀ (lc' : Nat → Nat) (S' : QS) (m' : MS) (f' : Nat → Int64) (g' : Nat → UInt64) (u' : WT) (ls : Array Slot) (H : Heap) (locs : List Loc), lc' 0 = lc 0 → inv S' → LW G lc' lm aL aD S' S' m' f' g' u' → Wk G A u' st H locs → lv_has ls 9 [(0, .ref b), (1, .ref (lc 0)), (2, .ref (lm 0)), (3, .ref aL), (4, .ref aD), (5, .int (nI (6 * tj)))] → W p l e RL st m #[Value.ref b] below meth c H locs (cells + 3) (slots + 25) Q (F0 m 1130 ls [])) : W p l e RL st m #[Value.ref b] below meth c H locs cells slots Q (F0 m 962 ls []) := by
  obtain ⟨z, hR, hRM, hoL, hoD, hsep, hsm, hld⟩ := id hLW
  refine lv_aload_n hx hb d_L_law_962 rfl (lv_at hl 1 rfl) ?_
  refine lv_aload_n hx hb d_L_law_963 rfl (lv_at hl 0 rfl) ?_
  refine lv_iload hx hb d_L_law_964 (lv_at hl 5 rfl) ?_
  refine lv_iconst (v := 1) hx hb d_L_law_966 (by decide) ?_
  refine lv_iadd hx hb d_L_law_967 ?_
  refine l_ld (k := 6 * tj + 1) (nI_6 _ 1) (by omega) hL hx hb hX hbl hbA hw d_L_law_968 ?_
  refine lv_aload_n hx hb d_L_law_969 rfl (lv_at hl 0 rfl) ?_
  refine lv_iload hx hb d_L_law_970 (lv_at hl 5 rfl) ?_
  refine lv_iconst (v := 2) hx hb d_L_law_972 (by decide) ?_
  refine lv_iadd hx hb d_L_law_973 ?_
  refine l_ld (k := 6 * tj + 2) (nI_6 _ 2) (by omega) hL hx hb hX hbl hbA hw d_L_law_974 ?_
  refine lv_aload_n hx hb d_L_law_975 rfl (lv_at hl 3 rfl) ?_
  refine kc_i (kr_SW 4 (As := [.ref (lc 0), .int (xs (6 * tj + 1)), .int (xs (6 * tj + 2)), .ref aL]) (rest := []) (c_L_uses l hl9 G A lc S z u hR (xs (6 * tj + 1)) (xs (6 * tj + 2)) aL hoL.1 (fun k hk => (hsep k hk).1) f hoL.2) hx hb hml hown ht hw gw_761 gw_762 gw_41 gw_763 ⟨⟨by decide, by decide⟩, by decide +kernel⟩ ⟨by first | decide | (dsimp only; omega), by first | decide | (dsimp only; omega)⟩ rfl hl.1 rfl (lv_room (Nat.le_of_ble_eq_true rfl)) d_L_law_976 ⟨by first | decide | (dsimp only; omega), by first | decide | (dsimp only; omega)⟩) hw (fun _ _ _ _ _ _ h => h.elim) (fun r1 u1 H1 locs1 hp1 hw1 => ?_)
  obtain ⟨er1, ⟨f1, hf1, hv1⟩, hlp⟩ := hp1; subst er1
  obtain ⟨lc1, hlc1, hLW1⟩ := hLW.hL hf1 hlp
  obtain ⟨z1, hR1, hRM1, hoL1, hoD1, hsep1, hsm1, hld1⟩ := id hLW1
  refine lv_istore (lv' := [(6, .int (nI (pUses S (xs (6 * tj + 1)) (xs (6 * tj + 2))).1)), (0, .ref b), (1, .ref (lc 0)), (2, .ref (lm 0)), (3, .ref aL), (4, .ref aD), (5, .int (nI (6 * tj)))]) hx hb d_L_law_979 hl (by decide) rfl (fun ls hl => ?_)
  refine lv_aload_n hx hb d_L_law_981 rfl (lv_at hl 3 rfl) ?_
  refine lv_aload_n hx hb d_L_law_982 rfl (lv_at hl 1 rfl) ?_
  refine lv_iload hx hb d_L_law_983 (lv_at hl 6 rfl) ?_
  refine lv_iconst (v := 1) hx hb d_L_law_985 (by decide) ?_
  refine lv_iadd hx hb d_L_law_986 ?_
  refine l_ld (k := 6 * tj + 1) (nI_6 _ 1) (by omega) hL hx hb hX hbl hbA hw1 d_L_law_987 ?_
  refine lv_aload_n hx hb d_L_law_988 rfl (lv_at hl 1 rfl) ?_
  refine lv_iload hx hb d_L_law_989 (lv_at hl 6 rfl) ?_
  refine lv_iconst (v := 2) hx hb d_L_law_991 (by decide) ?_
  refine lv_iadd hx hb d_L_law_992 ?_
  refine l_ld (k := 6 * tj + 2) (nI_6 _ 2) (by omega) hL hx hb hX hbl hbA hw1 d_L_law_993 ?_
  refine kc_i (kr_V 2 (C := "QuoteGraphModel") (As := [.int (xs (6 * tj + 1)), .int (xs (6 * tj + 2))]) (rest := []) (c_M_uses l G A lm S M u1 hRM1 hi.1.1 (xs (6 * tj + 1)) (xs (6 * tj + 2))) hx hb hml hown ht hw1 gw_1032 gw_1033 gw_1034 gw_47 gw_1035 ⟨⟨by decide, by decide⟩, by decide +kernel⟩ ⟨by first | decide | (dsimp only; omega), by first | decide | (dsimp only; omega)⟩ (lr_M hw1 hRM1) rfl hl.1 rfl (lv_room (Nat.le_of_ble_eq_true rfl)) d_L_law_994 ⟨by first | decide | (dsimp only; omega), by first | decide | (dsimp only; omega)⟩) hw1 (fun _ _ _ _ _ _ h => h.elim) (fun r2 u2 H2 locs2 hp2 hw2 => ?_)
  obtain ⟨er2, m2, ht2, hr2, hf2⟩ := hp2; subst er2
  have hLW2 := hLW1.mm hr2 hf2
  obtain ⟨z2, hR2, hRM2, hoL2, hoD2, hsep2, hsm2, hld2⟩ := id hLW2
  refine lv_istore (lv' := [(7, .int (bI (pUses S (xs (6 * tj + 1)) (xs (6 * tj + 2))).2.1)), (6, .int (nI (pUses S (xs (6 * tj + 1)) (xs (6 * tj + 2))).1)), (0, .ref b), (1, .ref (lc 0)), (2, .ref (lm 0)), (3, .ref aL), (4, .ref aD), (5, .int (nI (6 * tj)))]) hx hb d_L_law_997 hl (by decide) rfl (fun ls hl => ?_)
  refine lv_aload_n hx hb d_L_law_999 rfl (lv_at hl 4 rfl) ?_
  refine kc_i (kr_V 0 (C := "QuoteGraphModel") (As := []) (rest := []) (c_M_thrown l G A lm (pUses S (xs (6 * tj + 1)) (xs (6 * tj + 2))).2.2 m2 u2 hRM2) hx hb hml hown ht hw2 gw_896 gw_897 gw_898 gw_47 gw_899 ⟨⟨by decide, by decide⟩, by decide +kernel⟩ ⟨by first | decide | (dsimp only; omega), by first | decide | (dsimp only; omega)⟩ (lr_M hw2 hRM2) rfl hl.1 rfl (lv_room (Nat.le_of_ble_eq_true rfl)) d_L_law_1000 ⟨by first | decide | (dsimp only; omega), by first | decide | (dsimp only; omega)⟩) hw2 (fun _ _ _ _ _ _ h => h.elim) (fun r3 u3 H3 locs3 hp3 hw3 => ?_)
  obtain ⟨er3, hq3⟩ := hp3; replace hq3 := hq3.symm; subst hq3; subst er3
  rw [ht2]
  refine lv_iload hx hb d_L_law_1003 (lv_at hl 1 rfl) ?_
  refine lv_icmp_eq (tgt := 1010) hx hb d_L_law_1005 (by decide) (fun c4 => ?_) (fun c4 => ?_)
  · refine lv_iload hx hb d_L_law_1010 (lv_at hl 1 rfl) ?_
    refine lv_if_ne (tgt := 1034) hx hb d_L_law_1012 (by decide) (fun c5 => ?_) (fun c5 => ?_)
    · refine lv_goto (tgt := 1130) hx hb d_L_law_1034 (by decide) ?_
      refine W.widen (k := cells + 3) (n := slots + 25) (by omega) (by omega) ?_
      exact K lc1 (pUses S (xs (6 * tj + 1)) (xs (6 * tj + 2))).2.2 m2 f1 g u2 ls H3 locs3 hlc1 (inv_pUses hi (xs (6 * tj + 1)) (xs (6 * tj + 2))) hLW2 hw3 (lv_sub hl [2, 3, 4, 5, 6, 7] rfl)
    · have hc0 : (pUses S (xs (6 * tj + 1)) (xs (6 * tj + 2))).1 = 0 := nI_z0 c5 (cd_Uses S (xs (6 * tj + 1)) (xs (6 * tj + 2))).lt
      have hv0 := hv1 hc0
      refine lv_aload_n hx hb d_L_law_1015 rfl (lv_at hl 5 rfl) ?_
      refine lv_iconst (v := 0) hx hb d_L_law_1016 (by decide) ?_
      refine l_oL hx hb hw3 hoL2.1 hoL2.2 d_L_law_1017 ?_
      refine lv_iload hx hb d_L_law_1018 (lv_at hl 0 rfl) ?_
      refine lv_if_eq (tgt := 1027) hx hb d_L_law_1020 (by decide) (fun c6 => ?_) (fun c6 => ?_)
      · refine lv_lconst (v := 0) hx hb d_L_law_1027 (by decide) ?_
        refine W.lcmp hx hb d_L_law_1028 ?_
        refine lv_if_eq (tgt := 1034) hx hb d_L_law_1029 (by decide) (fun c7 => ?_) (fun c7 => ?_)
        · refine lv_goto (tgt := 1130) hx hb d_L_law_1034 (by decide) ?_
          refine W.widen (k := cells + 3) (n := slots + 25) (by omega) (by omega) ?_
          exact K lc1 (pUses S (xs (6 * tj + 1)) (xs (6 * tj + 2))).2.2 m2 f1 g u2 ls H3 locs3 hlc1 (inv_pUses hi (xs (6 * tj + 1)) (xs (6 * tj + 2))) hLW2 hw3 (lv_sub hl [2, 3, 4, 5, 6, 7] rfl)
        · exact absurd ((lg_cmp_eq _ _).mpr (hv0.trans (if_neg (by rw [(bI_eq _).mp c6]; decide)))) c7
      · refine lv_lconst (v := 1) hx hb d_L_law_1023 (by decide) ?_
        refine lv_goto (tgt := 1028) hx hb d_L_law_1024 (by decide) ?_
        refine W.lcmp hx hb d_L_law_1028 ?_
        refine lv_if_eq (tgt := 1034) hx hb d_L_law_1029 (by decide) (fun c8 => ?_) (fun c8 => ?_)
        · refine lv_goto (tgt := 1130) hx hb d_L_law_1034 (by decide) ?_
          refine W.widen (k := cells + 3) (n := slots + 25) (by omega) (by omega) ?_
          exact K lc1 (pUses S (xs (6 * tj + 1)) (xs (6 * tj + 2))).2.2 m2 f1 g u2 ls H3 locs3 hlc1 (inv_pUses hi (xs (6 * tj + 1)) (xs (6 * tj + 2))) hLW2 hw3 (lv_sub hl [2, 3, 4, 5, 6, 7] rfl)
        · exact absurd ((lg_cmp_eq _ _).mpr (hv0.trans (if_pos ((bI_ne _).mp c6)))) c8
  · exact absurd rfl c4
set_option maxHeartbeats 4000000 in
set_option maxRecDepth 100000 in
theorem law_11 {p : Program} {l : Launch} {e : Env} {st : State} {m : MethodId} {below : List Frame} {meth : Method} {c : Code} {H : Heap} {locs : List Loc} {cells slots : Nat} {Q : State → Prop} {ls : Array Slot} {G : GT} {A : Nat → Prop} {u : WT} {b L tj : Nat} {xs : Nat → Int32} (hl9 : l.stackTraces = false) (hx : p.tables.exec = Jvm.exec) (hb : c.code = code) (hml : c.maxLocals = 9) (hown : st.vm.findClass "QuoteGraphLaw" = some m.cls) (ht : ∀ w ∈ GW, w.before #[Value.ref b] st = true) (hX : va_X b L xs st st.heap) (hbl : b < st.heap.size) (hbA : ¬ A b) (hL : L ≤ 3072) (htj : 6 * tj + 6 ≤ L) (hcells : cells + 100 ≤ 601024) (hslots : slots + 1000 ≤ 7293034) {lc lm : Nat → Nat} {aL aD : Nat} {S : QS} {M : MS} {f : Nat → Int64} {g : Nat → UInt64} (hi : inv S) (hLW : LW G lc lm aL aD S S M f g u) (hw : Wk G A u st H locs) (hl : lv_has ls 9 [(0, .ref b), (1, .ref (lc 0)), (2, .ref (lm 0)), (3, .ref aL), (4, .ref aD), (5, .int (nI (6 * tj)))]) (K : ∀ (lc' : Nat → Nat) (S' : QS) (m' : MS) (f' : Nat → Int64) (g' : Nat → UInt64) (u' : WT) (ls : Array Slot) (H : Heap) (locs : List Loc), lc' 0 = lc 0 → inv S' → LW G lc' lm aL aD S' S' m' f' g' u' → Wk G A u' st H locs → lv_has ls 9 [(0, .ref b), (1, .ref (lc 0)), (2, .ref (lm 0)), (3, .ref aL), (4, .ref aD), (5, .int (nI (6 * tj)))] → W p l e RL st m #[Value.ref b] below meth c H locs (cells + 3) (slots + 25) Q (F0 m 1130 ls [])) : W p l e RL st m #[Value.ref b] below meth c H locs cells slots Q (F0 m 1037 ls []) := by
  obtain ⟨z, hR, hRM, hoL, hoD, hsep, hsm, hld⟩ := id hLW
  refine lv_aload_n hx hb d_L_law_1037 rfl (lv_at hl 1 rfl) ?_
  refine lv_aload_n hx hb d_L_law_1038 rfl (lv_at hl 0 rfl) ?_
  refine lv_iload hx hb d_L_law_1039 (lv_at hl 5 rfl) ?_
  refine lv_iconst (v := 1) hx hb d_L_law_1041 (by decide) ?_
  refine lv_iadd hx hb d_L_law_1042 ?_
  refine l_ld (k := 6 * tj + 1) (nI_6 _ 1) (by omega) hL hx hb hX hbl hbA hw d_L_law_1043 ?_
  refine lv_aload_n hx hb d_L_law_1044 rfl (lv_at hl 0 rfl) ?_
  refine lv_iload hx hb d_L_law_1045 (lv_at hl 5 rfl) ?_
  refine lv_iconst (v := 2) hx hb d_L_law_1047 (by decide) ?_
  refine lv_iadd hx hb d_L_law_1048 ?_
  refine l_ld (k := 6 * tj + 2) (nI_6 _ 2) (by omega) hL hx hb hX hbl hbA hw d_L_law_1049 ?_
  refine lv_aload_n hx hb d_L_law_1050 rfl (lv_at hl 3 rfl) ?_
  refine kc_i (kr_SW 4 (As := [.ref (lc 0), .int (xs (6 * tj + 1)), .int (xs (6 * tj + 2)), .ref aL]) (rest := []) (c_L_node l hl9 G A lc S z u hR (xs (6 * tj + 1)) (xs (6 * tj + 2)) aL hoL.1 (fun k hk => (hsep k hk).1) f hoL.2) hx hb hml hown ht hw gw_768 gw_769 gw_41 gw_770 ⟨⟨by decide, by decide⟩, by decide +kernel⟩ ⟨by first | decide | (dsimp only; omega), by first | decide | (dsimp only; omega)⟩ rfl hl.1 rfl (lv_room (Nat.le_of_ble_eq_true rfl)) d_L_law_1051 ⟨by first | decide | (dsimp only; omega), by first | decide | (dsimp only; omega)⟩) hw (fun _ _ _ _ _ _ h => h.elim) (fun r1 u1 H1 locs1 hp1 hw1 => ?_)
  obtain ⟨er1, ⟨f1, hf1, hv1⟩, hlp⟩ := hp1; subst er1
  obtain ⟨lc1, hlc1, hLW1⟩ := hLW.hL hf1 hlp
  obtain ⟨z1, hR1, hRM1, hoL1, hoD1, hsep1, hsm1, hld1⟩ := id hLW1
  refine lv_istore (lv' := [(6, .int (nI (pNode S (xs (6 * tj + 1)) (xs (6 * tj + 2))).1)), (0, .ref b), (1, .ref (lc 0)), (2, .ref (lm 0)), (3, .ref aL), (4, .ref aD), (5, .int (nI (6 * tj)))]) hx hb d_L_law_1054 hl (by decide) rfl (fun ls hl => ?_)
  refine lv_aload_n hx hb d_L_law_1056 rfl (lv_at hl 3 rfl) ?_
  refine lv_aload_n hx hb d_L_law_1057 rfl (lv_at hl 1 rfl) ?_
  refine lv_iload hx hb d_L_law_1058 (lv_at hl 6 rfl) ?_
  refine lv_iconst (v := 1) hx hb d_L_law_1060 (by decide) ?_
  refine lv_iadd hx hb d_L_law_1061 ?_
  refine l_ld (k := 6 * tj + 1) (nI_6 _ 1) (by omega) hL hx hb hX hbl hbA hw1 d_L_law_1062 ?_
  refine lv_aload_n hx hb d_L_law_1063 rfl (lv_at hl 1 rfl) ?_
  refine lv_iload hx hb d_L_law_1064 (lv_at hl 6 rfl) ?_
  refine lv_iconst (v := 2) hx hb d_L_law_1066 (by decide) ?_
  refine lv_iadd hx hb d_L_law_1067 ?_
  refine l_ld (k := 6 * tj + 2) (nI_6 _ 2) (by omega) hL hx hb hX hbl hbA hw1 d_L_law_1068 ?_
  refine kc_i (kr_V 2 (C := "QuoteGraphModel") (As := [.int (xs (6 * tj + 1)), .int (xs (6 * tj + 2))]) (rest := []) (c_M_node l G A lm S M u1 hRM1 hi.1.1 (xs (6 * tj + 1)) (xs (6 * tj + 2))) hx hb hml hown ht hw1 gw_1036 gw_1037 gw_1038 gw_47 gw_1039 ⟨⟨by decide, by decide⟩, by decide +kernel⟩ ⟨by first | decide | (dsimp only; omega), by first | decide | (dsimp only; omega)⟩ (lr_M hw1 hRM1) rfl hl.1 rfl (lv_room (Nat.le_of_ble_eq_true rfl)) d_L_law_1069 ⟨by first | decide | (dsimp only; omega), by first | decide | (dsimp only; omega)⟩) hw1 (fun _ _ _ _ _ _ h => h.elim) (fun r2 u2 H2 locs2 hp2 hw2 => ?_)
  obtain ⟨er2, m2, ht2, hr2, hf2⟩ := hp2; subst er2
  have hLW2 := hLW1.mm hr2 hf2
  obtain ⟨z2, hR2, hRM2, hoL2, hoD2, hsep2, hsm2, hld2⟩ := id hLW2
  refine lv_istore (lv' := [(7, .int ((pNode S (xs (6 * tj + 1)) (xs (6 * tj + 2))).2.1)), (6, .int (nI (pNode S (xs (6 * tj + 1)) (xs (6 * tj + 2))).1)), (0, .ref b), (1, .ref (lc 0)), (2, .ref (lm 0)), (3, .ref aL), (4, .ref aD), (5, .int (nI (6 * tj)))]) hx hb d_L_law_1072 hl (by decide) rfl (fun ls hl => ?_)
  refine lv_aload_n hx hb d_L_law_1074 rfl (lv_at hl 4 rfl) ?_
  refine kc_i (kr_V 0 (C := "QuoteGraphModel") (As := []) (rest := []) (c_M_thrown l G A lm (pNode S (xs (6 * tj + 1)) (xs (6 * tj + 2))).2.2 m2 u2 hRM2) hx hb hml hown ht hw2 gw_896 gw_897 gw_898 gw_47 gw_899 ⟨⟨by decide, by decide⟩, by decide +kernel⟩ ⟨by first | decide | (dsimp only; omega), by first | decide | (dsimp only; omega)⟩ (lr_M hw2 hRM2) rfl hl.1 rfl (lv_room (Nat.le_of_ble_eq_true rfl)) d_L_law_1075 ⟨by first | decide | (dsimp only; omega), by first | decide | (dsimp only; omega)⟩) hw2 (fun _ _ _ _ _ _ h => h.elim) (fun r3 u3 H3 locs3 hp3 hw3 => ?_)
  obtain ⟨er3, hq3⟩ := hp3; replace hq3 := hq3.symm; subst hq3; subst er3
  rw [ht2]
  refine lv_iload hx hb d_L_law_1078 (lv_at hl 1 rfl) ?_
  refine lv_icmp_eq (tgt := 1085) hx hb d_L_law_1080 (by decide) (fun c4 => ?_) (fun c4 => ?_)
  · refine lv_iload hx hb d_L_law_1085 (lv_at hl 1 rfl) ?_
    refine lv_if_ne (tgt := 1102) hx hb d_L_law_1087 (by decide) (fun c5 => ?_) (fun c5 => ?_)
    · refine lv_goto (tgt := 1130) hx hb d_L_law_1102 (by decide) ?_
      refine W.widen (k := cells + 3) (n := slots + 25) (by omega) (by omega) ?_
      exact K lc1 (pNode S (xs (6 * tj + 1)) (xs (6 * tj + 2))).2.2 m2 f1 g u2 ls H3 locs3 hlc1 (inv_pNode hi (xs (6 * tj + 1)) (xs (6 * tj + 2))) hLW2 hw3 (lv_sub hl [2, 3, 4, 5, 6, 7] rfl)
    · have hc0 : (pNode S (xs (6 * tj + 1)) (xs (6 * tj + 2))).1 = 0 := nI_z0 c5 (cd_Node S (xs (6 * tj + 1)) (xs (6 * tj + 2))).lt
      have hv0 := hv1 hc0
      refine lv_aload_n hx hb d_L_law_1090 rfl (lv_at hl 5 rfl) ?_
      refine lv_iconst (v := 0) hx hb d_L_law_1091 (by decide) ?_
      refine l_oL hx hb hw3 hoL2.1 hoL2.2 d_L_law_1092 ?_
      refine lv_iload hx hb d_L_law_1093 (lv_at hl 0 rfl) ?_
      refine lv_i2l hx hb d_L_law_1095 rfl ?_
      refine W.lcmp hx hb d_L_law_1096 ?_
      refine lv_if_eq (tgt := 1102) hx hb d_L_law_1097 (by decide) (fun c6 => ?_) (fun c6 => ?_)
      · refine lv_goto (tgt := 1130) hx hb d_L_law_1102 (by decide) ?_
        refine W.widen (k := cells + 3) (n := slots + 25) (by omega) (by omega) ?_
        exact K lc1 (pNode S (xs (6 * tj + 1)) (xs (6 * tj + 2))).2.2 m2 f1 g u2 ls H3 locs3 hlc1 (inv_pNode hi (xs (6 * tj + 1)) (xs (6 * tj + 2))) hLW2 hw3 (lv_sub hl [2, 3, 4, 5, 6, 7] rfl)
      · exact absurd ((lg_cmp_eq _ _).mpr hv0) c6
  · exact absurd rfl c4
set_option maxHeartbeats 4000000 in
set_option maxRecDepth 100000 in
theorem law_12 {p : Program} {l : Launch} {e : Env} {st : State} {m : MethodId} {below : List Frame} {meth : Method} {c : Code} {H : Heap} {locs : List Loc} {cells slots : Nat} {Q : State → Prop} {ls : Array Slot} {G : GT} {A : Nat → Prop} {u : WT} {b L tj : Nat} {xs : Nat → Int32} (hl9 : l.stackTraces = false) (hx : p.tables.exec = Jvm.exec) (hb : c.code = code) (hml : c.maxLocals = 9) (hown : st.vm.findClass "QuoteGraphLaw" = some m.cls) (ht : ∀ w ∈ GW, w.before #[Value.ref b] st = true) (hX : va_X b L xs st st.heap) (hbl : b < st.heap.size) (hbA : ¬ A b) (hL : L ≤ 3072) (htj : 6 * tj + 6 ≤ L) (hcells : cells + 100 ≤ 601024) (hslots : slots + 1000 ≤ 7293034) {lc lm : Nat → Nat} {aL aD : Nat} {S : QS} {M : MS} {f : Nat → Int64} {g : Nat → UInt64} (hi : inv S) (hLW : LW G lc lm aL aD S S M f g u) (hw : Wk G A u st H locs) (hl : lv_has ls 9 [(0, .ref b), (1, .ref (lc 0)), (2, .ref (lm 0)), (3, .ref aL), (4, .ref aD), (5, .int (nI (6 * tj)))]) (K : ∀ (lc' : Nat → Nat) (S' : QS) (m' : MS) (f' : Nat → Int64) (g' : Nat → UInt64) (u' : WT) (ls : Array Slot) (H : Heap) (locs : List Loc), lc' 0 = lc 0 → inv S' → LW G lc' lm aL aD S' S' m' f' g' u' → Wk G A u' st H locs → lv_has ls 9 [(0, .ref b), (1, .ref (lc 0)), (2, .ref (lm 0)), (3, .ref aL), (4, .ref aD), (5, .int (nI (6 * tj)))] → W p l e RL st m #[Value.ref b] below meth c H locs (cells + 3) (slots + 25) Q (F0 m 1130 ls [])) : W p l e RL st m #[Value.ref b] below meth c H locs cells slots Q (F0 m 1105 ls []) := by
  obtain ⟨z, hR, hRM, hoL, hoD, hsep, hsm, hld⟩ := id hLW
  refine lv_aload_n hx hb d_L_law_1105 rfl (lv_at hl 1 rfl) ?_
  refine lv_aload_n hx hb d_L_law_1106 rfl (lv_at hl 0 rfl) ?_
  refine lv_iload hx hb d_L_law_1107 (lv_at hl 5 rfl) ?_
  refine lv_iconst (v := 1) hx hb d_L_law_1109 (by decide) ?_
  refine lv_iadd hx hb d_L_law_1110 ?_
  refine l_ld (k := 6 * tj + 1) (nI_6 _ 1) (by omega) hL hx hb hX hbl hbA hw d_L_law_1111 ?_
  refine kc_i (kr_V 1 (C := "QuoteGraph") (As := [.int (xs (6 * tj + 1))]) (rest := []) (c_Q_count l G A lc S z u hR (xs (6 * tj + 1))) hx hb hml hown ht hw gw_140 gw_141 gw_142 gw_42 gw_143 ⟨⟨by decide, by decide⟩, by decide +kernel⟩ ⟨by first | decide | (dsimp only; omega), by first | decide | (dsimp only; omega)⟩ (lr_Q hw hR) rfl hl.1 rfl (lv_room (Nat.le_of_ble_eq_true rfl)) d_L_law_1112 ⟨by first | decide | (dsimp only; omega), by first | decide | (dsimp only; omega)⟩) hw (fun _ _ _ _ _ _ h => h.elim) (fun r1 u1 H1 locs1 hp1 hw1 => ?_)
  obtain ⟨er1, hq1⟩ := hp1; replace hq1 := hq1.symm; subst hq1; subst er1
  refine lv_aload_n hx hb d_L_law_1115 rfl (lv_at hl 2 rfl) ?_
  refine lv_aload_n hx hb d_L_law_1116 rfl (lv_at hl 0 rfl) ?_
  refine lv_iload hx hb d_L_law_1117 (lv_at hl 5 rfl) ?_
  refine lv_iconst (v := 1) hx hb d_L_law_1119 (by decide) ?_
  refine lv_iadd hx hb d_L_law_1120 ?_
  refine l_ld (k := 6 * tj + 1) (nI_6 _ 1) (by omega) hL hx hb hX hbl hbA hw1 d_L_law_1121 ?_
  refine kc_i (kr_V 1 (C := "QuoteGraphModel") (As := [.int (xs (6 * tj + 1))]) (rest := [.int (pCount S (xs (6 * tj + 1)))]) (c_M_count l G A lm S M u hRM (xs (6 * tj + 1))) hx hb hml hown ht hw1 gw_1040 gw_1041 gw_1042 gw_47 gw_1043 ⟨⟨by decide, by decide⟩, by decide +kernel⟩ ⟨by first | decide | (dsimp only; omega), by first | decide | (dsimp only; omega)⟩ (lr_M hw1 hRM) rfl hl.1 rfl (lv_room (Nat.le_of_ble_eq_true rfl)) d_L_law_1122 ⟨by first | decide | (dsimp only; omega), by first | decide | (dsimp only; omega)⟩) hw1 (fun _ _ _ _ _ _ h => h.elim) (fun r2 u2 H2 locs2 hp2 hw2 => ?_)
  obtain ⟨er2, hr2, hf2⟩ := hp2; subst er2
  have hLW2 := hLW.mm hr2 hf2
  refine lv_icmp_eq (tgt := 1130) hx hb d_L_law_1125 (by decide) (fun c3 => ?_) (fun c3 => ?_)
  · refine W.widen (k := cells + 3) (n := slots + 25) (by omega) (by omega) ?_
    exact K lc S (mS_th M 0) f g u2 ls H2 locs2 rfl hi hLW2 hw2 (lv_sub hl [0, 1, 2, 3, 4, 5] rfl)
  · exact absurd rfl c3

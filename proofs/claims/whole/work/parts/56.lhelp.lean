/-! 56.lhelp: contracts of the law's helpers, which catch -/
def oL (G : GT) (f : Nat → Int64) : va_E := .inl (G.2.1 0, 1, lgs f)
def oD (G : GT) (f : Nat → UInt64) : va_E := .inl (G.2.1 3, 1, .inr (.inr (.inr (.inl f))))
/-- the class's world behind a helper: nothing foreign has turned but a -/
def LPq (G : GT) (lc : Nat → Nat) (s : QS) (a : Nat) (u : WT) (S : QS) (u' : WT) : Prop := ∃ (lc' : Nat → Nat) (z' : ZS), lc' 0 = lc 0 ∧ rQ G lc' S z' u' ∧ ∀ c, c ∈ u.1 → (∀ k, liv (q_n s) k → lc k ≠ c) → (c ∈ u'.1 ∧ (c ≠ a → u'.2 c = u.2 c)) ∧ ∀ k, liv (q_n S) k → lc' k ≠ c
theorem gQ.lp {G : GT} {lc : Nat → Nat} {s S : QS} {u u' : WT} (h : gQ G lc s u S u') (a : Nat) : LPq G lc s a u S u' := by
  obtain ⟨lc', z', h1, h2, h3, h4⟩ := h
  exact ⟨lc', z', h1, h2, fun c hc hf => ⟨⟨(h3 c hc hf).1, fun _ => (h3 c hc hf).2⟩, h4 c hc hf⟩⟩
theorem rQ.up {G : GT} {lc : Nat → Nat} {s : QS} {z : ZS} {u : WT} (h : rQ G lc s z u) {a : Nat} (ha : ∀ k, liv (q_n s) k → lc k ≠ a) (x : va_E) : rQ G lc s z (u.1, va_up u.2 a x) := by
  obtain ⟨h0, h1, h2, h3⟩ := h
  refine ⟨h0, fun k hk => ⟨(h1 k hk).1, ?_⟩, h2, h3⟩
  show va_up u.2 a x (lc k) = _
  rw [va_up_ne _ _ (ha k hk)]; exact (h1 k hk).2
theorem LPq.up {G : GT} {lc : Nat → Nat} {s S : QS} {a : Nat} {u u' : WT} (h : LPq G lc s a u S u') (ha : a ∈ u.1) (hf : ∀ k, liv (q_n s) k → lc k ≠ a) (x : va_E) : LPq G lc s a u S (u'.1, va_up u'.2 a x) := by
  obtain ⟨lc', z', h1, h2, h3⟩ := h
  refine ⟨lc', z', h1, h2.up (h3 a ha hf).2 x, fun c hc hc2 => ⟨⟨(h3 c hc hc2).1.1, fun hne => ?_⟩, (h3 c hc hc2).2⟩⟩
  show va_up u'.2 a x c = _
  rw [va_up_ne _ _ hne]; exact (h3 c hc hc2).1.2 hne
theorem gQ.at {G : GT} {lc : Nat → Nat} {s S : QS} {u u' : WT} (h : gQ G lc s u S u') {a : Nat} (ha : a ∈ u.1) (hf : ∀ k, liv (q_n s) k → lc k ≠ a) : a ∈ u'.1 ∧ u'.2 a = u.2 a := by
  obtain ⟨lc', z', h1, h2, h3, h4⟩ := h
  exact h3 a ha hf
theorem wN_c {α : Type} {P : Nat → Prop} {s : QS} {k : Int32} {d : α} {f : Nat → Nat × α × QS} (h1 : P 1) (hf : ∀ j, P (f j).1) : P (wN s k d f).1 := by
  unfold wN
  split
  · exact hf _
  · exact h1
def c02 (n : Nat) : Prop := n = 0 ∨ n = 1 ∨ n = 2
def c01 (n : Nat) : Prop := n = 0 ∨ n = 1
def c03 (n : Nat) : Prop := n = 0 ∨ n = 1 ∨ n = 2 ∨ n = 3
theorem room_c {s s' : QS} : c02 (room s s').1 := by unfold room; split; exact Or.inl rfl; exact Or.inr (Or.inr rfl)
theorem cd_Quote (s : QS) (i : Int32) : c02 (pQuote s i).1 := by
  unfold pQuote; split
  · exact Or.inr (Or.inl rfl)
  · exact room_c
theorem cd_Blend (s : QS) (a b x y : Int32) : c02 (pBlend s a b x y).1 := by
  unfold pBlend
  refine wN_c (Or.inr (Or.inl rfl)) (fun i => wN_c (Or.inr (Or.inl rfl)) (fun j => ?_))
  repeat' split
  all_goals first | exact Or.inr (Or.inl rfl) | exact room_c
theorem cd_Greater (s : QS) (a b : Int32) : c02 (pGreater s a b).1 := by
  unfold pGreater
  exact wN_c (Or.inr (Or.inl rfl)) (fun i => wN_c (Or.inr (Or.inl rfl)) (fun j => room_c))
theorem cd_Option (s : QS) (a b kd x sp : Int32) : c02 (pOption s a b kd x sp).1 := by
  unfold pOption
  refine wN_c (Or.inr (Or.inl rfl)) (fun i => wN_c (Or.inr (Or.inl rfl)) (fun j => ?_))
  repeat' split
  all_goals first | exact Or.inr (Or.inl rfl) | exact room_c
theorem cd_Terms (s : QS) (o ra ch : Int32) (am : Bool) (kn : Int32) : c02 (pTerms s o ra ch am kn).1 := by
  unfold pTerms
  refine wN_c (Or.inr (Or.inl rfl)) (fun i => ?_)
  repeat' split
  all_goals first | exact Or.inr (Or.inl rfl) | exact Or.inr (Or.inr rfl) | exact Or.inl rfl
theorem cd_Engine (s : QS) (o g sz : Int32) : c02 (pEngine s o g sz).1 := by
  unfold pEngine
  refine wN_c (Or.inr (Or.inl rfl)) (fun i => ?_)
  repeat' split
  all_goals first | exact Or.inr (Or.inl rfl) | exact Or.inr (Or.inr rfl) | exact Or.inl rfl
theorem cd_Freeze (s : QS) (k : Int32) (on : Bool) : c02 (pFreeze s k on).1 := by
  unfold pFreeze
  refine wN_c (Or.inr (Or.inl rfl)) (fun i => ?_)
  repeat' split
  all_goals first | exact Or.inr (Or.inl rfl) | exact Or.inr (Or.inr rfl) | exact Or.inl rfl
theorem cd_Set (s : QS) (k i : Int32) : c01 (pSet s k i).1 := by
  unfold pSet
  refine wN_c (Or.inr rfl) (fun i => ?_)
  repeat' split
  all_goals first | exact Or.inr rfl | exact Or.inl rfl
theorem cd_Uses (s : QS) (a b : Int32) : c01 (pUses s a b).1 := by
  unfold pUses
  exact wN_c (Or.inr rfl) (fun i => wN_c (Or.inr rfl) (fun j => Or.inl rfl))
theorem cd_Node (s : QS) (k v : Int32) : c01 (pNode s k v).1 := by
  unfold pNode
  refine wN_c (Or.inr rfl) (fun i => ?_)
  repeat' split
  all_goals first | exact Or.inr rfl | exact Or.inl rfl
theorem c03_of {n : Nat} (h : n = 0 ∨ n = 2 ∨ n = 3) : c03 n := h.imp id (fun h => Or.inr h)
theorem cd_Value (s : QS) (k : Int32) : c03 (pValue s k).1 := by
  unfold pValue
  refine wN_c (Or.inr (Or.inl rfl)) (fun j => ?_)
  split
  · exact Or.inl rfl
  · exact c03_of (askF_c 17 s j)
theorem cd_Bump (s : QS) (k q i : Int32) : c03 (pBump s k q i).1 := by
  unfold pBump
  refine wN_c (Or.inr (Or.inl rfl)) (fun j => wN_c (Or.inr (Or.inl rfl)) (fun h => ?_))
  split
  · exact Or.inr (Or.inl rfl)
  · split
    · exact Or.inr (Or.inl rfl)
    · split
      · split
        · exact Or.inl rfl
        · exact c03_of (askF_c 17 _ j)
      · exact c03_of (askF_c 17 s j)
theorem n_fl (s : QS) : q_n (qFl s) = q_n s := by simp only [qFl, qS_fl, q_n]
theorem n_Value {s : QS} (h : q_n s ≤ 16) (k : Int32) : q_n (pValue s k).2.2 = q_n s := by
  unfold pValue
  refine wN_ind (P := fun S => q_n S = q_n s) h rfl (fun j _ => ?_)
  split
  · exact (askF_K 17 s j).1
  · exact (n_fl _).trans (askF_K 17 s j).1
theorem n_bmR (S B : QS) : q_n (bmR S B) = q_n B := by simp only [bmR, qS_va, qS_am, q_n]
theorem n_Bump {s : QS} (h : q_n s ≤ 16) (k q i : Int32) : q_n (pBump s k q i).2.2 = q_n s := by
  unfold pBump
  refine wN_ind (P := fun S => q_n S = q_n s) h rfl (fun j _ => wN_ind (P := fun S => q_n S = q_n s) h rfl (fun g _ => ?_))
  have h1 : q_n (askF 17 s j).2 = q_n s := (askF_K 17 s j).1
  have h2 : q_n (askF 17 (bmA (askF 17 s j).2 g (128 * i.toInt64)) j).2 = q_n s := ((askF_K 17 _ j).1.trans (bmA_K _ g _).1).trans h1
  split
  · rfl
  · split
    · rfl
    · split
      · split
        · exact (n_bmR _ _).trans h2
        · exact (n_fl _).trans ((n_bmR _ _).trans h2)
      · exact (n_fl _).trans h1
theorem n_Set {s : QS} (h : q_n s ≤ 16) (k i : Int32) : q_n (pSet s k i).2.2 = q_n s := by
  unfold pSet
  refine wN_ind (P := fun S => q_n S = q_n s) h rfl (fun j _ => ?_)
  split
  · rfl
  · split
    · rfl
    · split
      · rfl
      · exact (tellU_K (fun s i => tellF_K 17 s i) (s := qS_am s (va_up (q_am s) j (128 * i.toInt64))) _).1.1
theorem n_Freeze {s : QS} (h : q_n s ≤ 16) (k : Int32) (on : Bool) : q_n (pFreeze s k on).2.2 = q_n s := by
  unfold pFreeze
  refine wN_ind (P := fun S => q_n S = q_n s) h rfl (fun j _ => ?_)
  split
  · rfl
  · split
    · split <;> rfl
    · split
      · exact (tellF_K 17 _ j).1.1
      · rfl
theorem n_Terms {s : QS} (h : q_n s ≤ 16) (o ra ch : Int32) (am : Bool) (kn : Int32) : q_n (pTerms s o ra ch am kn).2.2 = q_n s := by
  unfold pTerms
  refine wN_ind (P := fun S => q_n S = q_n s) h rfl (fun j _ => ?_)
  repeat' split
  all_goals first | rfl | exact ((tellF_K 17 _ j).1.1).trans (trm_n _ _ _ _ _ _)
theorem n_Engine {s : QS} (h : q_n s ≤ 16) (o g sz : Int32) : q_n (pEngine s o g sz).2.2 = q_n s := by
  unfold pEngine
  refine wN_ind (P := fun S => q_n S = q_n s) h rfl (fun j _ => ?_)
  repeat' split
  all_goals first | rfl | exact ((tellF_K 17 _ j).1.1).trans (eng_n _ _ _ _)
theorem n_Uses {s : QS} (h : q_n s ≤ 16) (a b : Int32) : (pUses s a b).2.2 = s := by
  unfold pUses
  exact wN_ind (P := fun S => S = s) h rfl (fun j _ => wN_ind (P := fun S => S = s) h rfl (fun g _ => rfl))
theorem n_Node {s : QS} (h : q_n s ≤ 16) (k v : Int32) : (pNode s k v).2.2 = s := by
  unfold pNode
  refine wN_ind (P := fun S => S = s) h rfl (fun j _ => ?_)
  repeat' split
  all_goals rfl
theorem upd0 {α : Type} {g : Nat → α} {x : α} : va_up g (0 : Int32).toNatClampNeg x 0 = x := va_up_self g 0 x
set_option maxHeartbeats 4000000 in
set_option maxRecDepth 100000 in
theorem c_L_quote (l : Launch) (hl9 : l.stackTraces = false) (G : GT) (A : Nat → Prop) (lc : Nat → Nat) (s : QS) (z : ZS) (u : WT) (hR : rQ G lc s z u) (i : Int32) (a : Nat) (ha : a ∈ u.1) (hf : ∀ k, liv (q_n s) k → lc k ≠ a) (f : Nat → Int64) (he : u.2 a = oL G f) : KtW l y_L_quote b_L_quote 5 (some .int) [(0, 9, 12, 13), (0, 9, 16, 15)] 8 148 2 10 2 10 0 0 G A u [.ref (lc 0), .double (e8 i), .ref a] (KQ G A (Ri (fun r u' => r = nI (pQuote s i).1 ∧ (∃ f', u'.2 a = oL G f' ∧ ((pQuote s i).1 = 0 → f' 0 = (pQuote s i).2.1.toInt64)) ∧ LPq G lc s a u (pQuote s i).2.2 u'))) (NX) := by
  refine k_ofH (by decide) (Nat.le_of_ble_eq_true rfl) (fun p e st m below meth c ls hx hb hr hlocks hml htab hname hown ht hw hl => ?_)
  have hl : lv_has ls 5 [(0, .ref (lc 0)), (1, .double (e8 i)), (3, .ref a)] := hl
  obtain ⟨n0, hn0⟩ : ∃ n0, q_n s = n0 := ⟨_, rfl⟩
  have hw : Sk G A lc s z n0 u u st st.heap [] := ⟨hw, hR, fQ.rf, hn0⟩
  refine lv_aload_n hx hb d_L_quote_0 rfl (lv_at hl 2 rfl) ?_
  refine lv_iconst (v := 0) hx hb d_L_quote_1 (by decide) ?_
  refine lv_aload_n hx hb d_L_quote_2 rfl (lv_at hl 0 rfl) ?_
  refine lv_dload_n hx hb d_L_quote_3 rfl (lv_at hl 1 rfl) ?_
  refine kc_i (kr_V 1 (C := "QuoteGraph") (As := [.double (e8 i)]) (rest := [.int (0 : Int32), .ref a]) (c_Q_quote l hl9 G A lc s z u hR i) hx hb hml hown ht hw.1 gw_149 gw_150 gw_151 gw_42 gw_152 ⟨⟨by decide, by decide⟩, by decide +kernel⟩ ⟨by first | decide | (dsimp only; omega), by first | decide | (dsimp only; omega)⟩ (kr_Q hw) rfl hl.1 rfl (lv_room (Nat.le_of_ble_eq_true rfl)) d_L_quote_4 ⟨by first | decide | (dsimp only; omega), by first | decide | (dsimp only; omega)⟩) hw.1 (fun E ce q9 u1 H1 locs1 hp hw1 hce hcv hcl => ?_) (fun r1 u1 H1 locs1 hp1 hw1 => ?_)
  · obtain ⟨hne, hE, hgw⟩ := hp
    have hg : gQ G lc s u (pQuote s i).2.2 _ := hgw
    rcases cd_Quote s i with h0 | h1 | h2
    · exact absurd h0 hne
    · have hE : E = "java/lang/IllegalArgumentException" := by rw [hE, h1]; rfl
      subst hE
      refine k_catch (E := "java/lang/IllegalArgumentException") (name := "java/lang/IllegalArgumentException") htab hown ht hw1 [] (0, 9, 12, 13) [(0, 9, 16, 15)] rfl (fun z hz => nomatch hz) (by decide) (by decide) gw_147 (ew_of 161 _ (by decide +kernel) rfl) hce hcv hcl ?_
      refine lv_astore (lv' := [(4, .ref q9), (0, .ref (lc 0)), (1, .double (e8 i)), (3, .ref a)]) hx hb d_L_quote_12 hl (by decide) rfl (fun ls hl => ?_)
      refine lv_iconst (v := 1) hx hb d_L_quote_14 (by decide) ?_
      exact kt_i hx hb hr hlocks hw1 d_L_quote_15 (by exact ⟨by rw [h1]; rfl, ⟨f, (hg.at ha hf).2.trans he, fun h => absurd h hne⟩, hg.lp a⟩) (by first | decide | (dsimp only; omega)) (by first | decide | (dsimp only; omega))
    · have hE : E = "java/lang/IllegalStateException" := by rw [hE, h2]; rfl
      subst hE
      refine k_catch (E := "java/lang/IllegalStateException") (name := "java/lang/IllegalStateException") htab hown ht hw1 [(0, 9, 12, 13)] (0, 9, 16, 15) [] rfl (fun z hz => by simp only [List.mem_cons, List.not_mem_nil, or_false] at hz; subst hz; exact Or.inr ⟨by decide, "java/lang/IllegalArgumentException", ht _ gw_147, hw1.1.2.2.2.2.2.1 ("java/lang/IllegalStateException", "java/lang/IllegalArgumentException") (by decide)⟩) (by decide) (by decide) gw_148 (ew_of 234 _ (by decide +kernel) rfl) hce hcv hcl ?_
      refine lv_astore (lv' := [(4, .ref q9), (0, .ref (lc 0)), (1, .double (e8 i)), (3, .ref a)]) hx hb d_L_quote_16 hl (by decide) rfl (fun ls hl => ?_)
      refine lv_iconst (v := 2) hx hb d_L_quote_18 (by decide) ?_
      exact kt_i hx hb hr hlocks hw1 d_L_quote_19 (by exact ⟨by rw [h2]; rfl, ⟨f, (hg.at ha hf).2.trans he, fun h => absurd h hne⟩, hg.lp a⟩) (by first | decide | (dsimp only; omega)) (by first | decide | (dsimp only; omega))
  obtain ⟨h0, er1, hgw⟩ := hp1; subst er1
  have hg : gQ G lc s u (pQuote s i).2.2 _ := hgw
  obtain ⟨ha9, he9⟩ := hg.at ha hf
  rw [he] at he9
  refine lv_i2l hx hb d_L_quote_7 rfl ?_
  refine k_last hx hb hw1 ha9 he9 (i := 0) (x := (pQuote s i).2.1.toInt64) (by unfold vp_in; decide) d_L_quote_8 (fun H7 locs7 hw7 => ?_)
  refine lv_goto (tgt := 20) hx hb d_L_quote_9 (by decide) ?_
  refine lv_iconst (v := 0) hx hb d_L_quote_20 (by decide) ?_
  exact kt_i hx hb hr hlocks hw7 d_L_quote_21 (by exact ⟨by rw [h0]; rfl, ⟨_, va_up_self _ _ _, fun _ => by exact upd0⟩, (hg.lp a).up ha hf _⟩) (by first | decide | (dsimp only; omega)) (by first | decide | (dsimp only; omega))
set_option maxHeartbeats 4000000 in
set_option maxRecDepth 100000 in
theorem c_L_blend (l : Launch) (hl9 : l.stackTraces = false) (G : GT) (A : Nat → Prop) (lc : Nat → Nat) (s : QS) (z : ZS) (u : WT) (hR : rQ G lc s z u) (a0 b0 x y : Int32) (a : Nat) (ha : a ∈ u.1) (hf : ∀ k, liv (q_n s) k → lc k ≠ a) (f : Nat → Int64) (he : u.2 a = oL G f) : KtW l y_L_blend b_L_blend 9 (some .int) [(0, 14, 17, 13), (0, 14, 21, 15)] 8 156 2 14 2 14 0 0 G A u [.ref (lc 0), .int a0, .int b0, .double (e8 x), .double (e8 y), .ref a] (KQ G A (Ri (fun r u' => r = nI (pBlend s a0 b0 x y).1 ∧ (∃ f', u'.2 a = oL G f' ∧ ((pBlend s a0 b0 x y).1 = 0 → f' 0 = (pBlend s a0 b0 x y).2.1.toInt64)) ∧ LPq G lc s a u (pBlend s a0 b0 x y).2.2 u'))) (NX) := by
  refine k_ofH (by decide) (Nat.le_of_ble_eq_true rfl) (fun p e st m below meth c ls hx hb hr hlocks hml htab hname hown ht hw hl => ?_)
  have hl : lv_has ls 9 [(0, .ref (lc 0)), (1, .int a0), (2, .int b0), (3, .double (e8 x)), (5, .double (e8 y)), (7, .ref a)] := hl
  obtain ⟨n0, hn0⟩ : ∃ n0, q_n s = n0 := ⟨_, rfl⟩
  have hw : Sk G A lc s z n0 u u st st.heap [] := ⟨hw, hR, fQ.rf, hn0⟩
  refine lv_aload hx hb d_L_blend_0 (lv_at hl 5 rfl) ?_
  refine lv_iconst (v := 0) hx hb d_L_blend_2 (by decide) ?_
  refine lv_aload_n hx hb d_L_blend_3 rfl (lv_at hl 0 rfl) ?_
  refine lv_iload_n hx hb d_L_blend_4 rfl (lv_at hl 1 rfl) ?_
  refine lv_iload_n hx hb d_L_blend_5 rfl (lv_at hl 2 rfl) ?_
  refine lv_dload_n hx hb d_L_blend_6 rfl (lv_at hl 3 rfl) ?_
  refine lv_dload hx hb d_L_blend_7 (lv_at hl 4 rfl) ?_
  refine kc_i (kr_V 4 (C := "QuoteGraph") (As := [.int a0, .int b0, .double (e8 x), .double (e8 y)]) (rest := [.int (0 : Int32), .ref a]) (c_Q_blend l hl9 G A lc s z u hR a0 b0 x y) hx hb hml hown ht hw.1 gw_320 gw_321 gw_322 gw_42 gw_323 ⟨⟨by decide, by decide⟩, by decide +kernel⟩ ⟨by first | decide | (dsimp only; omega), by first | decide | (dsimp only; omega)⟩ (kr_Q hw) rfl hl.1 rfl (lv_room (Nat.le_of_ble_eq_true rfl)) d_L_blend_9 ⟨by first | decide | (dsimp only; omega), by first | decide | (dsimp only; omega)⟩) hw.1 (fun E ce q9 u1 H1 locs1 hp hw1 hce hcv hcl => ?_) (fun r1 u1 H1 locs1 hp1 hw1 => ?_)
  · obtain ⟨hne, hE, hgw⟩ := hp
    have hg : gQ G lc s u (pBlend s a0 b0 x y).2.2 _ := hgw
    rcases cd_Blend s a0 b0 x y with h0 | h1 | h2
    · exact absurd h0 hne
    · have hE : E = "java/lang/IllegalArgumentException" := by rw [hE, h1]; rfl
      subst hE
      refine k_catch (E := "java/lang/IllegalArgumentException") (name := "java/lang/IllegalArgumentException") htab hown ht hw1 [] (0, 14, 17, 13) [(0, 14, 21, 15)] rfl (fun z hz => nomatch hz) (by decide) (by decide) gw_147 (ew_of 161 _ (by decide +kernel) rfl) hce hcv hcl ?_
      refine lv_astore (lv' := [(8, .ref q9), (0, .ref (lc 0)), (1, .int a0), (2, .int b0), (3, .double (e8 x)), (5, .double (e8 y)), (7, .ref a)]) hx hb d_L_blend_17 hl (by decide) rfl (fun ls hl => ?_)
      refine lv_iconst (v := 1) hx hb d_L_blend_19 (by decide) ?_
      exact kt_i hx hb hr hlocks hw1 d_L_blend_20 (by exact ⟨by rw [h1]; rfl, ⟨f, (hg.at ha hf).2.trans he, fun h => absurd h hne⟩, hg.lp a⟩) (by first | decide | (dsimp only; omega)) (by first | decide | (dsimp only; omega))
    · have hE : E = "java/lang/IllegalStateException" := by rw [hE, h2]; rfl
      subst hE
      refine k_catch (E := "java/lang/IllegalStateException") (name := "java/lang/IllegalStateException") htab hown ht hw1 [(0, 14, 17, 13)] (0, 14, 21, 15) [] rfl (fun z hz => by simp only [List.mem_cons, List.not_mem_nil, or_false] at hz; subst hz; exact Or.inr ⟨by decide, "java/lang/IllegalArgumentException", ht _ gw_147, hw1.1.2.2.2.2.2.1 ("java/lang/IllegalStateException", "java/lang/IllegalArgumentException") (by decide)⟩) (by decide) (by decide) gw_148 (ew_of 234 _ (by decide +kernel) rfl) hce hcv hcl ?_
      refine lv_astore (lv' := [(8, .ref q9), (0, .ref (lc 0)), (1, .int a0), (2, .int b0), (3, .double (e8 x)), (5, .double (e8 y)), (7, .ref a)]) hx hb d_L_blend_21 hl (by decide) rfl (fun ls hl => ?_)
      refine lv_iconst (v := 2) hx hb d_L_blend_23 (by decide) ?_
      exact kt_i hx hb hr hlocks hw1 d_L_blend_24 (by exact ⟨by rw [h2]; rfl, ⟨f, (hg.at ha hf).2.trans he, fun h => absurd h hne⟩, hg.lp a⟩) (by first | decide | (dsimp only; omega)) (by first | decide | (dsimp only; omega))
  obtain ⟨h0, er1, hgw⟩ := hp1; subst er1
  have hg : gQ G lc s u (pBlend s a0 b0 x y).2.2 _ := hgw
  obtain ⟨ha9, he9⟩ := hg.at ha hf
  rw [he] at he9
  refine lv_i2l hx hb d_L_blend_12 rfl ?_
  refine k_last hx hb hw1 ha9 he9 (i := 0) (x := (pBlend s a0 b0 x y).2.1.toInt64) (by unfold vp_in; decide) d_L_blend_13 (fun H7 locs7 hw7 => ?_)
  refine lv_goto (tgt := 25) hx hb d_L_blend_14 (by decide) ?_
  refine lv_iconst (v := 0) hx hb d_L_blend_25 (by decide) ?_
  exact kt_i hx hb hr hlocks hw7 d_L_blend_26 (by exact ⟨by rw [h0]; rfl, ⟨_, va_up_self _ _ _, fun _ => by exact upd0⟩, (hg.lp a).up ha hf _⟩) (by first | decide | (dsimp only; omega)) (by first | decide | (dsimp only; omega))
set_option maxHeartbeats 4000000 in
set_option maxRecDepth 100000 in
theorem c_L_greater (l : Launch) (hl9 : l.stackTraces = false) (G : GT) (A : Nat → Prop) (lc : Nat → Nat) (s : QS) (z : ZS) (u : WT) (hR : rQ G lc s z u) (a0 b0 : Int32) (a : Nat) (ha : a ∈ u.1) (hf : ∀ k, liv (q_n s) k → lc k ≠ a) (f : Nat → Int64) (he : u.2 a = oL G f) : KtW l y_L_greater b_L_greater 5 (some .int) [(0, 10, 13, 13), (0, 10, 17, 15)] 8 145 2 12 2 12 0 0 G A u [.ref (lc 0), .int a0, .int b0, .ref a] (KQ G A (Ri (fun r u' => r = nI (pGreater s a0 b0).1 ∧ (∃ f', u'.2 a = oL G f' ∧ ((pGreater s a0 b0).1 = 0 → f' 0 = (pGreater s a0 b0).2.1.toInt64)) ∧ LPq G lc s a u (pGreater s a0 b0).2.2 u'))) (NX) := by
  refine k_ofH (by decide) (Nat.le_of_ble_eq_true rfl) (fun p e st m below meth c ls hx hb hr hlocks hml htab hname hown ht hw hl => ?_)
  have hl : lv_has ls 5 [(0, .ref (lc 0)), (1, .int a0), (2, .int b0), (3, .ref a)] := hl
  obtain ⟨n0, hn0⟩ : ∃ n0, q_n s = n0 := ⟨_, rfl⟩
  have hw : Sk G A lc s z n0 u u st st.heap [] := ⟨hw, hR, fQ.rf, hn0⟩
  refine lv_aload_n hx hb d_L_greater_0 rfl (lv_at hl 3 rfl) ?_
  refine lv_iconst (v := 0) hx hb d_L_greater_1 (by decide) ?_
  refine lv_aload_n hx hb d_L_greater_2 rfl (lv_at hl 0 rfl) ?_
  refine lv_iload_n hx hb d_L_greater_3 rfl (lv_at hl 1 rfl) ?_
  refine lv_iload_n hx hb d_L_greater_4 rfl (lv_at hl 2 rfl) ?_
  refine kc_i (kr_V 2 (C := "QuoteGraph") (As := [.int a0, .int b0]) (rest := [.int (0 : Int32), .ref a]) (c_Q_greater l hl9 G A lc s z u hR a0 b0) hx hb hml hown ht hw.1 gw_360 gw_361 gw_362 gw_42 gw_363 ⟨⟨by decide, by decide⟩, by decide +kernel⟩ ⟨by first | decide | (dsimp only; omega), by first | decide | (dsimp only; omega)⟩ (kr_Q hw) rfl hl.1 rfl (lv_room (Nat.le_of_ble_eq_true rfl)) d_L_greater_5 ⟨by first | decide | (dsimp only; omega), by first | decide | (dsimp only; omega)⟩) hw.1 (fun E ce q9 u1 H1 locs1 hp hw1 hce hcv hcl => ?_) (fun r1 u1 H1 locs1 hp1 hw1 => ?_)
  · obtain ⟨hne, hE, hgw⟩ := hp
    have hg : gQ G lc s u (pGreater s a0 b0).2.2 _ := hgw
    rcases cd_Greater s a0 b0 with h0 | h1 | h2
    · exact absurd h0 hne
    · have hE : E = "java/lang/IllegalArgumentException" := by rw [hE, h1]; rfl
      subst hE
      refine k_catch (E := "java/lang/IllegalArgumentException") (name := "java/lang/IllegalArgumentException") htab hown ht hw1 [] (0, 10, 13, 13) [(0, 10, 17, 15)] rfl (fun z hz => nomatch hz) (by decide) (by decide) gw_147 (ew_of 161 _ (by decide +kernel) rfl) hce hcv hcl ?_
      refine lv_astore (lv' := [(4, .ref q9), (0, .ref (lc 0)), (1, .int a0), (2, .int b0), (3, .ref a)]) hx hb d_L_greater_13 hl (by decide) rfl (fun ls hl => ?_)
      refine lv_iconst (v := 1) hx hb d_L_greater_15 (by decide) ?_
      exact kt_i hx hb hr hlocks hw1 d_L_greater_16 (by exact ⟨by rw [h1]; rfl, ⟨f, (hg.at ha hf).2.trans he, fun h => absurd h hne⟩, hg.lp a⟩) (by first | decide | (dsimp only; omega)) (by first | decide | (dsimp only; omega))
    · have hE : E = "java/lang/IllegalStateException" := by rw [hE, h2]; rfl
      subst hE
      refine k_catch (E := "java/lang/IllegalStateException") (name := "java/lang/IllegalStateException") htab hown ht hw1 [(0, 10, 13, 13)] (0, 10, 17, 15) [] rfl (fun z hz => by simp only [List.mem_cons, List.not_mem_nil, or_false] at hz; subst hz; exact Or.inr ⟨by decide, "java/lang/IllegalArgumentException", ht _ gw_147, hw1.1.2.2.2.2.2.1 ("java/lang/IllegalStateException", "java/lang/IllegalArgumentException") (by decide)⟩) (by decide) (by decide) gw_148 (ew_of 234 _ (by decide +kernel) rfl) hce hcv hcl ?_
      refine lv_astore (lv' := [(4, .ref q9), (0, .ref (lc 0)), (1, .int a0), (2, .int b0), (3, .ref a)]) hx hb d_L_greater_17 hl (by decide) rfl (fun ls hl => ?_)
      refine lv_iconst (v := 2) hx hb d_L_greater_19 (by decide) ?_
      exact kt_i hx hb hr hlocks hw1 d_L_greater_20 (by exact ⟨by rw [h2]; rfl, ⟨f, (hg.at ha hf).2.trans he, fun h => absurd h hne⟩, hg.lp a⟩) (by first | decide | (dsimp only; omega)) (by first | decide | (dsimp only; omega))
  obtain ⟨h0, er1, hgw⟩ := hp1; subst er1
  have hg : gQ G lc s u (pGreater s a0 b0).2.2 _ := hgw
  obtain ⟨ha9, he9⟩ := hg.at ha hf
  rw [he] at he9
  refine lv_i2l hx hb d_L_greater_8 rfl ?_
  refine k_last hx hb hw1 ha9 he9 (i := 0) (x := (pGreater s a0 b0).2.1.toInt64) (by unfold vp_in; decide) d_L_greater_9 (fun H7 locs7 hw7 => ?_)
  refine lv_goto (tgt := 21) hx hb d_L_greater_10 (by decide) ?_
  refine lv_iconst (v := 0) hx hb d_L_greater_21 (by decide) ?_
  exact kt_i hx hb hr hlocks hw7 d_L_greater_22 (by exact ⟨by rw [h0]; rfl, ⟨_, va_up_self _ _ _, fun _ => by exact upd0⟩, (hg.lp a).up ha hf _⟩) (by first | decide | (dsimp only; omega)) (by first | decide | (dsimp only; omega))
set_option maxHeartbeats 4000000 in
set_option maxRecDepth 100000 in
theorem c_L_option (l : Launch) (hl9 : l.stackTraces = false) (G : GT) (A : Nat → Prop) (lc : Nat → Nat) (s : QS) (z : ZS) (u : WT) (hR : rQ G lc s z u) (a0 b0 kd x sp : Int32) (a : Nat) (ha : a ∈ u.1) (hf : ∀ k, liv (q_n s) k → lc k ≠ a) (f : Nat → Int64) (he : u.2 a = oL G f) : KtW l y_L_option b_L_option 9 (some .int) [(0, 16, 19, 13), (0, 16, 23, 15)] 8 155 2 25 2 25 0 0 G A u [.ref (lc 0), .int a0, .int b0, .int kd, .double (e8 x), .int sp, .ref a] (KQ G A (Ri (fun r u' => r = nI (pOption s a0 b0 kd x sp).1 ∧ (∃ f', u'.2 a = oL G f' ∧ ((pOption s a0 b0 kd x sp).1 = 0 → f' 0 = (pOption s a0 b0 kd x sp).2.1.toInt64)) ∧ LPq G lc s a u (pOption s a0 b0 kd x sp).2.2 u'))) (NX) := by
  refine k_ofH (by decide) (Nat.le_of_ble_eq_true rfl) (fun p e st m below meth c ls hx hb hr hlocks hml htab hname hown ht hw hl => ?_)
  have hl : lv_has ls 9 [(0, .ref (lc 0)), (1, .int a0), (2, .int b0), (3, .int kd), (4, .double (e8 x)), (6, .int sp), (7, .ref a)] := hl
  obtain ⟨n0, hn0⟩ : ∃ n0, q_n s = n0 := ⟨_, rfl⟩
  have hw : Sk G A lc s z n0 u u st st.heap [] := ⟨hw, hR, fQ.rf, hn0⟩
  refine lv_aload hx hb d_L_option_0 (lv_at hl 6 rfl) ?_
  refine lv_iconst (v := 0) hx hb d_L_option_2 (by decide) ?_
  refine lv_aload_n hx hb d_L_option_3 rfl (lv_at hl 0 rfl) ?_
  refine lv_iload_n hx hb d_L_option_4 rfl (lv_at hl 1 rfl) ?_
  refine lv_iload_n hx hb d_L_option_5 rfl (lv_at hl 2 rfl) ?_
  refine lv_iload_n hx hb d_L_option_6 rfl (lv_at hl 3 rfl) ?_
  refine lv_dload hx hb d_L_option_7 (lv_at hl 4 rfl) ?_
  refine lv_iload hx hb d_L_option_9 (lv_at hl 5 rfl) ?_
  refine kc_i (kr_V 5 (C := "QuoteGraph") (As := [.int a0, .int b0, .int kd, .double (e8 x), .int sp]) (rest := [.int (0 : Int32), .ref a]) (c_Q_option l hl9 G A lc s z u hR a0 b0 kd x sp) hx hb hml hown ht hw.1 gw_385 gw_386 gw_387 gw_42 gw_388 ⟨⟨by decide, by decide⟩, by decide +kernel⟩ ⟨by first | decide | (dsimp only; omega), by first | decide | (dsimp only; omega)⟩ (kr_Q hw) rfl hl.1 rfl (lv_room (Nat.le_of_ble_eq_true rfl)) d_L_option_11 ⟨by first | decide | (dsimp only; omega), by first | decide | (dsimp only; omega)⟩) hw.1 (fun E ce q9 u1 H1 locs1 hp hw1 hce hcv hcl => ?_) (fun r1 u1 H1 locs1 hp1 hw1 => ?_)
  · obtain ⟨hne, hE, hgw⟩ := hp
    have hg : gQ G lc s u (pOption s a0 b0 kd x sp).2.2 _ := hgw
    rcases cd_Option s a0 b0 kd x sp with h0 | h1 | h2
    · exact absurd h0 hne
    · have hE : E = "java/lang/IllegalArgumentException" := by rw [hE, h1]; rfl
      subst hE
      refine k_catch (E := "java/lang/IllegalArgumentException") (name := "java/lang/IllegalArgumentException") htab hown ht hw1 [] (0, 16, 19, 13) [(0, 16, 23, 15)] rfl (fun z hz => nomatch hz) (by decide) (by decide) gw_147 (ew_of 161 _ (by decide +kernel) rfl) hce hcv hcl ?_
      refine lv_astore (lv' := [(8, .ref q9), (0, .ref (lc 0)), (1, .int a0), (2, .int b0), (3, .int kd), (4, .double (e8 x)), (6, .int sp), (7, .ref a)]) hx hb d_L_option_19 hl (by decide) rfl (fun ls hl => ?_)
      refine lv_iconst (v := 1) hx hb d_L_option_21 (by decide) ?_
      exact kt_i hx hb hr hlocks hw1 d_L_option_22 (by exact ⟨by rw [h1]; rfl, ⟨f, (hg.at ha hf).2.trans he, fun h => absurd h hne⟩, hg.lp a⟩) (by first | decide | (dsimp only; omega)) (by first | decide | (dsimp only; omega))
    · have hE : E = "java/lang/IllegalStateException" := by rw [hE, h2]; rfl
      subst hE
      refine k_catch (E := "java/lang/IllegalStateException") (name := "java/lang/IllegalStateException") htab hown ht hw1 [(0, 16, 19, 13)] (0, 16, 23, 15) [] rfl (fun z hz => by simp only [List.mem_cons, List.not_mem_nil, or_false] at hz; subst hz; exact Or.inr ⟨by decide, "java/lang/IllegalArgumentException", ht _ gw_147, hw1.1.2.2.2.2.2.1 ("java/lang/IllegalStateException", "java/lang/IllegalArgumentException") (by decide)⟩) (by decide) (by decide) gw_148 (ew_of 234 _ (by decide +kernel) rfl) hce hcv hcl ?_
      refine lv_astore (lv' := [(8, .ref q9), (0, .ref (lc 0)), (1, .int a0), (2, .int b0), (3, .int kd), (4, .double (e8 x)), (6, .int sp), (7, .ref a)]) hx hb d_L_option_23 hl (by decide) rfl (fun ls hl => ?_)
      refine lv_iconst (v := 2) hx hb d_L_option_25 (by decide) ?_
      exact kt_i hx hb hr hlocks hw1 d_L_option_26 (by exact ⟨by rw [h2]; rfl, ⟨f, (hg.at ha hf).2.trans he, fun h => absurd h hne⟩, hg.lp a⟩) (by first | decide | (dsimp only; omega)) (by first | decide | (dsimp only; omega))
  obtain ⟨h0, er1, hgw⟩ := hp1; subst er1
  have hg : gQ G lc s u (pOption s a0 b0 kd x sp).2.2 _ := hgw
  obtain ⟨ha9, he9⟩ := hg.at ha hf
  rw [he] at he9
  refine lv_i2l hx hb d_L_option_14 rfl ?_
  refine k_last hx hb hw1 ha9 he9 (i := 0) (x := (pOption s a0 b0 kd x sp).2.1.toInt64) (by unfold vp_in; decide) d_L_option_15 (fun H7 locs7 hw7 => ?_)
  refine lv_goto (tgt := 27) hx hb d_L_option_16 (by decide) ?_
  refine lv_iconst (v := 0) hx hb d_L_option_27 (by decide) ?_
  exact kt_i hx hb hr hlocks hw7 d_L_option_28 (by exact ⟨by rw [h0]; rfl, ⟨_, va_up_self _ _ _, fun _ => by exact upd0⟩, (hg.lp a).up ha hf _⟩) (by first | decide | (dsimp only; omega)) (by first | decide | (dsimp only; omega))
set_option maxHeartbeats 4000000 in
set_option maxRecDepth 100000 in
theorem c_L_terms (l : Launch) (hl9 : l.stackTraces = false) (G : GT) (A : Nat → Prop) (lc : Nat → Nat) (s : QS) (z : ZS) (u : WT) (hR : rQ G lc s z u) (o ra ch : Int32) (am : Bool) (kn : Int32) : KtW l y_L_terms b_L_terms 7 (some .int) [(0, 11, 14, 13), (0, 11, 18, 15)] 38 949 1 6 1 6 0 0 G A u [.ref (lc 0), .int o, .int ra, .int ch, .int (bI am), .int kn] (KQ G A (Ri (fun r u' => r = nI (pTerms s o ra ch am kn).1 ∧ gQ G lc s u (pTerms s o ra ch am kn).2.2 u'))) (NX) := by
  refine k_ofH (by decide) (Nat.le_of_ble_eq_true rfl) (fun p e st m below meth c ls hx hb hr hlocks hml htab hname hown ht hw hl => ?_)
  have hl : lv_has ls 7 [(0, .ref (lc 0)), (1, .int o), (2, .int ra), (3, .int ch), (4, .int (bI am)), (5, .int kn)] := hl
  obtain ⟨n0, hn0⟩ : ∃ n0, q_n s = n0 := ⟨_, rfl⟩
  have hw : Sk G A lc s z n0 u u st st.heap [] := ⟨hw, hR, fQ.rf, hn0⟩
  refine lv_aload_n hx hb d_L_terms_0 rfl (lv_at hl 0 rfl) ?_
  refine lv_iload_n hx hb d_L_terms_1 rfl (lv_at hl 1 rfl) ?_
  refine lv_iload_n hx hb d_L_terms_2 rfl (lv_at hl 2 rfl) ?_
  refine lv_iload_n hx hb d_L_terms_3 rfl (lv_at hl 3 rfl) ?_
  refine lv_iload hx hb d_L_terms_4 (lv_at hl 4 rfl) ?_
  refine lv_iload hx hb d_L_terms_6 (lv_at hl 5 rfl) ?_
  refine kc_v (kr_V 5 (C := "QuoteGraph") (As := [.int o, .int ra, .int ch, .int (bI am), .int kn]) (rest := []) (c_Q_terms l hl9 G A lc s z u hR o ra ch am kn) hx hb hml hown ht hw.1 gw_461 gw_462 gw_463 gw_42 gw_464 ⟨⟨by decide, by decide⟩, by decide +kernel⟩ ⟨by first | decide | (dsimp only; omega), by first | decide | (dsimp only; omega)⟩ (kr_Q hw) rfl hl.1 rfl (lv_room (Nat.le_of_ble_eq_true rfl)) d_L_terms_8 ⟨by first | decide | (dsimp only; omega), by first | decide | (dsimp only; omega)⟩) hw.1 (fun E ce q9 u1 H1 locs1 hp hw1 hce hcv hcl => ?_) (fun u1 H1 locs1 hp1 hw1 => ?_)
  · obtain ⟨hne, hE, hgw⟩ := hp
    have hg : gQ G lc s u (pTerms s o ra ch am kn).2.2 _ := gQ.of (n_Terms hR.1.1 o ra ch am kn) (hgw)
    rcases cd_Terms s o ra ch am kn with h0 | h1 | h2
    · exact absurd h0 hne
    · have hE : E = "java/lang/IllegalArgumentException" := by rw [hE, h1]; rfl
      subst hE
      refine k_catch (E := "java/lang/IllegalArgumentException") (name := "java/lang/IllegalArgumentException") htab hown ht hw1 [] (0, 11, 14, 13) [(0, 11, 18, 15)] rfl (fun z hz => nomatch hz) (by decide) (by decide) gw_147 (ew_of 161 _ (by decide +kernel) rfl) hce hcv hcl ?_
      refine lv_astore (lv' := [(6, .ref q9), (0, .ref (lc 0)), (1, .int o), (2, .int ra), (3, .int ch), (4, .int (bI am)), (5, .int kn)]) hx hb d_L_terms_14 hl (by decide) rfl (fun ls hl => ?_)
      refine lv_iconst (v := 1) hx hb d_L_terms_16 (by decide) ?_
      exact kt_i hx hb hr hlocks hw1 d_L_terms_17 (by exact ⟨by rw [h1]; rfl, hg⟩) (by first | decide | (dsimp only; omega)) (by first | decide | (dsimp only; omega))
    · have hE : E = "java/lang/IllegalStateException" := by rw [hE, h2]; rfl
      subst hE
      refine k_catch (E := "java/lang/IllegalStateException") (name := "java/lang/IllegalStateException") htab hown ht hw1 [(0, 11, 14, 13)] (0, 11, 18, 15) [] rfl (fun z hz => by simp only [List.mem_cons, List.not_mem_nil, or_false] at hz; subst hz; exact Or.inr ⟨by decide, "java/lang/IllegalArgumentException", ht _ gw_147, hw1.1.2.2.2.2.2.1 ("java/lang/IllegalStateException", "java/lang/IllegalArgumentException") (by decide)⟩) (by decide) (by decide) gw_148 (ew_of 234 _ (by decide +kernel) rfl) hce hcv hcl ?_
      refine lv_astore (lv' := [(6, .ref q9), (0, .ref (lc 0)), (1, .int o), (2, .int ra), (3, .int ch), (4, .int (bI am)), (5, .int kn)]) hx hb d_L_terms_18 hl (by decide) rfl (fun ls hl => ?_)
      refine lv_iconst (v := 2) hx hb d_L_terms_20 (by decide) ?_
      exact kt_i hx hb hr hlocks hw1 d_L_terms_21 (by exact ⟨by rw [h2]; rfl, hg⟩) (by first | decide | (dsimp only; omega)) (by first | decide | (dsimp only; omega))
  obtain ⟨h0, hgw⟩ := hp1
  have hg : gQ G lc s u (pTerms s o ra ch am kn).2.2 _ := gQ.of (n_Terms hR.1.1 o ra ch am kn) (hgw)
  refine lv_goto (tgt := 22) hx hb d_L_terms_11 (by decide) ?_
  refine lv_iconst (v := 0) hx hb d_L_terms_22 (by decide) ?_
  exact kt_i hx hb hr hlocks hw1 d_L_terms_23 (by exact ⟨by rw [h0]; rfl, hg⟩) (by first | decide | (dsimp only; omega)) (by first | decide | (dsimp only; omega))
set_option maxHeartbeats 4000000 in
set_option maxRecDepth 100000 in
theorem c_L_engine (l : Launch) (hl9 : l.stackTraces = false) (G : GT) (A : Nat → Prop) (lc : Nat → Nat) (s : QS) (z : ZS) (u : WT) (hR : rQ G lc s z u) (o eg sz : Int32) : KtW l y_L_engine b_L_engine 5 (some .int) [(0, 7, 10, 13), (0, 7, 14, 15)] 38 946 1 6 1 6 0 0 G A u [.ref (lc 0), .int o, .int eg, .int sz] (KQ G A (Ri (fun r u' => r = nI (pEngine s o eg sz).1 ∧ gQ G lc s u (pEngine s o eg sz).2.2 u'))) (NX) := by
  refine k_ofH (by decide) (Nat.le_of_ble_eq_true rfl) (fun p e st m below meth c ls hx hb hr hlocks hml htab hname hown ht hw hl => ?_)
  have hl : lv_has ls 5 [(0, .ref (lc 0)), (1, .int o), (2, .int eg), (3, .int sz)] := hl
  obtain ⟨n0, hn0⟩ : ∃ n0, q_n s = n0 := ⟨_, rfl⟩
  have hw : Sk G A lc s z n0 u u st st.heap [] := ⟨hw, hR, fQ.rf, hn0⟩
  refine lv_aload_n hx hb d_L_engine_0 rfl (lv_at hl 0 rfl) ?_
  refine lv_iload_n hx hb d_L_engine_1 rfl (lv_at hl 1 rfl) ?_
  refine lv_iload_n hx hb d_L_engine_2 rfl (lv_at hl 2 rfl) ?_
  refine lv_iload_n hx hb d_L_engine_3 rfl (lv_at hl 3 rfl) ?_
  refine kc_v (kr_V 3 (C := "QuoteGraph") (As := [.int o, .int eg, .int sz]) (rest := []) (c_Q_engine l hl9 G A lc s z u hR o eg sz) hx hb hml hown ht hw.1 gw_519 gw_520 gw_521 gw_42 gw_522 ⟨⟨by decide, by decide⟩, by decide +kernel⟩ ⟨by first | decide | (dsimp only; omega), by first | decide | (dsimp only; omega)⟩ (kr_Q hw) rfl hl.1 rfl (lv_room (Nat.le_of_ble_eq_true rfl)) d_L_engine_4 ⟨by first | decide | (dsimp only; omega), by first | decide | (dsimp only; omega)⟩) hw.1 (fun E ce q9 u1 H1 locs1 hp hw1 hce hcv hcl => ?_) (fun u1 H1 locs1 hp1 hw1 => ?_)
  · obtain ⟨hne, hE, hgw⟩ := hp
    have hg : gQ G lc s u (pEngine s o eg sz).2.2 _ := gQ.of (n_Engine hR.1.1 o eg sz) (hgw)
    rcases cd_Engine s o eg sz with h0 | h1 | h2
    · exact absurd h0 hne
    · have hE : E = "java/lang/IllegalArgumentException" := by rw [hE, h1]; rfl
      subst hE
      refine k_catch (E := "java/lang/IllegalArgumentException") (name := "java/lang/IllegalArgumentException") htab hown ht hw1 [] (0, 7, 10, 13) [(0, 7, 14, 15)] rfl (fun z hz => nomatch hz) (by decide) (by decide) gw_147 (ew_of 161 _ (by decide +kernel) rfl) hce hcv hcl ?_
      refine lv_astore (lv' := [(4, .ref q9), (0, .ref (lc 0)), (1, .int o), (2, .int eg), (3, .int sz)]) hx hb d_L_engine_10 hl (by decide) rfl (fun ls hl => ?_)
      refine lv_iconst (v := 1) hx hb d_L_engine_12 (by decide) ?_
      exact kt_i hx hb hr hlocks hw1 d_L_engine_13 (by exact ⟨by rw [h1]; rfl, hg⟩) (by first | decide | (dsimp only; omega)) (by first | decide | (dsimp only; omega))
    · have hE : E = "java/lang/IllegalStateException" := by rw [hE, h2]; rfl
      subst hE
      refine k_catch (E := "java/lang/IllegalStateException") (name := "java/lang/IllegalStateException") htab hown ht hw1 [(0, 7, 10, 13)] (0, 7, 14, 15) [] rfl (fun z hz => by simp only [List.mem_cons, List.not_mem_nil, or_false] at hz; subst hz; exact Or.inr ⟨by decide, "java/lang/IllegalArgumentException", ht _ gw_147, hw1.1.2.2.2.2.2.1 ("java/lang/IllegalStateException", "java/lang/IllegalArgumentException") (by decide)⟩) (by decide) (by decide) gw_148 (ew_of 234 _ (by decide +kernel) rfl) hce hcv hcl ?_
      refine lv_astore (lv' := [(4, .ref q9), (0, .ref (lc 0)), (1, .int o), (2, .int eg), (3, .int sz)]) hx hb d_L_engine_14 hl (by decide) rfl (fun ls hl => ?_)
      refine lv_iconst (v := 2) hx hb d_L_engine_16 (by decide) ?_
      exact kt_i hx hb hr hlocks hw1 d_L_engine_17 (by exact ⟨by rw [h2]; rfl, hg⟩) (by first | decide | (dsimp only; omega)) (by first | decide | (dsimp only; omega))
  obtain ⟨h0, hgw⟩ := hp1
  have hg : gQ G lc s u (pEngine s o eg sz).2.2 _ := gQ.of (n_Engine hR.1.1 o eg sz) (hgw)
  refine lv_goto (tgt := 18) hx hb d_L_engine_7 (by decide) ?_
  refine lv_iconst (v := 0) hx hb d_L_engine_18 (by decide) ?_
  exact kt_i hx hb hr hlocks hw1 d_L_engine_19 (by exact ⟨by rw [h0]; rfl, hg⟩) (by first | decide | (dsimp only; omega)) (by first | decide | (dsimp only; omega))
set_option maxHeartbeats 4000000 in
set_option maxRecDepth 100000 in
theorem c_L_freeze (l : Launch) (hl9 : l.stackTraces = false) (G : GT) (A : Nat → Prop) (lc : Nat → Nat) (s : QS) (z : ZS) (u : WT) (hR : rQ G lc s z u) (k : Int32) (on : Bool) : KtW l y_L_freeze b_L_freeze 4 (some .int) [(0, 6, 9, 13), (0, 6, 12, 15)] 38 944 1 6 1 6 0 0 G A u [.ref (lc 0), .int k, .int (bI on)] (KQ G A (Ri (fun r u' => r = nI (pFreeze s k on).1 ∧ gQ G lc s u (pFreeze s k on).2.2 u'))) (NX) := by
  refine k_ofH (by decide) (Nat.le_of_ble_eq_true rfl) (fun p e st m below meth c ls hx hb hr hlocks hml htab hname hown ht hw hl => ?_)
  have hl : lv_has ls 4 [(0, .ref (lc 0)), (1, .int k), (2, .int (bI on))] := hl
  obtain ⟨n0, hn0⟩ : ∃ n0, q_n s = n0 := ⟨_, rfl⟩
  have hw : Sk G A lc s z n0 u u st st.heap [] := ⟨hw, hR, fQ.rf, hn0⟩
  refine lv_aload_n hx hb d_L_freeze_0 rfl (lv_at hl 0 rfl) ?_
  refine lv_iload_n hx hb d_L_freeze_1 rfl (lv_at hl 1 rfl) ?_
  refine lv_iload_n hx hb d_L_freeze_2 rfl (lv_at hl 2 rfl) ?_
  refine kc_v (kr_V 2 (C := "QuoteGraph") (As := [.int k, .int (bI on)]) (rest := []) (c_Q_freeze l hl9 G A lc s z u hR k on) hx hb hml hown ht hw.1 gw_720 gw_721 gw_722 gw_42 gw_723 ⟨⟨by decide, by decide⟩, by decide +kernel⟩ ⟨by first | decide | (dsimp only; omega), by first | decide | (dsimp only; omega)⟩ (kr_Q hw) rfl hl.1 rfl (lv_room (Nat.le_of_ble_eq_true rfl)) d_L_freeze_3 ⟨by first | decide | (dsimp only; omega), by first | decide | (dsimp only; omega)⟩) hw.1 (fun E ce q9 u1 H1 locs1 hp hw1 hce hcv hcl => ?_) (fun u1 H1 locs1 hp1 hw1 => ?_)
  · obtain ⟨hne, hE, hgw⟩ := hp
    have hg : gQ G lc s u (pFreeze s k on).2.2 _ := gQ.of (n_Freeze hR.1.1 k on) (hgw)
    rcases cd_Freeze s k on with h0 | h1 | h2
    · exact absurd h0 hne
    · have hE : E = "java/lang/IllegalArgumentException" := by rw [hE, h1]; rfl
      subst hE
      refine k_catch (E := "java/lang/IllegalArgumentException") (name := "java/lang/IllegalArgumentException") htab hown ht hw1 [] (0, 6, 9, 13) [(0, 6, 12, 15)] rfl (fun z hz => nomatch hz) (by decide) (by decide) gw_147 (ew_of 161 _ (by decide +kernel) rfl) hce hcv hcl ?_
      refine lv_astore_n (lv' := [(3, .ref q9), (0, .ref (lc 0)), (1, .int k), (2, .int (bI on))]) hx hb d_L_freeze_9 rfl hl (by decide) rfl (fun ls hl => ?_)
      refine lv_iconst (v := 1) hx hb d_L_freeze_10 (by decide) ?_
      exact kt_i hx hb hr hlocks hw1 d_L_freeze_11 (by exact ⟨by rw [h1]; rfl, hg⟩) (by first | decide | (dsimp only; omega)) (by first | decide | (dsimp only; omega))
    · have hE : E = "java/lang/IllegalStateException" := by rw [hE, h2]; rfl
      subst hE
      refine k_catch (E := "java/lang/IllegalStateException") (name := "java/lang/IllegalStateException") htab hown ht hw1 [(0, 6, 9, 13)] (0, 6, 12, 15) [] rfl (fun z hz => by simp only [List.mem_cons, List.not_mem_nil, or_false] at hz; subst hz; exact Or.inr ⟨by decide, "java/lang/IllegalArgumentException", ht _ gw_147, hw1.1.2.2.2.2.2.1 ("java/lang/IllegalStateException", "java/lang/IllegalArgumentException") (by decide)⟩) (by decide) (by decide) gw_148 (ew_of 234 _ (by decide +kernel) rfl) hce hcv hcl ?_
      refine lv_astore_n (lv' := [(3, .ref q9), (0, .ref (lc 0)), (1, .int k), (2, .int (bI on))]) hx hb d_L_freeze_12 rfl hl (by decide) rfl (fun ls hl => ?_)
      refine lv_iconst (v := 2) hx hb d_L_freeze_13 (by decide) ?_
      exact kt_i hx hb hr hlocks hw1 d_L_freeze_14 (by exact ⟨by rw [h2]; rfl, hg⟩) (by first | decide | (dsimp only; omega)) (by first | decide | (dsimp only; omega))
  obtain ⟨h0, hgw⟩ := hp1
  have hg : gQ G lc s u (pFreeze s k on).2.2 _ := gQ.of (n_Freeze hR.1.1 k on) (hgw)
  refine lv_goto (tgt := 15) hx hb d_L_freeze_6 (by decide) ?_
  refine lv_iconst (v := 0) hx hb d_L_freeze_15 (by decide) ?_
  exact kt_i hx hb hr hlocks hw1 d_L_freeze_16 (by exact ⟨by rw [h0]; rfl, hg⟩) (by first | decide | (dsimp only; omega)) (by first | decide | (dsimp only; omega))
set_option maxHeartbeats 4000000 in
set_option maxRecDepth 100000 in
theorem c_L_set (l : Launch) (hl9 : l.stackTraces = false) (G : GT) (A : Nat → Prop) (lc : Nat → Nat) (s : QS) (z : ZS) (u : WT) (hR : rQ G lc s z u) (k i : Int32) (a : Nat) (ha : a ∈ u.1) (hf : ∀ k, liv (q_n s) k → lc k ≠ a) (f : Nat → Int64) (he : u.2 a = oL G f) : KtW l y_L_set b_L_set 6 (some .int) [(0, 11, 14, 13)] 39 974 1 6 1 6 0 0 G A u [.ref (lc 0), .int k, .double (e8 i), .ref a] (KQ G A (Ri (fun r u' => r = nI (pSet s k i).1 ∧ (∃ f', u'.2 a = oL G f' ∧ ((pSet s k i).1 = 0 → f' 0 = (pSet s k i).2.1.toInt64)) ∧ LPq G lc s a u (pSet s k i).2.2 u'))) (NX) := by
  refine k_ofH (by decide) (Nat.le_of_ble_eq_true rfl) (fun p e st m below meth c ls hx hb hr hlocks hml htab hname hown ht hw hl => ?_)
  have hl : lv_has ls 6 [(0, .ref (lc 0)), (1, .int k), (2, .double (e8 i)), (4, .ref a)] := hl
  obtain ⟨n0, hn0⟩ : ∃ n0, q_n s = n0 := ⟨_, rfl⟩
  have hw : Sk G A lc s z n0 u u st st.heap [] := ⟨hw, hR, fQ.rf, hn0⟩
  refine lv_aload hx hb d_L_set_0 (lv_at hl 3 rfl) ?_
  refine lv_iconst (v := 0) hx hb d_L_set_2 (by decide) ?_
  refine lv_aload_n hx hb d_L_set_3 rfl (lv_at hl 0 rfl) ?_
  refine lv_iload_n hx hb d_L_set_4 rfl (lv_at hl 1 rfl) ?_
  refine lv_dload_n hx hb d_L_set_5 rfl (lv_at hl 2 rfl) ?_
  refine kc_i (kr_V 2 (C := "QuoteGraph") (As := [.int k, .double (e8 i)]) (rest := [.int (0 : Int32), .ref a]) (c_Q_set l hl9 G A lc s z u hR k i) hx hb hml hown ht hw.1 gw_526 gw_527 gw_528 gw_42 gw_529 ⟨⟨by decide, by decide⟩, by decide +kernel⟩ ⟨by first | decide | (dsimp only; omega), by first | decide | (dsimp only; omega)⟩ (kr_Q hw) rfl hl.1 rfl (lv_room (Nat.le_of_ble_eq_true rfl)) d_L_set_6 ⟨by first | decide | (dsimp only; omega), by first | decide | (dsimp only; omega)⟩) hw.1 (fun E ce q9 u1 H1 locs1 hp hw1 hce hcv hcl => ?_) (fun r1 u1 H1 locs1 hp1 hw1 => ?_)
  · obtain ⟨hne, hE, hgw⟩ := hp
    have hg : gQ G lc s u (pSet s k i).2.2 _ := gQ.of (n_Set hR.1.1 k i) (hgw)
    rcases cd_Set s k i with h0 | h1
    · exact absurd h0 hne
    · have hE : E = "java/lang/IllegalArgumentException" := by rw [hE, h1]; rfl
      subst hE
      refine k_catch (E := "java/lang/IllegalArgumentException") (name := "java/lang/IllegalArgumentException") htab hown ht hw1 [] (0, 11, 14, 13) [] rfl (fun z hz => nomatch hz) (by decide) (by decide) gw_147 (ew_of 161 _ (by decide +kernel) rfl) hce hcv hcl ?_
      refine lv_astore (lv' := [(5, .ref q9), (0, .ref (lc 0)), (1, .int k), (2, .double (e8 i)), (4, .ref a)]) hx hb d_L_set_14 hl (by decide) rfl (fun ls hl => ?_)
      refine lv_iconst (v := 1) hx hb d_L_set_16 (by decide) ?_
      exact kt_i hx hb hr hlocks hw1 d_L_set_17 (by exact ⟨by rw [h1]; rfl, ⟨f, (hg.at ha hf).2.trans he, fun h => absurd h hne⟩, hg.lp a⟩) (by first | decide | (dsimp only; omega)) (by first | decide | (dsimp only; omega))
  obtain ⟨h0, er1, hgw⟩ := hp1; subst er1
  have hg : gQ G lc s u (pSet s k i).2.2 _ := gQ.of (n_Set hR.1.1 k i) (hgw)
  obtain ⟨ha9, he9⟩ := hg.at ha hf
  rw [he] at he9
  refine lv_i2l hx hb d_L_set_9 rfl ?_
  refine k_last hx hb hw1 ha9 he9 (i := 0) (x := (pSet s k i).2.1.toInt64) (by unfold vp_in; decide) d_L_set_10 (fun H7 locs7 hw7 => ?_)
  refine lv_goto (tgt := 18) hx hb d_L_set_11 (by decide) ?_
  refine lv_iconst (v := 0) hx hb d_L_set_18 (by decide) ?_
  exact kt_i hx hb hr hlocks hw7 d_L_set_19 (by exact ⟨by rw [h0]; rfl, ⟨_, va_up_self _ _ _, fun _ => by exact upd0⟩, (hg.lp a).up ha hf _⟩) (by first | decide | (dsimp only; omega)) (by first | decide | (dsimp only; omega))
set_option maxHeartbeats 4000000 in
set_option maxRecDepth 100000 in
theorem c_L_uses (l : Launch) (hl9 : l.stackTraces = false) (G : GT) (A : Nat → Prop) (lc : Nat → Nat) (s : QS) (z : ZS) (u : WT) (hR : rQ G lc s z u) (a0 b0 : Int32) (a : Nat) (ha : a ∈ u.1) (hf : ∀ k, liv (q_n s) k → lc k ≠ a) (f : Nat → Int64) (he : u.2 a = oL G f) : KtW l y_L_uses b_L_uses 5 (some .int) [(0, 17, 20, 13)] 8 143 1 6 1 6 0 0 G A u [.ref (lc 0), .int a0, .int b0, .ref a] (KQ G A (Ri (fun r u' => r = nI (pUses s a0 b0).1 ∧ (∃ f', u'.2 a = oL G f' ∧ ((pUses s a0 b0).1 = 0 → f' 0 = (if (pUses s a0 b0).2.1 = true then 1 else 0))) ∧ LPq G lc s a u (pUses s a0 b0).2.2 u'))) (NX) := by
  refine k_ofH (by decide) (Nat.le_of_ble_eq_true rfl) (fun p e st m below meth c ls hx hb hr hlocks hml htab hname hown ht hw hl => ?_)
  have hl : lv_has ls 5 [(0, .ref (lc 0)), (1, .int a0), (2, .int b0), (3, .ref a)] := hl
  obtain ⟨n0, hn0⟩ : ∃ n0, q_n s = n0 := ⟨_, rfl⟩
  have hw : Sk G A lc s z n0 u u st st.heap [] := ⟨hw, hR, fQ.rf, hn0⟩
  refine lv_aload_n hx hb d_L_uses_0 rfl (lv_at hl 3 rfl) ?_
  refine lv_iconst (v := 0) hx hb d_L_uses_1 (by decide) ?_
  refine lv_aload_n hx hb d_L_uses_2 rfl (lv_at hl 0 rfl) ?_
  refine lv_iload_n hx hb d_L_uses_3 rfl (lv_at hl 1 rfl) ?_
  refine lv_iload_n hx hb d_L_uses_4 rfl (lv_at hl 2 rfl) ?_
  refine kc_i (kr_V 2 (C := "QuoteGraph") (As := [.int a0, .int b0]) (rest := [.int (0 : Int32), .ref a]) (c_Q_uses l hl9 G A lc s z u hR a0 b0) hx hb hml hown ht hw.1 gw_764 gw_765 gw_766 gw_42 gw_767 ⟨⟨by decide, by decide⟩, by decide +kernel⟩ ⟨by first | decide | (dsimp only; omega), by first | decide | (dsimp only; omega)⟩ (kr_Q hw) rfl hl.1 rfl (lv_room (Nat.le_of_ble_eq_true rfl)) d_L_uses_5 ⟨by first | decide | (dsimp only; omega), by first | decide | (dsimp only; omega)⟩) hw.1 (fun E ce q9 u1 H1 locs1 hp hw1 hce hcv hcl => ?_) (fun r1 u1 H1 locs1 hp1 hw1 => ?_)
  · obtain ⟨hne, hE, hgw⟩ := hp
    have hg : gQ G lc s u (pUses s a0 b0).2.2 _ := gQ.of (by rw [n_Uses hR.1.1]) (hgw)
    rcases cd_Uses s a0 b0 with h0 | h1
    · exact absurd h0 hne
    · have hE : E = "java/lang/IllegalArgumentException" := by rw [hE, h1]; rfl
      subst hE
      refine k_catch (E := "java/lang/IllegalArgumentException") (name := "java/lang/IllegalArgumentException") htab hown ht hw1 [] (0, 17, 20, 13) [] rfl (fun z hz => nomatch hz) (by decide) (by decide) gw_147 (ew_of 161 _ (by decide +kernel) rfl) hce hcv hcl ?_
      refine lv_astore (lv' := [(4, .ref q9), (0, .ref (lc 0)), (1, .int a0), (2, .int b0), (3, .ref a)]) hx hb d_L_uses_20 hl (by decide) rfl (fun ls hl => ?_)
      refine lv_iconst (v := 1) hx hb d_L_uses_22 (by decide) ?_
      exact kt_i hx hb hr hlocks hw1 d_L_uses_23 (by exact ⟨by rw [h1]; rfl, ⟨f, (hg.at ha hf).2.trans he, fun h => absurd h hne⟩, hg.lp a⟩) (by first | decide | (dsimp only; omega)) (by first | decide | (dsimp only; omega))
  obtain ⟨h0, er1, hgw⟩ := hp1; subst er1
  have hg : gQ G lc s u (pUses s a0 b0).2.2 _ := gQ.of (by rw [n_Uses hR.1.1]) (hgw)
  obtain ⟨ha9, he9⟩ := hg.at ha hf
  rw [he] at he9
  refine lv_if_eq (tgt := 15) hx hb d_L_uses_8 (by decide) (fun c2 => ?_) (fun c2 => ?_)
  · refine lv_lconst (v := 0) hx hb d_L_uses_15 (by decide) ?_
    refine k_last hx hb hw1 ha9 he9 (i := 0) (x := 0) (by unfold vp_in; decide) d_L_uses_16 (fun H7 locs7 hw7 => ?_)
    refine lv_goto (tgt := 24) hx hb d_L_uses_17 (by decide) ?_
    refine lv_iconst (v := 0) hx hb d_L_uses_24 (by decide) ?_
    exact kt_i hx hb hr hlocks hw7 d_L_uses_25 (by exact ⟨by rw [h0]; rfl, ⟨_, va_up_self _ _ _, fun _ => by rw [if_neg (by rw [(bI_eq _).mp c2]; decide)]; exact upd0⟩, (hg.lp a).up ha hf _⟩) (by first | decide | (dsimp only; omega)) (by first | decide | (dsimp only; omega))
  · refine lv_lconst (v := 1) hx hb d_L_uses_11 (by decide) ?_
    refine lv_goto (tgt := 16) hx hb d_L_uses_12 (by decide) ?_
    refine k_last hx hb hw1 ha9 he9 (i := 0) (x := 1) (by unfold vp_in; decide) d_L_uses_16 (fun H7 locs7 hw7 => ?_)
    refine lv_goto (tgt := 24) hx hb d_L_uses_17 (by decide) ?_
    refine lv_iconst (v := 0) hx hb d_L_uses_24 (by decide) ?_
    exact kt_i hx hb hr hlocks hw7 d_L_uses_25 (by exact ⟨by rw [h0]; rfl, ⟨_, va_up_self _ _ _, fun _ => by rw [if_pos ((bI_ne _).mp c2)]; exact upd0⟩, (hg.lp a).up ha hf _⟩) (by first | decide | (dsimp only; omega)) (by first | decide | (dsimp only; omega))
set_option maxHeartbeats 4000000 in
set_option maxRecDepth 100000 in
theorem c_L_node (l : Launch) (hl9 : l.stackTraces = false) (G : GT) (A : Nat → Prop) (lc : Nat → Nat) (s : QS) (z : ZS) (u : WT) (hR : rQ G lc s z u) (k v : Int32) (a : Nat) (ha : a ∈ u.1) (hf : ∀ k, liv (q_n s) k → lc k ≠ a) (f : Nat → Int64) (he : u.2 a = oL G f) : KtW l y_L_node b_L_node 5 (some .int) [(0, 10, 13, 13)] 8 144 1 6 1 6 0 0 G A u [.ref (lc 0), .int k, .int v, .ref a] (KQ G A (Ri (fun r u' => r = nI (pNode s k v).1 ∧ (∃ f', u'.2 a = oL G f' ∧ ((pNode s k v).1 = 0 → f' 0 = (pNode s k v).2.1.toInt64)) ∧ LPq G lc s a u (pNode s k v).2.2 u'))) (NX) := by
  refine k_ofH (by decide) (Nat.le_of_ble_eq_true rfl) (fun p e st m below meth c ls hx hb hr hlocks hml htab hname hown ht hw hl => ?_)
  have hl : lv_has ls 5 [(0, .ref (lc 0)), (1, .int k), (2, .int v), (3, .ref a)] := hl
  obtain ⟨n0, hn0⟩ : ∃ n0, q_n s = n0 := ⟨_, rfl⟩
  have hw : Sk G A lc s z n0 u u st st.heap [] := ⟨hw, hR, fQ.rf, hn0⟩
  refine lv_aload_n hx hb d_L_node_0 rfl (lv_at hl 3 rfl) ?_
  refine lv_iconst (v := 0) hx hb d_L_node_1 (by decide) ?_
  refine lv_aload_n hx hb d_L_node_2 rfl (lv_at hl 0 rfl) ?_
  refine lv_iload_n hx hb d_L_node_3 rfl (lv_at hl 1 rfl) ?_
  refine lv_iload_n hx hb d_L_node_4 rfl (lv_at hl 2 rfl) ?_
  refine kc_i (kr_V 2 (C := "QuoteGraph") (As := [.int k, .int v]) (rest := [.int (0 : Int32), .ref a]) (c_Q_node l hl9 G A lc s z u hR k v) hx hb hml hown ht hw.1 gw_771 gw_772 gw_773 gw_42 gw_774 ⟨⟨by decide, by decide⟩, by decide +kernel⟩ ⟨by first | decide | (dsimp only; omega), by first | decide | (dsimp only; omega)⟩ (kr_Q hw) rfl hl.1 rfl (lv_room (Nat.le_of_ble_eq_true rfl)) d_L_node_5 ⟨by first | decide | (dsimp only; omega), by first | decide | (dsimp only; omega)⟩) hw.1 (fun E ce q9 u1 H1 locs1 hp hw1 hce hcv hcl => ?_) (fun r1 u1 H1 locs1 hp1 hw1 => ?_)
  · obtain ⟨hne, hE, hgw⟩ := hp
    have hg : gQ G lc s u (pNode s k v).2.2 _ := gQ.of (by rw [n_Node hR.1.1]) (hgw)
    rcases cd_Node s k v with h0 | h1
    · exact absurd h0 hne
    · have hE : E = "java/lang/IllegalArgumentException" := by rw [hE, h1]; rfl
      subst hE
      refine k_catch (E := "java/lang/IllegalArgumentException") (name := "java/lang/IllegalArgumentException") htab hown ht hw1 [] (0, 10, 13, 13) [] rfl (fun z hz => nomatch hz) (by decide) (by decide) gw_147 (ew_of 161 _ (by decide +kernel) rfl) hce hcv hcl ?_
      refine lv_astore (lv' := [(4, .ref q9), (0, .ref (lc 0)), (1, .int k), (2, .int v), (3, .ref a)]) hx hb d_L_node_13 hl (by decide) rfl (fun ls hl => ?_)
      refine lv_iconst (v := 1) hx hb d_L_node_15 (by decide) ?_
      exact kt_i hx hb hr hlocks hw1 d_L_node_16 (by exact ⟨by rw [h1]; rfl, ⟨f, (hg.at ha hf).2.trans he, fun h => absurd h hne⟩, hg.lp a⟩) (by first | decide | (dsimp only; omega)) (by first | decide | (dsimp only; omega))
  obtain ⟨h0, er1, hgw⟩ := hp1; subst er1
  have hg : gQ G lc s u (pNode s k v).2.2 _ := gQ.of (by rw [n_Node hR.1.1]) (hgw)
  obtain ⟨ha9, he9⟩ := hg.at ha hf
  rw [he] at he9
  refine lv_i2l hx hb d_L_node_8 rfl ?_
  refine k_last hx hb hw1 ha9 he9 (i := 0) (x := (pNode s k v).2.1.toInt64) (by unfold vp_in; decide) d_L_node_9 (fun H7 locs7 hw7 => ?_)
  refine lv_goto (tgt := 17) hx hb d_L_node_10 (by decide) ?_
  refine lv_iconst (v := 0) hx hb d_L_node_17 (by decide) ?_
  exact kt_i hx hb hr hlocks hw7 d_L_node_18 (by exact ⟨by rw [h0]; rfl, ⟨_, va_up_self _ _ _, fun _ => by exact upd0⟩, (hg.lp a).up ha hf _⟩) (by first | decide | (dsimp only; omega)) (by first | decide | (dsimp only; omega))
set_option maxHeartbeats 4000000 in
set_option maxRecDepth 100000 in
theorem c_L_value (l : Launch) (hl9 : l.stackTraces = false) (G : GT) (A : Nat → Prop) (lc : Nat → Nat) (s : QS) (z : ZS) (u : WT) (hR : rQ G lc s z u) (hrn : rnk s) (hI : allI s) (k : Int32) (a : Nat) (ha : a ∈ u.1) (hf : ∀ k, liv (q_n s) k → lc k ≠ a) (f : Nat → UInt64) (he : u.2 a = oD G f) : KtW l y_L_value b_L_value 4 (some .int) [(0, 8, 11, 13), (0, 8, 14, 45), (0, 8, 17, 47)] 31 989 2 12 2 12 0 0 G A u [.ref (lc 0), .int k, .ref a] (KQ G A (Ri (fun r u' => r = nI (pValue s k).1 ∧ (∃ f', u'.2 a = oD G f' ∧ ((pValue s k).1 = 0 → f' 0 = (pValue s k).2.1)) ∧ LPq G lc s a u (pValue s k).2.2 u'))) (NX) := by
  refine k_ofH (by decide) (Nat.le_of_ble_eq_true rfl) (fun p e st m below meth c ls hx hb hr hlocks hml htab hname hown ht hw hl => ?_)
  have hl : lv_has ls 4 [(0, .ref (lc 0)), (1, .int k), (2, .ref a)] := hl
  obtain ⟨n0, hn0⟩ : ∃ n0, q_n s = n0 := ⟨_, rfl⟩
  have hw : Sk G A lc s z n0 u u st st.heap [] := ⟨hw, hR, fQ.rf, hn0⟩
  refine lv_aload_n hx hb d_L_value_0 rfl (lv_at hl 2 rfl) ?_
  refine lv_iconst (v := 0) hx hb d_L_value_1 (by decide) ?_
  refine lv_aload_n hx hb d_L_value_2 rfl (lv_at hl 0 rfl) ?_
  refine lv_iload_n hx hb d_L_value_3 rfl (lv_at hl 1 rfl) ?_
  refine kc_d (kr_V 1 (C := "QuoteGraph") (As := [.int k]) (rest := [.int (0 : Int32), .ref a]) (c_Q_value l hl9 G A lc s z u hR hrn hI k) hx hb hml hown ht hw.1 gw_540 gw_541 gw_542 gw_42 gw_543 ⟨⟨by decide, by decide⟩, by decide +kernel⟩ ⟨by first | decide | (dsimp only; omega), by first | decide | (dsimp only; omega)⟩ (kr_Q hw) rfl hl.1 rfl (lv_room (Nat.le_of_ble_eq_true rfl)) d_L_value_4 ⟨by first | decide | (dsimp only; omega), by first | decide | (dsimp only; omega)⟩) hw.1 (fun E ce q9 u1 H1 locs1 hp hw1 hce hcv hcl => ?_) (fun r1 u1 H1 locs1 hp1 hw1 => ?_)
  · obtain ⟨hne, hE, hgw⟩ := hp
    have hg : gQ G lc s u (pValue s k).2.2 _ := gQ.of (n_Value hR.1.1 k) (hgw)
    rcases cd_Value s k with h0 | h1 | h2 | h3
    · exact absurd h0 hne
    · have hE : E = "java/lang/IllegalArgumentException" := by rw [hE, h1]; rfl
      subst hE
      refine k_catch (E := "java/lang/IllegalArgumentException") (name := "java/lang/IllegalArgumentException") htab hown ht hw1 [] (0, 8, 11, 13) [(0, 8, 14, 45), (0, 8, 17, 47)] rfl (fun z hz => nomatch hz) (by decide) (by decide) gw_147 (ew_of 161 _ (by decide +kernel) rfl) hce hcv hcl ?_
      refine lv_astore_n (lv' := [(3, .ref q9), (0, .ref (lc 0)), (1, .int k), (2, .ref a)]) hx hb d_L_value_11 rfl hl (by decide) rfl (fun ls hl => ?_)
      refine lv_iconst (v := 1) hx hb d_L_value_12 (by decide) ?_
      exact kt_i hx hb hr hlocks hw1 d_L_value_13 (by exact ⟨by rw [h1]; rfl, ⟨f, (hg.at ha hf).2.trans he, fun h => absurd h hne⟩, hg.lp a⟩) (by first | decide | (dsimp only; omega)) (by first | decide | (dsimp only; omega))
    · have hE : E = "java/lang/ArithmeticException" := by rw [hE, h2]; rfl
      subst hE
      refine k_catch (E := "java/lang/ArithmeticException") (name := "java/lang/ArithmeticException") htab hown ht hw1 [(0, 8, 11, 13)] (0, 8, 14, 45) [(0, 8, 17, 47)] rfl (fun z hz => by simp only [List.mem_cons, List.not_mem_nil, or_false] at hz; subst hz; exact Or.inr ⟨by decide, "java/lang/IllegalArgumentException", ht _ gw_147, hw1.1.2.2.2.2.2.1 ("java/lang/ArithmeticException", "java/lang/IllegalArgumentException") (by decide)⟩) (by decide) (by decide) gw_538 (ew_of 570 _ (by decide +kernel) rfl) hce hcv hcl ?_
      refine lv_astore_n (lv' := [(3, .ref q9), (0, .ref (lc 0)), (1, .int k), (2, .ref a)]) hx hb d_L_value_14 rfl hl (by decide) rfl (fun ls hl => ?_)
      refine lv_iconst (v := 2) hx hb d_L_value_15 (by decide) ?_
      exact kt_i hx hb hr hlocks hw1 d_L_value_16 (by exact ⟨by rw [h2]; rfl, ⟨f, (hg.at ha hf).2.trans he, fun h => absurd h hne⟩, hg.lp a⟩) (by first | decide | (dsimp only; omega)) (by first | decide | (dsimp only; omega))
    · have hE : E = "java/lang/UnsupportedOperationException" := by rw [hE, h3]; rfl
      subst hE
      refine k_catch (E := "java/lang/UnsupportedOperationException") (name := "java/lang/UnsupportedOperationException") htab hown ht hw1 [(0, 8, 11, 13), (0, 8, 14, 45)] (0, 8, 17, 47) [] rfl (fun z hz => by simp only [List.mem_cons, List.not_mem_nil, or_false] at hz; exact hz.elim (fun hz => by subst hz; exact Or.inr ⟨by decide, "java/lang/IllegalArgumentException", ht _ gw_147, hw1.1.2.2.2.2.2.1 ("java/lang/UnsupportedOperationException", "java/lang/IllegalArgumentException") (by decide)⟩) (fun hz => by subst hz; exact Or.inr ⟨by decide, "java/lang/ArithmeticException", ht _ gw_538, hw1.1.2.2.2.2.2.1 ("java/lang/UnsupportedOperationException", "java/lang/ArithmeticException") (by decide)⟩)) (by decide) (by decide) gw_539 (ew_of 610 _ (by decide +kernel) rfl) hce hcv hcl ?_
      refine lv_astore_n (lv' := [(3, .ref q9), (0, .ref (lc 0)), (1, .int k), (2, .ref a)]) hx hb d_L_value_17 rfl hl (by decide) rfl (fun ls hl => ?_)
      refine lv_iconst (v := 3) hx hb d_L_value_18 (by decide) ?_
      exact kt_i hx hb hr hlocks hw1 d_L_value_19 (by exact ⟨by rw [h3]; rfl, ⟨f, (hg.at ha hf).2.trans he, fun h => absurd h hne⟩, hg.lp a⟩) (by first | decide | (dsimp only; omega)) (by first | decide | (dsimp only; omega))
  obtain ⟨h0, er1, hgw⟩ := hp1; subst er1
  have hg : gQ G lc s u (pValue s k).2.2 _ := gQ.of (n_Value hR.1.1 k) (hgw)
  obtain ⟨ha9, he9⟩ := hg.at ha hf
  rw [he] at he9
  refine k_dast hx hb hw1 ha9 he9 (i := 0) (x := (pValue s k).2.1) (by unfold vp_in; decide) d_L_value_7 (fun H7 locs7 hw7 => ?_)
  refine lv_goto (tgt := 20) hx hb d_L_value_8 (by decide) ?_
  refine lv_iconst (v := 0) hx hb d_L_value_20 (by decide) ?_
  exact kt_i hx hb hr hlocks hw7 d_L_value_21 (by exact ⟨by rw [h0]; rfl, ⟨_, va_up_self _ _ _, fun _ => by exact upd0⟩, (hg.lp a).up ha hf _⟩) (by first | decide | (dsimp only; omega)) (by first | decide | (dsimp only; omega))
set_option maxHeartbeats 4000000 in
set_option maxRecDepth 100000 in
theorem c_L_bump (l : Launch) (hl9 : l.stackTraces = false) (G : GT) (A : Nat → Prop) (lc : Nat → Nat) (s : QS) (z : ZS) (u : WT) (hR : rQ G lc s z u) (hrn : rnk s) (hI : allI s) (k q i : Int32) (a : Nat) (ha : a ∈ u.1) (hf : ∀ k, liv (q_n s) k → lc k ≠ a) (f : Nat → UInt64) (he : u.2 a = oD G f) : KtW l y_L_bump b_L_bump 7 (some .int) [(0, 11, 14, 13), (0, 11, 18, 45), (0, 11, 22, 47)] 31 1000 3 18 3 18 0 0 G A u [.ref (lc 0), .int k, .int q, .double (e8 i), .ref a] (KQ G A (Ri (fun r u' => r = nI (pBump s k q i).1 ∧ (∃ f', u'.2 a = oD G f' ∧ ((pBump s k q i).1 = 0 → f' 0 = (pBump s k q i).2.1)) ∧ LPq G lc s a u (pBump s k q i).2.2 u'))) (NX) := by
  refine k_ofH (by decide) (Nat.le_of_ble_eq_true rfl) (fun p e st m below meth c ls hx hb hr hlocks hml htab hname hown ht hw hl => ?_)
  have hl : lv_has ls 7 [(0, .ref (lc 0)), (1, .int k), (2, .int q), (3, .double (e8 i)), (5, .ref a)] := hl
  obtain ⟨n0, hn0⟩ : ∃ n0, q_n s = n0 := ⟨_, rfl⟩
  have hw : Sk G A lc s z n0 u u st st.heap [] := ⟨hw, hR, fQ.rf, hn0⟩
  refine lv_aload hx hb d_L_bump_0 (lv_at hl 4 rfl) ?_
  refine lv_iconst (v := 0) hx hb d_L_bump_2 (by decide) ?_
  refine lv_aload_n hx hb d_L_bump_3 rfl (lv_at hl 0 rfl) ?_
  refine lv_iload_n hx hb d_L_bump_4 rfl (lv_at hl 1 rfl) ?_
  refine lv_iload_n hx hb d_L_bump_5 rfl (lv_at hl 2 rfl) ?_
  refine lv_dload_n hx hb d_L_bump_6 rfl (lv_at hl 3 rfl) ?_
  refine kc_d (kr_V 3 (C := "QuoteGraph") (As := [.int k, .int q, .double (e8 i)]) (rest := [.int (0 : Int32), .ref a]) (c_Q_bump l hl9 G A lc s z u hR hrn hI k q i) hx hb hml hown ht hw.1 gw_729 gw_730 gw_731 gw_42 gw_732 ⟨⟨by decide, by decide⟩, by decide +kernel⟩ ⟨by first | decide | (dsimp only; omega), by first | decide | (dsimp only; omega)⟩ (kr_Q hw) rfl hl.1 rfl (lv_room (Nat.le_of_ble_eq_true rfl)) d_L_bump_7 ⟨by first | decide | (dsimp only; omega), by first | decide | (dsimp only; omega)⟩) hw.1 (fun E ce q9 u1 H1 locs1 hp hw1 hce hcv hcl => ?_) (fun r1 u1 H1 locs1 hp1 hw1 => ?_)
  · obtain ⟨hne, hE, hgw⟩ := hp
    have hg : gQ G lc s u (pBump s k q i).2.2 _ := gQ.of (n_Bump hR.1.1 k q i) (hgw)
    rcases cd_Bump s k q i with h0 | h1 | h2 | h3
    · exact absurd h0 hne
    · have hE : E = "java/lang/IllegalArgumentException" := by rw [hE, h1]; rfl
      subst hE
      refine k_catch (E := "java/lang/IllegalArgumentException") (name := "java/lang/IllegalArgumentException") htab hown ht hw1 [] (0, 11, 14, 13) [(0, 11, 18, 45), (0, 11, 22, 47)] rfl (fun z hz => nomatch hz) (by decide) (by decide) gw_147 (ew_of 161 _ (by decide +kernel) rfl) hce hcv hcl ?_
      refine lv_astore (lv' := [(6, .ref q9), (0, .ref (lc 0)), (1, .int k), (2, .int q), (3, .double (e8 i)), (5, .ref a)]) hx hb d_L_bump_14 hl (by decide) rfl (fun ls hl => ?_)
      refine lv_iconst (v := 1) hx hb d_L_bump_16 (by decide) ?_
      exact kt_i hx hb hr hlocks hw1 d_L_bump_17 (by exact ⟨by rw [h1]; rfl, ⟨f, (hg.at ha hf).2.trans he, fun h => absurd h hne⟩, hg.lp a⟩) (by first | decide | (dsimp only; omega)) (by first | decide | (dsimp only; omega))
    · have hE : E = "java/lang/ArithmeticException" := by rw [hE, h2]; rfl
      subst hE
      refine k_catch (E := "java/lang/ArithmeticException") (name := "java/lang/ArithmeticException") htab hown ht hw1 [(0, 11, 14, 13)] (0, 11, 18, 45) [(0, 11, 22, 47)] rfl (fun z hz => by simp only [List.mem_cons, List.not_mem_nil, or_false] at hz; subst hz; exact Or.inr ⟨by decide, "java/lang/IllegalArgumentException", ht _ gw_147, hw1.1.2.2.2.2.2.1 ("java/lang/ArithmeticException", "java/lang/IllegalArgumentException") (by decide)⟩) (by decide) (by decide) gw_538 (ew_of 570 _ (by decide +kernel) rfl) hce hcv hcl ?_
      refine lv_astore (lv' := [(6, .ref q9), (0, .ref (lc 0)), (1, .int k), (2, .int q), (3, .double (e8 i)), (5, .ref a)]) hx hb d_L_bump_18 hl (by decide) rfl (fun ls hl => ?_)
      refine lv_iconst (v := 2) hx hb d_L_bump_20 (by decide) ?_
      exact kt_i hx hb hr hlocks hw1 d_L_bump_21 (by exact ⟨by rw [h2]; rfl, ⟨f, (hg.at ha hf).2.trans he, fun h => absurd h hne⟩, hg.lp a⟩) (by first | decide | (dsimp only; omega)) (by first | decide | (dsimp only; omega))
    · have hE : E = "java/lang/UnsupportedOperationException" := by rw [hE, h3]; rfl
      subst hE
      refine k_catch (E := "java/lang/UnsupportedOperationException") (name := "java/lang/UnsupportedOperationException") htab hown ht hw1 [(0, 11, 14, 13), (0, 11, 18, 45)] (0, 11, 22, 47) [] rfl (fun z hz => by simp only [List.mem_cons, List.not_mem_nil, or_false] at hz; exact hz.elim (fun hz => by subst hz; exact Or.inr ⟨by decide, "java/lang/IllegalArgumentException", ht _ gw_147, hw1.1.2.2.2.2.2.1 ("java/lang/UnsupportedOperationException", "java/lang/IllegalArgumentException") (by decide)⟩) (fun hz => by subst hz; exact Or.inr ⟨by decide, "java/lang/ArithmeticException", ht _ gw_538, hw1.1.2.2.2.2.2.1 ("java/lang/UnsupportedOperationException", "java/lang/ArithmeticException") (by decide)⟩)) (by decide) (by decide) gw_539 (ew_of 610 _ (by decide +kernel) rfl) hce hcv hcl ?_
      refine lv_astore (lv' := [(6, .ref q9), (0, .ref (lc 0)), (1, .int k), (2, .int q), (3, .double (e8 i)), (5, .ref a)]) hx hb d_L_bump_22 hl (by decide) rfl (fun ls hl => ?_)
      refine lv_iconst (v := 3) hx hb d_L_bump_24 (by decide) ?_
      exact kt_i hx hb hr hlocks hw1 d_L_bump_25 (by exact ⟨by rw [h3]; rfl, ⟨f, (hg.at ha hf).2.trans he, fun h => absurd h hne⟩, hg.lp a⟩) (by first | decide | (dsimp only; omega)) (by first | decide | (dsimp only; omega))
  obtain ⟨h0, er1, hgw⟩ := hp1; subst er1
  have hg : gQ G lc s u (pBump s k q i).2.2 _ := gQ.of (n_Bump hR.1.1 k q i) (hgw)
  obtain ⟨ha9, he9⟩ := hg.at ha hf
  rw [he] at he9
  refine k_dast hx hb hw1 ha9 he9 (i := 0) (x := (pBump s k q i).2.1) (by unfold vp_in; decide) d_L_bump_10 (fun H7 locs7 hw7 => ?_)
  refine lv_goto (tgt := 26) hx hb d_L_bump_11 (by decide) ?_
  refine lv_iconst (v := 0) hx hb d_L_bump_26 (by decide) ?_
  exact kt_i hx hb hr hlocks hw7 d_L_bump_27 (by exact ⟨by rw [h0]; rfl, ⟨_, va_up_self _ _ _, fun _ => by exact upd0⟩, (hg.lp a).up ha hf _⟩) (by first | decide | (dsimp only; omega)) (by first | decide | (dsimp only; omega))

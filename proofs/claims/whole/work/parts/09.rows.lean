/-! 09.rows: reads and writes of the class's fields, as steps of the state -/
section SRows
variable {p : Program} {l : Launch} {e : Env} {R : Room} {st : State} {m : MethodId} {args : Array Value} {below : List Frame} {meth : Method} {c : Code} {H : Heap} {locs : List Loc} {cells slots : Nat} {Q : State → Prop}
variable {cc : ByteArray} {pc : Nat} {ls : Array Slot} {rest : List Value} {G : GT} {A : Nat → Prop} {u0 u : WT} {lc : Nat → Nat} {s : QS} {z : ZS} {j n0 index : Nat} {own ref : String}
theorem ndB_len {lc : Nat → Nat} {s : QS} {z : ZS} {j : Nat} : (ndB lc s z j).length = 10 := rfl
theorem F_all : ∀ k, k < 10 → F_Bl k = F_Qt k ∧ F_Gr k = F_Qt k ∧ F_Op k = F_Qt k ∧ (F_Qt k).1 = "QuoteGraph$Node" := by decide
theorem k_same (ht : ∀ w ∈ GW, w.before args st = true) {o n d : String} (h : ref = o ∨ Cond.sameField ref o n d ∈ GW) : ∀ x, st.fieldFound? o n d = some x → st.fieldFound? ref n d = some x := by
  rcases h with h | h
  · subst h; exact fun _ h => h
  · exact u_same (ht _ h)
theorem Sk.nj (hw : Sk G A lc s z n0 u0 u st H locs) (hj : j < n0) : lc (8 + j) ∈ u.1 ∧ u.2 (lc (8 + j)) = .inr (q_so s j + 1, ndB lc s z j ++ ndX lc s j) ∧ q_so s j < 4 := by
  obtain ⟨-, hR, -, hn⟩ := hw
  have hj' : j < q_n s := by rw [hn]; exact hj
  have h := hR.at (liv_n hj')
  rw [cQ_n (by have := hR.1.1; omega)] at h
  exact ⟨h.1, h.2, (hR.1.2 j hj').1⟩
/-- a field that every node has -/
theorem kg_N (k : Nat) (hk : k < 10) {v : Value} (hexec : p.tables.exec = Jvm.exec) (hb : c.code = cc) (ht : ∀ w ∈ GW, w.before args st = true) (hown : st.vm.findClass own = some m.cls) (hw : Sk G A lc s z n0 u0 u st H locs) (hj : j < n0) (hlink : Cond.fieldLink own index ref (F_Qt k).2.1 (F_Qt k).2.2.1 ∈ GW) (hsame : ref = "QuoteGraph$Node" ∨ Cond.sameField ref "QuoteGraph$Node" (F_Qt k).2.1 (F_Qt k).2.2.1 ∈ GW) (hv : (ndB lc s z j)[k]? = some v) (hdg : decode cc pc = .ok (.getfield index, 3))
    (kk : W p l e R st m args below meth c H locs cells slots Q (F0 m (pc + 3) ls (v :: rest))) : W p l e R st m args below meth c H locs cells slots Q (F0 m pc ls (.ref (lc (8 + j)) :: rest)) := by
  obtain ⟨ha, he, h4⟩ := hw.nj hj
  obtain ⟨e1, e2, e3, e4⟩ := F_all k hk
  have hv' : (ndB lc s z j ++ ndX lc s j)[k]? = some v := by rw [List.getElem?_append_left (by rw [ndB_len]; exact hk)]; exact hv
  have hs := k_same ht (o := "QuoteGraph$Node") hsame
  rw [← e4] at hs
  have h5 : q_so s j = 0 ∨ q_so s j = 1 ∨ q_so s j = 2 ∨ q_so s j = 3 := by omega
  rcases h5 with h | h | h | h <;> rw [h] at he
  · exact k_get hexec hb ht i_Qt hown hw.1 ha he rfl k hk hlink hs hv' hdg kk
  · rw [← e1] at hlink hs; exact k_get hexec hb ht i_Bl hown hw.1 ha he rfl k (by omega) hlink hs hv' hdg kk
  · rw [← e2] at hlink hs; exact k_get hexec hb ht i_Gr hown hw.1 ha he rfl k hk hlink hs hv' hdg kk
  · rw [← e3] at hlink hs; exact k_get hexec hb ht i_Op hown hw.1 ha he rfl k (by omega) hlink hs hv' hdg kk
theorem kg_O (k : Nat) (hk : k < 21) (hk9 : 10 ≤ k) {v : Value} (hexec : p.tables.exec = Jvm.exec) (hb : c.code = cc) (ht : ∀ w ∈ GW, w.before args st = true) (hown : st.vm.findClass own = some m.cls) (hw : Sk G A lc s z n0 u0 u st H locs) (hj : j < n0) (h3 : q_so s j = 3) (hlink : Cond.fieldLink own index "QuoteGraph$Option" (F_Op k).2.1 (F_Op k).2.2.1 ∈ GW) (hdec : (F_Op k).1 = "QuoteGraph$Option") (hv : (ndX lc s j)[k - 10]? = some v) (hdg : decode cc pc = .ok (.getfield index, 3))
    (kk : W p l e R st m args below meth c H locs cells slots Q (F0 m (pc + 3) ls (v :: rest))) : W p l e R st m args below meth c H locs cells slots Q (F0 m pc ls (.ref (lc (8 + j)) :: rest)) := by
  obtain ⟨ha, he, -⟩ := hw.nj hj
  rw [h3] at he
  exact k_get hexec hb ht i_Op hown hw.1 ha he rfl k hk hlink (by rw [hdec]; exact fun _ h => h) (by rw [List.getElem?_append_right (by rw [ndB_len]; exact hk9), ndB_len]; exact hv) hdg kk
theorem kg_B (k : Nat) (hk : k < 12) (hk9 : 10 ≤ k) {v : Value} (hexec : p.tables.exec = Jvm.exec) (hb : c.code = cc) (ht : ∀ w ∈ GW, w.before args st = true) (hown : st.vm.findClass own = some m.cls) (hw : Sk G A lc s z n0 u0 u st H locs) (hj : j < n0) (h1 : q_so s j = 1) (hlink : Cond.fieldLink own index "QuoteGraph$Blend" (F_Bl k).2.1 (F_Bl k).2.2.1 ∈ GW) (hdec : (F_Bl k).1 = "QuoteGraph$Blend") (hv : (ndX lc s j)[k - 10]? = some v) (hdg : decode cc pc = .ok (.getfield index, 3))
    (kk : W p l e R st m args below meth c H locs cells slots Q (F0 m (pc + 3) ls (v :: rest))) : W p l e R st m args below meth c H locs cells slots Q (F0 m pc ls (.ref (lc (8 + j)) :: rest)) := by
  obtain ⟨ha, he, -⟩ := hw.nj hj
  rw [h1] at he
  exact k_get hexec hb ht i_Bl hown hw.1 ha he rfl k hk hlink (by rw [hdec]; exact fun _ h => h) (by rw [List.getElem?_append_right (by rw [ndB_len]; exact hk9), ndB_len]; exact hv) hdg kk
theorem ndX_O {lc : Nat → Nat} {s : QS} {j : Nat} (h : q_so s j = 3) : ndX lc s j = [.ref (lc (8 + (q_pt s j 0).getD 0)), .ref (lc (8 + (q_pt s j 1).getD 0)), .int (q_kd s j), .long (q_wa s j), .int (q_sp s j), va_rf ((q_pt s j 2).map (fun x => lc (8 + x))), va_rf ((q_pt s j 3).map (fun x => lc (8 + x))), .int (q_ch s j), .int (bI (q_us s j)), .ref (lc (5 + q_en s j)), .int (q_sz s j)] := by unfold ndX; rw [if_neg (by omega), if_pos h]
theorem ndX_B {lc : Nat → Nat} {s : QS} {j : Nat} (h : q_so s j = 1) : ndX lc s j = [.long (q_wa s j), .long (q_wb s j)] := by unfold ndX; rw [if_pos h]
/-- a field of the object itself -/
theorem kg_Q (k : Nat) (hk : k < 6) {v : Value} (hexec : p.tables.exec = Jvm.exec) (hb : c.code = cc) (ht : ∀ w ∈ GW, w.before args st = true) (hown : st.vm.findClass own = some m.cls) (hw : Sk G A lc s z n0 u0 u st H locs) (hlink : Cond.fieldLink own index "QuoteGraph" (F_Q k).2.1 (F_Q k).2.2.1 ∈ GW) (hdec : (F_Q k).1 = "QuoteGraph") (hv : ([.ref (lc 1), .ref (lc 2), .int (nI n0), .int (q_tl s), .int (q_wk s), .int (q_fl s)] : List Value)[k]? = some v) (hdg : decode cc pc = .ok (.getfield index, 3))
    (kk : W p l e R st m args below meth c H locs cells slots Q (F0 m (pc + 3) ls (v :: rest))) : W p l e R st m args below meth c H locs cells slots Q (F0 m pc ls (.ref (lc 0) :: rest)) := by
  obtain ⟨ha, he⟩ := hw.2.1.at (liv_s (k := 0) (by omega))
  have he' : u.2 (lc 0) = .inr (0, [.ref (lc 1), .ref (lc 2), .int (nI n0), .int (q_tl s), .int (q_wk s), .int (q_fl s)]) := by rw [he, ← hw.2.2.2]; rfl
  exact k_get hexec hb ht i_Q hown hw.1 ha he' rfl k hk hlink (by rw [hdec]; exact fun _ h => h) hv hdg kk
/-- the k-th node -/
theorem ka_nodes {i : Int32} {k : Nat} (hi : i = nI k) (hk : k < n0) (hexec : p.tables.exec = Jvm.exec) (hb : c.code = cc) (hw : Sk G A lc s z n0 u0 u st H locs) (hdg : decode cc pc = .ok (.aaload, 1))
    (kk : W p l e R st m args below meth c H locs cells slots Q (F0 m (pc + 1) ls (.ref (lc (8 + k)) :: rest))) : W p l e R st m args below meth c H locs cells slots Q (F0 m pc ls (.int i :: .ref (lc 1) :: rest)) := by
  obtain ⟨ha, he⟩ := hw.2.1.at (liv_s (k := 1) (by omega))
  have h16 : n0 ≤ 16 := by rw [← hw.2.2.2]; exact hw.2.1.1.1
  subst hi
  refine k_aldq 4 hexec hb hw.1 ha he rfl (vp_in_nI (by omega) (by omega)) hdg ?_
  rw [nI_clamp (by omega)]
  show W p l e R st m args below meth c H locs cells slots Q (F0 m (pc + 1) ls (va_rf (if k < q_n s then some (lc (8 + k)) else none) :: rest))
  rw [hw.2.2.2, if_pos hk]
  exact kk
/-- the k-th part of node j, by its place -/
theorem ka_parts {i : Int32} {k : Nat} (hi : i = nI k) (hj : j < n0) (hk : k < np s j) (hexec : p.tables.exec = Jvm.exec) (hb : c.code = cc) (hw : Sk G A lc s z n0 u0 u st H locs) (hdg : decode cc pc = .ok (.aaload, 1))
    (kk : W p l e R st m args below meth c H locs cells slots Q (F0 m (pc + 1) ls (.ref (lc (8 + cp s j k)) :: rest))) : W p l e R st m args below meth c H locs cells slots Q (F0 m pc ls (.int i :: .ref (lc (24 + j)) :: rest)) := by
  have hj' : j < q_n s := by rw [hw.2.2.2]; exact hj
  obtain ⟨ha, he⟩ := hw.2.1.at (liv_p hj')
  rw [cQ_p] at he
  obtain ⟨hok, h2⟩ := hw.2.1.1.2 j hj'
  have hl : k < plen (q_so s j) := by
    obtain ⟨-, h3, h4, -⟩ := h2
    unfold np at hk; unfold plen
    by_cases h0 : q_so s j = 0
    · rw [if_pos h0, h3 h0 2, h3 h0 3] at hk; simp at hk
    · rw [if_neg h0] at hk; rw [if_neg h0]
      by_cases h5 : q_so s j = 3
      · rw [if_pos h5]; split at hk <;> split at hk <;> omega
      · rw [if_neg h5]; obtain ⟨h6, h7⟩ := h4 h5; rw [h6, h7] at hk; simp at hk; exact hk
  have hl2 : plen (q_so s j) ≤ 4 := by unfold plen; split <;> (try split) <;> omega
  subst hi
  refine k_aldq 4 hexec hb hw.1 ha he rfl (vp_in_nI hl (by omega)) hdg ?_
  rw [nI_clamp (by omega), hw.2.1.2.2.2 j hj' k hk]
  exact kk
/-- the node's class -/
def ndC (t : Nat) : String := if t = 0 then "QuoteGraph$Quote" else if t = 1 then "QuoteGraph$Blend" else if t = 2 then "QuoteGraph$Greater" else "QuoteGraph$Option"
theorem kr_N (hw : Sk G A lc s z n0 u0 u st H locs) (hj : j < n0) : ∃ cell : Cell, H[lc (8 + j)]? = some cell ∧ cell.vm.isStatics = false ∧ st.vm.findClass (ndC (q_so s j)) = some cell.cls := by
  obtain ⟨ha, he, h4⟩ := hw.nj hj
  have h5 : q_so s j = 0 ∨ q_so s j = 1 ∨ q_so s j = 2 ∨ q_so s j = 3 := by omega
  rcases h5 with h | h | h | h <;> rw [h] at he <;> rw [h] <;> exact k_recv hw.1 ha he rfl
theorem kr_Q (hw : Sk G A lc s z n0 u0 u st H locs) : ∃ cell : Cell, H[lc 0]? = some cell ∧ cell.vm.isStatics = false ∧ st.vm.findClass "QuoteGraph" = some cell.cls := by
  obtain ⟨ha, he⟩ := hw.2.1.at (liv_s (k := 0) (by omega))
  exact k_recv hw.1 ha he rfl
/-- nothing but node j's own cell has turned -/
theorem cQ_nd {lc : Nat → Nat} {s s' : QS} {z z' : ZS} {j : Nat} (h1 : q_n s' = q_n s) (h2 : q_tl s' = q_tl s ∧ q_wk s' = q_wk s ∧ q_fl s' = q_fl s) (h3 : z_lr z' = z_lr z ∧ z_nr z' = z_nr z ∧ z_dw z' = z_dw z ∧ z_pr z' = z_pr z) (h4 : q_so s' = q_so s) (h5 : ∀ i, i ≠ j → ndB lc s' z' i = ndB lc s z i ∧ ndX lc s' i = ndX lc s i) : ∀ i, i ≠ 8 + j → cQ G lc s' z' i = cQ G lc s z i := by
  intro i hi
  obtain ⟨a1, a2, a3⟩ := h2
  obtain ⟨b1, b2, b3, b4⟩ := h3
  unfold cQ
  rw [h1, a1, a2, a3, b1, b2, b3, b4, h4]
  split; rfl
  split; rfl
  split; rfl
  split; rfl
  split; rfl
  split; rfl
  split; rfl
  split; rfl
  split
  · obtain ⟨c1, c2⟩ := h5 (i - 8) (by omega)
    rw [c1, c2]
  · rfl
/-- a write into node j's own fields -/
theorem kp_N (k : Nat) (hk : k < 10) (s' : QS) (z' : ZS) {v : Value} {ty : FieldType} (hexec : p.tables.exec = Jvm.exec) (hb : c.code = cc) (ht : ∀ w ∈ GW, w.before args st = true) (hown : st.vm.findClass own = some m.cls) (hw : Sk G A lc s z n0 u0 u st H locs) (hj : j < n0) (hlink : Cond.fieldLink own index ref (F_Qt k).2.1 (F_Qt k).2.2.1 ∈ GW) (hsame : ref = "QuoteGraph$Node" ∨ Cond.sameField ref "QuoteGraph$Node" (F_Qt k).2.1 (F_Qt k).2.2.1 ∈ GW) (hfin : (F_Qt k).2.2.2 = false) (hd : parseFieldDescriptor (F_Qt k).2.2.1 = some ty) (hn : narrow ty v = v) (hfit : fits ty v = true) (hdg : decode cc pc = .ok (.putfield index, 3))
    (hv : ndB lc s' z' j = (ndB lc s z j).set k v) (hX : ndX lc s' j = ndX lc s j) (hok : okQ s') (h1 : q_n s' = q_n s) (h2 : q_tl s' = q_tl s ∧ q_wk s' = q_wk s ∧ q_fl s' = q_fl s) (h3 : z_lr z' = z_lr z ∧ z_nr z' = z_nr z ∧ z_dw z' = z_dw z ∧ z_pr z' = z_pr z) (h4 : q_so s' = q_so s) (h5 : ∀ i, i ≠ j → ndB lc s' z' i = ndB lc s z i ∧ ndX lc s' i = ndX lc s i) (h6 : ∀ i, i < n0 → ∀ k, k < np s' i → z_pr z i k = some (lc (8 + cp s' i k)))
    (kk : ∀ (H1 : Heap) (locs1 : List Loc) (u1 : WT), Sk G A lc s' z' n0 u0 u1 st H1 locs1 → W p l e R st m args below meth c H1 locs1 cells slots Q (F0 m (pc + 3) ls rest)) : W p l e R st m args below meth c H locs cells slots Q (F0 m pc ls (v :: .ref (lc (8 + j)) :: rest)) := by
  obtain ⟨ha, he, h4'⟩ := hw.nj hj
  obtain ⟨e1, e2, e3, e4⟩ := F_all k hk
  have hs := k_same ht (o := "QuoteGraph$Node") hsame
  rw [← e4] at hs
  have hj' : j < q_n s := by rw [hw.2.2.2]; exact hj
  have hj16 : j < 16 := by have := hw.2.1.1.1; omega
  have done : ∀ (H1 : Heap) (locs1 : List Loc), Wk G A (u.1, va_up u.2 (lc (8 + j)) (.inr (q_so s j + 1, (ndB lc s z j ++ ndX lc s j).set k v))) st H1 locs1 → W p l e R st m args below meth c H1 locs1 cells slots Q (F0 m (pc + 3) ls rest) := by
    intro H1 locs1 hw1
    have hx : (.inr (q_so s j + 1, (ndB lc s z j ++ ndX lc s j).set k v) : va_E) = cQ G lc s' z' (8 + j) := by
      rw [cQ_n hj16, h4, hv, hX, List.set_append_left _ _ (by rw [ndB_len]; exact hk)]
    obtain ⟨r1, r2⟩ := hw.2.1.put (liv_n hj') hx hok h1 (fun i _ hi => cQ_nd h1 h2 h3 h4 h5 i hi) (fun i hi k hk => by rw [h3.2.2.2]; exact h6 i (by rw [← hw.2.2.2]; exact hi) k hk)
    exact kk H1 locs1 _ ⟨hw1, r1, hw.2.2.1.tr (by rw [← hw.2.2.2]; exact r2), by rw [h1]; exact hw.2.2.2⟩
  have hl : k < (ndB lc s z j ++ ndX lc s j).length := by rw [List.length_append, ndB_len]; omega
  have h5' : q_so s j = 0 ∨ q_so s j = 1 ∨ q_so s j = 2 ∨ q_so s j = 3 := by omega
  rcases h5' with h | h | h | h <;> rw [h] at he done
  · exact k_put hexec hb ht i_Qt t_Qt t_Qt_ok n_Qt hown hw.1 ha he rfl k hk hlink hs hfin hd hn hfit hl hdg done
  · rw [← e1] at hlink hs hfin hd; exact k_put hexec hb ht i_Bl t_Bl t_Bl_ok n_Bl hown hw.1 ha he rfl k (by omega) hlink hs hfin hd hn hfit hl hdg done
  · rw [← e2] at hlink hs hfin hd; exact k_put hexec hb ht i_Gr t_Gr t_Gr_ok n_Gr hown hw.1 ha he rfl k hk hlink hs hfin hd hn hfit hl hdg done
  · rw [← e3] at hlink hs hfin hd; exact k_put hexec hb ht i_Op t_Op t_Op_ok n_Op hown hw.1 ha he rfl k (by omega) hlink hs hfin hd hn hfit hl hdg done
theorem kp_amount (x : Int64) (hexec : p.tables.exec = Jvm.exec) (hb : c.code = cc) (ht : ∀ w ∈ GW, w.before args st = true) (hown : st.vm.findClass own = some m.cls) (hw : Sk G A lc s z n0 u0 u st H locs) (hj : j < n0) (hlink : Cond.fieldLink own index ref "amount" "J" ∈ GW) (hsame : ref = "QuoteGraph$Node" ∨ Cond.sameField ref "QuoteGraph$Node" "amount" "J" ∈ GW) (hdg : decode cc pc = .ok (.putfield index, 3))
    (kk : ∀ (H1 : Heap) (locs1 : List Loc) (u1 : WT), Sk G A lc (qS_am s (va_up (q_am s) j x)) (z) n0 u0 u1 st H1 locs1 → W p l e R st m args below meth c H1 locs1 cells slots Q (F0 m (pc + 3) ls rest)) : W p l e R st m args below meth c H locs cells slots Q (F0 m pc ls (.long (x) :: .ref (lc (8 + j)) :: rest)) := by
  refine kp_N 3 (by decide) (qS_am s (va_up (q_am s) j x)) (z) (ty := .long) hexec hb ht hown hw hj hlink hsame rfl (by decide +kernel) (rfl) (rfl) hdg ?_ rfl hw.2.1.1 rfl ⟨rfl, rfl, rfl⟩ ⟨rfl, rfl, rfl, rfl⟩ rfl (fun i hi => ⟨?_, rfl⟩) (fun i hi k hk => hw.2.1.2.2.2 i (by rw [hw.2.2.2]; exact hi) k hk) kk
  · show ([.int (nI j), .ref (lc (24 + j)), .int (nI (np s j)), .long (va_up (q_am s) j x j), .int (bI (q_va s j)), .int (bI (q_fr s j)), .int (bI (q_mi s j)), .int (q_tw s j), .long (z_ra z j), .int (bI (z_rv z j))] : List Value) = _
    rw [va_up_self]; rfl
  · show ([.int (nI i), .ref (lc (24 + i)), .int (nI (np s i)), .long (va_up (q_am s) j x i), .int (bI (q_va s i)), .int (bI (q_fr s i)), .int (bI (q_mi s i)), .int (q_tw s i), .long (z_ra z i), .int (bI (z_rv z i))] : List Value) = _
    rw [va_up_ne _ _ hi]; rfl
theorem kp_valid (x : Bool) (hexec : p.tables.exec = Jvm.exec) (hb : c.code = cc) (ht : ∀ w ∈ GW, w.before args st = true) (hown : st.vm.findClass own = some m.cls) (hw : Sk G A lc s z n0 u0 u st H locs) (hj : j < n0) (hlink : Cond.fieldLink own index ref "valid" "Z" ∈ GW) (hsame : ref = "QuoteGraph$Node" ∨ Cond.sameField ref "QuoteGraph$Node" "valid" "Z" ∈ GW) (hdg : decode cc pc = .ok (.putfield index, 3))
    (kk : ∀ (H1 : Heap) (locs1 : List Loc) (u1 : WT), Sk G A lc (qS_va s (va_up (q_va s) j x)) (z) n0 u0 u1 st H1 locs1 → W p l e R st m args below meth c H1 locs1 cells slots Q (F0 m (pc + 3) ls rest)) : W p l e R st m args below meth c H locs cells slots Q (F0 m pc ls (.int (bI x) :: .ref (lc (8 + j)) :: rest)) := by
  refine kp_N 4 (by decide) (qS_va s (va_up (q_va s) j x)) (z) (ty := .boolean) hexec hb ht hown hw hj hlink hsame rfl (by decide +kernel) (bI_nar x) (bI_fit x) hdg ?_ rfl hw.2.1.1 rfl ⟨rfl, rfl, rfl⟩ ⟨rfl, rfl, rfl, rfl⟩ rfl (fun i hi => ⟨?_, rfl⟩) (fun i hi k hk => hw.2.1.2.2.2 i (by rw [hw.2.2.2]; exact hi) k hk) kk
  · show ([.int (nI j), .ref (lc (24 + j)), .int (nI (np s j)), .long (q_am s j), .int (bI (va_up (q_va s) j x j)), .int (bI (q_fr s j)), .int (bI (q_mi s j)), .int (q_tw s j), .long (z_ra z j), .int (bI (z_rv z j))] : List Value) = _
    rw [va_up_self]; rfl
  · show ([.int (nI i), .ref (lc (24 + i)), .int (nI (np s i)), .long (q_am s i), .int (bI (va_up (q_va s) j x i)), .int (bI (q_fr s i)), .int (bI (q_mi s i)), .int (q_tw s i), .long (z_ra z i), .int (bI (z_rv z i))] : List Value) = _
    rw [va_up_ne _ _ hi]; rfl
theorem kp_frozen (x : Bool) (hexec : p.tables.exec = Jvm.exec) (hb : c.code = cc) (ht : ∀ w ∈ GW, w.before args st = true) (hown : st.vm.findClass own = some m.cls) (hw : Sk G A lc s z n0 u0 u st H locs) (hj : j < n0) (hlink : Cond.fieldLink own index ref "frozen" "Z" ∈ GW) (hsame : ref = "QuoteGraph$Node" ∨ Cond.sameField ref "QuoteGraph$Node" "frozen" "Z" ∈ GW) (hdg : decode cc pc = .ok (.putfield index, 3))
    (kk : ∀ (H1 : Heap) (locs1 : List Loc) (u1 : WT), Sk G A lc (qS_fr s (va_up (q_fr s) j x)) (z) n0 u0 u1 st H1 locs1 → W p l e R st m args below meth c H1 locs1 cells slots Q (F0 m (pc + 3) ls rest)) : W p l e R st m args below meth c H locs cells slots Q (F0 m pc ls (.int (bI x) :: .ref (lc (8 + j)) :: rest)) := by
  refine kp_N 5 (by decide) (qS_fr s (va_up (q_fr s) j x)) (z) (ty := .boolean) hexec hb ht hown hw hj hlink hsame rfl (by decide +kernel) (bI_nar x) (bI_fit x) hdg ?_ rfl hw.2.1.1 rfl ⟨rfl, rfl, rfl⟩ ⟨rfl, rfl, rfl, rfl⟩ rfl (fun i hi => ⟨?_, rfl⟩) (fun i hi k hk => hw.2.1.2.2.2 i (by rw [hw.2.2.2]; exact hi) k hk) kk
  · show ([.int (nI j), .ref (lc (24 + j)), .int (nI (np s j)), .long (q_am s j), .int (bI (q_va s j)), .int (bI (va_up (q_fr s) j x j)), .int (bI (q_mi s j)), .int (q_tw s j), .long (z_ra z j), .int (bI (z_rv z j))] : List Value) = _
    rw [va_up_self]; rfl
  · show ([.int (nI i), .ref (lc (24 + i)), .int (nI (np s i)), .long (q_am s i), .int (bI (q_va s i)), .int (bI (va_up (q_fr s) j x i)), .int (bI (q_mi s i)), .int (q_tw s i), .long (z_ra z i), .int (bI (z_rv z i))] : List Value) = _
    rw [va_up_ne _ _ hi]; rfl
theorem kp_missed (x : Bool) (hexec : p.tables.exec = Jvm.exec) (hb : c.code = cc) (ht : ∀ w ∈ GW, w.before args st = true) (hown : st.vm.findClass own = some m.cls) (hw : Sk G A lc s z n0 u0 u st H locs) (hj : j < n0) (hlink : Cond.fieldLink own index ref "missed" "Z" ∈ GW) (hsame : ref = "QuoteGraph$Node" ∨ Cond.sameField ref "QuoteGraph$Node" "missed" "Z" ∈ GW) (hdg : decode cc pc = .ok (.putfield index, 3))
    (kk : ∀ (H1 : Heap) (locs1 : List Loc) (u1 : WT), Sk G A lc (qS_mi s (va_up (q_mi s) j x)) (z) n0 u0 u1 st H1 locs1 → W p l e R st m args below meth c H1 locs1 cells slots Q (F0 m (pc + 3) ls rest)) : W p l e R st m args below meth c H locs cells slots Q (F0 m pc ls (.int (bI x) :: .ref (lc (8 + j)) :: rest)) := by
  refine kp_N 6 (by decide) (qS_mi s (va_up (q_mi s) j x)) (z) (ty := .boolean) hexec hb ht hown hw hj hlink hsame rfl (by decide +kernel) (bI_nar x) (bI_fit x) hdg ?_ rfl hw.2.1.1 rfl ⟨rfl, rfl, rfl⟩ ⟨rfl, rfl, rfl, rfl⟩ rfl (fun i hi => ⟨?_, rfl⟩) (fun i hi k hk => hw.2.1.2.2.2 i (by rw [hw.2.2.2]; exact hi) k hk) kk
  · show ([.int (nI j), .ref (lc (24 + j)), .int (nI (np s j)), .long (q_am s j), .int (bI (q_va s j)), .int (bI (q_fr s j)), .int (bI (va_up (q_mi s) j x j)), .int (q_tw s j), .long (z_ra z j), .int (bI (z_rv z j))] : List Value) = _
    rw [va_up_self]; rfl
  · show ([.int (nI i), .ref (lc (24 + i)), .int (nI (np s i)), .long (q_am s i), .int (bI (q_va s i)), .int (bI (q_fr s i)), .int (bI (va_up (q_mi s) j x i)), .int (q_tw s i), .long (z_ra z i), .int (bI (z_rv z i))] : List Value) = _
    rw [va_up_ne _ _ hi]; rfl
theorem kp_timesWorked (x : Int32) (hexec : p.tables.exec = Jvm.exec) (hb : c.code = cc) (ht : ∀ w ∈ GW, w.before args st = true) (hown : st.vm.findClass own = some m.cls) (hw : Sk G A lc s z n0 u0 u st H locs) (hj : j < n0) (hlink : Cond.fieldLink own index ref "timesWorked" "I" ∈ GW) (hsame : ref = "QuoteGraph$Node" ∨ Cond.sameField ref "QuoteGraph$Node" "timesWorked" "I" ∈ GW) (hdg : decode cc pc = .ok (.putfield index, 3))
    (kk : ∀ (H1 : Heap) (locs1 : List Loc) (u1 : WT), Sk G A lc (qS_tw s (va_up (q_tw s) j x)) (z) n0 u0 u1 st H1 locs1 → W p l e R st m args below meth c H1 locs1 cells slots Q (F0 m (pc + 3) ls rest)) : W p l e R st m args below meth c H locs cells slots Q (F0 m pc ls (.int (x) :: .ref (lc (8 + j)) :: rest)) := by
  refine kp_N 7 (by decide) (qS_tw s (va_up (q_tw s) j x)) (z) (ty := .int) hexec hb ht hown hw hj hlink hsame rfl (by decide +kernel) (rfl) (rfl) hdg ?_ rfl hw.2.1.1 rfl ⟨rfl, rfl, rfl⟩ ⟨rfl, rfl, rfl, rfl⟩ rfl (fun i hi => ⟨?_, rfl⟩) (fun i hi k hk => hw.2.1.2.2.2 i (by rw [hw.2.2.2]; exact hi) k hk) kk
  · show ([.int (nI j), .ref (lc (24 + j)), .int (nI (np s j)), .long (q_am s j), .int (bI (q_va s j)), .int (bI (q_fr s j)), .int (bI (q_mi s j)), .int (va_up (q_tw s) j x j), .long (z_ra z j), .int (bI (z_rv z j))] : List Value) = _
    rw [va_up_self]; rfl
  · show ([.int (nI i), .ref (lc (24 + i)), .int (nI (np s i)), .long (q_am s i), .int (bI (q_va s i)), .int (bI (q_fr s i)), .int (bI (q_mi s i)), .int (va_up (q_tw s) j x i), .long (z_ra z i), .int (bI (z_rv z i))] : List Value) = _
    rw [va_up_ne _ _ hi]; rfl
theorem kp_rememberedAmount (x : Int64) (hexec : p.tables.exec = Jvm.exec) (hb : c.code = cc) (ht : ∀ w ∈ GW, w.before args st = true) (hown : st.vm.findClass own = some m.cls) (hw : Sk G A lc s z n0 u0 u st H locs) (hj : j < n0) (hlink : Cond.fieldLink own index ref "rememberedAmount" "J" ∈ GW) (hsame : ref = "QuoteGraph$Node" ∨ Cond.sameField ref "QuoteGraph$Node" "rememberedAmount" "J" ∈ GW) (hdg : decode cc pc = .ok (.putfield index, 3))
    (kk : ∀ (H1 : Heap) (locs1 : List Loc) (u1 : WT), Sk G A lc (s) (zS_ra z (va_up (z_ra z) j x)) n0 u0 u1 st H1 locs1 → W p l e R st m args below meth c H1 locs1 cells slots Q (F0 m (pc + 3) ls rest)) : W p l e R st m args below meth c H locs cells slots Q (F0 m pc ls (.long (x) :: .ref (lc (8 + j)) :: rest)) := by
  refine kp_N 8 (by decide) (s) (zS_ra z (va_up (z_ra z) j x)) (ty := .long) hexec hb ht hown hw hj hlink hsame rfl (by decide +kernel) (rfl) (rfl) hdg ?_ rfl hw.2.1.1 rfl ⟨rfl, rfl, rfl⟩ ⟨rfl, rfl, rfl, rfl⟩ rfl (fun i hi => ⟨?_, rfl⟩) (fun i hi k hk => hw.2.1.2.2.2 i (by rw [hw.2.2.2]; exact hi) k hk) kk
  · show ([.int (nI j), .ref (lc (24 + j)), .int (nI (np s j)), .long (q_am s j), .int (bI (q_va s j)), .int (bI (q_fr s j)), .int (bI (q_mi s j)), .int (q_tw s j), .long (va_up (z_ra z) j x j), .int (bI (z_rv z j))] : List Value) = _
    rw [va_up_self]; rfl
  · show ([.int (nI i), .ref (lc (24 + i)), .int (nI (np s i)), .long (q_am s i), .int (bI (q_va s i)), .int (bI (q_fr s i)), .int (bI (q_mi s i)), .int (q_tw s i), .long (va_up (z_ra z) j x i), .int (bI (z_rv z i))] : List Value) = _
    rw [va_up_ne _ _ hi]; rfl
theorem kp_rememberedValid (x : Bool) (hexec : p.tables.exec = Jvm.exec) (hb : c.code = cc) (ht : ∀ w ∈ GW, w.before args st = true) (hown : st.vm.findClass own = some m.cls) (hw : Sk G A lc s z n0 u0 u st H locs) (hj : j < n0) (hlink : Cond.fieldLink own index ref "rememberedValid" "Z" ∈ GW) (hsame : ref = "QuoteGraph$Node" ∨ Cond.sameField ref "QuoteGraph$Node" "rememberedValid" "Z" ∈ GW) (hdg : decode cc pc = .ok (.putfield index, 3))
    (kk : ∀ (H1 : Heap) (locs1 : List Loc) (u1 : WT), Sk G A lc (s) (zS_rv z (va_up (z_rv z) j x)) n0 u0 u1 st H1 locs1 → W p l e R st m args below meth c H1 locs1 cells slots Q (F0 m (pc + 3) ls rest)) : W p l e R st m args below meth c H locs cells slots Q (F0 m pc ls (.int (bI x) :: .ref (lc (8 + j)) :: rest)) := by
  refine kp_N 9 (by decide) (s) (zS_rv z (va_up (z_rv z) j x)) (ty := .boolean) hexec hb ht hown hw hj hlink hsame rfl (by decide +kernel) (bI_nar x) (bI_fit x) hdg ?_ rfl hw.2.1.1 rfl ⟨rfl, rfl, rfl⟩ ⟨rfl, rfl, rfl, rfl⟩ rfl (fun i hi => ⟨?_, rfl⟩) (fun i hi k hk => hw.2.1.2.2.2 i (by rw [hw.2.2.2]; exact hi) k hk) kk
  · show ([.int (nI j), .ref (lc (24 + j)), .int (nI (np s j)), .long (q_am s j), .int (bI (q_va s j)), .int (bI (q_fr s j)), .int (bI (q_mi s j)), .int (q_tw s j), .long (z_ra z j), .int (bI (va_up (z_rv z) j x j))] : List Value) = _
    rw [va_up_self]; rfl
  · show ([.int (nI i), .ref (lc (24 + i)), .int (nI (np s i)), .long (q_am s i), .int (bI (q_va s i)), .int (bI (q_fr s i)), .int (bI (q_mi s i)), .int (q_tw s i), .long (z_ra z i), .int (bI (va_up (z_rv z) j x i))] : List Value) = _
    rw [va_up_ne _ _ hi]; rfl
end SRows

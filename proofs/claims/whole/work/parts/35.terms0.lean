/-! 35.terms0: an option's own fields and its parts -/
section ORows
variable {p : Program} {l : Launch} {e : Env} {R : Room} {st : State} {m : MethodId} {args : Array Value} {below : List Frame} {meth : Method} {c : Code} {H : Heap} {locs : List Loc} {cells slots : Nat} {Q : State → Prop}
variable {cc : ByteArray} {pc : Nat} {ls : Array Slot} {rest : List Value} {G : GT} {A : Nat → Prop} {u0 u : WT} {lc : Nat → Nat} {s : QS} {z : ZS} {j n0 index : Nat} {own : String}
/-- a write into option j's own fields that leaves the parts -/
theorem kp_O (k : Nat) (hk : k < 21) (hk9 : 10 ≤ k) (s' : QS) {v : Value} {ty : FieldType} (hexec : p.tables.exec = Jvm.exec) (hb : c.code = cc) (ht : ∀ w ∈ GW, w.before args st = true) (hown : st.vm.findClass own = some m.cls) (hw : Sk G A lc s z n0 u0 u st H locs) (hj : j < n0) (h3 : q_so s j = 3) (hlink : Cond.fieldLink own index "QuoteGraph$Option" (F_Op k).2.1 (F_Op k).2.2.1 ∈ GW) (hdec : (F_Op k).1 = "QuoteGraph$Option") (hfin : (F_Op k).2.2.2 = false) (hd : parseFieldDescriptor (F_Op k).2.2.1 = some ty) (hn : narrow ty v = v) (hfit : fits ty v = true) (hdg : decode cc pc = .ok (.putfield index, 3))
    (hv : ndX lc s' j = (ndX lc s j).set (k - 10) v) (hB : ∀ i, ndB lc s' z i = ndB lc s z i) (hok : okQ s') (h1 : q_n s' = q_n s) (h2 : q_tl s' = q_tl s ∧ q_wk s' = q_wk s ∧ q_fl s' = q_fl s) (h4 : q_so s' = q_so s) (h5 : ∀ i, i ≠ j → ndX lc s' i = ndX lc s i) (h6 : q_pt s' = q_pt s)
    (kk : ∀ (H1 : Heap) (locs1 : List Loc) (u1 : WT), Sk G A lc s' z n0 u0 u1 st H1 locs1 → W p l e R st m args below meth c H1 locs1 cells slots Q (F0 m (pc + 3) ls rest)) : W p l e R st m args below meth c H locs cells slots Q (F0 m pc ls (v :: .ref (lc (8 + j)) :: rest)) := by
  obtain ⟨ha, he, -⟩ := hw.nj hj
  have hj' : j < q_n s := by rw [hw.2.2.2]; exact hj
  have hj16 : j < 16 := by have := hw.2.1.1.1; omega
  have hlX : (ndX lc s j).length = 11 := by rw [ndX_O h3]; rfl
  have done : ∀ (H1 : Heap) (locs1 : List Loc), Wk G A (u.1, va_up u.2 (lc (8 + j)) (.inr (4, (ndB lc s z j ++ ndX lc s j).set k v))) st H1 locs1 → W p l e R st m args below meth c H1 locs1 cells slots Q (F0 m (pc + 3) ls rest) := by
    intro H1 locs1 hw1
    have hx : (.inr (4, (ndB lc s z j ++ ndX lc s j).set k v) : va_E) = cQ G lc s' z (8 + j) := by
      rw [cQ_n hj16, h4, h3, hv, hB j, List.set_append_right _ _ (by rw [ndB_len]; exact hk9), ndB_len]
    have hnp : ∀ i, np s' i = np s i := fun i => by unfold np; rw [h4, h6]
    have hcp : ∀ i k, cp s' i k = cp s i k := fun i k => by unfold cp; rw [h6]
    obtain ⟨r1, r2⟩ := hw.2.1.put (z' := z) (liv_n hj') hx hok h1 (fun i _ hi => cQ_nd h1 h2 ⟨rfl, rfl, rfl, rfl⟩ h4 (fun i hi => ⟨hB i, h5 i hi⟩) i hi) (fun i hi k hk => by rw [hcp]; exact hw.2.1.2.2.2 i hi k (by rw [← hnp]; exact hk))
    exact kk H1 locs1 _ ⟨hw1, r1, hw.2.2.1.tr (by rw [← hw.2.2.2]; exact r2), by rw [h1]; exact hw.2.2.2⟩
  rw [h3] at he
  exact k_put hexec hb ht i_Op t_Op t_Op_ok n_Op hown hw.1 ha he rfl k hk hlink (by rw [hdec]; exact fun _ h => h) hfin hd hn hfit (by rw [List.length_append, ndB_len, hlX]; omega) hdg done
theorem ndX_ne {lc : Nat → Nat} {s s' : QS} {i : Nat} (h1 : q_so s' = q_so s) (h2 : q_pt s' = q_pt s) (h3 : q_wa s' = q_wa s ∧ q_wb s' = q_wb s ∧ q_kd s' = q_kd s ∧ q_sp s' = q_sp s) (h4 : q_ch s' i = q_ch s i ∧ q_us s' i = q_us s i ∧ q_en s' i = q_en s i ∧ q_sz s' i = q_sz s i) : ndX lc s' i = ndX lc s i := by
  unfold ndX; rw [h1, h2, h3.1, h3.2.1, h3.2.2.1, h3.2.2.2, h4.1, h4.2.1, h4.2.2.1, h4.2.2.2]
theorem kp_chance (x : Int32) (hexec : p.tables.exec = Jvm.exec) (hb : c.code = cc) (ht : ∀ w ∈ GW, w.before args st = true) (hown : st.vm.findClass own = some m.cls) (hw : Sk G A lc s z n0 u0 u st H locs) (hj : j < n0) (h3 : q_so s j = 3) (hlink : Cond.fieldLink own index "QuoteGraph$Option" "chance" "I" ∈ GW) (hdg : decode cc pc = .ok (.putfield index, 3))
    (kk : ∀ (H1 : Heap) (locs1 : List Loc) (u1 : WT), Sk G A lc (qS_ch s (va_up (q_ch s) j x)) z n0 u0 u1 st H1 locs1 → W p l e R st m args below meth c H1 locs1 cells slots Q (F0 m (pc + 3) ls rest)) : W p l e R st m args below meth c H locs cells slots Q (F0 m pc ls (.int x :: .ref (lc (8 + j)) :: rest)) := by
  refine kp_O 17 (by decide) (by decide) (qS_ch s (va_up (q_ch s) j x)) (ty := .int) hexec hb ht hown hw hj h3 hlink rfl rfl (by decide +kernel) rfl rfl hdg ?_ (fun _ => rfl) hw.2.1.1 rfl ⟨rfl, rfl, rfl⟩ rfl (fun i hi => ndX_ne rfl rfl ⟨rfl, rfl, rfl, rfl⟩ ⟨va_up_ne _ _ hi, rfl, rfl, rfl⟩) rfl kk
  rw [ndX_O h3, ndX_O (show q_so (qS_ch s (va_up (q_ch s) j x)) j = 3 from h3)]
  rw [show q_ch (qS_ch s (va_up (q_ch s) j x)) j = x from va_up_self _ _ _]; rfl
theorem kp_american (x : Bool) (hexec : p.tables.exec = Jvm.exec) (hb : c.code = cc) (ht : ∀ w ∈ GW, w.before args st = true) (hown : st.vm.findClass own = some m.cls) (hw : Sk G A lc s z n0 u0 u st H locs) (hj : j < n0) (h3 : q_so s j = 3) (hlink : Cond.fieldLink own index "QuoteGraph$Option" "american" "Z" ∈ GW) (hdg : decode cc pc = .ok (.putfield index, 3))
    (kk : ∀ (H1 : Heap) (locs1 : List Loc) (u1 : WT), Sk G A lc (qS_us s (va_up (q_us s) j x)) z n0 u0 u1 st H1 locs1 → W p l e R st m args below meth c H1 locs1 cells slots Q (F0 m (pc + 3) ls rest)) : W p l e R st m args below meth c H locs cells slots Q (F0 m pc ls (.int (bI x) :: .ref (lc (8 + j)) :: rest)) := by
  refine kp_O 18 (by decide) (by decide) (qS_us s (va_up (q_us s) j x)) (ty := .boolean) hexec hb ht hown hw hj h3 hlink rfl rfl (by decide +kernel) (bI_nar x) (bI_fit x) hdg ?_ (fun _ => rfl) hw.2.1.1 rfl ⟨rfl, rfl, rfl⟩ rfl (fun i hi => ndX_ne rfl rfl ⟨rfl, rfl, rfl, rfl⟩ ⟨rfl, va_up_ne _ _ hi, rfl, rfl⟩) rfl kk
  rw [ndX_O h3, ndX_O (show q_so (qS_us s (va_up (q_us s) j x)) j = 3 from h3)]
  rw [show q_us (qS_us s (va_up (q_us s) j x)) j = x from va_up_self _ _ _]; rfl
theorem kp_engine (x : Nat) (hx3 : x < 3) (hexec : p.tables.exec = Jvm.exec) (hb : c.code = cc) (ht : ∀ w ∈ GW, w.before args st = true) (hown : st.vm.findClass own = some m.cls) (hw : Sk G A lc s z n0 u0 u st H locs) (hj : j < n0) (h3 : q_so s j = 3) (hlink : Cond.fieldLink own index "QuoteGraph$Option" "engine" "LQuoteGraph$Engine;" ∈ GW) (hdg : decode cc pc = .ok (.putfield index, 3))
    (kk : ∀ (H1 : Heap) (locs1 : List Loc) (u1 : WT), Sk G A lc (qS_en s (va_up (q_en s) j x)) z n0 u0 u1 st H1 locs1 → W p l e R st m args below meth c H1 locs1 cells slots Q (F0 m (pc + 3) ls rest)) : W p l e R st m args below meth c H locs cells slots Q (F0 m pc ls (.ref (lc (5 + x)) :: .ref (lc (8 + j)) :: rest)) := by
  have hok : okQ (qS_en s (va_up (q_en s) j x)) := by
    refine ⟨hw.2.1.1.1, fun i hi => ?_⟩
    obtain ⟨b1, b2, b3, b4, b5, b6⟩ := hw.2.1.1.2 i hi
    refine ⟨b1, b2, b3, b4, b5, ?_⟩
    show va_up (q_en s) j x i < 3
    by_cases h : i = j
    · subst h; rw [va_up_self]; exact hx3
    · rw [va_up_ne _ _ h]; exact b6
  refine kp_O 19 (by decide) (by decide) (qS_en s (va_up (q_en s) j x)) (ty := .object "QuoteGraph$Engine") hexec hb ht hown hw hj h3 hlink rfl rfl (by decide +kernel) rfl rfl hdg ?_ (fun _ => rfl) hok rfl ⟨rfl, rfl, rfl⟩ rfl (fun i hi => ndX_ne rfl rfl ⟨rfl, rfl, rfl, rfl⟩ ⟨rfl, rfl, va_up_ne _ _ hi, rfl⟩) rfl kk
  rw [ndX_O h3, ndX_O (show q_so (qS_en s (va_up (q_en s) j x)) j = 3 from h3)]
  rw [show q_en (qS_en s (va_up (q_en s) j x)) j = x from va_up_self _ _ _]; rfl
theorem kp_size (x : Int32) (hexec : p.tables.exec = Jvm.exec) (hb : c.code = cc) (ht : ∀ w ∈ GW, w.before args st = true) (hown : st.vm.findClass own = some m.cls) (hw : Sk G A lc s z n0 u0 u st H locs) (hj : j < n0) (h3 : q_so s j = 3) (hlink : Cond.fieldLink own index "QuoteGraph$Option" "size" "I" ∈ GW) (hdg : decode cc pc = .ok (.putfield index, 3))
    (kk : ∀ (H1 : Heap) (locs1 : List Loc) (u1 : WT), Sk G A lc (qS_sz s (va_up (q_sz s) j x)) z n0 u0 u1 st H1 locs1 → W p l e R st m args below meth c H1 locs1 cells slots Q (F0 m (pc + 3) ls rest)) : W p l e R st m args below meth c H locs cells slots Q (F0 m pc ls (.int x :: .ref (lc (8 + j)) :: rest)) := by
  refine kp_O 20 (by decide) (by decide) (qS_sz s (va_up (q_sz s) j x)) (ty := .int) hexec hb ht hown hw hj h3 hlink rfl rfl (by decide +kernel) rfl rfl hdg ?_ (fun _ => rfl) hw.2.1.1 rfl ⟨rfl, rfl, rfl⟩ rfl (fun i hi => ndX_ne rfl rfl ⟨rfl, rfl, rfl, rfl⟩ ⟨rfl, rfl, rfl, va_up_ne _ _ hi⟩) rfl kk
  rw [ndX_O h3, ndX_O (show q_so (qS_sz s (va_up (q_sz s) j x)) j = 3 from h3)]
  rw [show q_sz (qS_sz s (va_up (q_sz s) j x)) j = x from va_up_self _ _ _]; rfl
end ORows
/-- option o's rate and knock -/
def ptQ (s : QS) (o : Nat) (ra kn : Option Nat) : QS := qS_pt s (va_up (q_pt s) o (fun k => if k = 2 then ra else if k = 3 then kn else q_pt s o k))
theorem ptQ_o {s : QS} {o : Nat} {ra kn : Option Nat} : q_pt (ptQ s o ra kn) o = (fun k => if k = 2 then ra else if k = 3 then kn else q_pt s o k) := va_up_self _ _ _
theorem ptQ_n {s : QS} {o i : Nat} {ra kn : Option Nat} (h : i ≠ o) : q_pt (ptQ s o ra kn) i = q_pt s i := va_up_ne _ _ h
theorem ptQ_np {s : QS} {o : Nat} {ra kn : Option Nat} (h3 : q_so s o = 3) : np (ptQ s o ra kn) o = 2 + (if ra.isSome then 1 else 0) + (if kn.isSome then 1 else 0) := by
  unfold np; rw [ptQ_o, show q_so (ptQ s o ra kn) o = 3 from h3]; rfl
theorem pt_f {G : GT} {lc : Nat → Nat} {s : QS} {z : ZS} {u : WT} (hR : rQ G lc s z u) {o : Nat} (ho : o < q_n s) (h3 : q_so s o = 3) {ra kn : Option Nat} {f : Nat → Option Nat} (f01 : ∀ k, k < 2 → f k = z_pr z o k) (f2 : ∀ x, ra = some x → f 2 = some (lc (8 + x))) (f2' : ra = none → ∀ y, kn = some y → f 2 = some (lc (8 + y))) (f3 : ∀ x y, ra = some x → kn = some y → f 3 = some (lc (8 + y))) : ∀ k, k < np (ptQ s o ra kn) o → f k = some (lc (8 + cp (ptQ s o ra kn) o k)) := by
  intro k hk
  rw [ptQ_np h3] at hk
  by_cases h2 : k < 2
  · rw [f01 k h2, hR.2.2.2 o ho k (by unfold np; rw [h3]; show k < 2 + _ + _; omega)]
    unfold cp
    rw [if_pos h2, if_pos h2, ptQ_o]
    show some (lc (8 + (q_pt s o k).getD 0)) = some (lc (8 + (if k = 2 then ra else if k = 3 then kn else q_pt s o k).getD 0))
    rw [if_neg (by omega), if_neg (by omega)]
  · rcases ra with _ | x <;> rcases kn with _ | y
    · simp at hk; omega
    · have : k = 2 := by simp at hk; omega
      subst this
      rw [f2' rfl y rfl]; unfold cp; rw [if_neg h2, if_pos rfl, ptQ_o]; rfl
    · have : k = 2 := by simp at hk; omega
      subst this
      rw [f2 x rfl]; unfold cp; rw [if_neg h2, if_pos rfl, ptQ_o]; rfl
    · have : k = 2 ∨ k = 3 := by simp at hk; omega
      rcases this with rfl | rfl
      · rw [f2 x rfl]; unfold cp; rw [if_neg h2, if_pos rfl, ptQ_o]; rfl
      · rw [f3 x y rfl rfl]; unfold cp; rw [if_neg h2, if_neg (by decide), ptQ_o]; rfl
theorem ptQ_ok {s : QS} (h : okQ s) {o : Nat} (h3 : q_so s o = 3) {ra kn : Option Nat} (hra : ∀ x, ra = some x → x < q_n s) (hkn : ∀ x, kn = some x → x < q_n s) : okQ (ptQ s o ra kn) := by
  refine ⟨h.1, fun i hi => ?_⟩
  obtain ⟨b1, b2, b3, b4, b5, b6⟩ := h.2 i hi
  by_cases hio : i = o
  · subst hio
    rw [ptQ_o]
    refine ⟨b1, fun k hk h0 => ?_, fun h0 => absurd (h3.symm.trans (h0 : q_so s i = 0)) (by decide), fun h9 => absurd h3 h9, fun k x hx => ?_, b6⟩
    · obtain ⟨x, e1, e2⟩ := b2 k hk h0
      exact ⟨x, by show (if k = 2 then ra else if k = 3 then kn else q_pt s i k) = _; rw [if_neg (by omega), if_neg (by omega)]; exact e1, e2⟩
    · have hx : (if k = 2 then ra else if k = 3 then kn else q_pt s i k) = some x := hx
      split at hx
      · exact hra x hx
      · split at hx
        · exact hkn x hx
        · exact b5 k x hx
  · rw [ptQ_n hio]; exact ⟨b1, b2, b3, b4, b5, b6⟩
/-- option o's two cells have turned -/
theorem rQ_pt {G : GT} {lc : Nat → Nat} {s : QS} {z : ZS} {u u' : WT} (hR : rQ G lc s z u) {o : Nat} (ho : o < q_n s) (h3 : q_so s o = 3) {ra kn : Option Nat} (hra : ∀ x, ra = some x → x < q_n s) (hkn : ∀ x, kn = some x → x < q_n s) {f : Nat → Option Nat} (hf : ∀ k, k < np (ptQ s o ra kn) o → f k = some (lc (8 + cp (ptQ s o ra kn) o k))) (hu : u'.1 = u.1)
    (hA : u'.2 (lc (8 + o)) = .inr (4, ndB lc (ptQ s o ra kn) z o ++ ndX lc (ptQ s o ra kn) o)) (hB : u'.2 (lc (24 + o)) = .inl (G.2.1 4, 4, rfs f)) (hO : ∀ c, c ≠ lc (8 + o) → c ≠ lc (24 + o) → u'.2 c = u.2 c) : rQ G lc (ptQ s o ra kn) (zS_pr z (va_up (z_pr z) o f)) u' ∧ fQ lc (q_n s) u u' := by
  obtain ⟨hok, hm, hi, hpr⟩ := hR
  have h16 := hok.1
  have hB' : ∀ i, ndB lc (ptQ s o ra kn) (zS_pr z (va_up (z_pr z) o f)) i = ndB lc (ptQ s o ra kn) z i := fun _ => rfl
  have hnp : ∀ i, i ≠ o → np (ptQ s o ra kn) i = np s i := fun i h => by unfold np; rw [ptQ_n h]; rfl
  have hcp : ∀ i, i ≠ o → ∀ k, cp (ptQ s o ra kn) i k = cp s i k := fun i h k => by unfold cp; rw [ptQ_n h]
  refine ⟨⟨ptQ_ok hok h3 hra hkn, fun k hk => ?_, hi, fun i hi' k hk => ?_⟩, fun c hc hne => ⟨by rw [hu]; exact hc, hO c (fun e => hne _ (liv_n ho) e.symm) (fun e => hne _ (liv_p ho) e.symm)⟩⟩
  · have hk : liv (q_n s) k := hk
    refine ⟨by rw [hu]; exact (hm k hk).1, ?_⟩
    by_cases h8 : k = 8 + o
    · subst h8
      rw [hA, cQ_n (by omega), show q_so (ptQ s o ra kn) o = 3 from h3, hB']
    · by_cases h24 : k = 24 + o
      · subst h24
        rw [hB, cQ_p, show q_so (ptQ s o ra kn) o = 3 from h3]
        show _ = (.inl (G.2.1 4, 4, rfs (va_up (z_pr z) o f o)) : va_E)
        rw [va_up_self]
      · rw [hO _ (fun e => h8 (hi k _ hk (liv_n ho) e)) (fun e => h24 (hi k _ hk (liv_p ho) e)), (hm k hk).2]
        unfold liv at hk
        by_cases hk8 : k < 8
        · unfold cQ
          split; rfl
          split; rfl
          split; rfl
          split; rfl
          split; rfl
          split; rfl
          split; rfl
          split; rfl
          omega
        · by_cases hk2 : k < 8 + q_n s
          · obtain ⟨i, rfl⟩ : ∃ i, k = 8 + i := ⟨k - 8, by omega⟩
            have hio : i ≠ o := by omega
            rw [cQ_n (by omega), cQ_n (by omega), show q_so (ptQ s o ra kn) i = q_so s i from rfl, hB']
            have e1 : ndB lc (ptQ s o ra kn) z i = ndB lc s z i := by unfold ndB; rw [hnp i hio]; rfl
            have e2 : ndX lc (ptQ s o ra kn) i = ndX lc s i := by unfold ndX; rw [ptQ_n hio]; rfl
            rw [e1, e2]
          · obtain ⟨i, rfl⟩ : ∃ i, k = 24 + i := ⟨k - 24, by omega⟩
            rw [cQ_p, cQ_p, show q_so (ptQ s o ra kn) i = q_so s i from rfl]
            show (.inl (G.2.1 4, plen (q_so s i), rfs (z_pr z i)) : va_E) = .inl (G.2.1 4, plen (q_so s i), rfs (va_up (z_pr z) o f i))
            rw [va_up_ne _ _ (by omega)]
  · show va_up (z_pr z) o f i k = _
    by_cases hio : i = o
    · subst hio; rw [va_up_self]; exact hf k hk
    · rw [va_up_ne _ _ hio, hcp i hio]
      exact hpr i hi' k (by rw [← hnp i hio]; exact hk)

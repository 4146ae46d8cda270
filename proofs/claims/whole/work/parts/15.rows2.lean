/-! 15.rows2: the counters of the object; the tale of a change as mathematics -/
section SRows2
variable {p : Program} {l : Launch} {e : Env} {R : Room} {st : State} {m : MethodId} {args : Array Value} {below : List Frame} {meth : Method} {c : Code} {H : Heap} {locs : List Loc} {cells slots : Nat} {Q : State → Prop}
variable {cc : ByteArray} {pc : Nat} {ls : Array Slot} {rest : List Value} {G : GT} {A : Nat → Prop} {u0 u : WT} {lc : Nat → Nat} {s : QS} {z : ZS} {j n0 index : Nat} {own ref : String}
theorem kp_toldCount (x : Int32) (hexec : p.tables.exec = Jvm.exec) (hb : c.code = cc) (ht : ∀ w ∈ GW, w.before args st = true) (hown : st.vm.findClass own = some m.cls) (hw : Sk G A lc s z n0 u0 u st H locs) (hlink : Cond.fieldLink own index "QuoteGraph" "toldCount" "I" ∈ GW) (hdg : decode cc pc = .ok (.putfield index, 3))
    (kk : ∀ (H1 : Heap) (locs1 : List Loc) (u1 : WT), Sk G A lc (qS_tl s x) z n0 u0 u1 st H1 locs1 → W p l e R st m args below meth c H1 locs1 cells slots Q (F0 m (pc + 3) ls rest)) : W p l e R st m args below meth c H locs cells slots Q (F0 m pc ls (.int x :: .ref (lc 0) :: rest)) := by
  obtain ⟨ha, he⟩ := hw.2.1.at (liv_s (k := 0) (by omega))
  refine k_put hexec hb ht i_Q t_Q t_Q_ok n_Q hown hw.1 ha he rfl 3 (by decide) hlink (fun _ h => h) rfl (ty := .int) (by decide +kernel) rfl rfl (Nat.le_of_ble_eq_true rfl) hdg (fun H1 locs1 hw1 => ?_)
  have r := hw.2.1.put (s' := qS_tl s x) (z' := z) (liv_s (k := 0) (by omega)) (x := .inr (0, [.ref (lc 1), .ref (lc 2), .int (nI (q_n s)), .int x, .int (q_wk s), .int (q_fl s)])) rfl hw.2.1.1 rfl (fun i _ hi => by unfold cQ; rw [if_neg hi, if_neg hi]; rfl) (fun j hj k hk => hw.2.1.2.2.2 j hj k hk)
  exact kk H1 locs1 _ ⟨hw1, r.1, hw.2.2.1.tr (by rw [← hw.2.2.2]; exact r.2), hw.2.2.2⟩
theorem kp_workedCount (x : Int32) (hexec : p.tables.exec = Jvm.exec) (hb : c.code = cc) (ht : ∀ w ∈ GW, w.before args st = true) (hown : st.vm.findClass own = some m.cls) (hw : Sk G A lc s z n0 u0 u st H locs) (hlink : Cond.fieldLink own index "QuoteGraph" "workedCount" "I" ∈ GW) (hdg : decode cc pc = .ok (.putfield index, 3))
    (kk : ∀ (H1 : Heap) (locs1 : List Loc) (u1 : WT), Sk G A lc (qS_wk s x) z n0 u0 u1 st H1 locs1 → W p l e R st m args below meth c H1 locs1 cells slots Q (F0 m (pc + 3) ls rest)) : W p l e R st m args below meth c H locs cells slots Q (F0 m pc ls (.int x :: .ref (lc 0) :: rest)) := by
  obtain ⟨ha, he⟩ := hw.2.1.at (liv_s (k := 0) (by omega))
  refine k_put hexec hb ht i_Q t_Q t_Q_ok n_Q hown hw.1 ha he rfl 4 (by decide) hlink (fun _ h => h) rfl (ty := .int) (by decide +kernel) rfl rfl (Nat.le_of_ble_eq_true rfl) hdg (fun H1 locs1 hw1 => ?_)
  have r := hw.2.1.put (s' := qS_wk s x) (z' := z) (liv_s (k := 0) (by omega)) (x := .inr (0, [.ref (lc 1), .ref (lc 2), .int (nI (q_n s)), .int (q_tl s), .int x, .int (q_fl s)])) rfl hw.2.1.1 rfl (fun i _ hi => by unfold cQ; rw [if_neg hi, if_neg hi]; rfl) (fun j hj k hk => hw.2.1.2.2.2 j hj k hk)
  exact kk H1 locs1 _ ⟨hw1, r.1, hw.2.2.1.tr (by rw [← hw.2.2.2]; exact r.2), hw.2.2.2⟩
theorem kp_failureCount (x : Int32) (hexec : p.tables.exec = Jvm.exec) (hb : c.code = cc) (ht : ∀ w ∈ GW, w.before args st = true) (hown : st.vm.findClass own = some m.cls) (hw : Sk G A lc s z n0 u0 u st H locs) (hlink : Cond.fieldLink own index "QuoteGraph" "failureCount" "I" ∈ GW) (hdg : decode cc pc = .ok (.putfield index, 3))
    (kk : ∀ (H1 : Heap) (locs1 : List Loc) (u1 : WT), Sk G A lc (qS_fl s x) z n0 u0 u1 st H1 locs1 → W p l e R st m args below meth c H1 locs1 cells slots Q (F0 m (pc + 3) ls rest)) : W p l e R st m args below meth c H locs cells slots Q (F0 m pc ls (.int x :: .ref (lc 0) :: rest)) := by
  obtain ⟨ha, he⟩ := hw.2.1.at (liv_s (k := 0) (by omega))
  refine k_put hexec hb ht i_Q t_Q t_Q_ok n_Q hown hw.1 ha he rfl 5 (by decide) hlink (fun _ h => h) rfl (ty := .int) (by decide +kernel) rfl rfl (Nat.le_of_ble_eq_true rfl) hdg (fun H1 locs1 hw1 => ?_)
  have r := hw.2.1.put (s' := qS_fl s x) (z' := z) (liv_s (k := 0) (by omega)) (x := .inr (0, [.ref (lc 1), .ref (lc 2), .int (nI (q_n s)), .int (q_tl s), .int (q_wk s), .int x])) rfl hw.2.1.1 rfl (fun i _ hi => by unfold cQ; rw [if_neg hi, if_neg hi]; rfl) (fun j hj k hk => hw.2.1.2.2.2 j hj k hk)
  exact kk H1 locs1 _ ⟨hw1, r.1, hw.2.2.1.tr (by rw [← hw.2.2.2]; exact r.2), hw.2.2.2⟩
end SRows2
/-- how many of the first k -/
def vc (f : Nat → Bool) : Nat → Nat
  | 0 => 0
  | k + 1 => vc f k + (if f k then 1 else 0)
theorem vc_le (f : Nat → Bool) : ∀ n, vc f n ≤ n
  | 0 => Nat.le_refl _
  | n + 1 => by have := vc_le f n; show vc f n + _ ≤ _; split <;> omega
theorem vc_mono {f g : Nat → Bool} : ∀ {n : Nat}, (∀ i, i < n → f i = true → g i = true) → vc f n ≤ vc g n
  | 0, _ => Nat.le_refl _
  | n + 1, h => by
    have h1 := vc_mono (n := n) (fun i hi => h i (by omega))
    have h2 := h n (by omega)
    show vc f n + _ ≤ vc g n + _
    cases hf : f n
    · simp; omega
    · rw [h2 hf]; simp; exact h1
theorem vc_congr {f g : Nat → Bool} : ∀ {n : Nat}, (∀ i, i < n → f i = g i) → vc f n = vc g n
  | 0, _ => rfl
  | n + 1, h => by show vc f n + _ = vc g n + _; rw [vc_congr (n := n) (fun i hi => h i (by omega)), h n (by omega)]
theorem vc_off {f : Nat → Bool} {j : Nat} : ∀ {n : Nat}, j < n → f j = true → vc (va_up f j false) n + 1 = vc f n
  | 0, h, _ => absurd h (by omega)
  | n + 1, h, hf => by
    show vc (va_up f j false) n + (if va_up f j false n = true then 1 else 0) + 1 = vc f n + _
    by_cases hj : j = n
    · subst hj
      rw [va_up_self, vc_congr (f := va_up f j false) (g := f) (fun i hi => va_up_ne _ _ (by omega)), hf]; simp
    · have := vc_off (n := n) (by omega) hf
      rw [va_up_ne _ _ (fun e => hj e.symm)]; omega
/-- node j's users are told, by f, in their order -/
def tellU (f : QS → Nat → QS) (j : Nat) (s : QS) : Nat → QS
  | 0 => s
  | i + 1 => if pbits (tellU f j s i) i &&& bitI j = 0 then tellU f j s i else f (tellU f j s i) i
/-- node j is told (d: more than the nodes that are valid) -/
def tellF : Nat → QS → Nat → QS
  | 0, s, _ => s
  | d + 1, s, j => if q_va s j = false then s else if q_fr s j = true then qS_mi s (va_up (q_mi s) j true) else tellU (tellF d) j (qS_tl (qS_va s (va_up (q_va s) j false)) (q_tl s + 1)) (q_n s)
/-- what telling leaves as it was; valid ones only get fewer -/
def tlK (s s' : QS) : Prop := (q_n s' = q_n s ∧ q_so s' = q_so s ∧ q_am s' = q_am s ∧ q_fr s' = q_fr s ∧ q_tw s' = q_tw s ∧ q_pt s' = q_pt s ∧ q_wa s' = q_wa s ∧ q_wb s' = q_wb s ∧ q_kd s' = q_kd s ∧ q_sp s' = q_sp s ∧ q_ch s' = q_ch s ∧ q_us s' = q_us s ∧ q_en s' = q_en s ∧ q_sz s' = q_sz s ∧ q_wk s' = q_wk s ∧ q_fl s' = q_fl s) ∧ ∀ i, q_va s' i = true → q_va s i = true
theorem tlK.rf {s : QS} : tlK s s := ⟨⟨rfl, rfl, rfl, rfl, rfl, rfl, rfl, rfl, rfl, rfl, rfl, rfl, rfl, rfl, rfl, rfl⟩, fun _ h => h⟩
theorem tlK.tr {s s' s'' : QS} (h : tlK s s') (h' : tlK s' s'') : tlK s s'' := by
  obtain ⟨⟨a1, a2, a3, a4, a5, a6, a7, a8, a9, a10, a11, a12, a13, a14, a15, a16⟩, a⟩ := h
  obtain ⟨⟨b1, b2, b3, b4, b5, b6, b7, b8, b9, b10, b11, b12, b13, b14, b15, b16⟩, b⟩ := h'
  exact ⟨⟨b1.trans a1, b2.trans a2, b3.trans a3, b4.trans a4, b5.trans a5, b6.trans a6, b7.trans a7, b8.trans a8, b9.trans a9, b10.trans a10, b11.trans a11, b12.trans a12, b13.trans a13, b14.trans a14, b15.trans a15, b16.trans a16⟩, fun i hi => a i (b i hi)⟩
theorem tellU_K {f : QS → Nat → QS} (hf : ∀ s i, tlK s (f s i)) {j : Nat} {s : QS} : ∀ k, tlK s (tellU f j s k)
  | 0 => tlK.rf
  | k + 1 => by
    show tlK s (if _ then _ else _)
    split
    · exact tellU_K hf k
    · exact (tellU_K hf k).tr (hf _ _)
theorem tlK_off {s : QS} {j : Nat} : tlK s (qS_tl (qS_va s (va_up (q_va s) j false)) (q_tl s + 1)) := ⟨⟨rfl, rfl, rfl, rfl, rfl, rfl, rfl, rfl, rfl, rfl, rfl, rfl, rfl, rfl, rfl, rfl⟩, fun i h => by
  have h : va_up (q_va s) j false i = true := h
  by_cases hij : i = j
  · subst hij; rw [va_up_self] at h; cases h
  · rwa [va_up_ne _ _ hij] at h⟩
theorem tellF_K : ∀ (d : Nat) (s : QS) (j : Nat), tlK s (tellF d s j)
  | 0, _, _ => tlK.rf
  | d + 1, s, j => by
    show tlK s (if _ then _ else if _ then _ else _)
    split
    · exact tlK.rf
    · split
      · exact ⟨⟨rfl, rfl, rfl, rfl, rfl, rfl, rfl, rfl, rfl, rfl, rfl, rfl, rfl, rfl, rfl, rfl⟩, fun _ h => h⟩
      · exact tlK_off.tr (tellU_K (fun s i => tellF_K d s i) _)
theorem tlK.vc {s s' : QS} (h : tlK s s') : vc (q_va s') (q_n s') ≤ vc (q_va s) (q_n s) := by rw [h.1.1]; exact vc_mono (fun i _ hi => h.2 i hi)
theorem tlK.ok {s s' : QS} (h : tlK s s') (ho : okQ s) : okQ s' := by
  obtain ⟨⟨a1, a2, a3, a4, a5, a6, a7, a8, a9, a10, a11, a12, a13, a14, a15, a16⟩, a⟩ := h
  unfold okQ; rw [a1, a2, a6, a13]; exact ho

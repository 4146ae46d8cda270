/-! 60.start: the law's start: the tables' facts, the object, the reference, the two rows -/
theorem arr_p {args : Array Value} {s : State} {ty : FieldType} (h : (Cond.arrayClass ty).before args s = true) (hp : ∀ C, ty ≠ .object C) : ∃ cA, ArrOfT s cA ty ∧ va_RA s cA ty := by
  obtain ⟨c, k, comp, h1, h2, h3⟩ := Cond.arrayClass_spec h
  refine ⟨c, fun n z => ⟨(fun k h => by cases h), k, h2, comp, h3⟩, ?_⟩
  cases ty with
  | object C => exact absurd rfl (hp C)
  | _ => exact h1
theorem arr_o {s : State} {C : String} (h : va_AO C s) : ∃ cA, ArrOfT s cA (.object C) ∧ va_RA s cA (.object C) := by
  obtain ⟨comp, c, k, h1, h2, h3, h4, h5⟩ := Cond.arrayOver_spec h
  exact ⟨c, fun n z => ⟨(fun k h => by cases h), k, h3, comp, h4⟩, k, comp, h3, h4, h1, h5⟩
theorem ex_ref {args : Array Value} {s : State} {t : Term} {C : String} (h : (Cond.exactly t C).before args s = true) : ∃ a : Nat, t.eval args s none [] s = some (.ref a) := by
  obtain ⟨a, c, cell, k, h1, -⟩ := Cond.exactly_spec h
  exact ⟨a, h1⟩
theorem ne_ref {args : Array Value} {s : State} {t1 t2 : Term} {a1 a2 : Nat} (h : (Cond.not (.eq t1 t2)).before args s = true) (h1 : t1.eval args s none [] s = some (.ref a1)) (h2 : t2.eval args s none [] s = some (.ref a2)) : a1 ≠ a2 := by
  intro e
  subst e
  simp [Cond.before, Cond.holds, Cond.value, h1, h2] at h
theorem str_tab : ∀ x ∈ strs, Cond.stringRef x.1 x.2.1 x.2.2 ∈ lw_tbl := by decide +kernel
theorem str_flat : ∀ x ∈ strs, Cond.exactly (.string x.1 x.2.1) "java/lang/String" ∈ flatC (Jvm.Cond.and given_1 narrow_1) := by decide +kernel
theorem nc_flat : ∀ x ∈ ncasts, Cond.not (.castable x.1 x.2) ∈ flatC (Jvm.Cond.and given_1 narrow_1) := by decide +kernel
theorem en_flat : ∀ n ∈ enums, Cond.exactly (.static "QuoteGraph$Trouble" n "LQuoteGraph$Trouble;") "QuoteGraph$Trouble" ∈ flatC (Jvm.Cond.and given_1 narrow_1) := by decide +kernel
theorem en_tab : ∀ n ∈ enums, Cond.laysStatic "QuoteGraph$Trouble" n "LQuoteGraph$Trouble;" ∈ lw_tbl := by decide +kernel
/-- the surroundings at the law's entry -/
theorem start_Ev {p : Program} {s : State} {m : MethodId} {meth : Method} {c : Code} {b L : Nat} {xs : Nat → Int32} (C0 : lw_At p s m meth c b L xs) : ∃ G : GT, Ev G (fun q : Nat => s.heap.size ≤ q) s := by
  obtain ⟨hx, hb, hr, hml, hown, hts, hX, hbl, hlocks, hgv⟩ := C0
  have hs := flat_of_before _ hgv
  have hA : ∀ a : Nat, a < s.heap.size → ¬ (fun q : Nat => s.heap.size ≤ q) a := fun a h => Nat.not_le.mpr h
  have ht : ∀ w ∈ GW, w.before #[Value.ref b] s = true := fun w hw => hts w (List.mem_filter.mp hw).1
  have hcl : ∀ k : Nat, ∃ q : ClassId × (Nat → Nat), ∀ x : vw_C, classes[k]? = some x → u_Kn s x.1 x.2.1 x.2.2 q.1 q.2 := by
    intro k
    have key : ∀ x : vw_C, (∀ w ∈ u_ws x.1 x.2.1 x.2.2, w ∈ GW) → (Cond.instantiable x.1 x.2.2).before #[Value.ref b] s = true → ∃ q : ClassId × (Nat → Nat), u_Kn s x.1 x.2.1 x.2.2 q.1 q.2 := fun x h1 h2 => by
      obtain ⟨c0, i0, h⟩ := u_known ht h1 h2
      exact ⟨(c0, i0), h⟩
    match k with
    | 0 => obtain ⟨q, h⟩ := key (R_Q, F_Q, 6) i_Q (hts _ (by decide +kernel)); exact ⟨q, fun x hx => by cases hx; exact h⟩
    | 1 => obtain ⟨q, h⟩ := key (R_Qt, F_Qt, 10) i_Qt (hts _ (by decide +kernel)); exact ⟨q, fun x hx => by cases hx; exact h⟩
    | 2 => obtain ⟨q, h⟩ := key (R_Bl, F_Bl, 12) i_Bl (hts _ (by decide +kernel)); exact ⟨q, fun x hx => by cases hx; exact h⟩
    | 3 => obtain ⟨q, h⟩ := key (R_Gr, F_Gr, 10) i_Gr (hts _ (by decide +kernel)); exact ⟨q, fun x hx => by cases hx; exact h⟩
    | 4 => obtain ⟨q, h⟩ := key (R_Op, F_Op, 21) i_Op (hts _ (by decide +kernel)); exact ⟨q, fun x hx => by cases hx; exact h⟩
    | 5 => obtain ⟨q, h⟩ := key (R_La, F_La, 3) i_La (hts _ (by decide +kernel)); exact ⟨q, fun x hx => by cases hx; exact h⟩
    | 6 => obtain ⟨q, h⟩ := key (R_Pa, F_Pa, 3) i_Pa (hts _ (by decide +kernel)); exact ⟨q, fun x hx => by cases hx; exact h⟩
    | 7 => obtain ⟨q, h⟩ := key (R_Ne, F_Ne, 3) i_Ne (hts _ (by decide +kernel)); exact ⟨q, fun x hx => by cases hx; exact h⟩
    | 8 => obtain ⟨q, h⟩ := key (R_M, F_M, 32) i_M (hts _ (by decide +kernel)); exact ⟨q, fun x hx => by cases hx; exact h⟩
    | k + 9 => exact ⟨(0, fun _ => 0), fun x hx => by simp [classes] at hx⟩
  obtain ⟨D, hD⟩ := Classical.axiomOfChoice hcl
  have hAOn : va_AO "QuoteGraph$Node" s := va_AO.of (hts (.arrayOver (.object "QuoteGraph$Node")) (by decide +kernel))
  have hAOe : va_AO "QuoteGraph$Engine" s := va_AO.of (hts (.arrayOver (.object "QuoteGraph$Engine")) (by decide +kernel))
  obtain ⟨t0, ht0⟩ := arr_p (hts (.arrayClass .long) (by decide +kernel)) (fun C h => by cases h)
  obtain ⟨t1, ht1⟩ := arr_p (hts (.arrayClass .int) (by decide +kernel)) (fun C h => by cases h)
  obtain ⟨t2, ht2⟩ := arr_p (hts (.arrayClass .boolean) (by decide +kernel)) (fun C h => by cases h)
  obtain ⟨t3, ht3⟩ := arr_p (hts (.arrayClass .double) (by decide +kernel)) (fun C h => by cases h)
  obtain ⟨t4, ht4⟩ := arr_o hAOn
  obtain ⟨t5, ht5⟩ := arr_o hAOe
  have hst : ∀ k : Nat, ∃ a : Nat, ∀ x : String × Nat × String, strs[k]? = some x → vk_R x.1 x.2.1 x.2.2 a s := by
    intro k
    rcases hk : strs[k]? with _ | x
    · exact ⟨0, fun x h => by cases h⟩
    · have hm : x ∈ strs := List.mem_of_getElem? hk
      obtain ⟨a, ha⟩ := ex_ref (hs _ (str_flat x hm))
      exact ⟨a, fun y h => by cases h; exact vk_R.of (hts _ (str_tab x hm)) ha⟩
  obtain ⟨fS, hfS⟩ := Classical.axiomOfChoice hst
  obtain ⟨e0, he0⟩ := ex_ref (hs _ (en_flat "NONE" (by decide)))
  obtain ⟨e1, he1⟩ := ex_ref (hs _ (en_flat "ARITHMETIC" (by decide)))
  obtain ⟨e2, he2⟩ := ex_ref (hs _ (en_flat "UNSUPPORTED" (by decide)))
  have n10 : e1 ≠ e0 := ne_ref (hs (Cond.not (.eq (.static "QuoteGraph$Trouble" "ARITHMETIC" "LQuoteGraph$Trouble;") (.static "QuoteGraph$Trouble" "NONE" "LQuoteGraph$Trouble;"))) (by decide +kernel)) he1 he0
  have n12 : e1 ≠ e2 := ne_ref (hs (Cond.not (.eq (.static "QuoteGraph$Trouble" "ARITHMETIC" "LQuoteGraph$Trouble;") (.static "QuoteGraph$Trouble" "UNSUPPORTED" "LQuoteGraph$Trouble;"))) (by decide +kernel)) he1 he2
  have n20 : e2 ≠ e0 := ne_ref (hs (Cond.not (.eq (.static "QuoteGraph$Trouble" "UNSUPPORTED" "LQuoteGraph$Trouble;") (.static "QuoteGraph$Trouble" "NONE" "LQuoteGraph$Trouble;"))) (by decide +kernel)) he2 he0
  have hti : (Cond.initialized "QuoteGraph$Trouble").before #[Value.ref b] s = true := hts _ (by decide +kernel)
  refine ⟨((fun k => (D k).1, fun k => (D k).2), (fun k => if k = 0 then t0 else if k = 1 then t1 else if k = 2 then t2 else if k = 3 then t3 else if k = 4 then t4 else t5), fS, (fun k => if k = 0 then e0 else if k = 1 then e1 else e2)), ⟨fun k q hq => hD k q hq, fun k q hq => ?_⟩, ?_, ?_, fun k x hx => hfS k x hx, fun w hw => va_Nw.of (EW_tab hw) (hts w (List.mem_filter.mp hw).1), fun x hx => va_Nc.of (hs _ (nc_flat x hx)), hAOn, hAOe, fun k n hn => ?_, ?_⟩
  · match k, hq with
    | 0, hq => cases hq; exact ht0
    | 1, hq => cases hq; exact ht1
    | 2, hq => cases hq; exact ht2
    | 3, hq => cases hq; exact ht3
    | 4, hq => cases hq; exact ht4
    | 5, hq => cases hq; exact ht5
    | k + 6, hq => simp [tysG] at hq
  · exact vx_Zqof (hts (.laysStatic "java/lang/Throwable" "UNASSIGNED_STACK" "[Ljava/lang/StackTraceElement;") (by decide +kernel)) (hts (.initialized "java/lang/Throwable") (by decide +kernel)) (hs (.isRef (.static "java/lang/Throwable" "UNASSIGNED_STACK" "[Ljava/lang/StackTraceElement;")) (by decide +kernel)) hA
  · exact vx_Zqof (hts (.laysStatic "java/lang/Throwable" "SUPPRESSED_SENTINEL" "Ljava/util/List;") (by decide +kernel)) (hts (.initialized "java/lang/Throwable") (by decide +kernel)) (hs (.isRef (.static "java/lang/Throwable" "SUPPRESSED_SENTINEL" "Ljava/util/List;")) (by decide +kernel)) hA
  · match k, hn with
    | 0, hn => cases hn; exact va_Zref (hts _ (en_tab "NONE" (by decide))) hti he0 hA
    | 1, hn => cases hn; exact va_Zref (hts _ (en_tab "ARITHMETIC" (by decide))) hti he1 hA
    | 2, hn => cases hn; exact va_Zref (hts _ (en_tab "UNSUPPORTED" (by decide))) hti he2 hA
    | k + 3, hn => simp [enums] at hn
  · intro i j hi hj h
    have hi3 : i = 0 ∨ i = 1 ∨ i = 2 := by omega
    have hj3 : j = 0 ∨ j = 1 ∨ j = 2 := by omega
    rcases hi3 with rfl | rfl | rfl <;> rcases hj3 with rfl | rfl | rfl
    · rfl
    · exact absurd (show e0 = e1 from h).symm n10
    · exact absurd (show e0 = e2 from h).symm n20
    · exact absurd (show e1 = e0 from h) n10
    · rfl
    · exact absurd (show e1 = e2 from h) n12
    · exact absurd (show e2 = e0 from h) n20
    · exact absurd (show e2 = e1 from h).symm n12
    · rfl

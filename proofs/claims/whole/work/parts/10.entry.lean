/-! 10.entry: a method's body gives its contract -/
theorem k_of {l : Launch} {y : MethodName} {b : ByteArray} {n : Nat} {ret : Option FieldType} {fr lo rc rs mc ms mx sx : Nat} {G : GT} {A : Nat → Prop} {u : WT} {As : List Value} {Qc : Array Value → State → Outcome → State → Prop} {px : String → WT → Prop} (hy : plainName y.cls = true) (hlen : (lg_sl As).length ≤ n)
    (body : ∀ (p : Program) (e : Env) (st : State) (m : MethodId) (below : List Frame) (meth : Method) (c : Code) (ls : Array Slot), p.tables.exec = Jvm.exec → c.code = b → meth.sig.returnType = ret → meth.locks = false → c.maxLocals = n → (∀ x ∈ c.exceptionTable.toList, False) → meth.name = y.name → st.vm.findClass y.cls = some m.cls → (∀ w ∈ GW, w.before As.toArray st = true) → Wk G A u st st.heap [] → lv_has ls n (lv_args 0 As) →
      W p l e { frames := fr, cells := rc, slots := rs, locals := lo } st m As.toArray below meth c st.heap [] 0 0 (ky_MQ below Qc (XX G A px) As.toArray st mc ms mx sx A) (F0 m 0 ls [])) : Kt l y b n ret fr lo rc rs mc ms mx sx G A u As Qc px := by
  refine MetFree.of_bodyS (code := b) (maxLocals := n) (ret := ret) hy ?_ ?_
  · intro args s m h hn
    obtain ⟨meth, c, h1, h2, h3, h4, h5, h6, -, -⟩ := Cond.code_spec hn (atoms_spec (ws := Cond.code y b n ret :: GW) h _ List.mem_cons_self)
    exact ⟨meth, c, h1, h2, h3, h4, h5, h6⟩
  · intro p e s m args below meth c s₁ B hml hP _
    obtain ⟨rfl, hWd⟩ := hP
    have hh0 : s₁.heap = s.heap := by rw [B.state]; rfl
    have hts := atoms_spec (ws := Cond.code y b n ret :: GW) B.pre
    have ht : ∀ x ∈ c.exceptionTable.toList, False := by
      obtain ⟨meth9, c9, h1, h2, -, -, -, -, h7, -⟩ := Cond.code_spec B.named (hts _ List.mem_cons_self)
      cases Option.some.inj (h1.symm.trans B.method)
      cases Option.some.inj (h2.symm.trans (Stand.of_body B).code)
      intro x hx
      rw [Array.isEmpty_iff.mp h7] at hx
      cases hx
    have K : W p l e { frames := fr, cells := rc, slots := rs, locals := lo } s m As.toArray below meth c s.heap [] 0 0 (ky_MQ below Qc (XX G A px) As.toArray s mc ms mx sx A) (entryFrame m As.toArray n) := by
      rw [lg_entry_eq]
      exact body p e s m below meth c _ B.exec B.bytes B.returns B.notSynchronized hml ht (name_of_methodNamed B.named B.method).1 (findClass_of_methodNamed B.named) (fun w h => hts w (List.mem_cons_of_mem _ h)) (Wk.start hWd) (lv_entry As hlen)
    obtain ⟨t, a1, o, b1, b2, b3⟩ := K s₁ hh0 (Stand.of_body B)
    exact ⟨t, o, a1, b1, b2, b3⟩

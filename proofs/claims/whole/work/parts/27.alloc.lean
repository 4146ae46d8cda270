/-! 27.alloc: new objects and arrays, casts, the enum's constants, methods with handlers -/
theorem RA_eq {s : State} {c1 c2 : ClassId} {ty : FieldType} (h1 : va_RA s c1 ty) (h2 : va_RA s c2 ty) : c1 = c2 := by
  cases ty
  case object C =>
    obtain ⟨-, -, -, -, -, h⟩ := h1
    obtain ⟨-, -, -, -, -, h'⟩ := h2
    exact Option.some.inj (h.symm.trans h')
  all_goals exact Option.some.inj (Eq.trans (Eq.symm h1) h2)
section KNew
variable {p : Program} {l : Launch} {e : Env} {R : Room} {s : State} {m : MethodId} {args : Array Value} {below : List Frame} {meth : Method} {c : Code} {H : Heap} {locs : List Loc} {cells slots : Nat} {Q : State → Prop}
variable {cc : ByteArray} {pc : Nat} {ls : Array Slot} {rest : List Value} {G : GT} {A : Nat → Prop} {a : Nat} {u : WT}
theorem k_new (hexec : p.tables.exec = Jvm.exec) (hb : c.code = cc) (ht : ∀ w ∈ GW, w.before args s = true) {own C : String} {T : u_T} {N ci index : Nat} (hin : ∀ w ∈ u_ws C T N, w ∈ GW) (ty : Nat → FieldType) (hty : ∀ k, k < N → parseFieldDescriptor (T k).2.2.1 = some (ty k)) (hown : s.vm.findClass own = some m.cls) (hcl : Cond.classLink own index C ∈ GW) (hinst : Cond.instantiable C N ∈ GW) (hini : Cond.initialized C ∈ GW) (hw : Wk G A u s H locs) (hc : classes[ci]? = some (C, T, N)) {fs : List Value} (hfs : ∀ j, j < N → defaultValue (ty j) = vp_V fs j) (hcells : cells + 1 ≤ R.cells) (hslots : slots + N ≤ R.slots) (hdg : decode cc pc = .ok (.new index, 3))
    (kk : ∀ (q : Nat) (H1 : Heap), q ∉ u.1 → Wk G A (u.1 ++ [q], va_up u.2 q (.inr (ci, fs))) s H1 locs → W p l e R s m args below meth c H1 locs (cells + 1) (slots + N) Q (F0 m (pc + 3) ls (.ref q :: rest))) : W p l e R s m args below meth c H locs cells slots Q (F0 m pc ls rest) := by
  refine va_new (Ts := GW) hexec hb ht hin ty hty hown (ht _ hcl) (ht _ hinst) (ht _ hini) hw.1.1 hw.2.1 hw.2.2.1 hw.2.2.2.1 hw.2.2.2.2 hc hfs hcells hslots hdg (fun q H1 hP hD hS => ?_)
  have hq := va_pl_fresh2 (X := []) hD
  rw [va_pl_push hq] at hP hD
  exact kk q H1 hq ⟨hw.1, hP, hD, hS, hw.2.2.2.2⟩
theorem k_newq (t0 : Nat) (hexec : p.tables.exec = Jvm.exec) (hb : c.code = cc) (ht : ∀ w ∈ GW, w.before args s = true) {own C : String} {index : Nat} (hown : s.vm.findClass own = some m.cls) (hcl : Cond.classLink own index C ∈ GW) (hw : Wk G A u s H locs) (hover : va_AO C s) (ht0 : (tysG G)[t0]? = some (G.2.1 t0, .object C)) {n : Int32} {N' : Nat} (hn : ¬ n < 0) (hN : n.toNatClampNeg = N') (hbytes : N' * 4 ≤ 536870912) (hcells : cells + 1 ≤ R.cells) (hslots : slots + N' ≤ R.slots) (hdg : decode cc pc = .ok (.anewarray index, 3))
    (kk : ∀ (q : Nat) (H1 : Heap), q ∉ u.1 → Wk G A (u.1 ++ [q], va_up u.2 q (.inl (G.2.1 t0, N', rfs (fun _ => none)))) s H1 locs → W p l e R s m args below meth c H1 locs (cells + 1) (slots + N') Q (F0 m (pc + 3) ls (.ref q :: rest))) : W p l e R s m args below meth c H locs cells slots Q (F0 m pc ls (.int n :: rest)) := by
  refine va_newq hexec hb hown (ht _ hcl) hover hw.1.1 hw.2.1 hw.2.2.1 hw.2.2.2.1 hw.2.2.2.2 hn hN hbytes hcells hslots hdg (fun q cA H1 hK hP hD hS => ?_)
  have e1 : cA = G.2.1 t0 := RA_eq (hK.2 6 _ rfl).2 (hw.1.1.2 t0 _ ht0).2
  subst e1
  have hq := va_pl_fresh2 (X := []) hD
  rw [va_pl_push hq] at hP hD
  exact kk q H1 hq ⟨hw.1, hP, hD, hS, hw.2.2.2.2⟩
theorem k_newa (t0 : Nat) (hexec : p.tables.exec = Jvm.exec) (hb : c.code = cc) (ht : ∀ w ∈ GW, w.before args s = true) {atype : ArrayType} {ty : FieldType} (harr : Cond.arrayClass (newarray.typeOf atype) ∈ GW) (hty : newarray.typeOf atype = ty) (hw : Wk G A u s H locs) (ht0 : (tysG G)[t0]? = some (G.2.1 t0, ty)) {n : Int32} {N' : Nat} {a0 : vp_A} (ha : ∀ cA : ClassId, vp_cell cA a0 = arrV cA N' (fun _ => defaultValue ty)) (hn : ¬ n < 0) (hN : n.toNatClampNeg = N') (hbytes : N' * componentBytes ty ≤ 536870912) (hcells : cells + 1 ≤ R.cells) (hslots : slots + N' ≤ R.slots) (hdg : decode cc pc = .ok (.newarray atype, 2))
    (kk : ∀ (q : Nat) (H1 : Heap), q ∉ u.1 → Wk G A (u.1 ++ [q], va_up u.2 q (.inl (G.2.1 t0, a0))) s H1 locs → W p l e R s m args below meth c H1 locs (cells + 1) (slots + N') Q (F0 m (pc + 2) ls (.ref q :: rest))) : W p l e R s m args below meth c H locs cells slots Q (F0 m pc ls (.int n :: rest)) := by
  refine va_newa hexec hb (ht _ harr) hty hw.1.1 hw.2.1 hw.2.2.1 hw.2.2.2.1 hw.2.2.2.2 ha hn hN hbytes hcells hslots hdg (fun q cA H1 hK hP hD hS => ?_)
  have e1 : cA = G.2.1 t0 := RA_eq (hK.2 6 _ rfl).2 (hw.1.1.2 t0 _ ht0).2
  subst e1
  have hq := va_pl_fresh2 (X := []) hD
  rw [va_pl_push hq] at hP hD
  exact kk q H1 hq ⟨hw.1, hP, hD, hS, hw.2.2.2.2⟩
/-- an object of ours into a row of references -/
theorem k_astq (t0 : Nat) {E : String} (hexec : p.tables.exec = Jvm.exec) (hb : c.code = cc) (hw : Wk G A u s H locs) {n v ci : Nat} {f : Nat → Option Nat} {r : vw_C} {vs : List Value} (ha : a ∈ u.1) (he : u.2 a = .inl (G.2.1 t0, n, rfs f)) (ht0 : (tysG G)[t0]? = some (G.2.1 t0, .object E)) (hca : Cond.castable r.1 E ∈ EW) (hv : v ∈ u.1) (hve : u.2 v = .inr (ci, vs)) (hc : classes[ci]? = some r) {i : Int32} (hi : vp_in i n) (hdg : decode cc pc = .ok (.aastore, 1))
    (kk : ∀ (H1 : Heap) (locs1 : List Loc), Wk G A (u.1, va_up u.2 a (.inl (G.2.1 t0, n, rfs (va_up f i.toNatClampNeg (some v))))) s H1 locs1 → W p l e R s m args below meth c H1 locs1 cells slots Q (F0 m (pc + 1) ls rest)) : W p l e R s m args below meth c H locs cells slots Q (F0 m pc ls (.ref v :: .int i :: .ref a :: rest)) := by
  obtain ⟨q0, hq⟩ := pl_ix ha he
  obtain ⟨q1, hq1⟩ := pl_ix hv hve
  refine va_astqO hexec hb hw.1.1 hw.2.1 hw.2.2.1 hw.2.2.2.1 q0 t0 q1 ci hq ht0 (hw.1.2.2.2.2.1 _ hca) hq1 hc hi hdg (fun H1 locs1 hP hD hS => ?_)
  rw [pl_up hw.2.2.1 ha he hq] at hP hD
  exact kk H1 locs1 ⟨hw.1, hP, hD, hS, hw.2.2.2.2⟩
theorem k_astN (t0 : Nat) {E : String} (hexec : p.tables.exec = Jvm.exec) (hb : c.code = cc) (hw : Wk G A u s H locs) {n : Nat} {f : Nat → Option Nat} (ha : a ∈ u.1) (he : u.2 a = .inl (G.2.1 t0, n, rfs f)) (ht0 : (tysG G)[t0]? = some (G.2.1 t0, .object E)) {i : Int32} (hi : vp_in i n) (hdg : decode cc pc = .ok (.aastore, 1))
    (kk : ∀ (H1 : Heap) (locs1 : List Loc), Wk G A (u.1, va_up u.2 a (.inl (G.2.1 t0, n, rfs (va_up f i.toNatClampNeg none)))) s H1 locs1 → W p l e R s m args below meth c H1 locs1 cells slots Q (F0 m (pc + 1) ls rest)) : W p l e R s m args below meth c H locs cells slots Q (F0 m pc ls (.null :: .int i :: .ref a :: rest)) := by
  obtain ⟨q0, hq⟩ := pl_ix ha he
  refine va_astqN hexec hb hw.1.1 hw.2.1 hw.2.2.1 hw.2.2.2.1 q0 t0 hq ht0 hi hdg (fun H1 locs1 hP hD hS => ?_)
  rw [pl_up hw.2.2.1 ha he hq] at hP hD
  exact kk H1 locs1 ⟨hw.1, hP, hD, hS, hw.2.2.2.2⟩
/-- the k-th constant of the enum -/
theorem k_enum (k : Nat) {nm own : String} {index : Nat} (hexec : p.tables.exec = Jvm.exec) (hb : c.code = cc) (ht : ∀ w ∈ GW, w.before args s = true) (hown : s.vm.findClass own = some m.cls) (hw : Wk G A u s H locs) (hk : enums[k]? = some nm) (hlink : Cond.fieldLink own index "QuoteGraph$Trouble" nm "LQuoteGraph$Trouble;" ∈ GW) (hdg : decode cc pc = .ok (.getstatic index, 3))
    (kk : W p l e R s m args below meth c H locs cells slots Q (F0 m (pc + 3) ls (.ref (G.2.2.2 k) :: rest))) : W p l e R s m args below meth c H locs cells slots Q (F0 m pc ls rest) :=
  va_gets hexec hb (hw.1.2.2.2.2.2.2.2.2.1 k nm hk) hw.2.2.2.1 hown (ht _ hlink) (fun _ h => h) hdg kk
theorem k_objInit (hexec : p.tables.exec = Jvm.exec) (hb : c.code = cc) (hml : c.maxLocals = ls.size) (ht : ∀ w ∈ GW, w.before args s = true) {own : String} (hown : s.vm.findClass own = some m.cls) {idx : Nat} (hlink : Cond.methodLink own idx Lib.objectInit ∈ GW) (hinst : Cond.instanceMethod Lib.objectInit ∈ GW) (hcode : Cond.code Lib.objectInit ⟨#[0xb1]⟩ 1 none ∈ GW) (hd : decode cc pc = .ok (.invokespecial idx, 3)) (hframes : 1 ≤ R.frames) (hlocals : 2 * (F0 m pc ls (.ref a :: rest)).monitorRoom + (rest.map fun v => v.category).sum + 12 ≤ R.locals)
    (kk : W p l e R s m args below meth c H locs cells slots Q (F0 m (pc + 3) ls rest)) : W p l e R s m args below meth c H locs cells slots Q (F0 m pc ls (.ref a :: rest)) :=
  W.objInit hexec hb hown (ht _ hlink) (ht _ hinst) (ht _ hcode) rfl hml.symm rfl hd hframes hlocals kk
end KNew
/-- a contract of a method with handlers -/
def KtW (l : Launch) (y : MethodName) (b : ByteArray) (n : Nat) (ret : Option FieldType) (hh : List (Nat × Nat × Nat × Nat)) (fr lo rc rs mc ms mx sx : Nat) (G : GT) (A : Nat → Prop) (u : WT) (As : List Value) (Qc : Array Value → State → Outcome → State → Prop) (px : String → WT → Prop) : Prop :=
  ky_Met l y (Cond.codeWith y b n ret hh :: GW) { frames := fr, cells := rc, slots := rs, locals := lo } (va_Pc As (Wd G A u)) Qc (XX G A px) mc ms mx sx A
theorem k_ofH {l : Launch} {y : MethodName} {b : ByteArray} {n : Nat} {ret : Option FieldType} {hh : List (Nat × Nat × Nat × Nat)} {fr lo rc rs mc ms mx sx : Nat} {G : GT} {A : Nat → Prop} {u : WT} {As : List Value} {Qc : Array Value → State → Outcome → State → Prop} {px : String → WT → Prop} (hy : plainName y.cls = true) (hlen : (lg_sl As).length ≤ n)
    (body : ∀ (p : Program) (e : Env) (st : State) (m : MethodId) (below : List Frame) (meth : Method) (c : Code) (ls : Array Slot), p.tables.exec = Jvm.exec → c.code = b → meth.sig.returnType = ret → meth.locks = false → c.maxLocals = n → c.exceptionTable.toList = tableOf hh → meth.name = y.name → st.vm.findClass y.cls = some m.cls → (∀ w ∈ GW, w.before As.toArray st = true) → Wk G A u st st.heap [] → lv_has ls n (lv_args 0 As) →
      W p l e { frames := fr, cells := rc, slots := rs, locals := lo } st m As.toArray below meth c st.heap [] 0 0 (ky_MQ below Qc (XX G A px) As.toArray st mc ms mx sx A) (F0 m 0 ls [])) : KtW l y b n ret hh fr lo rc rs mc ms mx sx G A u As Qc px := by
  refine MetFree.of_bodyS (code := b) (maxLocals := n) (ret := ret) hy ?_ ?_
  · intro args s m h hn
    obtain ⟨m9, meth, c, hn9, h1, h2, h3, h4, -, h5, h6, -⟩ := Cond.codeWith_spec (atoms_spec (ws := Cond.codeWith y b n ret hh :: GW) h _ List.mem_cons_self)
    cases hn.symm.trans hn9
    exact ⟨meth, c, h1, h2, h3, h4, h5, h6⟩
  · intro p e s m args below meth c s₁ B hml hP _
    obtain ⟨rfl, hWd⟩ := hP
    have hh0 : s₁.heap = s.heap := by rw [B.state]; rfl
    have hts := atoms_spec (ws := Cond.codeWith y b n ret hh :: GW) B.pre
    have ht : c.exceptionTable.toList = tableOf hh := vx_table (x := y) B (hts _ List.mem_cons_self)
    have K : W p l e { frames := fr, cells := rc, slots := rs, locals := lo } s m As.toArray below meth c s.heap [] 0 0 (ky_MQ below Qc (XX G A px) As.toArray s mc ms mx sx A) (entryFrame m As.toArray n) := by
      rw [lg_entry_eq]
      exact body p e s m below meth c _ B.exec B.bytes B.returns B.notSynchronized hml ht (name_of_methodNamed B.named B.method).1 (findClass_of_methodNamed B.named) (fun w h => hts w (List.mem_cons_of_mem _ h)) (Wk.start hWd) (lv_entry As hlen)
    obtain ⟨t, a1, o, b1, b2, b3⟩ := K s₁ hh0 (Stand.of_body B)
    exact ⟨t, o, a1, b1, b2, b3⟩
section KCallsW
variable {p : Program} {l : Launch} {e : Env} {R : Room} {s : State} {m : MethodId} {args : Array Value} {below : List Frame} {meth : Method} {c : Code} {H : Heap} {locs : List Loc} {cells slots : Nat} {Q : State → Prop}
variable {y : MethodName} {bytes cc : ByteArray} {maxL nL mc ms mx sx rc rs index fr lo pc : Nat} {ret : Option FieldType} {hh : List (Nat × Nat × Nat × Nat)} {Qc : Array Value → State → Outcome → State → Prop} {own C : String} {b : Addr} {As rest st0 : List Value} {G : GT} {A : Nat → Prop} {u : WT} {px : String → WT → Prop} {ls : Array Slot}
theorem k_backW (ht : ∀ w ∈ GW, w.before args s = true) (hcode : Cond.codeWith y bytes maxL ret hh ∈ GW) (hini : Cond.initialized y.cls ∈ GW) (hR : fr + 1 ≤ R.frames ∧ 8 + (maxL + 11) + lo ≤ R.locals) (hM : KtW l y bytes maxL ret hh fr lo rc rs mc ms mx sx G A u As Qc px) :
    ky_Back l R p e below s args y (va_Pc As (Wd G A u)) { frames := fr, cells := rc, slots := rs, locals := lo } (PostOf Qc mc ms A) (vx_Post (XX G A px) mx sx A) := by
  refine ky_back (maxL := maxL) hM Wd.blind hR.1 hR.2 ?_ (fun a' U mk hW hn => ?_) (fun a' U hW => gd_all ht _ hini a' U hW)
  · intro w hw
    rcases List.mem_cons.mp hw with h | h
    · rw [h]; exact gd_all ht _ hcode
    · exact gd_all ht _ h
  · obtain ⟨m9, methY, cY, hn9, hmY, hcY, -, hlY, -⟩ := Cond.codeWith_spec (gd_all ht _ hcode a' U hW)
    cases hn.symm.trans hn9
    exact ⟨methY, cY, hmY, hcY, hlY⟩
theorem kr_VW (n : Nat) (hM : KtW l y bytes maxL ret hh fr lo rc rs mc ms mx sx G A u (.ref b :: As) Qc px) (hexec : p.tables.exec = Jvm.exec) (hb : c.code = cc) (hml : c.maxLocals = nL) (hown : s.vm.findClass own = some m.cls) (ht : ∀ w ∈ GW, w.before args s = true) (hw : Wk G A u s H locs)
    (hlink : Cond.methodLink own index y ∈ GW) (hinst : Cond.instanceMethod y ∈ GW) (hsel : Cond.selects C y y ∈ GW) (hini : Cond.initialized y.cls ∈ GW) (hcode : Cond.codeWith y bytes maxL ret hh ∈ GW)
    (hd : (y.cls ≠ "java/lang/invoke/MethodHandle" ∧ y.cls ≠ "java/lang/invoke/VarHandle") ∧ (parseMethodDescriptor y.desc).map (fun d => d.parameters.length) = some n) (hR : fr + 1 ≤ R.frames ∧ 8 + (maxL + 11) + lo ≤ R.locals)
    (hrecv : ∃ cell : Cell, H[b]? = some cell ∧ cell.vm.isStatics = false ∧ s.vm.findClass C = some cell.cls) (hn : As.length = n) (hsize : ls.size = nL) (hstack : st0 = As.reverse ++ .ref b :: rest) (hW : 2 * (F0 m pc ls st0).monitorRoom + (rest.map fun v => v.category).sum ≤ 8) (hdg : decode cc pc = .ok (.invokevirtual index, 3)) (hf : cells + rc ≤ R.cells ∧ slots + rs ≤ R.slots) :
    ky_Run p l e R s m args below meth c H locs cells slots mc ms mx sx (F0 m pc ls st0) rest (Qc (Value.ref b :: As).toArray) (XX G A px) A := by
  obtain ⟨mk, methM, hnamed, hmethM, hstM, habM⟩ := Cond.instanceMethod_spec (ht _ hinst)
  obtain ⟨m9, methM', cM, hn9, hmethM', -, -, -, -, -, -, hsigM⟩ := Cond.codeWith_spec (ht _ hcode)
  cases hnamed.symm.trans hn9
  cases hmethM.symm.trans hmethM'
  obtain ⟨c2, r2, m2, q1, q2, q3, q4, kP, hkP, hkPi⟩ := Cond.selects_spec (ht _ hsel)
  obtain ⟨cellB, hcB, hoB, hclB⟩ := hrecv
  cases hclB.symm.trans q1
  cases (State.methodFound?_of_named hnamed hd.1).symm.trans q2
  cases hnamed.symm.trans q3
  refine kx_run (k_backW ht hcode hini hR hM) rfl (hsize.trans hml.symm) (by rw [hb]; exact hdg) hW hnamed hf (fun U hU hWU => ⟨rfl, hw.to hU hWU⟩) (fun T hT X => ?_)
  have hselP : selectMethod e.platform s.vm cellB.cls mk = .method mk := by rw [Launch.admits_selectMethod X.admits]; exact q4
  obtain ⟨vm₁, X₁, hstep₁⟩ := X.invokevirtual hexec hown (ht _ hlink) hnamed hmethM hstM hkP hkPi hd.1 (a := b) (cell := cellB) (by rw [hT]; exact hcB)
    (fun z h => by rw [h] at hoB; cases hoB) hselP hmethM habM hkP hkPi (g := F0 m pc ls st0) rfl (argsL := As) (rest := rest) (k_len hd.2 hn _ hsigM) hstack (by rw [hb]; exact hdg)
  exact ⟨vm₁, X₁, hstep₁⟩
theorem kr_SW (n : Nat) (hM : KtW l y bytes maxL ret hh fr lo rc rs mc ms mx sx G A u As Qc px) (hexec : p.tables.exec = Jvm.exec) (hb : c.code = cc) (hml : c.maxLocals = nL) (hown : s.vm.findClass own = some m.cls) (ht : ∀ w ∈ GW, w.before args s = true) (hw : Wk G A u s H locs)
    (hlink : Cond.methodLink own index y ∈ GW) (hstat : Cond.static y ∈ GW) (hini : Cond.initialized y.cls ∈ GW) (hcode : Cond.codeWith y bytes maxL ret hh ∈ GW)
    (hd : (y.cls ≠ "java/lang/invoke/MethodHandle" ∧ y.cls ≠ "java/lang/invoke/VarHandle") ∧ (parseMethodDescriptor y.desc).map (fun d => d.parameters.length) = some n) (hR : fr + 1 ≤ R.frames ∧ 8 + (maxL + 11) + lo ≤ R.locals)
    (hn : As.length = n) (hsize : ls.size = nL) (hstack : st0 = As.reverse ++ rest) (hW : 2 * (F0 m pc ls st0).monitorRoom + (rest.map fun v => v.category).sum ≤ 8) (hdg : decode cc pc = .ok (.invokestatic index, 3)) (hf : cells + rc ≤ R.cells ∧ slots + rs ≤ R.slots) :
    ky_Run p l e R s m args below meth c H locs cells slots mc ms mx sx (F0 m pc ls st0) rest (Qc As.toArray) (XX G A px) A := by
  obtain ⟨mk, methM, cM, hnamed, hmethM, -, -, -, -, -, -, hsigM⟩ := Cond.codeWith_spec (ht _ hcode)
  have hstatic : methM.isStatic = true := Cond.static_spec hnamed hmethM (ht _ hstat)
  obtain ⟨kP, hkP, -⟩ := className_of_methodNamed hnamed
  have hinitP : kP.init = .initialized := Cond.initialized_spec (findClass_of_methodNamed hnamed) hkP (ht _ hini)
  refine kx_run (k_backW ht hcode hini hR hM) rfl (hsize.trans hml.symm) (by rw [hb]; exact hdg) hW hnamed hf (fun U hU hWU => ⟨rfl, hw.to hU hWU⟩) (fun T hT X => ?_)
  obtain ⟨vm₁, X₁, hstep₁⟩ := X.invokestatic hexec hown (ht _ hlink) hnamed hmethM hstatic hkP hinitP hd.1 (g := F0 m pc ls st0) rfl (argsL := As) (rest := rest) (k_len hd.2 hn _ hsigM) hstack (by rw [hb]; exact hdg)
  exact ⟨vm₁, X₁, hstep₁⟩
/-- what the rows ahead pass over -/
def passX (args : Array Value) (s : State) (own E : String) (pc : Nat) (pre : List (Nat × Nat × Nat × Nat)) : Prop := ∀ z ∈ pre, covers (⟨z.1, z.2.1, z.2.2.1, z.2.2.2⟩ : ExceptionTableEntry) pc = false ∨ (z.2.2.2 ≠ 0 ∧ ∃ nm : String, (Cond.classLink own z.2.2.2 nm).before args s = true ∧ va_Nc E nm s)
theorem k_catch {name E : String} {ce : Cell} {q : Addr} (htab : c.exceptionTable.toList = tableOf hh) (hown : s.vm.findClass own = some m.cls) (ht : ∀ w ∈ GW, w.before args s = true) (hw : Wk G A u s H locs) (pre : List (Nat × Nat × Nat × Nat)) (x : Nat × Nat × Nat × Nat) (suf : List (Nat × Nat × Nat × Nat)) (hsplit : hh = pre ++ x :: suf) (hpass : passX args s own E pc pre) (hx : covers (⟨x.1, x.2.1, x.2.2.1, x.2.2.2⟩ : ExceptionTableEntry) pc = true) (h0 : x.2.2.2 ≠ 0)
    (hlink : Cond.classLink own x.2.2.2 name ∈ GW) (hcast : Cond.castable E name ∈ EW) (hcell : H[q]? = some ce) (hv : ce.vm = .none) (hcl : s.vm.findClass E = some ce.cls)
    (kk : W p l e R s m args below meth c H locs cells slots Q (F0 m x.2.2.1 ls [.ref q])) : vx_W p l e R s m args below meth c H locs cells slots Q (F0 m pc ls rest) q := by
  refine vx_catch hown (tableOf pre) ⟨x.1, x.2.1, x.2.2.1, x.2.2.2⟩ (tableOf suf) (by rw [htab, hsplit]; simp [tableOf]) (fun z hz => ?_) hx h0 (ht _ hlink) (va_Nw.use (A := args) rfl (hw.1.2.2.2.2.1 _ hcast)) hcell hv hcl kk
  obtain ⟨z', hz', rfl⟩ := List.mem_map.mp hz
  exact hpass z' hz'
end KCallsW

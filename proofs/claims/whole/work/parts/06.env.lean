/-! 06.env: what stands round every walk: the tables' facts, the heap's own cells as a function of the address, calls that return or throw -/
abbrev GT : Type := va_G × (Nat → ClassId) × (Nat → Nat) × (Nat → Nat)
abbrev tysG (G : GT) : List (ClassId × FieldType) := [(G.2.1 0, .long), (G.2.1 1, .int), (G.2.1 2, .boolean), (G.2.1 3, .double), (G.2.1 4, .object "QuoteGraph$Node"), (G.2.1 5, .object "QuoteGraph$Engine")]
abbrev strs : List (String × Nat × String) := [("QuoteGraph", 207, "a number is out of range or no multiple of 0.125"), ("QuoteGraph", 198, "no room for one more node"), ("QuoteGraph", 215, "there is no such node"), ("QuoteGraph", 203, "a number is out of range"), ("QuoteGraph", 219, "there is no such option"), ("QuoteGraph", 221, "the option would use itself"), ("QuoteGraph", 201, "the option is frozen"), ("QuoteGraph", 217, "there is no such quote"), ("QuoteGraph", 280, "a value is too large"), ("QuoteGraph$Net", 23, "the chance is too great for a net"), ("QuoteGraph$Paths", 17, "a path doesn't tell when to stop"), ("QuoteGraph$Option", 60, "the move is not above 0"), ("QuoteGraph$Option", 75, "the rate is out of range"), ("QuoteGraph", 262, "paths can't price an american option"), ("QuoteGraph", 265, "a value can't be worked out"), ("QuoteGraph", 145, "a quote can't be frozen"), ("QuoteGraph", 155, "a stale node can't be frozen"), ("QuoteGraph", 187, "nothing of a node has this number")]
abbrev ncasts : List (String × String) := [("QuoteGraph$Blend", "QuoteGraph$Quote"), ("QuoteGraph$Greater", "QuoteGraph$Quote"), ("QuoteGraph$Option", "QuoteGraph$Quote"), ("QuoteGraph$Quote", "QuoteGraph$Option"), ("QuoteGraph$Blend", "QuoteGraph$Option"), ("QuoteGraph$Greater", "QuoteGraph$Option"), ("java/lang/IllegalStateException", "java/lang/IllegalArgumentException"), ("java/lang/ArithmeticException", "java/lang/IllegalArgumentException"), ("java/lang/UnsupportedOperationException", "java/lang/IllegalArgumentException"), ("java/lang/UnsupportedOperationException", "java/lang/ArithmeticException")]
abbrev enums : List String := ["NONE", "ARITHMETIC", "UNSUPPORTED"]
def ewOk : Cond → Bool
  | .castable .. => true
  | .declares _ => true
  | .methodLinkNest .. => true
  | _ => false
def EW : List Cond := lw_tbl.filter ewOk
theorem ew_of (i : Nat) (w : Cond) (h : lw_tbl[i]? = some w) (g : ewOk w = true) : w ∈ EW := List.mem_filter.mpr ⟨List.mem_of_getElem? h, g⟩
theorem EW_tab {w : Cond} (h : w ∈ EW) : w.onTables = true := by
  have h2 := (List.mem_filter.mp h).2
  cases w <;> first | rfl | (simp [ewOk] at h2)
theorem EW_warm {s U : State} (hW : s.WarmedH U.vm) {w : Cond} (hw : w ∈ EW) (h : va_Nw w s) : va_Nw w U := by
  have h2 := (List.mem_filter.mp hw).2
  cases w <;> first | exact va_Nw.warmC hW h | exact va_Nw.warmD hW h | exact va_Nw.warmM hW h | (simp [ewOk] at h2)
/-- the tables' facts that no word list carries, and the statics -/
def Ev (G : GT) (A : Nat → Prop) (U : State) : Prop :=
  va_K G.1 classes (tysG G) U ∧ vx_Zq Bundle.tN "UNASSIGNED_STACK" Bundle.steD A U U.heap ∧ vx_Zq Bundle.tN "SUPPRESSED_SENTINEL" Bundle.listD A U U.heap ∧
  (∀ (k : Nat) (x : String × Nat × String), strs[k]? = some x → vk_R x.1 x.2.1 x.2.2 (G.2.2.1 k) U) ∧
  (∀ w ∈ EW, va_Nw w U) ∧ (∀ x ∈ ncasts, va_Nc x.1 x.2 U) ∧ va_AO "QuoteGraph$Node" U ∧ va_AO "QuoteGraph$Engine" U ∧
  (∀ (k : Nat) (n : String), enums[k]? = some n → va_Z "QuoteGraph$Trouble" n "LQuoteGraph$Trouble;" (.ref (G.2.2.2 k)) A U U.heap) ∧
  (∀ i j : Nat, i < 3 → j < 3 → G.2.2.2 i = G.2.2.2 j → i = j)
theorem Ev.moved {G : GT} {A : Nat → Prop} {s U : State} {H : Heap} {locs : List Loc} (h : Ev G A s) (hW : s.WarmedH U.vm) (hS : va_S A s.heap H locs) (hU : U.heap = H) : Ev G A U := by
  obtain ⟨h1, h2, h3, h4, h5, h6, h7, h8, h9, h10⟩ := h
  have hq : ∀ a : Nat, a < s.heap.size → ¬ A a → U.heap[a]? = s.heap[a]? := by rw [hU]; exact hS.2.1
  exact ⟨va_K.moved hW.alike h1, vx_Zq.moved hW.alike (h2.kept hq), vx_Zq.moved hW.alike (h3.kept hq), fun k x hx => vk_R.warm hW (h4 k x hx), fun w hw => EW_warm hW hw (h5 w hw), fun x hx => va_Nc.moved hW.alike (h6 x hx), va_AO.moved hW.alike h7, va_AO.moved hW.alike h8, fun k n hn => va_Z.moved hW.alike ((h9 k n hn).kept hq), h10⟩
/-- the same tables, the same heap -/
theorem Ev.same {G : GT} {A : Nat → Prop} {s U : State} (h : Ev G A s) (hW : s.WarmedH U.vm) (hU : U.heap = s.heap) : Ev G A U := h.moved hW (va_S.rf (A := A)) hU
abbrev WT : Type := List Nat × (Nat → va_E)
def Wd (G : GT) (A : Nat → Prop) (u : WT) (U : State) : Prop := Ev G A U ∧ va_P G.1 classes (va_pl u.1 u.2) U.heap ∧ va_D A (va_pl u.1 u.2) ∧ ∀ q, U.heap.size ≤ q → A q
def Wo (G : GT) (A : Nat → Prop) (u : WT) (t : State) : Prop := va_P G.1 classes (va_pl u.1 u.2) t.heap ∧ va_D A (va_pl u.1 u.2)
def Wk (G : GT) (A : Nat → Prop) (u : WT) (s : State) (H : Heap) (locs : List Loc) : Prop := Ev G A s ∧ va_P G.1 classes (va_pl u.1 u.2) H ∧ va_D A (va_pl u.1 u.2) ∧ va_S A s.heap H locs ∧ ∀ q, s.heap.size ≤ q → A q
theorem Wd.blind {G : GT} {A : Nat → Prop} {u : WT} {av : List Value} : FrameBlind (va_Pc av (Wd G A u)) := by
  intro a U g mk h
  obtain ⟨h0, h1, h2, h3, h4⟩ := h
  exact ⟨h0, h1.same (U := U.calling g mk a) (State.WarmedH.refl U) rfl, h2, h3, h4⟩
theorem Wk.start {G : GT} {A : Nat → Prop} {u : WT} {s : State} (h : Wd G A u s) : Wk G A u s s.heap [] := ⟨h.1, h.2.1, h.2.2.1, va_S.rf, h.2.2.2⟩
theorem Wk.to {G : GT} {A : Nat → Prop} {u : WT} {s : State} {H : Heap} {locs : List Loc} (h : Wk G A u s H locs) {U : State} (hU : U.heap = H) (hW : s.WarmedH U.vm) : Wd G A u U := by
  obtain ⟨h1, h2, h3, h4, h5⟩ := h
  exact ⟨h1.moved hW h4 hU, by rw [hU]; exact h2, h3, fun q hq => h5 q (Nat.le_trans h4.1 (by rw [hU] at hq; exact hq))⟩
theorem Wk.back {G : GT} {A : Nat → Prop} {u u' : WT} {s t : State} {H H1 : Heap} {locs locs1 : List Loc} (h : Wk G A u s H locs) (hB : Wo G A u' t) (ht : t.heap = H1) (hS : va_S A s.heap H1 locs1) : Wk G A u' s H1 locs1 := ⟨h.1, by rw [← ht]; exact hB.1, hB.2, hS, h.2.2.2.2⟩
theorem Wk.out {G : GT} {A : Nat → Prop} {u : WT} {s t : State} {H : Heap} {locs : List Loc} (h : Wk G A u s H locs) (ht : t.heap = H) : Wo G A u t := ⟨by rw [ht]; exact h.2.1, h.2.2.1⟩
theorem pl_ix {L : List Nat} {f : Nat → va_E} {a : Nat} {x : va_E} (h : a ∈ L) (hf : f a = x) : ∃ k : Nat, (va_pl L f)[k]? = some (a, x) := by
  obtain ⟨k, hk⟩ := va_pl_get (X := []) (f := f) h
  exact ⟨k, by rw [← hf]; exact hk⟩
theorem pl_up {A : Nat → Prop} {L : List Nat} {f : Nat → va_E} {a k : Nat} {x y : va_E} (hD : va_D A (va_pl L f)) (h : a ∈ L) (hf : f a = x) (hk : (va_pl L f)[k]? = some (a, x)) : (va_pl L f).set k (a, y) = va_pl L (va_up f a y) := by
  subst hf
  exact va_pl_set (X := []) hD h hk
/-- what a method that may throw says of the throw: the class by its name, the world -/
def XX (G : GT) (A : Nat → Prop) (px : String → WT → Prop) : String → State → State → Prop := vx_X (fun x : String × WT => px x.1 x.2) (fun E x t => E = x.1 ∧ Wo G A x.2 t) A
abbrev NX : String → WT → Prop := fun _ _ => False
theorem GW_in (w : Cond) : GoodIn (w :: GW) GW := fun x hx => ⟨List.mem_cons_of_mem _ hx, good_of_word (List.all_eq_true.mp GW_good x hx)⟩
section KRows
variable {p : Program} {l : Launch} {e : Env} {R : Room} {s : State} {m : MethodId} {args : Array Value} {below : List Frame} {meth : Method} {c : Code} {H : Heap} {locs : List Loc} {cells slots : Nat} {Q : State → Prop}
variable {cc : ByteArray} {pc : Nat} {ls : Array Slot} {rest : List Value} {G : GT} {A : Nat → Prop} {a : Nat} {u : WT}
theorem k_get (hexec : p.tables.exec = Jvm.exec) (hb : c.code = cc) (ht : ∀ w ∈ GW, w.before args s = true) {own ref C : String} {T : u_T} {N ci index : Nat} (hin : ∀ w ∈ u_ws C T N, w ∈ GW) (hown : s.vm.findClass own = some m.cls) (hw : Wk G A u s H locs) {fs : List Value} (ha : a ∈ u.1) (he : u.2 a = .inr (ci, fs)) (hc : classes[ci]? = some (C, T, N)) (k : Nat) (hk : k < N) (hlink : Cond.fieldLink own index ref (T k).2.1 (T k).2.2.1 ∈ GW) (hsame : ∀ x, s.fieldFound? (T k).1 (T k).2.1 (T k).2.2.1 = some x → s.fieldFound? ref (T k).2.1 (T k).2.2.1 = some x) {v : Value} (hv : fs[k]? = some v) (hdg : decode cc pc = .ok (.getfield index, 3))
    (kk : W p l e R s m args below meth c H locs cells slots Q (F0 m (pc + 3) ls (v :: rest))) : W p l e R s m args below meth c H locs cells slots Q (F0 m pc ls (.ref a :: rest)) := by
  obtain ⟨q0, hq⟩ := pl_ix ha he
  exact va_get hexec hb ht hin hown hw.1.1 hw.2.1 q0 hq hc k hk (ht _ hlink) hsame hv hdg kk
theorem k_put (hexec : p.tables.exec = Jvm.exec) (hb : c.code = cc) (ht : ∀ w ∈ GW, w.before args s = true) {own ref C : String} {T : u_T} {N ci index : Nat} (hin : ∀ w ∈ u_ws C T N, w ∈ GW) (ty0 : Nat → FieldType) (hty : ∀ k, k < N → parseFieldDescriptor (T k).2.2.1 = some (ty0 k)) (hnm : ∀ a, a < N → ∀ b, b < N → a ≠ b → (T a).2.1 ≠ (T b).2.1) (hown : s.vm.findClass own = some m.cls) (hw : Wk G A u s H locs) {fs : List Value} (ha : a ∈ u.1) (he : u.2 a = .inr (ci, fs)) (hc : classes[ci]? = some (C, T, N)) (k : Nat) (hk : k < N) (hlink : Cond.fieldLink own index ref (T k).2.1 (T k).2.2.1 ∈ GW) (hsame : ∀ x, s.fieldFound? (T k).1 (T k).2.1 (T k).2.2.1 = some x → s.fieldFound? ref (T k).2.1 (T k).2.2.1 = some x) (hfin : (T k).2.2.2 = false) {ty : FieldType} {v : Value} (hd : parseFieldDescriptor (T k).2.2.1 = some ty) (hn : narrow ty v = v) (hfit : fits ty v = true) (hl : k < fs.length) (hdg : decode cc pc = .ok (.putfield index, 3))
    (kk : ∀ (H1 : Heap) (locs1 : List Loc), Wk G A (u.1, va_up u.2 a (.inr (ci, fs.set k v))) s H1 locs1 → W p l e R s m args below meth c H1 locs1 cells slots Q (F0 m (pc + 3) ls rest)) : W p l e R s m args below meth c H locs cells slots Q (F0 m pc ls (v :: .ref a :: rest)) := by
  obtain ⟨q0, hq⟩ := pl_ix ha he
  refine va_put hexec hb ht hin ty0 hty hnm hown hw.1.1 hw.2.1 hw.2.2.1 hw.2.2.2.1 q0 hq hc k hk (ht _ hlink) hsame hfin hd hn hfit hl hdg (fun H1 locs1 hP hD hS => ?_)
  rw [pl_up hw.2.2.1 ha he hq] at hP hD
  exact kk H1 locs1 ⟨hw.1, hP, hD, hS, hw.2.2.2.2⟩
theorem k_putF (hexec : p.tables.exec = Jvm.exec) (hb : c.code = cc) (ht : ∀ w ∈ GW, w.before args s = true) {own ref C : String} {T : u_T} {N ci index : Nat} (hin : ∀ w ∈ u_ws C T N, w ∈ GW) (ty0 : Nat → FieldType) (hty : ∀ k, k < N → parseFieldDescriptor (T k).2.2.1 = some (ty0 k)) (hnm : ∀ a, a < N → ∀ b, b < N → a ≠ b → (T a).2.1 ≠ (T b).2.1) (hown : s.vm.findClass own = some m.cls) (hw : Wk G A u s H locs) {fs : List Value} (ha : a ∈ u.1) (he : u.2 a = .inr (ci, fs)) (hc : classes[ci]? = some (C, T, N)) (k : Nat) (hk : k < N) (hlink : Cond.fieldLink own index ref (T k).2.1 (T k).2.2.1 ∈ GW) (hsame : ∀ x, s.fieldFound? (T k).1 (T k).2.1 (T k).2.2.1 = some x → s.fieldFound? ref (T k).2.1 (T k).2.2.1 = some x) (hfin : (T k).2.2.2 = true) (hin2 : meth.name = "<init>") (hdecl : (T k).1 = own) {ty : FieldType} {v : Value} (hd : parseFieldDescriptor (T k).2.2.1 = some ty) (hn : narrow ty v = v) (hfit : fits ty v = true) (hl : k < fs.length) (hdg : decode cc pc = .ok (.putfield index, 3))
    (kk : ∀ (H1 : Heap) (locs1 : List Loc), Wk G A (u.1, va_up u.2 a (.inr (ci, fs.set k v))) s H1 locs1 → W p l e R s m args below meth c H1 locs1 cells slots Q (F0 m (pc + 3) ls rest)) : W p l e R s m args below meth c H locs cells slots Q (F0 m pc ls (v :: .ref a :: rest)) := by
  obtain ⟨q0, hq⟩ := pl_ix ha he
  refine va_putF hexec hb ht hin ty0 hty hnm hown hw.1.1 hw.2.1 hw.2.2.1 hw.2.2.2.1 q0 hq hc k hk (ht _ hlink) hsame hfin hin2 hdecl hd hn hfit hl hdg (fun H1 locs1 hP hD hS => ?_)
  rw [pl_up hw.2.2.1 ha he hq] at hP hD
  exact kk H1 locs1 ⟨hw.1, hP, hD, hS, hw.2.2.2.2⟩
theorem k_lald (hexec : p.tables.exec = Jvm.exec) (hb : c.code = cc) (hw : Wk G A u s H locs) {n : Nat} {f : Nat → Int64} (ha : a ∈ u.1) (he : u.2 a = .inl (G.2.1 0, n, .inr (.inl f))) {i : Int32} (hi : vp_in i n) (hdg : decode cc pc = .ok (.laload, 1))
    (kk : W p l e R s m args below meth c H locs cells slots Q (F0 m (pc + 1) ls (.long (f i.toNatClampNeg) :: rest))) : W p l e R s m args below meth c H locs cells slots Q (F0 m pc ls (.int i :: .ref a :: rest)) := by
  obtain ⟨q0, hq⟩ := pl_ix ha he
  exact va_lald hexec hb hw.1.1 hw.2.1 q0 0 hq rfl hi hdg kk
theorem k_iald (hexec : p.tables.exec = Jvm.exec) (hb : c.code = cc) (hw : Wk G A u s H locs) {n : Nat} {f : Nat → Int32} (ha : a ∈ u.1) (he : u.2 a = .inl (G.2.1 1, n, .inl f)) {i : Int32} (hi : vp_in i n) (hdg : decode cc pc = .ok (.iaload, 1))
    (kk : W p l e R s m args below meth c H locs cells slots Q (F0 m (pc + 1) ls (.int (f i.toNatClampNeg) :: rest))) : W p l e R s m args below meth c H locs cells slots Q (F0 m pc ls (.int i :: .ref a :: rest)) := by
  obtain ⟨q0, hq⟩ := pl_ix ha he
  exact va_iald hexec hb hw.1.1 hw.2.1 q0 1 hq rfl hi hdg kk
theorem k_zald (hexec : p.tables.exec = Jvm.exec) (hb : c.code = cc) (hw : Wk G A u s H locs) {n : Nat} {f : Nat → Int32} (ha : a ∈ u.1) (he : u.2 a = .inl (G.2.1 2, n, .inl f)) {i : Int32} (hi : vp_in i n) (hdg : decode cc pc = .ok (.baload, 1))
    (kk : W p l e R s m args below meth c H locs cells slots Q (F0 m (pc + 1) ls (.int (f i.toNatClampNeg) :: rest))) : W p l e R s m args below meth c H locs cells slots Q (F0 m pc ls (.int i :: .ref a :: rest)) := by
  obtain ⟨q0, hq⟩ := pl_ix ha he
  exact va_zald hexec hb hw.1.1 hw.2.1 q0 2 hq rfl hi hdg kk
theorem k_dald (hexec : p.tables.exec = Jvm.exec) (hb : c.code = cc) (hw : Wk G A u s H locs) {n : Nat} {f : Nat → UInt64} (ha : a ∈ u.1) (he : u.2 a = .inl (G.2.1 3, n, .inr (.inr (.inr (.inl f))))) {i : Int32} (hi : vp_in i n) (hdg : decode cc pc = .ok (.daload, 1))
    (kk : W p l e R s m args below meth c H locs cells slots Q (F0 m (pc + 1) ls (.double (f i.toNatClampNeg) :: rest))) : W p l e R s m args below meth c H locs cells slots Q (F0 m pc ls (.int i :: .ref a :: rest)) := by
  obtain ⟨q0, hq⟩ := pl_ix ha he
  exact va_dald hexec hb hw.1.1 hw.2.1 q0 3 hq rfl hi hdg kk
theorem k_aldq (t0 : Nat) {C : String} (hexec : p.tables.exec = Jvm.exec) (hb : c.code = cc) (hw : Wk G A u s H locs) {n : Nat} {f : Nat → Option Nat} (ha : a ∈ u.1) (he : u.2 a = .inl (G.2.1 t0, n, .inr (.inr (.inr (.inr f))))) (ht0 : (tysG G)[t0]? = some (G.2.1 t0, .object C)) {i : Int32} (hi : vp_in i n) (hdg : decode cc pc = .ok (.aaload, 1))
    (kk : W p l e R s m args below meth c H locs cells slots Q (F0 m (pc + 1) ls (va_rf (f i.toNatClampNeg) :: rest))) : W p l e R s m args below meth c H locs cells slots Q (F0 m pc ls (.int i :: .ref a :: rest)) := by
  obtain ⟨q0, hq⟩ := pl_ix ha he
  exact va_aldq hexec hb hw.1.1 hw.2.1 q0 t0 hq ht0 hi hdg kk
theorem k_last (hexec : p.tables.exec = Jvm.exec) (hb : c.code = cc) (hw : Wk G A u s H locs) {n : Nat} {f : Nat → Int64} (ha : a ∈ u.1) (he : u.2 a = .inl (G.2.1 0, n, .inr (.inl f))) {i : Int32} {x : Int64} (hi : vp_in i n) (hdg : decode cc pc = .ok (.lastore, 1))
    (kk : ∀ (H1 : Heap) (locs1 : List Loc), Wk G A (u.1, va_up u.2 a (.inl (G.2.1 0, n, .inr (.inl (vp_updL f i.toNatClampNeg x))))) s H1 locs1 → W p l e R s m args below meth c H1 locs1 cells slots Q (F0 m (pc + 1) ls rest)) : W p l e R s m args below meth c H locs cells slots Q (F0 m pc ls (.long x :: .int i :: .ref a :: rest)) := by
  obtain ⟨q0, hq⟩ := pl_ix ha he
  refine va_last hexec hb hw.1.1 hw.2.1 hw.2.2.1 hw.2.2.2.1 q0 0 hq rfl hi hdg (fun H1 locs1 hP hD hS => ?_)
  rw [pl_up hw.2.2.1 ha he hq] at hP hD
  exact kk H1 locs1 ⟨hw.1, hP, hD, hS, hw.2.2.2.2⟩
theorem k_iast (hexec : p.tables.exec = Jvm.exec) (hb : c.code = cc) (hw : Wk G A u s H locs) {n : Nat} {f : Nat → Int32} (ha : a ∈ u.1) (he : u.2 a = .inl (G.2.1 1, n, .inl f)) {i : Int32} {x : Int32} (hi : vp_in i n) (hdg : decode cc pc = .ok (.iastore, 1))
    (kk : ∀ (H1 : Heap) (locs1 : List Loc), Wk G A (u.1, va_up u.2 a (.inl (G.2.1 1, n, .inl (upd f i.toNatClampNeg x)))) s H1 locs1 → W p l e R s m args below meth c H1 locs1 cells slots Q (F0 m (pc + 1) ls rest)) : W p l e R s m args below meth c H locs cells slots Q (F0 m pc ls (.int x :: .int i :: .ref a :: rest)) := by
  obtain ⟨q0, hq⟩ := pl_ix ha he
  refine va_iast hexec hb hw.1.1 hw.2.1 hw.2.2.1 hw.2.2.2.1 q0 1 hq rfl hi hdg (fun H1 locs1 hP hD hS => ?_)
  rw [pl_up hw.2.2.1 ha he hq] at hP hD
  exact kk H1 locs1 ⟨hw.1, hP, hD, hS, hw.2.2.2.2⟩
theorem k_zast (hexec : p.tables.exec = Jvm.exec) (hb : c.code = cc) (hw : Wk G A u s H locs) {n : Nat} {f : Nat → Int32} (ha : a ∈ u.1) (he : u.2 a = .inl (G.2.1 2, n, .inl f)) {i : Int32} {x : Int32} (hi : vp_in i n) (hdg : decode cc pc = .ok (.bastore, 1))
    (kk : ∀ (H1 : Heap) (locs1 : List Loc), Wk G A (u.1, va_up u.2 a (.inl (G.2.1 2, n, .inl (upd f i.toNatClampNeg (vp_nar .boolean x))))) s H1 locs1 → W p l e R s m args below meth c H1 locs1 cells slots Q (F0 m (pc + 1) ls rest)) : W p l e R s m args below meth c H locs cells slots Q (F0 m pc ls (.int x :: .int i :: .ref a :: rest)) := by
  obtain ⟨q0, hq⟩ := pl_ix ha he
  refine va_zast hexec hb hw.1.1 hw.2.1 hw.2.2.1 hw.2.2.2.1 q0 2 hq rfl hi hdg (fun H1 locs1 hP hD hS => ?_)
  rw [pl_up hw.2.2.1 ha he hq] at hP hD
  exact kk H1 locs1 ⟨hw.1, hP, hD, hS, hw.2.2.2.2⟩
theorem k_dast (hexec : p.tables.exec = Jvm.exec) (hb : c.code = cc) (hw : Wk G A u s H locs) {n : Nat} {f : Nat → UInt64} (ha : a ∈ u.1) (he : u.2 a = .inl (G.2.1 3, n, .inr (.inr (.inr (.inl f))))) {i : Int32} {x : UInt64} (hi : vp_in i n) (hdg : decode cc pc = .ok (.dastore, 1))
    (kk : ∀ (H1 : Heap) (locs1 : List Loc), Wk G A (u.1, va_up u.2 a (.inl (G.2.1 3, n, .inr (.inr (.inr (.inl (vf_upd f i.toNatClampNeg x))))))) s H1 locs1 → W p l e R s m args below meth c H1 locs1 cells slots Q (F0 m (pc + 1) ls rest)) : W p l e R s m args below meth c H locs cells slots Q (F0 m pc ls (.double x :: .int i :: .ref a :: rest)) := by
  obtain ⟨q0, hq⟩ := pl_ix ha he
  refine va_dast hexec hb hw.1.1 hw.2.1 hw.2.2.1 hw.2.2.2.1 q0 3 hq rfl hi hdg (fun H1 locs1 hP hD hS => ?_)
  rw [pl_up hw.2.2.1 ha he hq] at hP hD
  exact kk H1 locs1 ⟨hw.1, hP, hD, hS, hw.2.2.2.2⟩
theorem k_alen (t0 : Nat) {ty : FieldType} (hexec : p.tables.exec = Jvm.exec) (hb : c.code = cc) (hw : Wk G A u s H locs) {x : vp_A} (ha : a ∈ u.1) (he : u.2 a = .inl (G.2.1 t0, x)) (ht0 : (tysG G)[t0]? = some (G.2.1 t0, ty)) {v : Int32} (hv : Int32.ofNat x.1 = v) (hdg : decode cc pc = .ok (.arraylength, 1))
    (kk : W p l e R s m args below meth c H locs cells slots Q (F0 m (pc + 1) ls (.int v :: rest))) : W p l e R s m args below meth c H locs cells slots Q (F0 m pc ls (.ref a :: rest)) := by
  obtain ⟨q0, hq⟩ := pl_ix ha he
  exact va_alen hexec hb hw.1.1 hw.2.1 q0 t0 hq ht0 hv hdg kk
theorem k_recv (hw : Wk G A u s H locs) {ci : Nat} {x : vw_C} {fs : List Value} (ha : a ∈ u.1) (he : u.2 a = .inr (ci, fs)) (hc : classes[ci]? = some x) : ∃ cell : Cell, H[a]? = some cell ∧ cell.vm.isStatics = false ∧ s.vm.findClass x.1 = some cell.cls := by
  obtain ⟨q0, hq⟩ := pl_ix ha he
  exact va_recv hw.1.1 hw.2.1 hc hq
end KRows

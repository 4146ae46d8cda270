/-! 07.calls: calls of methods that return or throw; what grows is told apart: (mc, ms) where it returns, (mx, sx) where it throws -/
def ky_Q (Qc : Array Value → State → Outcome → State → Prop) (XC : String → State → State → Prop) (mc ms mx sx : Nat) (free : Addr → Prop) : Array Value → State → Outcome → State → Prop := fun a st o t =>
  (Qc a st o t ∧ ∃ L, FrameEnd st o t L mc ms ∧ ∀ q ∈ L, free q.base) ∨ ∃ q, o = .threw q ∧ vx_T XC st q t mx sx free
def ky_Met (l : Launch) (y : MethodName) (ws : List Cond) (rm : Room) (Pc : Array Value → State → Prop) (Qc : Array Value → State → Outcome → State → Prop) (XC : String → State → State → Prop) (mc ms mx sx : Nat) (free : Addr → Prop) : Prop :=
  MetFree l y (headSpec ws rm) Pc (fun _ _ _ _ _ => True) (ky_Q Qc XC mc ms mx sx free)
def ky_MQ (below : List Frame) (Qc : Array Value → State → Outcome → State → Prop) (XC : String → State → State → Prop) (a : Array Value) (s : State) (mc ms mx sx : Nat) (free : Addr → Prop) : State → Prop := fun t =>
  ∃ o, t.status = .running ∧ Ended t below o ∧ ky_Q Qc XC mc ms mx sx free a s o t
def ky_Back (l : Launch) (R : Room) (p : Program) (e : Env) (below : List Frame) (s : State) (sargs : Array Value) (y : MethodName) (Pc : Array Value → State → Prop) (rm : Room)
    (Post : Pt → Array Value → Option Value → Pt → Prop) (PostX : Pt → Array Value → Addr → Pt → Prop) : Prop :=
  ∀ (m : MethodId) (meth : Method) (c : Code) (A : Pt) (g : JFrame) (ig : Instr) (mk : MethodId) (a : Array Value),
    Stand p l e R s m sargs below meth c A.U A.locs A.cells A.slots → g.method = m → g.locals.size = c.maxLocals → decode c.code g.pc = .ok (ig, 3) →
    2 * g.monitorRoom + (g.stack.map fun v => v.category).sum ≤ 8 → A.U.methodNamed? y = some mk → A.cells + rm.cells ≤ R.cells → A.slots + rm.slots ≤ R.slots → Pc a A.U →
    (∃ (v : Option Value) (B : Pt), Stand p l e R s m sargs below meth c B.U B.locs B.cells B.slots ∧ Post A a v B ∧
      Steps p.tables e below (doInvoke e (A.U.setTop g) [] mk a).1 (B.U.setTop { g with pc := g.pc + 3, stack := v.toList ++ g.stack })) ∨
    (∃ (q : Addr) (B : Pt), Stand p l e R s m sargs below meth c B.U B.locs B.cells B.slots ∧ PostX A a q B ∧
      Steps p.tables e below (doInvoke e (A.U.setTop g) [] mk a).1 ((B.U.setTop g).pushFrame (.throwing q)))
section KBack
variable {l : Launch} {R : Room} {p : Program} {e : Env} {below : List Frame} {s : State} {sargs : Array Value} {y : MethodName}
/-- the caller's side of a contract: with the room that the callee asks, and what grew by its end -/
theorem ky_back {ws : List Cond} {rm : Room} {Pc : Array Value → State → Prop} {Qc : Array Value → State → Outcome → State → Prop} {XC : String → State → State → Prop} {mc ms mx sx : Nat} {free : Addr → Prop} {maxL : Nat}
    (hM : ky_Met l y ws rm Pc Qc XC mc ms mx sx free) (hblind : FrameBlind Pc)
    (hframes : rm.frames + 1 ≤ R.frames) (hlocals : 8 + (maxL + 11) + rm.locals ≤ R.locals)
    (hws : ∀ w ∈ ws, ∀ a' U, s.WarmedH U.vm → w.before a' U = true) (hcode : ∀ (a' : Array Value) (U : State) (mk : MethodId), s.WarmedH U.vm → U.methodNamed? y = some mk → ∃ (meth : Method) (c : Code), U.vm.method? mk = some meth ∧ meth.code = some c ∧ c.maxLocals = maxL) (hinit : ∀ a' U, s.WarmedH U.vm → (Cond.initialized y.cls).before a' U = true) :
    ky_Back l R p e below s sargs y Pc rm (PostOf Qc mc ms free) (vx_Post XC mx sx free) := by
  intro m meth c A g ig mk a X hg hsize hdg hW hn h4 h5 hp
  have h1 : (headSpec ws rm).pre.before a A.U = true := atoms_intro fun w hw => hws w hw _ _ X.warmed
  have h3 : (Cond.initialized y.cls).before a A.U = true := hinit _ _ X.warmed
  have hPc : Pc a (A.U.calling g mk a) := hblind _ _ _ _ hp
  obtain ⟨U, Ls, c0, s0⟩ := A
  dsimp only [Pt.U, Pt.locs, Pt.cells, Pt.slots] at h1 h3 h4 h5 X hn hPc ⊢
  obtain ⟨methY, cY, hmY, hcY, hlY⟩ := hcode a U mk X.warmed hn
  obtain ⟨kY, hkY, -⟩ := className_of_methodNamed hn
  have hinitY : kY.init = .initialized := Cond.initialized_spec (findClass_of_methodNamed hn) hkY h3
  have h : At U g.method c below := by rw [hg]; exact X.here
  have happ : (headSpec ws rm).appliesLoose y e.platform (U.calling g mk a) = true :=
    Spec.appliesLoose_calling (g := g) h hdg hn hkY hinitY
      (X.room_calling (g := g) (R' := (headSpec ws rm).room) hsize hmY hcY hframes (by rw [hlY]; show 2 * g.monitorRoom + _ + (maxL + 11) + rm.locals ≤ R.locals; omega) h4 h5) h1
  obtain ⟨mid, hmid⟩ := h.above
  have hfr : (U.setTop g).frames = (.java g :: mid) ++ below := by rw [State.frames_setTop' g h.top, hmid]; rfl
  obtain ⟨o, s₂, hsteps, -, hend, hq⟩ := Steps.callFree hM p X.admits X.cas X.clock (acts := []) hfr happ hPc trivial
  have hq' : ky_Q Qc XC mc ms mx sx free a (U.calling g mk a) o s₂ := hq
  rw [State.frames_setTop' g h.top] at hend
  obtain ⟨g₀, hg0⟩ := Option.isSome_iff_exists.mp h.top
  obtain ⟨r, hr⟩ := State.topJava?_eq_some.mp hg0
  have hr' : (({ U with heap := s₂.heap, slotsUsed := s₂.slotsUsed } : State).setVm s₂.vm).frames = .java g₀ :: r := hr
  have grown : ∀ {L : List Loc} {k n : Nat}, (U.calling g mk a).sameButNew ({ s₂ with vm := (U.calling g mk a).vm } : State) L k n → (U.calling g mk a).WarmedH s₂.vm →
      s₂ = ({ (U.calling g mk a).setFrames s₂.frames with heap := s₂.heap, slotsUsed := s₂.slotsUsed } : State).setVm s₂.vm ∧ Stand p l e R s m sargs below meth c (({ U with heap := s₂.heap, slotsUsed := s₂.slotsUsed } : State).setVm s₂.vm) (Ls ++ L) (c0 + k) (s0 + n) := by
    intro L k n hsm hW₂
    obtain ⟨e2, q2, q3, q4, q5, q6⟩ := hsm
    have hW' : U.WarmedH s₂.vm := hW₂
    have hsame : U.sameButNew ({ U with heap := s₂.heap, slotsUsed := s₂.slotsUsed } : State) L k n := by
      refine ⟨?_, q2, q3, q4, q5, q6⟩
      obtain ⟨t, ht, -⟩ := State.frames_cons hr
      show ({ U with heap := s₂.heap, slotsUsed := s₂.slotsUsed } : State) = { U.setFrames U.frames with heap := s₂.heap, slotsUsed := s₂.slotsUsed }
      rw [State.setFrames_self ht]
    refine ⟨?_, ⟨X.admits, X.cas, X.clock, X.frames, X.room, X.hears, X.method, X.code, ?_, X.tail, State.WarmedH.trans X.warmed hW', X.limits, X.bytes, X.same.trans (hsame.setVm s.vm)⟩⟩
    · have : s₂ = ({ s₂ with vm := (U.calling g mk a).vm } : State).setVm s₂.vm := rfl
      rw [e2] at this
      exact this
    · exact (X.here.setHeapUsed s₂.heap s₂.slotsUsed).setVm hW'.alike
  rcases hq' with ⟨hqc, L, hfe, hL⟩ | ⟨q, rfl, E, ce, L, hx, hce, hcv, hcl, hW₂, hsm, hL⟩
  · obtain ⟨⟨v, rfl⟩, hW₂, hsm⟩ := id hfe
    obtain ⟨e3, X'⟩ := grown hsm hW₂
    obtain ⟨c₂, i₂, len₂, hc₂, hd₂, hf₂⟩ := hend
    have hW' : U.WarmedH s₂.vm := hW₂
    have hcc : c₂ = c := by
      have h1 : s₂.code? g.method = U.code? g.method := by
        rw [State.code?_eq, State.code?_eq, hW'.alike.method?]
      exact Option.some.inj (hc₂.symm.trans (h1.trans h.code))
    subst hcc
    have hlen : len₂ = 3 := by rw [hdg] at hd₂; cases hd₂; rfl
    subst hlen
    have hs₂ : s₂ = (({ U with heap := s₂.heap, slotsUsed := s₂.slotsUsed } : State).setVm s₂.vm).setTop { g with pc := g.pc + 3, stack := v.toList ++ g.stack } := by
      refine e3.trans ?_
      rw [hf₂, State.calling_eq h.top, State.setFrames_setFrames, State.setTop_of_frames _ hr', hr]
      rfl
    refine Or.inl ⟨v, ⟨(({ U with heap := s₂.heap, slotsUsed := s₂.slotsUsed } : State).setVm s₂.vm), Ls ++ L, c0 + mc, s0 + ms⟩, X', ⟨g, mk, s₂, L, rfl, rfl, hqc, rfl, hL, rfl, rfl⟩, ?_⟩
    show Steps p.tables e below _ ((({ U with heap := s₂.heap, slotsUsed := s₂.slotsUsed } : State).setVm s₂.vm).setTop { g with pc := g.pc + 3, stack := v.toList ++ g.stack })
    rw [← hs₂]
    exact hsteps
  · obtain ⟨e3, X'⟩ := grown hsm hW₂
    have hf₂ : s₂.frames = .throwing q :: .java g :: U.frames.tail := hend
    have hs₂ : s₂ = ((({ U with heap := s₂.heap, slotsUsed := s₂.slotsUsed } : State).setVm s₂.vm).setTop g).pushFrame (.throwing q) := by
      refine e3.trans ?_
      rw [hf₂, State.calling_eq h.top, State.setFrames_setFrames, State.pushFrame, State.frames_setTop _ hr', State.setTop_of_frames _ hr', State.setFrames_setFrames, hr]
      rfl
    refine Or.inr ⟨q, ⟨(({ U with heap := s₂.heap, slotsUsed := s₂.slotsUsed } : State).setVm s₂.vm), Ls ++ L, c0 + mx, s0 + sx⟩, X', ⟨g, mk, s₂, L, E, ce, rfl, rfl, hx, hce, hcv, hcl, rfl, hL, rfl, rfl⟩, ?_⟩
    show Steps p.tables e below _ (((({ U with heap := s₂.heap, slotsUsed := s₂.slotsUsed } : State).setVm s₂.vm).setTop g).pushFrame (.throwing q))
    rw [← hs₂]
    exact hsteps
end KBack
def ky_Run (p : Program) (l : Launch) (e : Env) (R : Room) (s : State) (m : MethodId) (args : Array Value) (below : List Frame) (meth : Method) (c : Code) (H : Heap) (locs : List Loc) (cells slots mc ms mx sx : Nat) (g : JFrame) (rest : List Value) (Qa : State → Outcome → State → Prop) (XC : String → State → State → Prop) (free : Addr → Prop) : Prop :=
  ∀ T : State, T.heap = H → Stand p l e R s m args below meth c T locs cells slots →
    (∃ (v : Option Value) (st₀ t T' : State) (L : List Loc), st₀.heap = H ∧ Stand p l e R s m args below meth c T' (locs ++ L) (cells + mc) (slots + ms) ∧ (∀ q ∈ L, free q.base) ∧ T'.heap = t.heap ∧ T'.vm = t.vm ∧ Qa st₀ (.returned v) t ∧
      Goes p e below T g T' { g with pc := g.pc + 3, stack := v.toList ++ rest }) ∨
    (∃ (q : Addr) (st₀ t T' : State) (L : List Loc) (E : String) (ce : Cell), st₀.heap = H ∧ Stand p l e R s m args below meth c T' (locs ++ L) (cells + mx) (slots + sx) ∧ (∀ z ∈ L, free z.base) ∧ T'.heap = t.heap ∧ T'.vm = t.vm ∧ XC E st₀ t ∧ t.heap[q]? = some ce ∧ ce.vm = .none ∧ s.vm.findClass E = some ce.cls ∧
      Steps p.tables e below (T.setTop g) ((T'.setTop { g with stack := rest }).pushFrame (.throwing q)))
/-- a contract: code b of method y with n locals; it asks fr frames, lo words, rc cells, rs slots; (mc, ms) are new when it returns, (mx, sx) when it throws -/
def Kt (l : Launch) (y : MethodName) (b : ByteArray) (n : Nat) (ret : Option FieldType) (fr lo rc rs mc ms mx sx : Nat) (G : GT) (A : Nat → Prop) (u : WT) (As : List Value) (Qc : Array Value → State → Outcome → State → Prop) (px : String → WT → Prop) : Prop :=
  ky_Met l y (Cond.code y b n ret :: GW) { frames := fr, cells := rc, slots := rs, locals := lo } (va_Pc As (Wd G A u)) Qc (XX G A px) mc ms mx sx A
def KQ (G : GT) (A : Nat → Prop) (post : Option Value → WT → Prop) : Array Value → State → Outcome → State → Prop := fun _ st oc t => (∃ (v : Option Value) (u : WT), oc = .returned v ∧ post v u ∧ Wo G A u t) ∧ va_F A st t
abbrev Ri (post : Int32 → WT → Prop) : Option Value → WT → Prop := fun v u => ∃ r : Int32, v = some (.int r) ∧ post r u
abbrev Rl (post : Int64 → WT → Prop) : Option Value → WT → Prop := fun v u => ∃ r : Int64, v = some (.long r) ∧ post r u
abbrev Rd (post : UInt64 → WT → Prop) : Option Value → WT → Prop := fun v u => ∃ r : UInt64, v = some (.double r) ∧ post r u
abbrev Rv (post : WT → Prop) : Option Value → WT → Prop := fun v u => v = none ∧ post u
abbrev Ra (post : Nat → WT → Prop) : Option Value → WT → Prop := fun v u => ∃ r : Nat, v = some (.ref r) ∧ post r u
abbrev Rq (post : Option Nat → WT → Prop) : Option Value → WT → Prop := fun v u => ∃ r : Option Nat, v = some (va_rf r) ∧ post r u
section KCalls
variable {p : Program} {l : Launch} {e : Env} {R : Room} {s : State} {m : MethodId} {args : Array Value} {below : List Frame} {meth : Method} {c : Code} {H : Heap} {locs : List Loc} {cells slots : Nat} {Q : State → Prop}
variable {y : MethodName} {bytes cc : ByteArray} {maxL nL mc ms mx sx rc rs index fr lo pc : Nat} {ret : Option FieldType} {rm : Room} {Pc : Array Value → State → Prop} {Qc : Array Value → State → Outcome → State → Prop} {XC : String → State → State → Prop} {free : Addr → Prop} {own C : String} {b : Addr} {As rest st0 : List Value} {g : JFrame} {G : GT} {A : Nat → Prop} {u : WT} {px : String → WT → Prop} {ls : Array Slot}
theorem kx_run {mk : MethodId} {av : Array Value} {ig : Instr} (hK : ky_Back l R p e below s args y Pc rm (PostOf Qc mc ms free) (vx_Post XC mx sx free))
    (hg : g.method = m) (hsize : g.locals.size = c.maxLocals) (hdg : decode c.code g.pc = .ok (ig, 3)) (hW : 2 * g.monitorRoom + (rest.map fun v => v.category).sum ≤ 8) (hn : s.methodNamed? y = some mk) (hf : cells + rm.cells ≤ R.cells ∧ slots + rm.slots ≤ R.slots) (hPc : ∀ U : State, U.heap = H → s.WarmedH U.vm → Pc av U)
    (hgo : ∀ T : State, T.heap = H → Stand p l e R s m args below meth c T locs cells slots → ∃ vm₁, Stand p l e R s m args below meth c (T.setVm vm₁) locs cells slots ∧ ∀ target, (∀ acts, Steps p.tables e below (doInvoke e ((T.setVm vm₁).setTop { g with stack := rest }) acts mk av).1 target) → Steps p.tables e below (T.setTop g) target) :
    ky_Run p l e R s m args below meth c H locs cells slots mc ms mx sx g rest (Qc av) XC free := by
  intro T hT X
  obtain ⟨vm₁, X₁, hstep₁⟩ := hgo T hT X
  rcases hK m meth c ⟨T.setVm vm₁, locs, cells, slots⟩ { g with stack := rest } ig mk av X₁ hg hsize hdg hW (X₁.named hn) hf.1 hf.2 (hPc (T.setVm vm₁) hT X₁.warmed) with ⟨v, ⟨U', l2, c2, s2⟩, X', ⟨g', mk', t, L, e1, e2, hq, h1, hL, h2, h3⟩, hsteps⟩ | ⟨q, ⟨U', l2, c2, s2⟩, X', ⟨g', mk', t, L, E, ce, e1, e2, hq, hce, hcv, hcl, h1, hL, h2, h3⟩, hsteps⟩
  · dsimp only [Pt.U, Pt.locs, Pt.cells, Pt.slots] at X' e1 e2 h1 h2 h3 hsteps
    subst h1; subst h2; subst h3
    exact Or.inl ⟨v, (T.setVm vm₁).calling g' mk' av, t, U', L, hT, X', hL, e1, e2, hq, fun target h => hstep₁ _ fun acts => by rw [doInvoke_state]; exact hsteps.trans h⟩
  · dsimp only [Pt.U, Pt.locs, Pt.cells, Pt.slots] at X' e1 e2 h1 h2 h3 hsteps hcl
    subst h1; subst h2; subst h3
    exact Or.inr ⟨q, (T.setVm vm₁).calling g' mk' av, t, U', L, E, ce, hT, X', hL, e1, e2, hq, hce, hcv, vx_cls X₁.warmed hcl, hstep₁ _ fun acts => by rw [doInvoke_state]; exact hsteps⟩
theorem gd_all (ht : ∀ w ∈ GW, w.before args s = true) : ∀ w ∈ GW, ∀ (a' : Array Value) (U : State), s.WarmedH U.vm → w.before a' U = true := fun w hw a' U hW => word_at hW (good_of_word (List.all_eq_true.mp GW_good w hw)) (ht w hw)
/-- the callee's words out of the tables' -/
theorem k_back (ht : ∀ w ∈ GW, w.before args s = true) (hcode : Cond.code y bytes maxL ret ∈ GW) (hini : Cond.initialized y.cls ∈ GW) (hR : fr + 1 ≤ R.frames ∧ 8 + (maxL + 11) + lo ≤ R.locals) (hM : Kt l y bytes maxL ret fr lo rc rs mc ms mx sx G A u As Qc px) :
    ky_Back l R p e below s args y (va_Pc As (Wd G A u)) { frames := fr, cells := rc, slots := rs, locals := lo } (PostOf Qc mc ms A) (vx_Post (XX G A px) mx sx A) := by
  refine ky_back (maxL := maxL) hM Wd.blind hR.1 hR.2 ?_ (fun a' U mk hW hn => ?_) (fun a' U hW => gd_all ht _ hini a' U hW)
  · intro w hw
    rcases List.mem_cons.mp hw with h | h
    · rw [h]; exact gd_all ht _ hcode
    · exact gd_all ht _ h
  · obtain ⟨methY, cY, hmY, hcY, -, hlY, -⟩ := Cond.code_spec hn (gd_all ht _ hcode a' U hW)
    exact ⟨methY, cY, hmY, hcY, hlY⟩
theorem k_len {x : MethodName} {n : Nat} (h : (parseMethodDescriptor x.desc).map (fun d => d.parameters.length) = some n) {xs : List Value} (hn : xs.length = n) : ∀ sig, parseMethodDescriptor x.desc = some sig → xs.length = sig.parameters.length := by
  intro sig h1
  rw [h1] at h
  rw [hn]
  exact (Option.some.inj h).symm
/-- a call of a method that its class doesn't hand down (private ones too) -/
theorem kr_V (n : Nat) (hM : Kt l y bytes maxL ret fr lo rc rs mc ms mx sx G A u (.ref b :: As) Qc px) (hexec : p.tables.exec = Jvm.exec) (hb : c.code = cc) (hml : c.maxLocals = nL) (hown : s.vm.findClass own = some m.cls) (ht : ∀ w ∈ GW, w.before args s = true) (hw : Wk G A u s H locs)
    (hlink : Cond.methodLink own index y ∈ GW) (hinst : Cond.instanceMethod y ∈ GW) (hsel : Cond.selects C y y ∈ GW) (hini : Cond.initialized y.cls ∈ GW) (hcode : Cond.code y bytes maxL ret ∈ GW)
    (hd : (y.cls ≠ "java/lang/invoke/MethodHandle" ∧ y.cls ≠ "java/lang/invoke/VarHandle") ∧ (parseMethodDescriptor y.desc).map (fun d => d.parameters.length) = some n) (hR : fr + 1 ≤ R.frames ∧ 8 + (maxL + 11) + lo ≤ R.locals)
    (hrecv : ∃ cell : Cell, H[b]? = some cell ∧ cell.vm.isStatics = false ∧ s.vm.findClass C = some cell.cls) (hn : As.length = n) (hsize : ls.size = nL) (hstack : st0 = As.reverse ++ .ref b :: rest) (hW : 2 * (F0 m pc ls st0).monitorRoom + (rest.map fun v => v.category).sum ≤ 8) (hdg : decode cc pc = .ok (.invokevirtual index, 3)) (hf : cells + rc ≤ R.cells ∧ slots + rs ≤ R.slots) :
    ky_Run p l e R s m args below meth c H locs cells slots mc ms mx sx (F0 m pc ls st0) rest (Qc (Value.ref b :: As).toArray) (XX G A px) A := by
  obtain ⟨mk, methM, hnamed, hmethM, hstM, habM⟩ := Cond.instanceMethod_spec (ht _ hinst)
  obtain ⟨methM', cM, hmethM', -, -, -, -, -, -, hsigM⟩ := Cond.code_spec hnamed (ht _ hcode)
  cases hmethM.symm.trans hmethM'
  obtain ⟨c2, r2, m2, q1, q2, q3, q4, kP, hkP, hkPi⟩ := Cond.selects_spec (ht _ hsel)
  obtain ⟨cellB, hcB, hoB, hclB⟩ := hrecv
  cases hclB.symm.trans q1
  cases (State.methodFound?_of_named hnamed hd.1).symm.trans q2
  cases hnamed.symm.trans q3
  refine kx_run (k_back ht hcode hini hR hM) rfl (hsize.trans hml.symm) (by rw [hb]; exact hdg) hW hnamed hf (fun U hU hWU => ⟨rfl, hw.to hU hWU⟩) (fun T hT X => ?_)
  have hselP : selectMethod e.platform s.vm cellB.cls mk = .method mk := by rw [Launch.admits_selectMethod X.admits]; exact q4
  obtain ⟨vm₁, X₁, hstep₁⟩ := X.invokevirtual hexec hown (ht _ hlink) hnamed hmethM hstM hkP hkPi hd.1 (a := b) (cell := cellB) (by rw [hT]; exact hcB)
    (fun z h => by rw [h] at hoB; cases hoB) hselP hmethM habM hkP hkPi (g := F0 m pc ls st0) rfl (argsL := As) (rest := rest) (k_len hd.2 hn _ hsigM) hstack (by rw [hb]; exact hdg)
  exact ⟨vm₁, X₁, hstep₁⟩
/-- a call through the name x of the class 'owner', on a receiver of class C, of what C has for it -/
theorem kr_U (n : Nat) {owner : String} {x : MethodName} (hM : Kt l y bytes maxL ret fr lo rc rs mc ms mx sx G A u (.ref b :: As) Qc px) (hexec : p.tables.exec = Jvm.exec) (hb : c.code = cc) (hml : c.maxLocals = nL) (hown : s.vm.findClass own = some m.cls) (ht : ∀ w ∈ GW, w.before args s = true) (hw : Wk G A u s H locs)
    (hlink : Cond.methodLink own index x ∈ GW) (hsame : Cond.sameMethod x.cls owner x.name x.desc ∈ GW) (hd0 : va_Decl s ⟨owner, x.name, x.desc⟩) (hsel : Cond.selects C x y ∈ GW) (hinst : Cond.instanceMethod y ∈ GW) (hini : Cond.initialized y.cls ∈ GW) (hcode : Cond.code y bytes maxL ret ∈ GW)
    (hd : (owner ≠ "java/lang/invoke/MethodHandle" ∧ owner ≠ "java/lang/invoke/VarHandle") ∧ (parseMethodDescriptor x.desc).map (fun d => d.parameters.length) = some n) (hR : fr + 1 ≤ R.frames ∧ 8 + (maxL + 11) + lo ≤ R.locals)
    (hrecv : ∃ cell : Cell, H[b]? = some cell ∧ cell.vm.isStatics = false ∧ s.vm.findClass C = some cell.cls) (hn : As.length = n) (hsize : ls.size = nL) (hstack : st0 = As.reverse ++ .ref b :: rest) (hW : 2 * (F0 m pc ls st0).monitorRoom + (rest.map fun v => v.category).sum ≤ 8) (hdg : decode cc pc = .ok (.invokevirtual index, 3)) (hf : cells + rc ≤ R.cells ∧ slots + rs ≤ R.slots) :
    ky_Run p l e R s m args below meth c H locs cells slots mc ms mx sx (F0 m pc ls st0) rest (Qc (Value.ref b :: As).toArray) (XX G A px) A := by
  obtain ⟨r0, r, hnR, hrm, hstR, hsigR⟩ := hd0
  obtain ⟨cn, ck, r1, hcn, hck, hni, hfo, hn1⟩ := Cond.sameMethod_found (ht _ hsame)
  cases hnR.symm.trans hn1
  obtain ⟨mk, methM, hnamed, hmethM, -, habM⟩ := Cond.instanceMethod_spec (ht _ hinst)
  obtain ⟨c2, r2, m2, q1, q2, q3, q4, kP, hkP, hkPi⟩ := Cond.selects_spec (ht _ hsel)
  obtain ⟨cellB, hcB, hoB, hclB⟩ := hrecv
  cases hclB.symm.trans q1
  cases hfo.symm.trans q2
  cases hnamed.symm.trans q3
  refine kx_run (k_back ht hcode hini hR hM) rfl (hsize.trans hml.symm) (by rw [hb]; exact hdg) hW hnamed hf (fun U hU hWU => ⟨rfl, hw.to hU hWU⟩) (fun T hT X => ?_)
  have hselP : selectMethod e.platform s.vm cellB.cls r0 = .method mk := by rw [Launch.admits_selectMethod X.admits]; exact q4
  obtain ⟨vm₁, X₁, hstep₁⟩ := X.invokevirtualUp hexec hown (ht _ hlink) (ht _ hsame) hd.1 hnR hrm hstR (a := b) (cell := cellB) (by rw [hT]; exact hcB)
    (fun z h => by rw [h] at hoB; cases hoB) hselP hmethM habM hkP hkPi (g := F0 m pc ls st0) rfl (argsL := As) (rest := rest) (k_len hd.2 hn _ hsigR) hstack (by rw [hb]; exact hdg)
  exact ⟨vm₁, X₁, hstep₁⟩
theorem kr_S (n : Nat) (hM : Kt l y bytes maxL ret fr lo rc rs mc ms mx sx G A u As Qc px) (hexec : p.tables.exec = Jvm.exec) (hb : c.code = cc) (hml : c.maxLocals = nL) (hown : s.vm.findClass own = some m.cls) (ht : ∀ w ∈ GW, w.before args s = true) (hw : Wk G A u s H locs)
    (hlink : Cond.methodLink own index y ∈ GW) (hstat : Cond.static y ∈ GW) (hini : Cond.initialized y.cls ∈ GW) (hcode : Cond.code y bytes maxL ret ∈ GW)
    (hd : (y.cls ≠ "java/lang/invoke/MethodHandle" ∧ y.cls ≠ "java/lang/invoke/VarHandle") ∧ (parseMethodDescriptor y.desc).map (fun d => d.parameters.length) = some n) (hR : fr + 1 ≤ R.frames ∧ 8 + (maxL + 11) + lo ≤ R.locals)
    (hn : As.length = n) (hsize : ls.size = nL) (hstack : st0 = As.reverse ++ rest) (hW : 2 * (F0 m pc ls st0).monitorRoom + (rest.map fun v => v.category).sum ≤ 8) (hdg : decode cc pc = .ok (.invokestatic index, 3)) (hf : cells + rc ≤ R.cells ∧ slots + rs ≤ R.slots) :
    ky_Run p l e R s m args below meth c H locs cells slots mc ms mx sx (F0 m pc ls st0) rest (Qc As.toArray) (XX G A px) A := by
  obtain ⟨mk, hnamed⟩ := Cond.code_named (ht _ hcode)
  obtain ⟨methM, cM, hmethM, -, -, -, -, -, -, hsigM⟩ := Cond.code_spec hnamed (ht _ hcode)
  have hstatic : methM.isStatic = true := Cond.static_spec hnamed hmethM (ht _ hstat)
  obtain ⟨kP, hkP, -⟩ := className_of_methodNamed hnamed
  have hinitP : kP.init = .initialized := Cond.initialized_spec (findClass_of_methodNamed hnamed) hkP (ht _ hini)
  refine kx_run (k_back ht hcode hini hR hM) rfl (hsize.trans hml.symm) (by rw [hb]; exact hdg) hW hnamed hf (fun U hU hWU => ⟨rfl, hw.to hU hWU⟩) (fun T hT X => ?_)
  obtain ⟨vm₁, X₁, hstep₁⟩ := X.invokestatic hexec hown (ht _ hlink) hnamed hmethM hstatic hkP hinitP hd.1 (g := F0 m pc ls st0) rfl (argsL := As) (rest := rest) (k_len hd.2 hn _ hsigM) hstack (by rw [hb]; exact hdg)
  exact ⟨vm₁, X₁, hstep₁⟩
theorem kr_SN (n : Nat) {host : String} (hM : Kt l y bytes maxL ret fr lo rc rs mc ms mx sx G A u As Qc px) (hexec : p.tables.exec = Jvm.exec) (hb : c.code = cc) (hml : c.maxLocals = nL) (hown : s.vm.findClass own = some m.cls) (ht : ∀ w ∈ GW, w.before args s = true) (hw : Wk G A u s H locs)
    (hlink : Cond.methodLinkNest own index y host ∈ EW) (hstat : Cond.static y ∈ GW) (hini : Cond.initialized y.cls ∈ GW) (hcode : Cond.code y bytes maxL ret ∈ GW)
    (hd : (y.cls ≠ "java/lang/invoke/MethodHandle" ∧ y.cls ≠ "java/lang/invoke/VarHandle") ∧ (parseMethodDescriptor y.desc).map (fun d => d.parameters.length) = some n) (hR : fr + 1 ≤ R.frames ∧ 8 + (maxL + 11) + lo ≤ R.locals)
    (hn : As.length = n) (hsize : ls.size = nL) (hstack : st0 = As.reverse ++ rest) (hW : 2 * (F0 m pc ls st0).monitorRoom + (rest.map fun v => v.category).sum ≤ 8) (hdg : decode cc pc = .ok (.invokestatic index, 3)) (hf : cells + rc ≤ R.cells ∧ slots + rs ≤ R.slots) :
    ky_Run p l e R s m args below meth c H locs cells slots mc ms mx sx (F0 m pc ls st0) rest (Qc As.toArray) (XX G A px) A := by
  obtain ⟨mk, hnamed⟩ := Cond.code_named (ht _ hcode)
  obtain ⟨methM, cM, hmethM, -, -, -, -, -, -, hsigM⟩ := Cond.code_spec hnamed (ht _ hcode)
  have hstatic : methM.isStatic = true := Cond.static_spec hnamed hmethM (ht _ hstat)
  obtain ⟨kP, hkP, -⟩ := className_of_methodNamed hnamed
  have hinitP : kP.init = .initialized := Cond.initialized_spec (findClass_of_methodNamed hnamed) hkP (ht _ hini)
  refine kx_run (k_back ht hcode hini hR hM) rfl (hsize.trans hml.symm) (by rw [hb]; exact hdg) hW hnamed hf (fun U hU hWU => ⟨rfl, hw.to hU hWU⟩) (fun T hT X => ?_)
  obtain ⟨vm₁, X₁, hstep₁⟩ := X.invokestaticNest hexec hown (va_Nw.use (A := args) rfl (hw.1.2.2.2.2.1 _ hlink)) hnamed hmethM hstatic hkP hinitP hd.1 (g := F0 m pc ls st0) rfl (argsL := As) (rest := rest) (k_len hd.2 hn _ hsigM) hstack (by rw [hb]; exact hdg)
  exact ⟨vm₁, X₁, hstep₁⟩
theorem kr_I (n : Nat) (hM : Kt l y bytes maxL none fr lo rc rs mc ms mx sx G A u (.ref b :: As) Qc px) (hexec : p.tables.exec = Jvm.exec) (hb : c.code = cc) (hml : c.maxLocals = nL) (hown : s.vm.findClass own = some m.cls) (ht : ∀ w ∈ GW, w.before args s = true) (hw : Wk G A u s H locs) (hy1 : y.name = "<init>")
    (hlink : Cond.methodLink own index y ∈ GW) (hinst : Cond.instanceMethod y ∈ GW) (hini : Cond.initialized y.cls ∈ GW) (hcode : Cond.code y bytes maxL none ∈ GW)
    (hd : (y.cls ≠ "java/lang/invoke/MethodHandle" ∧ y.cls ≠ "java/lang/invoke/VarHandle") ∧ (parseMethodDescriptor y.desc).map (fun d => d.parameters.length) = some n) (hR : fr + 1 ≤ R.frames ∧ 8 + (maxL + 11) + lo ≤ R.locals)
    (hn : As.length = n) (hsize : ls.size = nL) (hstack : st0 = As.reverse ++ .ref b :: rest) (hW : 2 * (F0 m pc ls st0).monitorRoom + (rest.map fun v => v.category).sum ≤ 8) (hdg : decode cc pc = .ok (.invokespecial index, 3)) (hf : cells + rc ≤ R.cells ∧ slots + rs ≤ R.slots) :
    ky_Run p l e R s m args below meth c H locs cells slots mc ms mx sx (F0 m pc ls st0) rest (Qc (Value.ref b :: As).toArray) (XX G A px) A := by
  obtain ⟨mk, methM, hnamed, -⟩ := Cond.instanceMethod_spec (ht _ hinst)
  refine kx_run (k_back ht hcode hini hR hM) rfl (hsize.trans hml.symm) (by rw [hb]; exact hdg) hW hnamed hf (fun U hU hWU => ⟨rfl, hw.to hU hWU⟩) (fun T hT X => ?_)
  have hpl : e.platform.magicAccessors = ({} : Platform).magicAccessors := by rw [X.admits.platform]
  obtain ⟨mk', methM', cM, kP, vm₁, hnamed', hmethM', hcodeM, -, hlocalsM, -, hkP, -, hW₁, hstep₁⟩ := Steps.initColdArgs (e := e) X.here hexec X.warmed hpl hown hy1 hd.1 (ht _ hlink) (ht _ hinst) (ht _ hcode) (f := F0 m pc ls st0) rfl (k_len hd.2 hn) hstack (by rw [hb]; exact hdg)
  cases hnamed.symm.trans hnamed'
  exact ⟨vm₁, X.noted hW₁, fun target h => hstep₁ _ h⟩
/-- behind a call -/
theorem kc {post : Option Value → WT → Prop} {av : Array Value} (hr : ky_Run p l e R s m args below meth c H locs cells slots mc ms mx sx (F0 m pc ls st0) rest (KQ G A post av) (XX G A px) A) (hw : Wk G A u s H locs)
    (kx : ∀ (E : String) (ce : Cell) (q9 : Addr) (u' : WT) (H1 : Heap) (locs1 : List Loc), px E u' → Wk G A u' s H1 locs1 → H1[q9]? = some ce → ce.vm = .none → s.vm.findClass E = some ce.cls → vx_W p l e R s m args below meth c H1 locs1 (cells + mx) (slots + sx) Q (F0 m pc ls rest) q9)
    (kk : ∀ (v : Option Value) (u' : WT) (H1 : Heap) (locs1 : List Loc), post v u' → Wk G A u' s H1 locs1 → W p l e R s m args below meth c H1 locs1 (cells + mc) (slots + ms) Q (F0 m (pc + 3) ls (v.toList ++ rest))) : W p l e R s m args below meth c H locs cells slots Q (F0 m pc ls st0) := by
  intro T hT X
  rcases hr T hT X with ⟨v, st₀, t, T', L, h0, X', hL, e1, e2, ⟨⟨v', u', hv, hp, hB⟩, hF⟩, st⟩ | ⟨q, st₀, t, T', L, E, ce, h0, X', hL, e1, e2, ⟨⟨E', u'⟩, hp, ⟨hE, hB⟩, hF⟩, hce, hcv, hcl, st⟩
  · cases hv
    obtain ⟨k1, k2, k3⟩ := vx_keep h0 e1 hw.2.2.2.1 (fun _ _ h => h) (fun _ h => h) hL hF
    obtain ⟨t2, a1, b1⟩ := kk v u' T'.heap (locs ++ L) hp (hw.back hB e1.symm k3) T' rfl X'
    exact ⟨t2, st t2 a1, b1⟩
  · obtain ⟨k1, k2, k3⟩ := vx_keep h0 e1 hw.2.2.2.1 (fun _ _ h => h) (fun _ h => h) hL hF
    dsimp only at hE hB hp
    subst hE
    obtain ⟨t2, a1, b1⟩ := kx E ce q u' T'.heap (locs ++ L) hp (hw.back hB e1.symm k3) (by rw [e1]; exact hce) hcv hcl T' rfl X'
    exact ⟨t2, st.trans a1, b1⟩
theorem kc_v {post : WT → Prop} {av : Array Value} (hr : ky_Run p l e R s m args below meth c H locs cells slots mc ms mx sx (F0 m pc ls st0) rest (KQ G A (Rv post) av) (XX G A px) A) (hw : Wk G A u s H locs)
    (kx : ∀ (E : String) (ce : Cell) (q9 : Addr) (u' : WT) (H1 : Heap) (locs1 : List Loc), px E u' → Wk G A u' s H1 locs1 → H1[q9]? = some ce → ce.vm = .none → s.vm.findClass E = some ce.cls → vx_W p l e R s m args below meth c H1 locs1 (cells + mx) (slots + sx) Q (F0 m pc ls rest) q9)
    (kk : ∀ (u' : WT) (H1 : Heap) (locs1 : List Loc), post u' → Wk G A u' s H1 locs1 → W p l e R s m args below meth c H1 locs1 (cells + mc) (slots + ms) Q (F0 m (pc + 3) ls rest)) : W p l e R s m args below meth c H locs cells slots Q (F0 m pc ls st0) :=
  kc hr hw kx (fun v u' H1 locs1 hp hw' => by obtain ⟨rfl, hp⟩ := hp; exact kk u' H1 locs1 hp hw')
theorem kc_i {post : Int32 → WT → Prop} {av : Array Value} (hr : ky_Run p l e R s m args below meth c H locs cells slots mc ms mx sx (F0 m pc ls st0) rest (KQ G A (Ri post) av) (XX G A px) A) (hw : Wk G A u s H locs)
    (kx : ∀ (E : String) (ce : Cell) (q9 : Addr) (u' : WT) (H1 : Heap) (locs1 : List Loc), px E u' → Wk G A u' s H1 locs1 → H1[q9]? = some ce → ce.vm = .none → s.vm.findClass E = some ce.cls → vx_W p l e R s m args below meth c H1 locs1 (cells + mx) (slots + sx) Q (F0 m pc ls rest) q9)
    (kk : ∀ (r : Int32) (u' : WT) (H1 : Heap) (locs1 : List Loc), post r u' → Wk G A u' s H1 locs1 → W p l e R s m args below meth c H1 locs1 (cells + mc) (slots + ms) Q (F0 m (pc + 3) ls (.int r :: rest))) : W p l e R s m args below meth c H locs cells slots Q (F0 m pc ls st0) :=
  kc hr hw kx (fun v u' H1 locs1 hp hw' => by obtain ⟨r, rfl, hp⟩ := hp; exact kk r u' H1 locs1 hp hw')
theorem kc_l {post : Int64 → WT → Prop} {av : Array Value} (hr : ky_Run p l e R s m args below meth c H locs cells slots mc ms mx sx (F0 m pc ls st0) rest (KQ G A (Rl post) av) (XX G A px) A) (hw : Wk G A u s H locs)
    (kx : ∀ (E : String) (ce : Cell) (q9 : Addr) (u' : WT) (H1 : Heap) (locs1 : List Loc), px E u' → Wk G A u' s H1 locs1 → H1[q9]? = some ce → ce.vm = .none → s.vm.findClass E = some ce.cls → vx_W p l e R s m args below meth c H1 locs1 (cells + mx) (slots + sx) Q (F0 m pc ls rest) q9)
    (kk : ∀ (r : Int64) (u' : WT) (H1 : Heap) (locs1 : List Loc), post r u' → Wk G A u' s H1 locs1 → W p l e R s m args below meth c H1 locs1 (cells + mc) (slots + ms) Q (F0 m (pc + 3) ls (.long r :: rest))) : W p l e R s m args below meth c H locs cells slots Q (F0 m pc ls st0) :=
  kc hr hw kx (fun v u' H1 locs1 hp hw' => by obtain ⟨r, rfl, hp⟩ := hp; exact kk r u' H1 locs1 hp hw')
theorem kc_d {post : UInt64 → WT → Prop} {av : Array Value} (hr : ky_Run p l e R s m args below meth c H locs cells slots mc ms mx sx (F0 m pc ls st0) rest (KQ G A (Rd post) av) (XX G A px) A) (hw : Wk G A u s H locs)
    (kx : ∀ (E : String) (ce : Cell) (q9 : Addr) (u' : WT) (H1 : Heap) (locs1 : List Loc), px E u' → Wk G A u' s H1 locs1 → H1[q9]? = some ce → ce.vm = .none → s.vm.findClass E = some ce.cls → vx_W p l e R s m args below meth c H1 locs1 (cells + mx) (slots + sx) Q (F0 m pc ls rest) q9)
    (kk : ∀ (r : UInt64) (u' : WT) (H1 : Heap) (locs1 : List Loc), post r u' → Wk G A u' s H1 locs1 → W p l e R s m args below meth c H1 locs1 (cells + mc) (slots + ms) Q (F0 m (pc + 3) ls (.double r :: rest))) : W p l e R s m args below meth c H locs cells slots Q (F0 m pc ls st0) :=
  kc hr hw kx (fun v u' H1 locs1 hp hw' => by obtain ⟨r, rfl, hp⟩ := hp; exact kk r u' H1 locs1 hp hw')
theorem kc_a {post : Nat → WT → Prop} {av : Array Value} (hr : ky_Run p l e R s m args below meth c H locs cells slots mc ms mx sx (F0 m pc ls st0) rest (KQ G A (Ra post) av) (XX G A px) A) (hw : Wk G A u s H locs)
    (kx : ∀ (E : String) (ce : Cell) (q9 : Addr) (u' : WT) (H1 : Heap) (locs1 : List Loc), px E u' → Wk G A u' s H1 locs1 → H1[q9]? = some ce → ce.vm = .none → s.vm.findClass E = some ce.cls → vx_W p l e R s m args below meth c H1 locs1 (cells + mx) (slots + sx) Q (F0 m pc ls rest) q9)
    (kk : ∀ (r : Nat) (u' : WT) (H1 : Heap) (locs1 : List Loc), post r u' → Wk G A u' s H1 locs1 → W p l e R s m args below meth c H1 locs1 (cells + mc) (slots + ms) Q (F0 m (pc + 3) ls (.ref r :: rest))) : W p l e R s m args below meth c H locs cells slots Q (F0 m pc ls st0) :=
  kc hr hw kx (fun v u' H1 locs1 hp hw' => by obtain ⟨r, rfl, hp⟩ := hp; exact kk r u' H1 locs1 hp hw')
theorem kc_q {post : Option Nat → WT → Prop} {av : Array Value} (hr : ky_Run p l e R s m args below meth c H locs cells slots mc ms mx sx (F0 m pc ls st0) rest (KQ G A (Rq post) av) (XX G A px) A) (hw : Wk G A u s H locs)
    (kx : ∀ (E : String) (ce : Cell) (q9 : Addr) (u' : WT) (H1 : Heap) (locs1 : List Loc), px E u' → Wk G A u' s H1 locs1 → H1[q9]? = some ce → ce.vm = .none → s.vm.findClass E = some ce.cls → vx_W p l e R s m args below meth c H1 locs1 (cells + mx) (slots + sx) Q (F0 m pc ls rest) q9)
    (kk : ∀ (r : Option Nat) (u' : WT) (H1 : Heap) (locs1 : List Loc), post r u' → Wk G A u' s H1 locs1 → W p l e R s m args below meth c H1 locs1 (cells + mc) (slots + ms) Q (F0 m (pc + 3) ls (va_rf r :: rest))) : W p l e R s m args below meth c H locs cells slots Q (F0 m pc ls st0) :=
  kc hr hw kx (fun v u' H1 locs1 hp hw' => by obtain ⟨r, rfl, hp⟩ := hp; exact kk r u' H1 locs1 hp hw')
/-- no throw comes out of what can't throw -/
theorem k_nx {q9 : Addr} {H1 : Heap} {locs1 : List Loc} {k n : Nat} : ∀ (E : String) (ce : Cell) (q9 : Addr) (u' : WT) (H1 : Heap) (locs1 : List Loc), NX E u' → Wk G A u' s H1 locs1 → H1[q9]? = some ce → ce.vm = .none → s.vm.findClass E = some ce.cls → vx_W p l e R s m args below meth c H1 locs1 k n Q (F0 m pc ls rest) q9 := fun _ _ _ _ _ _ h => h.elim
/-! ends -/
theorem ky_ret {g : JFrame} (k : W p l e R s m args below meth c H locs cells slots (MQ below Qc args s mc ms free) g) : W p l e R s m args below meth c H locs cells slots (ky_MQ below Qc XC args s mc ms mx sx free) g := by
  intro T hT X
  obtain ⟨t, a1, o, b1, b2, b3, b4⟩ := k T hT X
  exact ⟨t, a1, o, b1, b2, Or.inl ⟨b3, b4⟩⟩
theorem ky_thr {t : State} (h : vx_MQ below (fun _ _ _ _ => False) XC args s mx sx free t) : ky_MQ below Qc XC args s mc ms mx sx free t := by
  obtain ⟨o, b1, b2, b3⟩ := h
  rcases b3 with ⟨h, -⟩ | h
  · exact h.elim
  · exact ⟨o, b1, b2, Or.inr h⟩
theorem kt_i {post : Int32 → WT → Prop} {v : Int32} (hexec : p.tables.exec = Jvm.exec) (hb : c.code = cc) (hr : meth.sig.returnType = some .int) (hlocks : meth.locks = false) (hw : Wk G A u s H locs) (hdg : decode cc pc = .ok (.ireturn, 1)) (hp : post v u) (hc : cells ≤ mc) (hs : slots ≤ ms) :
    W p l e R s m args below meth c H locs cells slots (ky_MQ below (KQ G A (Ri post)) (XX G A px) args s mc ms mx sx A) (F0 m pc ls [.int v]) :=
  ky_ret (W.widen hc hs (W.iret hexec hb hr (fun t ht hW => ⟨⟨some (.int v), u, rfl, ⟨v, rfl, hp⟩, hw.out ht⟩, hw.2.2.2.1.F ht⟩) hw.2.2.2.1.2.2 hdg hlocks))
theorem kt_z {post : Int32 → WT → Prop} {v : Int32} (hexec : p.tables.exec = Jvm.exec) (hb : c.code = cc) (hr : meth.sig.returnType = some .boolean) (hlocks : meth.locks = false) (hw : Wk G A u s H locs) (hdg : decode cc pc = .ok (.ireturn, 1)) (hp : post v u) (hz : v = 0 ∨ v = 1) (hc : cells ≤ mc) (hs : slots ≤ ms) :
    W p l e R s m args below meth c H locs cells slots (ky_MQ below (KQ G A (Ri post)) (XX G A px) args s mc ms mx sx A) (F0 m pc ls [.int v]) :=
  ky_ret (W.widen hc hs (W.zret hexec hb hr (by rcases hz with h | h <;> subst h <;> decide) (fun t ht hW => ⟨⟨some (.int v), u, rfl, ⟨v, rfl, hp⟩, hw.out ht⟩, hw.2.2.2.1.F ht⟩) hw.2.2.2.1.2.2 hdg hlocks))
theorem kt_l {post : Int64 → WT → Prop} {v : Int64} (hexec : p.tables.exec = Jvm.exec) (hb : c.code = cc) (hr : meth.sig.returnType = some .long) (hlocks : meth.locks = false) (hw : Wk G A u s H locs) (hdg : decode cc pc = .ok (.lreturn, 1)) (hp : post v u) (hc : cells ≤ mc) (hs : slots ≤ ms) :
    W p l e R s m args below meth c H locs cells slots (ky_MQ below (KQ G A (Rl post)) (XX G A px) args s mc ms mx sx A) (F0 m pc ls [.long v]) :=
  ky_ret (W.widen hc hs (W.lret hexec hb hr (fun t ht hW => ⟨⟨some (.long v), u, rfl, ⟨v, rfl, hp⟩, hw.out ht⟩, hw.2.2.2.1.F ht⟩) hw.2.2.2.1.2.2 hdg hlocks))
theorem kt_d {post : UInt64 → WT → Prop} {v : UInt64} (hexec : p.tables.exec = Jvm.exec) (hb : c.code = cc) (hr : meth.sig.returnType = some .double) (hlocks : meth.locks = false) (hw : Wk G A u s H locs) (hdg : decode cc pc = .ok (.dreturn, 1)) (hp : post v u) (hc : cells ≤ mc) (hs : slots ≤ ms) :
    W p l e R s m args below meth c H locs cells slots (ky_MQ below (KQ G A (Rd post)) (XX G A px) args s mc ms mx sx A) (F0 m pc ls [.double v]) :=
  ky_ret (W.widen hc hs (W.dret hexec hb hr (fun t ht hW => ⟨⟨some (.double v), u, rfl, ⟨v, rfl, hp⟩, hw.out ht⟩, hw.2.2.2.1.F ht⟩) hw.2.2.2.1.2.2 hdg hlocks))
theorem kt_v {post : WT → Prop} (hexec : p.tables.exec = Jvm.exec) (hb : c.code = cc) (hr : meth.sig.returnType = none) (hlocks : meth.locks = false) (hw : Wk G A u s H locs) (hdg : decode cc pc = .ok (.return_, 1)) (hp : post u) (hc : cells ≤ mc) (hs : slots ≤ ms) :
    W p l e R s m args below meth c H locs cells slots (ky_MQ below (KQ G A (Rv post)) (XX G A px) args s mc ms mx sx A) (F0 m pc ls []) :=
  ky_ret (W.widen hc hs (W.vret hexec hb hr (fun t ht hW => ⟨⟨none, u, rfl, ⟨rfl, hp⟩, hw.out ht⟩, hw.2.2.2.1.F ht⟩) hw.2.2.2.1.2.2 hdg hlocks))
theorem kt_a {post : Nat → WT → Prop} {v : Nat} {n : String} (hexec : p.tables.exec = Jvm.exec) (hb : c.code = cc) (hr : meth.sig.returnType = some (.object n)) (hlocks : meth.locks = false) (hw : Wk G A u s H locs) (hdg : decode cc pc = .ok (.areturn, 1)) (hp : post v u) (hc : cells ≤ mc) (hs : slots ≤ ms) :
    W p l e R s m args below meth c H locs cells slots (ky_MQ below (KQ G A (Ra post)) (XX G A px) args s mc ms mx sx A) (F0 m pc ls [.ref v]) :=
  ky_ret (W.widen hc hs (W.aret hexec hb hr (Or.inl ⟨n, rfl⟩) (Or.inr ⟨v, rfl⟩) (fun t ht hW => ⟨⟨some (.ref v), u, rfl, ⟨v, rfl, hp⟩, hw.out ht⟩, hw.2.2.2.1.F ht⟩) hw.2.2.2.1.2.2 hdg hlocks))
theorem kt_q {post : Option Nat → WT → Prop} {v : Option Nat} {n : String} (hexec : p.tables.exec = Jvm.exec) (hb : c.code = cc) (hr : meth.sig.returnType = some (.object n)) (hlocks : meth.locks = false) (hw : Wk G A u s H locs) (hdg : decode cc pc = .ok (.areturn, 1)) (hp : post v u) (hc : cells ≤ mc) (hs : slots ≤ ms) :
    W p l e R s m args below meth c H locs cells slots (ky_MQ below (KQ G A (Rq post)) (XX G A px) args s mc ms mx sx A) (F0 m pc ls [va_rf v]) :=
  ky_ret (W.widen hc hs (W.aret hexec hb hr (Or.inl ⟨n, rfl⟩) (va_rf_or v) (fun t ht hW => ⟨⟨some (va_rf v), u, rfl, ⟨v, rfl, hp⟩, hw.out ht⟩, hw.2.2.2.1.F ht⟩) hw.2.2.2.1.2.2 hdg hlocks))
/-- a throw of the callee goes on to the caller -/
theorem kt_out {E : String} {ce : Cell} {q : Addr} (htab : ∀ x ∈ c.exceptionTable.toList, False) (hlocks : meth.locks = false) (hw : Wk G A u s H locs) (hcell : H[q]? = some ce) (hv : ce.vm = .none) (hcl : s.vm.findClass E = some ce.cls) (hp : px E u) (hc : cells ≤ mx) (hs : slots ≤ sx) :
    vx_W p l e R s m args below meth c H locs cells slots (ky_MQ below Qc (XX G A px) args s mc ms mx sx A) (F0 m pc ls rest) q := by
  intro T hT X
  obtain ⟨t, a1, b1⟩ := vx_out (Qc := fun _ _ _ _ => False) (XC := XX G A px) (free := A) (mc := mx) (ms := sx) (pc := pc) (ls := ls) (rest := rest) (fun x hx => (htab x hx).elim) hlocks hcell hv hcl (fun t ht _ => ⟨(E, u), hp, ⟨rfl, hw.out ht⟩, hw.2.2.2.1.F ht⟩) hw.2.2.2.1.2.2 hc hs T hT X
  exact ⟨t, a1, ky_thr b1⟩
/-- 'throw new E("text")' -/
theorem kt_throw (k : Nat) {text cls : String} {is ik ic : Nat} (hl : l.stackTraces = false) (hexec : p.tables.exec = Jvm.exec) (hb : c.code = cc) (htab : ∀ x ∈ c.exceptionTable.toList, False) (hlocks : meth.locks = false) (hml : c.maxLocals = nL) (hsz : ls.size = nL) (ht : ∀ w ∈ GW, w.before args s = true) (hown : s.vm.findClass own = some m.cls) (hw : Wk G A u s H locs)
    (hfit : Bundle.fit cls = true) (hk : Cond.classLink own ik cls ∈ GW) (hini : Cond.initialized cls ∈ GW) (hstr : strs[k]? = some (own, is, text)) (hat : ∀ w ∈ vx_atS own ic cls ["java/lang/RuntimeException", "java/lang/Exception"], w ∈ GW ∨ w ∈ EW)
    (d0 : decode cc pc = .ok (.new ik, 3)) (d3 : decode cc (pc + 3) = .ok (.dup, 1)) (d4 : decode cc (pc + 4) = .ok (.ldc is, 2)) (d6 : decode cc (pc + 6) = .ok (.invokespecial ic, 3)) (d9 : decode cc (pc + 9) = .ok (.athrow, 1))
    (hRf : 5 < R.frames) (hRl : (rest.map fun v => v.category).sum + 82 ≤ R.locals) (hRc : cells + 1 ≤ R.cells) (hRs : slots + 6 ≤ R.slots) (hp : px cls u) (hc : cells + 1 ≤ mx) (hs : slots + 6 ≤ sx) :
    W p l e R s m args below meth c H locs cells slots (ky_MQ below Qc (XX G A px) args s mc ms mx sx A) (F0 m pc ls rest) := by
  intro T hT X
  have gd : ∀ w ∈ GW, vx_ot w = true := fun w hw => by simp only [vx_ot, List.all_eq_true.mp GW_good w hw, Bool.or_true]
  have hA1 : ∀ w ∈ vx_atS own ic cls ["java/lang/RuntimeException", "java/lang/Exception"], w.before args s = true := fun w hw' => by
    rcases hat w hw' with h | h
    · exact ht w h
    · exact va_Nw.use (EW_tab h) (hw.1.2.2.2.2.1 w h)
  have hA2 : ∀ w ∈ Cond.classLink own ik cls :: Cond.initialized cls :: vx_atS own ic cls ["java/lang/RuntimeException", "java/lang/Exception"], vx_ot w = true := fun w hw' => by
    rcases List.mem_cons.mp hw' with h | h
    · rw [h]; exact gd _ hk
    · rcases List.mem_cons.mp h with h | h
      · rw [h]; exact gd _ hini
      · rcases hat w h with h | h
        · exact gd _ h
        · simp only [vx_ot, EW_tab h, Bool.true_or]
  have hA3 : ∀ t : State, s.vm.Alike t.vm → H.size ≤ t.heap.size → (∀ q : Nat, q < H.size → t.heap[q]? = H[q]?) → XX G A px cls s t := fun t hal hz hq =>
    ⟨(cls, u), hp, ⟨rfl, hw.2.1.kept (fun k x hx => hq x.1 (hw.2.1 k x hx).lt), hw.2.2.1⟩, Nat.le_trans hw.2.2.2.1.1 hz, fun q h1 h2 => by rw [hq q (Nat.lt_of_lt_of_le h1 hw.2.2.2.1.1)]; exact hw.2.2.2.1.2.1 q h1 h2⟩
  obtain ⟨t, a1, b1⟩ := vx_throwS (Qc := fun _ _ _ _ => False) (XC := XX G A px) (free := A) (own := own) (cls := cls) (text := text) (names := ["java/lang/RuntimeException", "java/lang/Exception"]) (ik := ik) (is := is) (ic := ic) (sa := G.2.2.1 k) (A := A) (mc := mx) (ms := sx) (rest := rest) (ls := ls) hexec hb hl hown hfit (by decide) (ht _ hk) (ht _ hini) (hw.1.2.2.2.1 k _ hstr) hA1 hA2 hw.1.2.1 hw.1.2.2.1 hw.2.2.2.1 (hsz.trans hml.symm) d0 d3 d4 d6 d9 (fun x hx => (htab x hx).elim) hRf hRl hRc hRs hlocks hA3 hw.2.2.2.1.2.2 hc hs T hT X
  exact ⟨t, a1, ky_thr b1⟩
/-- the same, the text by a wide index -/
theorem kt_throwW (k : Nat) {text cls : String} {is ik ic : Nat} (hl : l.stackTraces = false) (hexec : p.tables.exec = Jvm.exec) (hb : c.code = cc) (htab : ∀ x ∈ c.exceptionTable.toList, False) (hlocks : meth.locks = false) (hml : c.maxLocals = nL) (hsz : ls.size = nL) (ht : ∀ w ∈ GW, w.before args s = true) (hown : s.vm.findClass own = some m.cls) (hw : Wk G A u s H locs)
    (hfit : Bundle.fit cls = true) (hk : Cond.classLink own ik cls ∈ GW) (hini : Cond.initialized cls ∈ GW) (hstr : strs[k]? = some (own, is, text)) (hat : ∀ w ∈ vx_atS own ic cls ["java/lang/RuntimeException", "java/lang/Exception"], w ∈ GW ∨ w ∈ EW)
    (d0 : decode cc pc = .ok (.new ik, 3)) (d3 : decode cc (pc + 3) = .ok (.dup, 1)) (d4 : decode cc (pc + 4) = .ok (.ldc_w is, 3)) (d6 : decode cc (pc + 7) = .ok (.invokespecial ic, 3)) (d9 : decode cc (pc + 10) = .ok (.athrow, 1))
    (hRf : 5 < R.frames) (hRl : (rest.map fun v => v.category).sum + 82 ≤ R.locals) (hRc : cells + 1 ≤ R.cells) (hRs : slots + 6 ≤ R.slots) (hp : px cls u) (hc : cells + 1 ≤ mx) (hs : slots + 6 ≤ sx) :
    W p l e R s m args below meth c H locs cells slots (ky_MQ below Qc (XX G A px) args s mc ms mx sx A) (F0 m pc ls rest) := by
  intro T hT X
  have gd : ∀ w ∈ GW, vx_ot w = true := fun w hw => by simp only [vx_ot, List.all_eq_true.mp GW_good w hw, Bool.or_true]
  have hA1 : ∀ w ∈ vx_atS own ic cls ["java/lang/RuntimeException", "java/lang/Exception"], w.before args s = true := fun w hw' => by
    rcases hat w hw' with h | h
    · exact ht w h
    · exact va_Nw.use (EW_tab h) (hw.1.2.2.2.2.1 w h)
  have hA2 : ∀ w ∈ Cond.classLink own ik cls :: Cond.initialized cls :: vx_atS own ic cls ["java/lang/RuntimeException", "java/lang/Exception"], vx_ot w = true := fun w hw' => by
    rcases List.mem_cons.mp hw' with h | h
    · rw [h]; exact gd _ hk
    · rcases List.mem_cons.mp h with h | h
      · rw [h]; exact gd _ hini
      · rcases hat w h with h | h
        · exact gd _ h
        · simp only [vx_ot, EW_tab h, Bool.true_or]
  have hA3 : ∀ t : State, s.vm.Alike t.vm → H.size ≤ t.heap.size → (∀ q : Nat, q < H.size → t.heap[q]? = H[q]?) → XX G A px cls s t := fun t hal hz hq =>
    ⟨(cls, u), hp, ⟨rfl, hw.2.1.kept (fun k x hx => hq x.1 (hw.2.1 k x hx).lt), hw.2.2.1⟩, Nat.le_trans hw.2.2.2.1.1 hz, fun q h1 h2 => by rw [hq q (Nat.lt_of_lt_of_le h1 hw.2.2.2.1.1)]; exact hw.2.2.2.1.2.1 q h1 h2⟩
  obtain ⟨t, a1, b1⟩ := vx_throwSW (Qc := fun _ _ _ _ => False) (XC := XX G A px) (free := A) (own := own) (cls := cls) (text := text) (names := ["java/lang/RuntimeException", "java/lang/Exception"]) (ik := ik) (is := is) (ic := ic) (sa := G.2.2.1 k) (A := A) (mc := mx) (ms := sx) (rest := rest) (ls := ls) hexec hb hl hown hfit (by decide) (ht _ hk) (ht _ hini) (hw.1.2.2.2.1 k _ hstr) hA1 hA2 hw.1.2.1 hw.1.2.2.1 hw.2.2.2.1 (hsz.trans hml.symm) d0 d3 d4 d6 d9 (fun x hx => (htab x hx).elim) hRf hRl hRc hRs hlocks hA3 hw.2.2.2.1.2.2 hc hs T hT X
  exact ⟨t, a1, ky_thr b1⟩
end KCalls

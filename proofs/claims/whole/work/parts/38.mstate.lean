/-! 38.mstate: the reference: its state, its image in the heap, its rows -/
abbrev MS : Type := (Nat → Int32) × (Nat → Int32) × (Nat → Int64) × (Nat → Bool) × (Nat → Int64) × (Nat → Int64) × (Nat → Int32) × (Int32) × (Int32) × (Int32) × (Int64) × (Int64) × (Int64) × (Int64)
def m_li (m : MS) : Nat → Int32 := m.1
def m_ne (m : MS) : Nat → Int32 := m.2.1
def m_oh (m : MS) : Nat → Int64 := m.2.2.1
def m_ov (m : MS) : Nat → Bool := m.2.2.2.1
def m_ro (m : MS) : Nat → Int64 := m.2.2.2.2.1
def m_fe (m : MS) : Nat → Int64 := m.2.2.2.2.2.1
def m_pt (m : MS) : Nat → Int32 := m.2.2.2.2.2.2.1
def m_th (m : MS) : Int32 := m.2.2.2.2.2.2.2.1
def m_tr (m : MS) : Int32 := m.2.2.2.2.2.2.2.2.1
def m_nw (m : MS) : Int32 := m.2.2.2.2.2.2.2.2.2.1
def m_sp (m : MS) : Int64 := m.2.2.2.2.2.2.2.2.2.2.1
def m_mv (m : MS) : Int64 := m.2.2.2.2.2.2.2.2.2.2.2.1
def m_kn (m : MS) : Int64 := m.2.2.2.2.2.2.2.2.2.2.2.2.1
def m_dc (m : MS) : Int64 := m.2.2.2.2.2.2.2.2.2.2.2.2.2
def mS_li (m : MS) (x : Nat → Int32) : MS := (x, m.2.1, m.2.2.1, m.2.2.2.1, m.2.2.2.2.1, m.2.2.2.2.2.1, m.2.2.2.2.2.2.1, m.2.2.2.2.2.2.2.1, m.2.2.2.2.2.2.2.2.1, m.2.2.2.2.2.2.2.2.2.1, m.2.2.2.2.2.2.2.2.2.2.1, m.2.2.2.2.2.2.2.2.2.2.2.1, m.2.2.2.2.2.2.2.2.2.2.2.2.1, m.2.2.2.2.2.2.2.2.2.2.2.2.2)
def mS_ne (m : MS) (x : Nat → Int32) : MS := (m.1, x, m.2.2.1, m.2.2.2.1, m.2.2.2.2.1, m.2.2.2.2.2.1, m.2.2.2.2.2.2.1, m.2.2.2.2.2.2.2.1, m.2.2.2.2.2.2.2.2.1, m.2.2.2.2.2.2.2.2.2.1, m.2.2.2.2.2.2.2.2.2.2.1, m.2.2.2.2.2.2.2.2.2.2.2.1, m.2.2.2.2.2.2.2.2.2.2.2.2.1, m.2.2.2.2.2.2.2.2.2.2.2.2.2)
def mS_oh (m : MS) (x : Nat → Int64) : MS := (m.1, m.2.1, x, m.2.2.2.1, m.2.2.2.2.1, m.2.2.2.2.2.1, m.2.2.2.2.2.2.1, m.2.2.2.2.2.2.2.1, m.2.2.2.2.2.2.2.2.1, m.2.2.2.2.2.2.2.2.2.1, m.2.2.2.2.2.2.2.2.2.2.1, m.2.2.2.2.2.2.2.2.2.2.2.1, m.2.2.2.2.2.2.2.2.2.2.2.2.1, m.2.2.2.2.2.2.2.2.2.2.2.2.2)
def mS_ov (m : MS) (x : Nat → Bool) : MS := (m.1, m.2.1, m.2.2.1, x, m.2.2.2.2.1, m.2.2.2.2.2.1, m.2.2.2.2.2.2.1, m.2.2.2.2.2.2.2.1, m.2.2.2.2.2.2.2.2.1, m.2.2.2.2.2.2.2.2.2.1, m.2.2.2.2.2.2.2.2.2.2.1, m.2.2.2.2.2.2.2.2.2.2.2.1, m.2.2.2.2.2.2.2.2.2.2.2.2.1, m.2.2.2.2.2.2.2.2.2.2.2.2.2)
def mS_ro (m : MS) (x : Nat → Int64) : MS := (m.1, m.2.1, m.2.2.1, m.2.2.2.1, x, m.2.2.2.2.2.1, m.2.2.2.2.2.2.1, m.2.2.2.2.2.2.2.1, m.2.2.2.2.2.2.2.2.1, m.2.2.2.2.2.2.2.2.2.1, m.2.2.2.2.2.2.2.2.2.2.1, m.2.2.2.2.2.2.2.2.2.2.2.1, m.2.2.2.2.2.2.2.2.2.2.2.2.1, m.2.2.2.2.2.2.2.2.2.2.2.2.2)
def mS_fe (m : MS) (x : Nat → Int64) : MS := (m.1, m.2.1, m.2.2.1, m.2.2.2.1, m.2.2.2.2.1, x, m.2.2.2.2.2.2.1, m.2.2.2.2.2.2.2.1, m.2.2.2.2.2.2.2.2.1, m.2.2.2.2.2.2.2.2.2.1, m.2.2.2.2.2.2.2.2.2.2.1, m.2.2.2.2.2.2.2.2.2.2.2.1, m.2.2.2.2.2.2.2.2.2.2.2.2.1, m.2.2.2.2.2.2.2.2.2.2.2.2.2)
def mS_pt (m : MS) (x : Nat → Int32) : MS := (m.1, m.2.1, m.2.2.1, m.2.2.2.1, m.2.2.2.2.1, m.2.2.2.2.2.1, x, m.2.2.2.2.2.2.2.1, m.2.2.2.2.2.2.2.2.1, m.2.2.2.2.2.2.2.2.2.1, m.2.2.2.2.2.2.2.2.2.2.1, m.2.2.2.2.2.2.2.2.2.2.2.1, m.2.2.2.2.2.2.2.2.2.2.2.2.1, m.2.2.2.2.2.2.2.2.2.2.2.2.2)
def mS_th (m : MS) (x : Int32) : MS := (m.1, m.2.1, m.2.2.1, m.2.2.2.1, m.2.2.2.2.1, m.2.2.2.2.2.1, m.2.2.2.2.2.2.1, x, m.2.2.2.2.2.2.2.2.1, m.2.2.2.2.2.2.2.2.2.1, m.2.2.2.2.2.2.2.2.2.2.1, m.2.2.2.2.2.2.2.2.2.2.2.1, m.2.2.2.2.2.2.2.2.2.2.2.2.1, m.2.2.2.2.2.2.2.2.2.2.2.2.2)
def mS_tr (m : MS) (x : Int32) : MS := (m.1, m.2.1, m.2.2.1, m.2.2.2.1, m.2.2.2.2.1, m.2.2.2.2.2.1, m.2.2.2.2.2.2.1, m.2.2.2.2.2.2.2.1, x, m.2.2.2.2.2.2.2.2.2.1, m.2.2.2.2.2.2.2.2.2.2.1, m.2.2.2.2.2.2.2.2.2.2.2.1, m.2.2.2.2.2.2.2.2.2.2.2.2.1, m.2.2.2.2.2.2.2.2.2.2.2.2.2)
def mS_nw (m : MS) (x : Int32) : MS := (m.1, m.2.1, m.2.2.1, m.2.2.2.1, m.2.2.2.2.1, m.2.2.2.2.2.1, m.2.2.2.2.2.2.1, m.2.2.2.2.2.2.2.1, m.2.2.2.2.2.2.2.2.1, x, m.2.2.2.2.2.2.2.2.2.2.1, m.2.2.2.2.2.2.2.2.2.2.2.1, m.2.2.2.2.2.2.2.2.2.2.2.2.1, m.2.2.2.2.2.2.2.2.2.2.2.2.2)
def mS_sp (m : MS) (x : Int64) : MS := (m.1, m.2.1, m.2.2.1, m.2.2.2.1, m.2.2.2.2.1, m.2.2.2.2.2.1, m.2.2.2.2.2.2.1, m.2.2.2.2.2.2.2.1, m.2.2.2.2.2.2.2.2.1, m.2.2.2.2.2.2.2.2.2.1, x, m.2.2.2.2.2.2.2.2.2.2.2.1, m.2.2.2.2.2.2.2.2.2.2.2.2.1, m.2.2.2.2.2.2.2.2.2.2.2.2.2)
def mS_mv (m : MS) (x : Int64) : MS := (m.1, m.2.1, m.2.2.1, m.2.2.2.1, m.2.2.2.2.1, m.2.2.2.2.2.1, m.2.2.2.2.2.2.1, m.2.2.2.2.2.2.2.1, m.2.2.2.2.2.2.2.2.1, m.2.2.2.2.2.2.2.2.2.1, m.2.2.2.2.2.2.2.2.2.2.1, x, m.2.2.2.2.2.2.2.2.2.2.2.2.1, m.2.2.2.2.2.2.2.2.2.2.2.2.2)
def mS_kn (m : MS) (x : Int64) : MS := (m.1, m.2.1, m.2.2.1, m.2.2.2.1, m.2.2.2.2.1, m.2.2.2.2.2.1, m.2.2.2.2.2.2.1, m.2.2.2.2.2.2.2.1, m.2.2.2.2.2.2.2.2.1, m.2.2.2.2.2.2.2.2.2.1, m.2.2.2.2.2.2.2.2.2.2.1, m.2.2.2.2.2.2.2.2.2.2.2.1, x, m.2.2.2.2.2.2.2.2.2.2.2.2.2)
def mS_dc (m : MS) (x : Int64) : MS := (m.1, m.2.1, m.2.2.1, m.2.2.2.1, m.2.2.2.2.1, m.2.2.2.2.2.1, m.2.2.2.2.2.2.1, m.2.2.2.2.2.2.2.1, m.2.2.2.2.2.2.2.2.1, m.2.2.2.2.2.2.2.2.2.1, m.2.2.2.2.2.2.2.2.2.2.1, m.2.2.2.2.2.2.2.2.2.2.2.1, m.2.2.2.2.2.2.2.2.2.2.2.2.1, x)
/-- a part as the reference holds it -/
def pI (q : Option Nat) : Int32 := match q with
  | none => -1
  | some x => nI x
def mF (lm : Nat → Nat) (s : QS) (m : MS) : List Value := [.ref (lm 1), .ref (lm 2), .ref (lm 3), .ref (lm 4), .ref (lm 5), .ref (lm 6), .ref (lm 7), .ref (lm 8), .ref (lm 9), .ref (lm 10), .ref (lm 11), .ref (lm 12), .ref (lm 13), .ref (lm 14), .ref (lm 15), .ref (lm 16), .ref (lm 17), .ref (lm 18), .ref (lm 19), .ref (lm 20), .ref (lm 21), .int (nI (q_n s)), .int (q_tl s), .int (q_wk s), .int (q_fl s), .int (m_th m), .int (m_tr m), .int (m_nw m), .long (m_sp m), .long (m_mv m), .long (m_kn m), .long (m_dc m)]
def cM (G : GT) (lm : Nat → Nat) (s : QS) (m : MS) : Nat → va_E
  | 0 => .inr (8, mF lm s m)
  | 1 => .inl (G.2.1 1, 16, .inl (fun j => nI (q_so s j)))
  | 2 => .inl (G.2.1 1, 64, .inl (m_pt m))
  | 3 => .inl (G.2.1 0, 16, lgs (q_am s))
  | 4 => .inl (G.2.1 2, 16, .inl (fun j => bI (q_va s j)))
  | 5 => .inl (G.2.1 2, 16, .inl (fun j => bI (q_fr s j)))
  | 6 => .inl (G.2.1 2, 16, .inl (fun j => bI (q_mi s j)))
  | 7 => .inl (G.2.1 1, 16, .inl (q_tw s))
  | 8 => .inl (G.2.1 0, 16, lgs (q_wa s))
  | 9 => .inl (G.2.1 0, 16, lgs (q_wb s))
  | 10 => .inl (G.2.1 1, 16, .inl (q_kd s))
  | 11 => .inl (G.2.1 1, 16, .inl (q_sp s))
  | 12 => .inl (G.2.1 1, 16, .inl (q_ch s))
  | 13 => .inl (G.2.1 2, 16, .inl (fun j => bI (q_us s j)))
  | 14 => .inl (G.2.1 1, 16, .inl (fun j => nI (q_en s j)))
  | 15 => .inl (G.2.1 1, 16, .inl (q_sz s))
  | 16 => .inl (G.2.1 1, 64, .inl (m_li m))
  | 17 => .inl (G.2.1 1, 64, .inl (m_ne m))
  | 18 => .inl (G.2.1 0, 16, lgs (m_oh m))
  | 19 => .inl (G.2.1 2, 16, .inl (fun j => bI (m_ov m j)))
  | 20 => .inl (G.2.1 0, 44, lgs (m_ro m))
  | _ => .inl (G.2.1 0, 44, lgs (m_fe m))
/-- the reference's world holds the state -/
def rM (G : GT) (lm : Nat → Nat) (s : QS) (m : MS) (u : WT) : Prop := (∀ k, k < 22 → lm k ∈ u.1 ∧ u.2 (lm k) = cM G lm s m k) ∧ (∀ i j, i < 22 → j < 22 → lm i = lm j → i = j) ∧ (∀ j k, j < q_n s → k < 4 → m_pt m (4 * j + k) = pI (q_pt s j k)) ∧ q_n s ≤ 16
def fM (lm : Nat → Nat) (u u' : WT) : Prop := ∀ a, a ∈ u.1 → (∀ k, k < 22 → lm k ≠ a) → a ∈ u'.1 ∧ u'.2 a = u.2 a
theorem fM.rf {lm : Nat → Nat} {u : WT} : fM lm u u := fun _ h _ => ⟨h, rfl⟩
theorem fM.tr {lm : Nat → Nat} {u v w : WT} (h : fM lm u v) (h' : fM lm v w) : fM lm u w := fun a ha hk => by
  obtain ⟨h1, h2⟩ := h a ha hk
  obtain ⟨h3, h4⟩ := h' a h1 hk
  exact ⟨h3, h4.trans h2⟩
theorem rM.put {G : GT} {lm : Nat → Nat} {s s' : QS} {m m' : MS} {u : WT} (h : rM G lm s m u) {k : Nat} (hk : k < 22) {x : va_E} (hx : x = cM G lm s' m' k) (ho : ∀ i, i < 22 → i ≠ k → cM G lm s' m' i = cM G lm s m i) (hp : ∀ j k, j < q_n s' → k < 4 → m_pt m' (4 * j + k) = pI (q_pt s' j k)) (hn : q_n s' ≤ 16) : rM G lm s' m' (u.1, va_up u.2 (lm k) x) ∧ fM lm u (u.1, va_up u.2 (lm k) x) := by
  obtain ⟨h1, h2, h3, h4⟩ := h
  refine ⟨⟨fun i hi => ?_, h2, hp, hn⟩, fun a ha hne => ⟨ha, ?_⟩⟩
  · refine ⟨(h1 i hi).1, ?_⟩
    by_cases hik : i = k
    · subst hik
      show va_up u.2 (lm i) x (lm i) = _
      rw [va_up_self, hx]
    · show va_up u.2 (lm k) x (lm i) = _
      rw [va_up_ne _ _ (fun e => hik (h2 i k hi hk e)), (h1 i hi).2, ho i hi hik]
  · exact va_up_ne _ _ (fun e => hne k hk e.symm)
def Mk (G : GT) (A : Nat → Prop) (lm : Nat → Nat) (s : QS) (m : MS) (u0 u : WT) (st : State) (H : Heap) (locs : List Loc) : Prop := Wk G A u st H locs ∧ rM G lm s m u ∧ fM lm u0 u
theorem updB {f : Nat → Bool} {k : Nat} {x : Bool} : upd (fun j => bI (f j)) k (bI x) = (fun j => bI (va_up f k x j)) := by
  funext j; unfold upd va_up; split <;> rfl
theorem updN {f : Nat → Nat} {k x : Nat} : upd (fun j => nI (f j)) k (nI x) = (fun j => nI (va_up f k x j)) := by
  funext j; unfold upd va_up; split <;> rfl
theorem updI {f : Nat → Int32} {k : Nat} {x : Int32} : upd f k x = va_up f k x := rfl
theorem updL {f : Nat → Int64} {k : Nat} {x : Int64} : vp_updL f k x = va_up f k x := rfl
theorem narB (x : Bool) : vp_nar .boolean (bI x) = bI x := by cases x <;> decide
theorem c22 {P : Nat → Prop} (h0 : P 0) (h1 : P 1) (h2 : P 2) (h3 : P 3) (h4 : P 4) (h5 : P 5) (h6 : P 6) (h7 : P 7) (h8 : P 8) (h9 : P 9) (h10 : P 10) (h11 : P 11) (h12 : P 12) (h13 : P 13) (h14 : P 14) (h15 : P 15) (h16 : P 16) (h17 : P 17) (h18 : P 18) (h19 : P 19) (h20 : P 20) (h21 : P 21) : ∀ i, i < 22 → P i := by
  intro i hi
  have h : i = 0 ∨ i = 1 ∨ i = 2 ∨ i = 3 ∨ i = 4 ∨ i = 5 ∨ i = 6 ∨ i = 7 ∨ i = 8 ∨ i = 9 ∨ i = 10 ∨ i = 11 ∨ i = 12 ∨ i = 13 ∨ i = 14 ∨ i = 15 ∨ i = 16 ∨ i = 17 ∨ i = 18 ∨ i = 19 ∨ i = 20 ∨ i = 21 := by omega
  rcases h with rfl | rfl | rfl | rfl | rfl | rfl | rfl | rfl | rfl | rfl | rfl | rfl | rfl | rfl | rfl | rfl | rfl | rfl | rfl | rfl | rfl | rfl
  · exact h0
  · exact h1
  · exact h2
  · exact h3
  · exact h4
  · exact h5
  · exact h6
  · exact h7
  · exact h8
  · exact h9
  · exact h10
  · exact h11
  · exact h12
  · exact h13
  · exact h14
  · exact h15
  · exact h16
  · exact h17
  · exact h18
  · exact h19
  · exact h20
  · exact h21
section MRows
variable {p : Program} {l : Launch} {e : Env} {R : Room} {st : State} {mt : MethodId} {args : Array Value} {below : List Frame} {meth : Method} {c : Code} {H : Heap} {locs : List Loc} {cells slots : Nat} {Q : State → Prop}
variable {cc : ByteArray} {pc : Nat} {ls : Array Slot} {rest : List Value} {G : GT} {A : Nat → Prop} {u0 u : WT} {lm : Nat → Nat} {s : QS} {m : MS} {j index : Nat} {own : String}
theorem mg (k : Nat) (hk : k < 32) {v : Value} (hexec : p.tables.exec = Jvm.exec) (hb : c.code = cc) (ht : ∀ w ∈ GW, w.before args st = true) (hown : st.vm.findClass own = some mt.cls) (hw : Mk G A lm s m u0 u st H locs) (hlink : Cond.fieldLink own index "QuoteGraphModel" (F_M k).2.1 (F_M k).2.2.1 ∈ GW) (hdec : (F_M k).1 = "QuoteGraphModel") (hv : (mF lm s m)[k]? = some v) (hdg : decode cc pc = .ok (.getfield index, 3))
    (kk : W p l e R st mt args below meth c H locs cells slots Q (F0 mt (pc + 3) ls (v :: rest))) : W p l e R st mt args below meth c H locs cells slots Q (F0 mt pc ls (.ref (lm 0) :: rest)) := by
  obtain ⟨ha, he⟩ := hw.2.1.1 0 (by omega)
  exact k_get hexec hb ht i_M hown hw.1 ha he rfl k hk hlink (by rw [hdec]; exact fun _ h => h) hv hdg kk
theorem kr_M (hw : Mk G A lm s m u0 u st H locs) : ∃ cell : Cell, H[lm 0]? = some cell ∧ cell.vm.isStatics = false ∧ st.vm.findClass "QuoteGraphModel" = some cell.cls := by
  obtain ⟨ha, he⟩ := hw.2.1.1 0 (by omega)
  exact k_recv hw.1 ha he rfl
theorem ma_sort {i : Int32} (hi : i = nI j) (hj : j < 16) (hexec : p.tables.exec = Jvm.exec) (hb : c.code = cc) (hw : Mk G A lm s m u0 u st H locs) (hdg : decode cc pc = .ok (.iaload, 1))
    (kk : W p l e R st mt args below meth c H locs cells slots Q (F0 mt (pc + 1) ls (.int (nI (q_so s j)) :: rest))) : W p l e R st mt args below meth c H locs cells slots Q (F0 mt pc ls (.int i :: .ref (lm 1) :: rest)) := by
  obtain ⟨ha, he⟩ := hw.2.1.1 1 (by omega)
  subst hi
  refine k_iald hexec hb hw.1 ha he (vp_in_nI hj (by omega)) hdg ?_
  rw [nI_clamp (by omega)]
  exact kk
theorem mp_sort (x : Nat) {i : Int32} (hi : i = nI j) (hj : j < 16) (hexec : p.tables.exec = Jvm.exec) (hb : c.code = cc) (hw : Mk G A lm s m u0 u st H locs) (hdg : decode cc pc = .ok (.iastore, 1))
    (kk : ∀ (H1 : Heap) (locs1 : List Loc) (u1 : WT), Mk G A lm (qS_so s (va_up (q_so s) j x)) m u0 u1 st H1 locs1 → W p l e R st mt args below meth c H1 locs1 cells slots Q (F0 mt (pc + 1) ls rest)) : W p l e R st mt args below meth c H locs cells slots Q (F0 mt pc ls (.int (nI x) :: .int i :: .ref (lm 1) :: rest)) := by
  obtain ⟨ha, he⟩ := hw.2.1.1 1 (by omega)
  subst hi
  refine k_iast hexec hb hw.1 ha he (vp_in_nI hj (by omega)) hdg (fun H1 locs1 hw1 => ?_)
  rw [nI_clamp (by omega), updN] at hw1
  obtain ⟨r1, r2⟩ := hw.2.1.put (s' := (qS_so s (va_up (q_so s) j x))) (m' := m) (k := 1) (by omega) rfl (c22 (fun _ => rfl) (fun h => absurd rfl h) (fun _ => rfl) (fun _ => rfl) (fun _ => rfl) (fun _ => rfl) (fun _ => rfl) (fun _ => rfl) (fun _ => rfl) (fun _ => rfl) (fun _ => rfl) (fun _ => rfl) (fun _ => rfl) (fun _ => rfl) (fun _ => rfl) (fun _ => rfl) (fun _ => rfl) (fun _ => rfl) (fun _ => rfl) (fun _ => rfl) (fun _ => rfl) (fun _ => rfl)) hw.2.1.2.2.1 hw.2.1.2.2.2
  exact kk H1 locs1 _ ⟨hw1, r1, hw.2.2.tr r2⟩
theorem ma_part {i : Int32} (hi : i = nI j) (hj : j < 64) (hexec : p.tables.exec = Jvm.exec) (hb : c.code = cc) (hw : Mk G A lm s m u0 u st H locs) (hdg : decode cc pc = .ok (.iaload, 1))
    (kk : W p l e R st mt args below meth c H locs cells slots Q (F0 mt (pc + 1) ls (.int (m_pt m j) :: rest))) : W p l e R st mt args below meth c H locs cells slots Q (F0 mt pc ls (.int i :: .ref (lm 2) :: rest)) := by
  obtain ⟨ha, he⟩ := hw.2.1.1 2 (by omega)
  subst hi
  refine k_iald hexec hb hw.1 ha he (vp_in_nI hj (by omega)) hdg ?_
  rw [nI_clamp (by omega)]
  exact kk
theorem mp_part (x : Int32) {s' : QS} (hS : s' = qS_pt s (q_pt s')) (hP : ∀ i k, i < q_n s → k < 4 → va_up (m_pt m) j x (4 * i + k) = pI (q_pt s' i k)) {i : Int32} (hi : i = nI j) (hj : j < 64) (hexec : p.tables.exec = Jvm.exec) (hb : c.code = cc) (hw : Mk G A lm s m u0 u st H locs) (hdg : decode cc pc = .ok (.iastore, 1))
    (kk : ∀ (H1 : Heap) (locs1 : List Loc) (u1 : WT), Mk G A lm s' (mS_pt m (va_up (m_pt m) j x)) u0 u1 st H1 locs1 → W p l e R st mt args below meth c H1 locs1 cells slots Q (F0 mt (pc + 1) ls rest)) : W p l e R st mt args below meth c H locs cells slots Q (F0 mt pc ls (.int (x) :: .int i :: .ref (lm 2) :: rest)) := by
  obtain ⟨ha, he⟩ := hw.2.1.1 2 (by omega)
  subst hi
  refine k_iast hexec hb hw.1 ha he (vp_in_nI hj (by omega)) hdg (fun H1 locs1 hw1 => ?_)
  rw [nI_clamp (by omega)] at hw1
  have hN : q_n s' = q_n s := by rw [hS]; rfl
  have hO : ∀ i, i < 22 → i ≠ 2 → cM G lm s' (mS_pt m (va_up (m_pt m) j x)) i = cM G lm s m i := by rw [hS]; exact c22 (fun _ => rfl) (fun _ => rfl) (fun h => absurd rfl h) (fun _ => rfl) (fun _ => rfl) (fun _ => rfl) (fun _ => rfl) (fun _ => rfl) (fun _ => rfl) (fun _ => rfl) (fun _ => rfl) (fun _ => rfl) (fun _ => rfl) (fun _ => rfl) (fun _ => rfl) (fun _ => rfl) (fun _ => rfl) (fun _ => rfl) (fun _ => rfl) (fun _ => rfl) (fun _ => rfl) (fun _ => rfl)
  obtain ⟨r1, r2⟩ := hw.2.1.put (s' := s') (m' := (mS_pt m (va_up (m_pt m) j x))) (k := 2) (by omega) rfl hO (fun i k h1 h2 => hP i k (by rw [← hN]; exact h1) h2) (by rw [hN]; exact hw.2.1.2.2.2)
  exact kk H1 locs1 _ ⟨hw1, r1, hw.2.2.tr r2⟩
theorem ma_held {i : Int32} (hi : i = nI j) (hj : j < 16) (hexec : p.tables.exec = Jvm.exec) (hb : c.code = cc) (hw : Mk G A lm s m u0 u st H locs) (hdg : decode cc pc = .ok (.laload, 1))
    (kk : W p l e R st mt args below meth c H locs cells slots Q (F0 mt (pc + 1) ls (.long (q_am s j) :: rest))) : W p l e R st mt args below meth c H locs cells slots Q (F0 mt pc ls (.int i :: .ref (lm 3) :: rest)) := by
  obtain ⟨ha, he⟩ := hw.2.1.1 3 (by omega)
  subst hi
  refine k_lald hexec hb hw.1 ha he (vp_in_nI hj (by omega)) hdg ?_
  rw [nI_clamp (by omega)]
  exact kk
theorem mp_held (x : Int64) {i : Int32} (hi : i = nI j) (hj : j < 16) (hexec : p.tables.exec = Jvm.exec) (hb : c.code = cc) (hw : Mk G A lm s m u0 u st H locs) (hdg : decode cc pc = .ok (.lastore, 1))
    (kk : ∀ (H1 : Heap) (locs1 : List Loc) (u1 : WT), Mk G A lm (qS_am s (va_up (q_am s) j x)) m u0 u1 st H1 locs1 → W p l e R st mt args below meth c H1 locs1 cells slots Q (F0 mt (pc + 1) ls rest)) : W p l e R st mt args below meth c H locs cells slots Q (F0 mt pc ls (.long (x) :: .int i :: .ref (lm 3) :: rest)) := by
  obtain ⟨ha, he⟩ := hw.2.1.1 3 (by omega)
  subst hi
  refine k_last hexec hb hw.1 ha he (vp_in_nI hj (by omega)) hdg (fun H1 locs1 hw1 => ?_)
  rw [nI_clamp (by omega)] at hw1
  obtain ⟨r1, r2⟩ := hw.2.1.put (s' := (qS_am s (va_up (q_am s) j x))) (m' := m) (k := 3) (by omega) rfl (c22 (fun _ => rfl) (fun _ => rfl) (fun _ => rfl) (fun h => absurd rfl h) (fun _ => rfl) (fun _ => rfl) (fun _ => rfl) (fun _ => rfl) (fun _ => rfl) (fun _ => rfl) (fun _ => rfl) (fun _ => rfl) (fun _ => rfl) (fun _ => rfl) (fun _ => rfl) (fun _ => rfl) (fun _ => rfl) (fun _ => rfl) (fun _ => rfl) (fun _ => rfl) (fun _ => rfl) (fun _ => rfl)) hw.2.1.2.2.1 hw.2.1.2.2.2
  exact kk H1 locs1 _ ⟨hw1, r1, hw.2.2.tr r2⟩
theorem ma_valid {i : Int32} (hi : i = nI j) (hj : j < 16) (hexec : p.tables.exec = Jvm.exec) (hb : c.code = cc) (hw : Mk G A lm s m u0 u st H locs) (hdg : decode cc pc = .ok (.baload, 1))
    (kk : W p l e R st mt args below meth c H locs cells slots Q (F0 mt (pc + 1) ls (.int (bI (q_va s j)) :: rest))) : W p l e R st mt args below meth c H locs cells slots Q (F0 mt pc ls (.int i :: .ref (lm 4) :: rest)) := by
  obtain ⟨ha, he⟩ := hw.2.1.1 4 (by omega)
  subst hi
  refine k_zald hexec hb hw.1 ha he (vp_in_nI hj (by omega)) hdg ?_
  rw [nI_clamp (by omega)]
  exact kk
theorem mp_valid (x : Bool) {i : Int32} (hi : i = nI j) (hj : j < 16) (hexec : p.tables.exec = Jvm.exec) (hb : c.code = cc) (hw : Mk G A lm s m u0 u st H locs) (hdg : decode cc pc = .ok (.bastore, 1))
    (kk : ∀ (H1 : Heap) (locs1 : List Loc) (u1 : WT), Mk G A lm (qS_va s (va_up (q_va s) j x)) m u0 u1 st H1 locs1 → W p l e R st mt args below meth c H1 locs1 cells slots Q (F0 mt (pc + 1) ls rest)) : W p l e R st mt args below meth c H locs cells slots Q (F0 mt pc ls (.int (bI x) :: .int i :: .ref (lm 4) :: rest)) := by
  obtain ⟨ha, he⟩ := hw.2.1.1 4 (by omega)
  subst hi
  refine k_zast hexec hb hw.1 ha he (vp_in_nI hj (by omega)) hdg (fun H1 locs1 hw1 => ?_)
  rw [nI_clamp (by omega), narB, updB] at hw1
  obtain ⟨r1, r2⟩ := hw.2.1.put (s' := (qS_va s (va_up (q_va s) j x))) (m' := m) (k := 4) (by omega) rfl (c22 (fun _ => rfl) (fun _ => rfl) (fun _ => rfl) (fun _ => rfl) (fun h => absurd rfl h) (fun _ => rfl) (fun _ => rfl) (fun _ => rfl) (fun _ => rfl) (fun _ => rfl) (fun _ => rfl) (fun _ => rfl) (fun _ => rfl) (fun _ => rfl) (fun _ => rfl) (fun _ => rfl) (fun _ => rfl) (fun _ => rfl) (fun _ => rfl) (fun _ => rfl) (fun _ => rfl) (fun _ => rfl)) hw.2.1.2.2.1 hw.2.1.2.2.2
  exact kk H1 locs1 _ ⟨hw1, r1, hw.2.2.tr r2⟩
theorem ma_frozen {i : Int32} (hi : i = nI j) (hj : j < 16) (hexec : p.tables.exec = Jvm.exec) (hb : c.code = cc) (hw : Mk G A lm s m u0 u st H locs) (hdg : decode cc pc = .ok (.baload, 1))
    (kk : W p l e R st mt args below meth c H locs cells slots Q (F0 mt (pc + 1) ls (.int (bI (q_fr s j)) :: rest))) : W p l e R st mt args below meth c H locs cells slots Q (F0 mt pc ls (.int i :: .ref (lm 5) :: rest)) := by
  obtain ⟨ha, he⟩ := hw.2.1.1 5 (by omega)
  subst hi
  refine k_zald hexec hb hw.1 ha he (vp_in_nI hj (by omega)) hdg ?_
  rw [nI_clamp (by omega)]
  exact kk
theorem mp_frozen (x : Bool) {i : Int32} (hi : i = nI j) (hj : j < 16) (hexec : p.tables.exec = Jvm.exec) (hb : c.code = cc) (hw : Mk G A lm s m u0 u st H locs) (hdg : decode cc pc = .ok (.bastore, 1))
    (kk : ∀ (H1 : Heap) (locs1 : List Loc) (u1 : WT), Mk G A lm (qS_fr s (va_up (q_fr s) j x)) m u0 u1 st H1 locs1 → W p l e R st mt args below meth c H1 locs1 cells slots Q (F0 mt (pc + 1) ls rest)) : W p l e R st mt args below meth c H locs cells slots Q (F0 mt pc ls (.int (bI x) :: .int i :: .ref (lm 5) :: rest)) := by
  obtain ⟨ha, he⟩ := hw.2.1.1 5 (by omega)
  subst hi
  refine k_zast hexec hb hw.1 ha he (vp_in_nI hj (by omega)) hdg (fun H1 locs1 hw1 => ?_)
  rw [nI_clamp (by omega), narB, updB] at hw1
  obtain ⟨r1, r2⟩ := hw.2.1.put (s' := (qS_fr s (va_up (q_fr s) j x))) (m' := m) (k := 5) (by omega) rfl (c22 (fun _ => rfl) (fun _ => rfl) (fun _ => rfl) (fun _ => rfl) (fun _ => rfl) (fun h => absurd rfl h) (fun _ => rfl) (fun _ => rfl) (fun _ => rfl) (fun _ => rfl) (fun _ => rfl) (fun _ => rfl) (fun _ => rfl) (fun _ => rfl) (fun _ => rfl) (fun _ => rfl) (fun _ => rfl) (fun _ => rfl) (fun _ => rfl) (fun _ => rfl) (fun _ => rfl) (fun _ => rfl)) hw.2.1.2.2.1 hw.2.1.2.2.2
  exact kk H1 locs1 _ ⟨hw1, r1, hw.2.2.tr r2⟩
theorem ma_missed {i : Int32} (hi : i = nI j) (hj : j < 16) (hexec : p.tables.exec = Jvm.exec) (hb : c.code = cc) (hw : Mk G A lm s m u0 u st H locs) (hdg : decode cc pc = .ok (.baload, 1))
    (kk : W p l e R st mt args below meth c H locs cells slots Q (F0 mt (pc + 1) ls (.int (bI (q_mi s j)) :: rest))) : W p l e R st mt args below meth c H locs cells slots Q (F0 mt pc ls (.int i :: .ref (lm 6) :: rest)) := by
  obtain ⟨ha, he⟩ := hw.2.1.1 6 (by omega)
  subst hi
  refine k_zald hexec hb hw.1 ha he (vp_in_nI hj (by omega)) hdg ?_
  rw [nI_clamp (by omega)]
  exact kk
theorem mp_missed (x : Bool) {i : Int32} (hi : i = nI j) (hj : j < 16) (hexec : p.tables.exec = Jvm.exec) (hb : c.code = cc) (hw : Mk G A lm s m u0 u st H locs) (hdg : decode cc pc = .ok (.bastore, 1))
    (kk : ∀ (H1 : Heap) (locs1 : List Loc) (u1 : WT), Mk G A lm (qS_mi s (va_up (q_mi s) j x)) m u0 u1 st H1 locs1 → W p l e R st mt args below meth c H1 locs1 cells slots Q (F0 mt (pc + 1) ls rest)) : W p l e R st mt args below meth c H locs cells slots Q (F0 mt pc ls (.int (bI x) :: .int i :: .ref (lm 6) :: rest)) := by
  obtain ⟨ha, he⟩ := hw.2.1.1 6 (by omega)
  subst hi
  refine k_zast hexec hb hw.1 ha he (vp_in_nI hj (by omega)) hdg (fun H1 locs1 hw1 => ?_)
  rw [nI_clamp (by omega), narB, updB] at hw1
  obtain ⟨r1, r2⟩ := hw.2.1.put (s' := (qS_mi s (va_up (q_mi s) j x))) (m' := m) (k := 6) (by omega) rfl (c22 (fun _ => rfl) (fun _ => rfl) (fun _ => rfl) (fun _ => rfl) (fun _ => rfl) (fun _ => rfl) (fun h => absurd rfl h) (fun _ => rfl) (fun _ => rfl) (fun _ => rfl) (fun _ => rfl) (fun _ => rfl) (fun _ => rfl) (fun _ => rfl) (fun _ => rfl) (fun _ => rfl) (fun _ => rfl) (fun _ => rfl) (fun _ => rfl) (fun _ => rfl) (fun _ => rfl) (fun _ => rfl)) hw.2.1.2.2.1 hw.2.1.2.2.2
  exact kk H1 locs1 _ ⟨hw1, r1, hw.2.2.tr r2⟩
theorem ma_worked {i : Int32} (hi : i = nI j) (hj : j < 16) (hexec : p.tables.exec = Jvm.exec) (hb : c.code = cc) (hw : Mk G A lm s m u0 u st H locs) (hdg : decode cc pc = .ok (.iaload, 1))
    (kk : W p l e R st mt args below meth c H locs cells slots Q (F0 mt (pc + 1) ls (.int (q_tw s j) :: rest))) : W p l e R st mt args below meth c H locs cells slots Q (F0 mt pc ls (.int i :: .ref (lm 7) :: rest)) := by
  obtain ⟨ha, he⟩ := hw.2.1.1 7 (by omega)
  subst hi
  refine k_iald hexec hb hw.1 ha he (vp_in_nI hj (by omega)) hdg ?_
  rw [nI_clamp (by omega)]
  exact kk
theorem mp_worked (x : Int32) {i : Int32} (hi : i = nI j) (hj : j < 16) (hexec : p.tables.exec = Jvm.exec) (hb : c.code = cc) (hw : Mk G A lm s m u0 u st H locs) (hdg : decode cc pc = .ok (.iastore, 1))
    (kk : ∀ (H1 : Heap) (locs1 : List Loc) (u1 : WT), Mk G A lm (qS_tw s (va_up (q_tw s) j x)) m u0 u1 st H1 locs1 → W p l e R st mt args below meth c H1 locs1 cells slots Q (F0 mt (pc + 1) ls rest)) : W p l e R st mt args below meth c H locs cells slots Q (F0 mt pc ls (.int (x) :: .int i :: .ref (lm 7) :: rest)) := by
  obtain ⟨ha, he⟩ := hw.2.1.1 7 (by omega)
  subst hi
  refine k_iast hexec hb hw.1 ha he (vp_in_nI hj (by omega)) hdg (fun H1 locs1 hw1 => ?_)
  rw [nI_clamp (by omega)] at hw1
  obtain ⟨r1, r2⟩ := hw.2.1.put (s' := (qS_tw s (va_up (q_tw s) j x))) (m' := m) (k := 7) (by omega) rfl (c22 (fun _ => rfl) (fun _ => rfl) (fun _ => rfl) (fun _ => rfl) (fun _ => rfl) (fun _ => rfl) (fun _ => rfl) (fun h => absurd rfl h) (fun _ => rfl) (fun _ => rfl) (fun _ => rfl) (fun _ => rfl) (fun _ => rfl) (fun _ => rfl) (fun _ => rfl) (fun _ => rfl) (fun _ => rfl) (fun _ => rfl) (fun _ => rfl) (fun _ => rfl) (fun _ => rfl) (fun _ => rfl)) hw.2.1.2.2.1 hw.2.1.2.2.2
  exact kk H1 locs1 _ ⟨hw1, r1, hw.2.2.tr r2⟩
theorem ma_weightA {i : Int32} (hi : i = nI j) (hj : j < 16) (hexec : p.tables.exec = Jvm.exec) (hb : c.code = cc) (hw : Mk G A lm s m u0 u st H locs) (hdg : decode cc pc = .ok (.laload, 1))
    (kk : W p l e R st mt args below meth c H locs cells slots Q (F0 mt (pc + 1) ls (.long (q_wa s j) :: rest))) : W p l e R st mt args below meth c H locs cells slots Q (F0 mt pc ls (.int i :: .ref (lm 8) :: rest)) := by
  obtain ⟨ha, he⟩ := hw.2.1.1 8 (by omega)
  subst hi
  refine k_lald hexec hb hw.1 ha he (vp_in_nI hj (by omega)) hdg ?_
  rw [nI_clamp (by omega)]
  exact kk
theorem mp_weightA (x : Int64) {i : Int32} (hi : i = nI j) (hj : j < 16) (hexec : p.tables.exec = Jvm.exec) (hb : c.code = cc) (hw : Mk G A lm s m u0 u st H locs) (hdg : decode cc pc = .ok (.lastore, 1))
    (kk : ∀ (H1 : Heap) (locs1 : List Loc) (u1 : WT), Mk G A lm (qS_wa s (va_up (q_wa s) j x)) m u0 u1 st H1 locs1 → W p l e R st mt args below meth c H1 locs1 cells slots Q (F0 mt (pc + 1) ls rest)) : W p l e R st mt args below meth c H locs cells slots Q (F0 mt pc ls (.long (x) :: .int i :: .ref (lm 8) :: rest)) := by
  obtain ⟨ha, he⟩ := hw.2.1.1 8 (by omega)
  subst hi
  refine k_last hexec hb hw.1 ha he (vp_in_nI hj (by omega)) hdg (fun H1 locs1 hw1 => ?_)
  rw [nI_clamp (by omega)] at hw1
  obtain ⟨r1, r2⟩ := hw.2.1.put (s' := (qS_wa s (va_up (q_wa s) j x))) (m' := m) (k := 8) (by omega) rfl (c22 (fun _ => rfl) (fun _ => rfl) (fun _ => rfl) (fun _ => rfl) (fun _ => rfl) (fun _ => rfl) (fun _ => rfl) (fun _ => rfl) (fun h => absurd rfl h) (fun _ => rfl) (fun _ => rfl) (fun _ => rfl) (fun _ => rfl) (fun _ => rfl) (fun _ => rfl) (fun _ => rfl) (fun _ => rfl) (fun _ => rfl) (fun _ => rfl) (fun _ => rfl) (fun _ => rfl) (fun _ => rfl)) hw.2.1.2.2.1 hw.2.1.2.2.2
  exact kk H1 locs1 _ ⟨hw1, r1, hw.2.2.tr r2⟩
theorem ma_weightB {i : Int32} (hi : i = nI j) (hj : j < 16) (hexec : p.tables.exec = Jvm.exec) (hb : c.code = cc) (hw : Mk G A lm s m u0 u st H locs) (hdg : decode cc pc = .ok (.laload, 1))
    (kk : W p l e R st mt args below meth c H locs cells slots Q (F0 mt (pc + 1) ls (.long (q_wb s j) :: rest))) : W p l e R st mt args below meth c H locs cells slots Q (F0 mt pc ls (.int i :: .ref (lm 9) :: rest)) := by
  obtain ⟨ha, he⟩ := hw.2.1.1 9 (by omega)
  subst hi
  refine k_lald hexec hb hw.1 ha he (vp_in_nI hj (by omega)) hdg ?_
  rw [nI_clamp (by omega)]
  exact kk
theorem mp_weightB (x : Int64) {i : Int32} (hi : i = nI j) (hj : j < 16) (hexec : p.tables.exec = Jvm.exec) (hb : c.code = cc) (hw : Mk G A lm s m u0 u st H locs) (hdg : decode cc pc = .ok (.lastore, 1))
    (kk : ∀ (H1 : Heap) (locs1 : List Loc) (u1 : WT), Mk G A lm (qS_wb s (va_up (q_wb s) j x)) m u0 u1 st H1 locs1 → W p l e R st mt args below meth c H1 locs1 cells slots Q (F0 mt (pc + 1) ls rest)) : W p l e R st mt args below meth c H locs cells slots Q (F0 mt pc ls (.long (x) :: .int i :: .ref (lm 9) :: rest)) := by
  obtain ⟨ha, he⟩ := hw.2.1.1 9 (by omega)
  subst hi
  refine k_last hexec hb hw.1 ha he (vp_in_nI hj (by omega)) hdg (fun H1 locs1 hw1 => ?_)
  rw [nI_clamp (by omega)] at hw1
  obtain ⟨r1, r2⟩ := hw.2.1.put (s' := (qS_wb s (va_up (q_wb s) j x))) (m' := m) (k := 9) (by omega) rfl (c22 (fun _ => rfl) (fun _ => rfl) (fun _ => rfl) (fun _ => rfl) (fun _ => rfl) (fun _ => rfl) (fun _ => rfl) (fun _ => rfl) (fun _ => rfl) (fun h => absurd rfl h) (fun _ => rfl) (fun _ => rfl) (fun _ => rfl) (fun _ => rfl) (fun _ => rfl) (fun _ => rfl) (fun _ => rfl) (fun _ => rfl) (fun _ => rfl) (fun _ => rfl) (fun _ => rfl) (fun _ => rfl)) hw.2.1.2.2.1 hw.2.1.2.2.2
  exact kk H1 locs1 _ ⟨hw1, r1, hw.2.2.tr r2⟩
theorem ma_kind {i : Int32} (hi : i = nI j) (hj : j < 16) (hexec : p.tables.exec = Jvm.exec) (hb : c.code = cc) (hw : Mk G A lm s m u0 u st H locs) (hdg : decode cc pc = .ok (.iaload, 1))
    (kk : W p l e R st mt args below meth c H locs cells slots Q (F0 mt (pc + 1) ls (.int (q_kd s j) :: rest))) : W p l e R st mt args below meth c H locs cells slots Q (F0 mt pc ls (.int i :: .ref (lm 10) :: rest)) := by
  obtain ⟨ha, he⟩ := hw.2.1.1 10 (by omega)
  subst hi
  refine k_iald hexec hb hw.1 ha he (vp_in_nI hj (by omega)) hdg ?_
  rw [nI_clamp (by omega)]
  exact kk
theorem mp_kind (x : Int32) {i : Int32} (hi : i = nI j) (hj : j < 16) (hexec : p.tables.exec = Jvm.exec) (hb : c.code = cc) (hw : Mk G A lm s m u0 u st H locs) (hdg : decode cc pc = .ok (.iastore, 1))
    (kk : ∀ (H1 : Heap) (locs1 : List Loc) (u1 : WT), Mk G A lm (qS_kd s (va_up (q_kd s) j x)) m u0 u1 st H1 locs1 → W p l e R st mt args below meth c H1 locs1 cells slots Q (F0 mt (pc + 1) ls rest)) : W p l e R st mt args below meth c H locs cells slots Q (F0 mt pc ls (.int (x) :: .int i :: .ref (lm 10) :: rest)) := by
  obtain ⟨ha, he⟩ := hw.2.1.1 10 (by omega)
  subst hi
  refine k_iast hexec hb hw.1 ha he (vp_in_nI hj (by omega)) hdg (fun H1 locs1 hw1 => ?_)
  rw [nI_clamp (by omega)] at hw1
  obtain ⟨r1, r2⟩ := hw.2.1.put (s' := (qS_kd s (va_up (q_kd s) j x))) (m' := m) (k := 10) (by omega) rfl (c22 (fun _ => rfl) (fun _ => rfl) (fun _ => rfl) (fun _ => rfl) (fun _ => rfl) (fun _ => rfl) (fun _ => rfl) (fun _ => rfl) (fun _ => rfl) (fun _ => rfl) (fun h => absurd rfl h) (fun _ => rfl) (fun _ => rfl) (fun _ => rfl) (fun _ => rfl) (fun _ => rfl) (fun _ => rfl) (fun _ => rfl) (fun _ => rfl) (fun _ => rfl) (fun _ => rfl) (fun _ => rfl)) hw.2.1.2.2.1 hw.2.1.2.2.2
  exact kk H1 locs1 _ ⟨hw1, r1, hw.2.2.tr r2⟩
theorem ma_steps {i : Int32} (hi : i = nI j) (hj : j < 16) (hexec : p.tables.exec = Jvm.exec) (hb : c.code = cc) (hw : Mk G A lm s m u0 u st H locs) (hdg : decode cc pc = .ok (.iaload, 1))
    (kk : W p l e R st mt args below meth c H locs cells slots Q (F0 mt (pc + 1) ls (.int (q_sp s j) :: rest))) : W p l e R st mt args below meth c H locs cells slots Q (F0 mt pc ls (.int i :: .ref (lm 11) :: rest)) := by
  obtain ⟨ha, he⟩ := hw.2.1.1 11 (by omega)
  subst hi
  refine k_iald hexec hb hw.1 ha he (vp_in_nI hj (by omega)) hdg ?_
  rw [nI_clamp (by omega)]
  exact kk
theorem mp_steps (x : Int32) {i : Int32} (hi : i = nI j) (hj : j < 16) (hexec : p.tables.exec = Jvm.exec) (hb : c.code = cc) (hw : Mk G A lm s m u0 u st H locs) (hdg : decode cc pc = .ok (.iastore, 1))
    (kk : ∀ (H1 : Heap) (locs1 : List Loc) (u1 : WT), Mk G A lm (qS_sp s (va_up (q_sp s) j x)) m u0 u1 st H1 locs1 → W p l e R st mt args below meth c H1 locs1 cells slots Q (F0 mt (pc + 1) ls rest)) : W p l e R st mt args below meth c H locs cells slots Q (F0 mt pc ls (.int (x) :: .int i :: .ref (lm 11) :: rest)) := by
  obtain ⟨ha, he⟩ := hw.2.1.1 11 (by omega)
  subst hi
  refine k_iast hexec hb hw.1 ha he (vp_in_nI hj (by omega)) hdg (fun H1 locs1 hw1 => ?_)
  rw [nI_clamp (by omega)] at hw1
  obtain ⟨r1, r2⟩ := hw.2.1.put (s' := (qS_sp s (va_up (q_sp s) j x))) (m' := m) (k := 11) (by omega) rfl (c22 (fun _ => rfl) (fun _ => rfl) (fun _ => rfl) (fun _ => rfl) (fun _ => rfl) (fun _ => rfl) (fun _ => rfl) (fun _ => rfl) (fun _ => rfl) (fun _ => rfl) (fun _ => rfl) (fun h => absurd rfl h) (fun _ => rfl) (fun _ => rfl) (fun _ => rfl) (fun _ => rfl) (fun _ => rfl) (fun _ => rfl) (fun _ => rfl) (fun _ => rfl) (fun _ => rfl) (fun _ => rfl)) hw.2.1.2.2.1 hw.2.1.2.2.2
  exact kk H1 locs1 _ ⟨hw1, r1, hw.2.2.tr r2⟩
theorem ma_chance {i : Int32} (hi : i = nI j) (hj : j < 16) (hexec : p.tables.exec = Jvm.exec) (hb : c.code = cc) (hw : Mk G A lm s m u0 u st H locs) (hdg : decode cc pc = .ok (.iaload, 1))
    (kk : W p l e R st mt args below meth c H locs cells slots Q (F0 mt (pc + 1) ls (.int (q_ch s j) :: rest))) : W p l e R st mt args below meth c H locs cells slots Q (F0 mt pc ls (.int i :: .ref (lm 12) :: rest)) := by
  obtain ⟨ha, he⟩ := hw.2.1.1 12 (by omega)
  subst hi
  refine k_iald hexec hb hw.1 ha he (vp_in_nI hj (by omega)) hdg ?_
  rw [nI_clamp (by omega)]
  exact kk
theorem mp_chance (x : Int32) {i : Int32} (hi : i = nI j) (hj : j < 16) (hexec : p.tables.exec = Jvm.exec) (hb : c.code = cc) (hw : Mk G A lm s m u0 u st H locs) (hdg : decode cc pc = .ok (.iastore, 1))
    (kk : ∀ (H1 : Heap) (locs1 : List Loc) (u1 : WT), Mk G A lm (qS_ch s (va_up (q_ch s) j x)) m u0 u1 st H1 locs1 → W p l e R st mt args below meth c H1 locs1 cells slots Q (F0 mt (pc + 1) ls rest)) : W p l e R st mt args below meth c H locs cells slots Q (F0 mt pc ls (.int (x) :: .int i :: .ref (lm 12) :: rest)) := by
  obtain ⟨ha, he⟩ := hw.2.1.1 12 (by omega)
  subst hi
  refine k_iast hexec hb hw.1 ha he (vp_in_nI hj (by omega)) hdg (fun H1 locs1 hw1 => ?_)
  rw [nI_clamp (by omega)] at hw1
  obtain ⟨r1, r2⟩ := hw.2.1.put (s' := (qS_ch s (va_up (q_ch s) j x))) (m' := m) (k := 12) (by omega) rfl (c22 (fun _ => rfl) (fun _ => rfl) (fun _ => rfl) (fun _ => rfl) (fun _ => rfl) (fun _ => rfl) (fun _ => rfl) (fun _ => rfl) (fun _ => rfl) (fun _ => rfl) (fun _ => rfl) (fun _ => rfl) (fun h => absurd rfl h) (fun _ => rfl) (fun _ => rfl) (fun _ => rfl) (fun _ => rfl) (fun _ => rfl) (fun _ => rfl) (fun _ => rfl) (fun _ => rfl) (fun _ => rfl)) hw.2.1.2.2.1 hw.2.1.2.2.2
  exact kk H1 locs1 _ ⟨hw1, r1, hw.2.2.tr r2⟩
theorem ma_american {i : Int32} (hi : i = nI j) (hj : j < 16) (hexec : p.tables.exec = Jvm.exec) (hb : c.code = cc) (hw : Mk G A lm s m u0 u st H locs) (hdg : decode cc pc = .ok (.baload, 1))
    (kk : W p l e R st mt args below meth c H locs cells slots Q (F0 mt (pc + 1) ls (.int (bI (q_us s j)) :: rest))) : W p l e R st mt args below meth c H locs cells slots Q (F0 mt pc ls (.int i :: .ref (lm 13) :: rest)) := by
  obtain ⟨ha, he⟩ := hw.2.1.1 13 (by omega)
  subst hi
  refine k_zald hexec hb hw.1 ha he (vp_in_nI hj (by omega)) hdg ?_
  rw [nI_clamp (by omega)]
  exact kk
theorem mp_american (x : Bool) {i : Int32} (hi : i = nI j) (hj : j < 16) (hexec : p.tables.exec = Jvm.exec) (hb : c.code = cc) (hw : Mk G A lm s m u0 u st H locs) (hdg : decode cc pc = .ok (.bastore, 1))
    (kk : ∀ (H1 : Heap) (locs1 : List Loc) (u1 : WT), Mk G A lm (qS_us s (va_up (q_us s) j x)) m u0 u1 st H1 locs1 → W p l e R st mt args below meth c H1 locs1 cells slots Q (F0 mt (pc + 1) ls rest)) : W p l e R st mt args below meth c H locs cells slots Q (F0 mt pc ls (.int (bI x) :: .int i :: .ref (lm 13) :: rest)) := by
  obtain ⟨ha, he⟩ := hw.2.1.1 13 (by omega)
  subst hi
  refine k_zast hexec hb hw.1 ha he (vp_in_nI hj (by omega)) hdg (fun H1 locs1 hw1 => ?_)
  rw [nI_clamp (by omega), narB, updB] at hw1
  obtain ⟨r1, r2⟩ := hw.2.1.put (s' := (qS_us s (va_up (q_us s) j x))) (m' := m) (k := 13) (by omega) rfl (c22 (fun _ => rfl) (fun _ => rfl) (fun _ => rfl) (fun _ => rfl) (fun _ => rfl) (fun _ => rfl) (fun _ => rfl) (fun _ => rfl) (fun _ => rfl) (fun _ => rfl) (fun _ => rfl) (fun _ => rfl) (fun _ => rfl) (fun h => absurd rfl h) (fun _ => rfl) (fun _ => rfl) (fun _ => rfl) (fun _ => rfl) (fun _ => rfl) (fun _ => rfl) (fun _ => rfl) (fun _ => rfl)) hw.2.1.2.2.1 hw.2.1.2.2.2
  exact kk H1 locs1 _ ⟨hw1, r1, hw.2.2.tr r2⟩
theorem ma_engine {i : Int32} (hi : i = nI j) (hj : j < 16) (hexec : p.tables.exec = Jvm.exec) (hb : c.code = cc) (hw : Mk G A lm s m u0 u st H locs) (hdg : decode cc pc = .ok (.iaload, 1))
    (kk : W p l e R st mt args below meth c H locs cells slots Q (F0 mt (pc + 1) ls (.int (nI (q_en s j)) :: rest))) : W p l e R st mt args below meth c H locs cells slots Q (F0 mt pc ls (.int i :: .ref (lm 14) :: rest)) := by
  obtain ⟨ha, he⟩ := hw.2.1.1 14 (by omega)
  subst hi
  refine k_iald hexec hb hw.1 ha he (vp_in_nI hj (by omega)) hdg ?_
  rw [nI_clamp (by omega)]
  exact kk
theorem mp_engine (x : Nat) {i : Int32} (hi : i = nI j) (hj : j < 16) (hexec : p.tables.exec = Jvm.exec) (hb : c.code = cc) (hw : Mk G A lm s m u0 u st H locs) (hdg : decode cc pc = .ok (.iastore, 1))
    (kk : ∀ (H1 : Heap) (locs1 : List Loc) (u1 : WT), Mk G A lm (qS_en s (va_up (q_en s) j x)) m u0 u1 st H1 locs1 → W p l e R st mt args below meth c H1 locs1 cells slots Q (F0 mt (pc + 1) ls rest)) : W p l e R st mt args below meth c H locs cells slots Q (F0 mt pc ls (.int (nI x) :: .int i :: .ref (lm 14) :: rest)) := by
  obtain ⟨ha, he⟩ := hw.2.1.1 14 (by omega)
  subst hi
  refine k_iast hexec hb hw.1 ha he (vp_in_nI hj (by omega)) hdg (fun H1 locs1 hw1 => ?_)
  rw [nI_clamp (by omega), updN] at hw1
  obtain ⟨r1, r2⟩ := hw.2.1.put (s' := (qS_en s (va_up (q_en s) j x))) (m' := m) (k := 14) (by omega) rfl (c22 (fun _ => rfl) (fun _ => rfl) (fun _ => rfl) (fun _ => rfl) (fun _ => rfl) (fun _ => rfl) (fun _ => rfl) (fun _ => rfl) (fun _ => rfl) (fun _ => rfl) (fun _ => rfl) (fun _ => rfl) (fun _ => rfl) (fun _ => rfl) (fun h => absurd rfl h) (fun _ => rfl) (fun _ => rfl) (fun _ => rfl) (fun _ => rfl) (fun _ => rfl) (fun _ => rfl) (fun _ => rfl)) hw.2.1.2.2.1 hw.2.1.2.2.2
  exact kk H1 locs1 _ ⟨hw1, r1, hw.2.2.tr r2⟩
theorem ma_size {i : Int32} (hi : i = nI j) (hj : j < 16) (hexec : p.tables.exec = Jvm.exec) (hb : c.code = cc) (hw : Mk G A lm s m u0 u st H locs) (hdg : decode cc pc = .ok (.iaload, 1))
    (kk : W p l e R st mt args below meth c H locs cells slots Q (F0 mt (pc + 1) ls (.int (q_sz s j) :: rest))) : W p l e R st mt args below meth c H locs cells slots Q (F0 mt pc ls (.int i :: .ref (lm 15) :: rest)) := by
  obtain ⟨ha, he⟩ := hw.2.1.1 15 (by omega)
  subst hi
  refine k_iald hexec hb hw.1 ha he (vp_in_nI hj (by omega)) hdg ?_
  rw [nI_clamp (by omega)]
  exact kk
theorem mp_size (x : Int32) {i : Int32} (hi : i = nI j) (hj : j < 16) (hexec : p.tables.exec = Jvm.exec) (hb : c.code = cc) (hw : Mk G A lm s m u0 u st H locs) (hdg : decode cc pc = .ok (.iastore, 1))
    (kk : ∀ (H1 : Heap) (locs1 : List Loc) (u1 : WT), Mk G A lm (qS_sz s (va_up (q_sz s) j x)) m u0 u1 st H1 locs1 → W p l e R st mt args below meth c H1 locs1 cells slots Q (F0 mt (pc + 1) ls rest)) : W p l e R st mt args below meth c H locs cells slots Q (F0 mt pc ls (.int (x) :: .int i :: .ref (lm 15) :: rest)) := by
  obtain ⟨ha, he⟩ := hw.2.1.1 15 (by omega)
  subst hi
  refine k_iast hexec hb hw.1 ha he (vp_in_nI hj (by omega)) hdg (fun H1 locs1 hw1 => ?_)
  rw [nI_clamp (by omega)] at hw1
  obtain ⟨r1, r2⟩ := hw.2.1.put (s' := (qS_sz s (va_up (q_sz s) j x))) (m' := m) (k := 15) (by omega) rfl (c22 (fun _ => rfl) (fun _ => rfl) (fun _ => rfl) (fun _ => rfl) (fun _ => rfl) (fun _ => rfl) (fun _ => rfl) (fun _ => rfl) (fun _ => rfl) (fun _ => rfl) (fun _ => rfl) (fun _ => rfl) (fun _ => rfl) (fun _ => rfl) (fun _ => rfl) (fun h => absurd rfl h) (fun _ => rfl) (fun _ => rfl) (fun _ => rfl) (fun _ => rfl) (fun _ => rfl) (fun _ => rfl)) hw.2.1.2.2.1 hw.2.1.2.2.2
  exact kk H1 locs1 _ ⟨hw1, r1, hw.2.2.tr r2⟩
theorem ma_list {i : Int32} (hi : i = nI j) (hj : j < 64) (hexec : p.tables.exec = Jvm.exec) (hb : c.code = cc) (hw : Mk G A lm s m u0 u st H locs) (hdg : decode cc pc = .ok (.iaload, 1))
    (kk : W p l e R st mt args below meth c H locs cells slots Q (F0 mt (pc + 1) ls (.int (m_li m j) :: rest))) : W p l e R st mt args below meth c H locs cells slots Q (F0 mt pc ls (.int i :: .ref (lm 16) :: rest)) := by
  obtain ⟨ha, he⟩ := hw.2.1.1 16 (by omega)
  subst hi
  refine k_iald hexec hb hw.1 ha he (vp_in_nI hj (by omega)) hdg ?_
  rw [nI_clamp (by omega)]
  exact kk
theorem mp_list (x : Int32) {i : Int32} (hi : i = nI j) (hj : j < 64) (hexec : p.tables.exec = Jvm.exec) (hb : c.code = cc) (hw : Mk G A lm s m u0 u st H locs) (hdg : decode cc pc = .ok (.iastore, 1))
    (kk : ∀ (H1 : Heap) (locs1 : List Loc) (u1 : WT), Mk G A lm s (mS_li m (va_up (m_li m) j x)) u0 u1 st H1 locs1 → W p l e R st mt args below meth c H1 locs1 cells slots Q (F0 mt (pc + 1) ls rest)) : W p l e R st mt args below meth c H locs cells slots Q (F0 mt pc ls (.int (x) :: .int i :: .ref (lm 16) :: rest)) := by
  obtain ⟨ha, he⟩ := hw.2.1.1 16 (by omega)
  subst hi
  refine k_iast hexec hb hw.1 ha he (vp_in_nI hj (by omega)) hdg (fun H1 locs1 hw1 => ?_)
  rw [nI_clamp (by omega)] at hw1
  obtain ⟨r1, r2⟩ := hw.2.1.put (s' := s) (m' := (mS_li m (va_up (m_li m) j x))) (k := 16) (by omega) rfl (c22 (fun _ => rfl) (fun _ => rfl) (fun _ => rfl) (fun _ => rfl) (fun _ => rfl) (fun _ => rfl) (fun _ => rfl) (fun _ => rfl) (fun _ => rfl) (fun _ => rfl) (fun _ => rfl) (fun _ => rfl) (fun _ => rfl) (fun _ => rfl) (fun _ => rfl) (fun _ => rfl) (fun h => absurd rfl h) (fun _ => rfl) (fun _ => rfl) (fun _ => rfl) (fun _ => rfl) (fun _ => rfl)) hw.2.1.2.2.1 hw.2.1.2.2.2
  exact kk H1 locs1 _ ⟨hw1, r1, hw.2.2.tr r2⟩
theorem ma_next {i : Int32} (hi : i = nI j) (hj : j < 64) (hexec : p.tables.exec = Jvm.exec) (hb : c.code = cc) (hw : Mk G A lm s m u0 u st H locs) (hdg : decode cc pc = .ok (.iaload, 1))
    (kk : W p l e R st mt args below meth c H locs cells slots Q (F0 mt (pc + 1) ls (.int (m_ne m j) :: rest))) : W p l e R st mt args below meth c H locs cells slots Q (F0 mt pc ls (.int i :: .ref (lm 17) :: rest)) := by
  obtain ⟨ha, he⟩ := hw.2.1.1 17 (by omega)
  subst hi
  refine k_iald hexec hb hw.1 ha he (vp_in_nI hj (by omega)) hdg ?_
  rw [nI_clamp (by omega)]
  exact kk
theorem mp_next (x : Int32) {i : Int32} (hi : i = nI j) (hj : j < 64) (hexec : p.tables.exec = Jvm.exec) (hb : c.code = cc) (hw : Mk G A lm s m u0 u st H locs) (hdg : decode cc pc = .ok (.iastore, 1))
    (kk : ∀ (H1 : Heap) (locs1 : List Loc) (u1 : WT), Mk G A lm s (mS_ne m (va_up (m_ne m) j x)) u0 u1 st H1 locs1 → W p l e R st mt args below meth c H1 locs1 cells slots Q (F0 mt (pc + 1) ls rest)) : W p l e R st mt args below meth c H locs cells slots Q (F0 mt pc ls (.int (x) :: .int i :: .ref (lm 17) :: rest)) := by
  obtain ⟨ha, he⟩ := hw.2.1.1 17 (by omega)
  subst hi
  refine k_iast hexec hb hw.1 ha he (vp_in_nI hj (by omega)) hdg (fun H1 locs1 hw1 => ?_)
  rw [nI_clamp (by omega)] at hw1
  obtain ⟨r1, r2⟩ := hw.2.1.put (s' := s) (m' := (mS_ne m (va_up (m_ne m) j x))) (k := 17) (by omega) rfl (c22 (fun _ => rfl) (fun _ => rfl) (fun _ => rfl) (fun _ => rfl) (fun _ => rfl) (fun _ => rfl) (fun _ => rfl) (fun _ => rfl) (fun _ => rfl) (fun _ => rfl) (fun _ => rfl) (fun _ => rfl) (fun _ => rfl) (fun _ => rfl) (fun _ => rfl) (fun _ => rfl) (fun _ => rfl) (fun h => absurd rfl h) (fun _ => rfl) (fun _ => rfl) (fun _ => rfl) (fun _ => rfl)) hw.2.1.2.2.1 hw.2.1.2.2.2
  exact kk H1 locs1 _ ⟨hw1, r1, hw.2.2.tr r2⟩
theorem ma_oldHeld {i : Int32} (hi : i = nI j) (hj : j < 16) (hexec : p.tables.exec = Jvm.exec) (hb : c.code = cc) (hw : Mk G A lm s m u0 u st H locs) (hdg : decode cc pc = .ok (.laload, 1))
    (kk : W p l e R st mt args below meth c H locs cells slots Q (F0 mt (pc + 1) ls (.long (m_oh m j) :: rest))) : W p l e R st mt args below meth c H locs cells slots Q (F0 mt pc ls (.int i :: .ref (lm 18) :: rest)) := by
  obtain ⟨ha, he⟩ := hw.2.1.1 18 (by omega)
  subst hi
  refine k_lald hexec hb hw.1 ha he (vp_in_nI hj (by omega)) hdg ?_
  rw [nI_clamp (by omega)]
  exact kk
theorem mp_oldHeld (x : Int64) {i : Int32} (hi : i = nI j) (hj : j < 16) (hexec : p.tables.exec = Jvm.exec) (hb : c.code = cc) (hw : Mk G A lm s m u0 u st H locs) (hdg : decode cc pc = .ok (.lastore, 1))
    (kk : ∀ (H1 : Heap) (locs1 : List Loc) (u1 : WT), Mk G A lm s (mS_oh m (va_up (m_oh m) j x)) u0 u1 st H1 locs1 → W p l e R st mt args below meth c H1 locs1 cells slots Q (F0 mt (pc + 1) ls rest)) : W p l e R st mt args below meth c H locs cells slots Q (F0 mt pc ls (.long (x) :: .int i :: .ref (lm 18) :: rest)) := by
  obtain ⟨ha, he⟩ := hw.2.1.1 18 (by omega)
  subst hi
  refine k_last hexec hb hw.1 ha he (vp_in_nI hj (by omega)) hdg (fun H1 locs1 hw1 => ?_)
  rw [nI_clamp (by omega)] at hw1
  obtain ⟨r1, r2⟩ := hw.2.1.put (s' := s) (m' := (mS_oh m (va_up (m_oh m) j x))) (k := 18) (by omega) rfl (c22 (fun _ => rfl) (fun _ => rfl) (fun _ => rfl) (fun _ => rfl) (fun _ => rfl) (fun _ => rfl) (fun _ => rfl) (fun _ => rfl) (fun _ => rfl) (fun _ => rfl) (fun _ => rfl) (fun _ => rfl) (fun _ => rfl) (fun _ => rfl) (fun _ => rfl) (fun _ => rfl) (fun _ => rfl) (fun _ => rfl) (fun h => absurd rfl h) (fun _ => rfl) (fun _ => rfl) (fun _ => rfl)) hw.2.1.2.2.1 hw.2.1.2.2.2
  exact kk H1 locs1 _ ⟨hw1, r1, hw.2.2.tr r2⟩
theorem ma_oldValid {i : Int32} (hi : i = nI j) (hj : j < 16) (hexec : p.tables.exec = Jvm.exec) (hb : c.code = cc) (hw : Mk G A lm s m u0 u st H locs) (hdg : decode cc pc = .ok (.baload, 1))
    (kk : W p l e R st mt args below meth c H locs cells slots Q (F0 mt (pc + 1) ls (.int (bI (m_ov m j)) :: rest))) : W p l e R st mt args below meth c H locs cells slots Q (F0 mt pc ls (.int i :: .ref (lm 19) :: rest)) := by
  obtain ⟨ha, he⟩ := hw.2.1.1 19 (by omega)
  subst hi
  refine k_zald hexec hb hw.1 ha he (vp_in_nI hj (by omega)) hdg ?_
  rw [nI_clamp (by omega)]
  exact kk
theorem mp_oldValid (x : Bool) {i : Int32} (hi : i = nI j) (hj : j < 16) (hexec : p.tables.exec = Jvm.exec) (hb : c.code = cc) (hw : Mk G A lm s m u0 u st H locs) (hdg : decode cc pc = .ok (.bastore, 1))
    (kk : ∀ (H1 : Heap) (locs1 : List Loc) (u1 : WT), Mk G A lm s (mS_ov m (va_up (m_ov m) j x)) u0 u1 st H1 locs1 → W p l e R st mt args below meth c H1 locs1 cells slots Q (F0 mt (pc + 1) ls rest)) : W p l e R st mt args below meth c H locs cells slots Q (F0 mt pc ls (.int (bI x) :: .int i :: .ref (lm 19) :: rest)) := by
  obtain ⟨ha, he⟩ := hw.2.1.1 19 (by omega)
  subst hi
  refine k_zast hexec hb hw.1 ha he (vp_in_nI hj (by omega)) hdg (fun H1 locs1 hw1 => ?_)
  rw [nI_clamp (by omega), narB, updB] at hw1
  obtain ⟨r1, r2⟩ := hw.2.1.put (s' := s) (m' := (mS_ov m (va_up (m_ov m) j x))) (k := 19) (by omega) rfl (c22 (fun _ => rfl) (fun _ => rfl) (fun _ => rfl) (fun _ => rfl) (fun _ => rfl) (fun _ => rfl) (fun _ => rfl) (fun _ => rfl) (fun _ => rfl) (fun _ => rfl) (fun _ => rfl) (fun _ => rfl) (fun _ => rfl) (fun _ => rfl) (fun _ => rfl) (fun _ => rfl) (fun _ => rfl) (fun _ => rfl) (fun _ => rfl) (fun h => absurd rfl h) (fun _ => rfl) (fun _ => rfl)) hw.2.1.2.2.1 hw.2.1.2.2.2
  exact kk H1 locs1 _ ⟨hw1, r1, hw.2.2.tr r2⟩
theorem ma_row {i : Int32} (hi : i = nI j) (hj : j < 44) (hexec : p.tables.exec = Jvm.exec) (hb : c.code = cc) (hw : Mk G A lm s m u0 u st H locs) (hdg : decode cc pc = .ok (.laload, 1))
    (kk : W p l e R st mt args below meth c H locs cells slots Q (F0 mt (pc + 1) ls (.long (m_ro m j) :: rest))) : W p l e R st mt args below meth c H locs cells slots Q (F0 mt pc ls (.int i :: .ref (lm 20) :: rest)) := by
  obtain ⟨ha, he⟩ := hw.2.1.1 20 (by omega)
  subst hi
  refine k_lald hexec hb hw.1 ha he (vp_in_nI hj (by omega)) hdg ?_
  rw [nI_clamp (by omega)]
  exact kk
theorem mp_row (x : Int64) {i : Int32} (hi : i = nI j) (hj : j < 44) (hexec : p.tables.exec = Jvm.exec) (hb : c.code = cc) (hw : Mk G A lm s m u0 u st H locs) (hdg : decode cc pc = .ok (.lastore, 1))
    (kk : ∀ (H1 : Heap) (locs1 : List Loc) (u1 : WT), Mk G A lm s (mS_ro m (va_up (m_ro m) j x)) u0 u1 st H1 locs1 → W p l e R st mt args below meth c H1 locs1 cells slots Q (F0 mt (pc + 1) ls rest)) : W p l e R st mt args below meth c H locs cells slots Q (F0 mt pc ls (.long (x) :: .int i :: .ref (lm 20) :: rest)) := by
  obtain ⟨ha, he⟩ := hw.2.1.1 20 (by omega)
  subst hi
  refine k_last hexec hb hw.1 ha he (vp_in_nI hj (by omega)) hdg (fun H1 locs1 hw1 => ?_)
  rw [nI_clamp (by omega)] at hw1
  obtain ⟨r1, r2⟩ := hw.2.1.put (s' := s) (m' := (mS_ro m (va_up (m_ro m) j x))) (k := 20) (by omega) rfl (c22 (fun _ => rfl) (fun _ => rfl) (fun _ => rfl) (fun _ => rfl) (fun _ => rfl) (fun _ => rfl) (fun _ => rfl) (fun _ => rfl) (fun _ => rfl) (fun _ => rfl) (fun _ => rfl) (fun _ => rfl) (fun _ => rfl) (fun _ => rfl) (fun _ => rfl) (fun _ => rfl) (fun _ => rfl) (fun _ => rfl) (fun _ => rfl) (fun _ => rfl) (fun h => absurd rfl h) (fun _ => rfl)) hw.2.1.2.2.1 hw.2.1.2.2.2
  exact kk H1 locs1 _ ⟨hw1, r1, hw.2.2.tr r2⟩
theorem ma_fresh {i : Int32} (hi : i = nI j) (hj : j < 44) (hexec : p.tables.exec = Jvm.exec) (hb : c.code = cc) (hw : Mk G A lm s m u0 u st H locs) (hdg : decode cc pc = .ok (.laload, 1))
    (kk : W p l e R st mt args below meth c H locs cells slots Q (F0 mt (pc + 1) ls (.long (m_fe m j) :: rest))) : W p l e R st mt args below meth c H locs cells slots Q (F0 mt pc ls (.int i :: .ref (lm 21) :: rest)) := by
  obtain ⟨ha, he⟩ := hw.2.1.1 21 (by omega)
  subst hi
  refine k_lald hexec hb hw.1 ha he (vp_in_nI hj (by omega)) hdg ?_
  rw [nI_clamp (by omega)]
  exact kk
theorem mp_fresh (x : Int64) {i : Int32} (hi : i = nI j) (hj : j < 44) (hexec : p.tables.exec = Jvm.exec) (hb : c.code = cc) (hw : Mk G A lm s m u0 u st H locs) (hdg : decode cc pc = .ok (.lastore, 1))
    (kk : ∀ (H1 : Heap) (locs1 : List Loc) (u1 : WT), Mk G A lm s (mS_fe m (va_up (m_fe m) j x)) u0 u1 st H1 locs1 → W p l e R st mt args below meth c H1 locs1 cells slots Q (F0 mt (pc + 1) ls rest)) : W p l e R st mt args below meth c H locs cells slots Q (F0 mt pc ls (.long (x) :: .int i :: .ref (lm 21) :: rest)) := by
  obtain ⟨ha, he⟩ := hw.2.1.1 21 (by omega)
  subst hi
  refine k_last hexec hb hw.1 ha he (vp_in_nI hj (by omega)) hdg (fun H1 locs1 hw1 => ?_)
  rw [nI_clamp (by omega)] at hw1
  obtain ⟨r1, r2⟩ := hw.2.1.put (s' := s) (m' := (mS_fe m (va_up (m_fe m) j x))) (k := 21) (by omega) rfl (c22 (fun _ => rfl) (fun _ => rfl) (fun _ => rfl) (fun _ => rfl) (fun _ => rfl) (fun _ => rfl) (fun _ => rfl) (fun _ => rfl) (fun _ => rfl) (fun _ => rfl) (fun _ => rfl) (fun _ => rfl) (fun _ => rfl) (fun _ => rfl) (fun _ => rfl) (fun _ => rfl) (fun _ => rfl) (fun _ => rfl) (fun _ => rfl) (fun _ => rfl) (fun _ => rfl) (fun h => absurd rfl h)) hw.2.1.2.2.1 hw.2.1.2.2.2
  exact kk H1 locs1 _ ⟨hw1, r1, hw.2.2.tr r2⟩
theorem mp_nodes (x : Nat) (hx : x ≤ 16) (hP : ∀ i k, i < x → k < 4 → m_pt m (4 * i + k) = pI (q_pt s i k)) (hexec : p.tables.exec = Jvm.exec) (hb : c.code = cc) (ht : ∀ w ∈ GW, w.before args st = true) (hown : st.vm.findClass own = some mt.cls) (hw : Mk G A lm s m u0 u st H locs) (hlink : Cond.fieldLink own index "QuoteGraphModel" "nodes" "I" ∈ GW) (hdg : decode cc pc = .ok (.putfield index, 3))
    (kk : ∀ (H1 : Heap) (locs1 : List Loc) (u1 : WT), Mk G A lm (qS_n s x) m u0 u1 st H1 locs1 → W p l e R st mt args below meth c H1 locs1 cells slots Q (F0 mt (pc + 3) ls rest)) : W p l e R st mt args below meth c H locs cells slots Q (F0 mt pc ls (.int (nI x) :: .ref (lm 0) :: rest)) := by
  obtain ⟨ha, he⟩ := hw.2.1.1 0 (by omega)
  refine k_put (ty := .int) hexec hb ht i_M t_M t_M_ok n_M hown hw.1 ha he rfl 21 (by decide) hlink (fun _ h => h) rfl (by decide +kernel) rfl rfl (Nat.le_of_ble_eq_true rfl) hdg (fun H1 locs1 hw1 => ?_)
  obtain ⟨r1, r2⟩ := hw.2.1.put (s' := (qS_n s x)) (m' := m) (k := 0) (by omega) rfl (c22 (fun h => absurd rfl h) (fun _ => rfl) (fun _ => rfl) (fun _ => rfl) (fun _ => rfl) (fun _ => rfl) (fun _ => rfl) (fun _ => rfl) (fun _ => rfl) (fun _ => rfl) (fun _ => rfl) (fun _ => rfl) (fun _ => rfl) (fun _ => rfl) (fun _ => rfl) (fun _ => rfl) (fun _ => rfl) (fun _ => rfl) (fun _ => rfl) (fun _ => rfl) (fun _ => rfl) (fun _ => rfl)) hP hx
  exact kk H1 locs1 _ ⟨hw1, r1, hw.2.2.tr r2⟩
theorem mp_told (x : Int32) (hexec : p.tables.exec = Jvm.exec) (hb : c.code = cc) (ht : ∀ w ∈ GW, w.before args st = true) (hown : st.vm.findClass own = some mt.cls) (hw : Mk G A lm s m u0 u st H locs) (hlink : Cond.fieldLink own index "QuoteGraphModel" "told" "I" ∈ GW) (hdg : decode cc pc = .ok (.putfield index, 3))
    (kk : ∀ (H1 : Heap) (locs1 : List Loc) (u1 : WT), Mk G A lm (qS_tl s x) m u0 u1 st H1 locs1 → W p l e R st mt args below meth c H1 locs1 cells slots Q (F0 mt (pc + 3) ls rest)) : W p l e R st mt args below meth c H locs cells slots Q (F0 mt pc ls (.int (x) :: .ref (lm 0) :: rest)) := by
  obtain ⟨ha, he⟩ := hw.2.1.1 0 (by omega)
  refine k_put (ty := .int) hexec hb ht i_M t_M t_M_ok n_M hown hw.1 ha he rfl 22 (by decide) hlink (fun _ h => h) rfl (by decide +kernel) rfl rfl (Nat.le_of_ble_eq_true rfl) hdg (fun H1 locs1 hw1 => ?_)
  obtain ⟨r1, r2⟩ := hw.2.1.put (s' := (qS_tl s x)) (m' := m) (k := 0) (by omega) rfl (c22 (fun h => absurd rfl h) (fun _ => rfl) (fun _ => rfl) (fun _ => rfl) (fun _ => rfl) (fun _ => rfl) (fun _ => rfl) (fun _ => rfl) (fun _ => rfl) (fun _ => rfl) (fun _ => rfl) (fun _ => rfl) (fun _ => rfl) (fun _ => rfl) (fun _ => rfl) (fun _ => rfl) (fun _ => rfl) (fun _ => rfl) (fun _ => rfl) (fun _ => rfl) (fun _ => rfl) (fun _ => rfl)) hw.2.1.2.2.1 hw.2.1.2.2.2
  exact kk H1 locs1 _ ⟨hw1, r1, hw.2.2.tr r2⟩
theorem mp_workedAll (x : Int32) (hexec : p.tables.exec = Jvm.exec) (hb : c.code = cc) (ht : ∀ w ∈ GW, w.before args st = true) (hown : st.vm.findClass own = some mt.cls) (hw : Mk G A lm s m u0 u st H locs) (hlink : Cond.fieldLink own index "QuoteGraphModel" "workedAll" "I" ∈ GW) (hdg : decode cc pc = .ok (.putfield index, 3))
    (kk : ∀ (H1 : Heap) (locs1 : List Loc) (u1 : WT), Mk G A lm (qS_wk s x) m u0 u1 st H1 locs1 → W p l e R st mt args below meth c H1 locs1 cells slots Q (F0 mt (pc + 3) ls rest)) : W p l e R st mt args below meth c H locs cells slots Q (F0 mt pc ls (.int (x) :: .ref (lm 0) :: rest)) := by
  obtain ⟨ha, he⟩ := hw.2.1.1 0 (by omega)
  refine k_put (ty := .int) hexec hb ht i_M t_M t_M_ok n_M hown hw.1 ha he rfl 23 (by decide) hlink (fun _ h => h) rfl (by decide +kernel) rfl rfl (Nat.le_of_ble_eq_true rfl) hdg (fun H1 locs1 hw1 => ?_)
  obtain ⟨r1, r2⟩ := hw.2.1.put (s' := (qS_wk s x)) (m' := m) (k := 0) (by omega) rfl (c22 (fun h => absurd rfl h) (fun _ => rfl) (fun _ => rfl) (fun _ => rfl) (fun _ => rfl) (fun _ => rfl) (fun _ => rfl) (fun _ => rfl) (fun _ => rfl) (fun _ => rfl) (fun _ => rfl) (fun _ => rfl) (fun _ => rfl) (fun _ => rfl) (fun _ => rfl) (fun _ => rfl) (fun _ => rfl) (fun _ => rfl) (fun _ => rfl) (fun _ => rfl) (fun _ => rfl) (fun _ => rfl)) hw.2.1.2.2.1 hw.2.1.2.2.2
  exact kk H1 locs1 _ ⟨hw1, r1, hw.2.2.tr r2⟩
theorem mp_troubles (x : Int32) (hexec : p.tables.exec = Jvm.exec) (hb : c.code = cc) (ht : ∀ w ∈ GW, w.before args st = true) (hown : st.vm.findClass own = some mt.cls) (hw : Mk G A lm s m u0 u st H locs) (hlink : Cond.fieldLink own index "QuoteGraphModel" "troubles" "I" ∈ GW) (hdg : decode cc pc = .ok (.putfield index, 3))
    (kk : ∀ (H1 : Heap) (locs1 : List Loc) (u1 : WT), Mk G A lm (qS_fl s x) m u0 u1 st H1 locs1 → W p l e R st mt args below meth c H1 locs1 cells slots Q (F0 mt (pc + 3) ls rest)) : W p l e R st mt args below meth c H locs cells slots Q (F0 mt pc ls (.int (x) :: .ref (lm 0) :: rest)) := by
  obtain ⟨ha, he⟩ := hw.2.1.1 0 (by omega)
  refine k_put (ty := .int) hexec hb ht i_M t_M t_M_ok n_M hown hw.1 ha he rfl 24 (by decide) hlink (fun _ h => h) rfl (by decide +kernel) rfl rfl (Nat.le_of_ble_eq_true rfl) hdg (fun H1 locs1 hw1 => ?_)
  obtain ⟨r1, r2⟩ := hw.2.1.put (s' := (qS_fl s x)) (m' := m) (k := 0) (by omega) rfl (c22 (fun h => absurd rfl h) (fun _ => rfl) (fun _ => rfl) (fun _ => rfl) (fun _ => rfl) (fun _ => rfl) (fun _ => rfl) (fun _ => rfl) (fun _ => rfl) (fun _ => rfl) (fun _ => rfl) (fun _ => rfl) (fun _ => rfl) (fun _ => rfl) (fun _ => rfl) (fun _ => rfl) (fun _ => rfl) (fun _ => rfl) (fun _ => rfl) (fun _ => rfl) (fun _ => rfl) (fun _ => rfl)) hw.2.1.2.2.1 hw.2.1.2.2.2
  exact kk H1 locs1 _ ⟨hw1, r1, hw.2.2.tr r2⟩
theorem mp_thrown (x : Int32) (hexec : p.tables.exec = Jvm.exec) (hb : c.code = cc) (ht : ∀ w ∈ GW, w.before args st = true) (hown : st.vm.findClass own = some mt.cls) (hw : Mk G A lm s m u0 u st H locs) (hlink : Cond.fieldLink own index "QuoteGraphModel" "thrown" "I" ∈ GW) (hdg : decode cc pc = .ok (.putfield index, 3))
    (kk : ∀ (H1 : Heap) (locs1 : List Loc) (u1 : WT), Mk G A lm s (mS_th m x) u0 u1 st H1 locs1 → W p l e R st mt args below meth c H1 locs1 cells slots Q (F0 mt (pc + 3) ls rest)) : W p l e R st mt args below meth c H locs cells slots Q (F0 mt pc ls (.int (x) :: .ref (lm 0) :: rest)) := by
  obtain ⟨ha, he⟩ := hw.2.1.1 0 (by omega)
  refine k_put (ty := .int) hexec hb ht i_M t_M t_M_ok n_M hown hw.1 ha he rfl 25 (by decide) hlink (fun _ h => h) rfl (by decide +kernel) rfl rfl (Nat.le_of_ble_eq_true rfl) hdg (fun H1 locs1 hw1 => ?_)
  obtain ⟨r1, r2⟩ := hw.2.1.put (s' := s) (m' := (mS_th m x)) (k := 0) (by omega) rfl (c22 (fun h => absurd rfl h) (fun _ => rfl) (fun _ => rfl) (fun _ => rfl) (fun _ => rfl) (fun _ => rfl) (fun _ => rfl) (fun _ => rfl) (fun _ => rfl) (fun _ => rfl) (fun _ => rfl) (fun _ => rfl) (fun _ => rfl) (fun _ => rfl) (fun _ => rfl) (fun _ => rfl) (fun _ => rfl) (fun _ => rfl) (fun _ => rfl) (fun _ => rfl) (fun _ => rfl) (fun _ => rfl)) hw.2.1.2.2.1 hw.2.1.2.2.2
  exact kk H1 locs1 _ ⟨hw1, r1, hw.2.2.tr r2⟩
theorem mp_trouble (x : Int32) (hexec : p.tables.exec = Jvm.exec) (hb : c.code = cc) (ht : ∀ w ∈ GW, w.before args st = true) (hown : st.vm.findClass own = some mt.cls) (hw : Mk G A lm s m u0 u st H locs) (hlink : Cond.fieldLink own index "QuoteGraphModel" "trouble" "I" ∈ GW) (hdg : decode cc pc = .ok (.putfield index, 3))
    (kk : ∀ (H1 : Heap) (locs1 : List Loc) (u1 : WT), Mk G A lm s (mS_tr m x) u0 u1 st H1 locs1 → W p l e R st mt args below meth c H1 locs1 cells slots Q (F0 mt (pc + 3) ls rest)) : W p l e R st mt args below meth c H locs cells slots Q (F0 mt pc ls (.int (x) :: .ref (lm 0) :: rest)) := by
  obtain ⟨ha, he⟩ := hw.2.1.1 0 (by omega)
  refine k_put (ty := .int) hexec hb ht i_M t_M t_M_ok n_M hown hw.1 ha he rfl 26 (by decide) hlink (fun _ h => h) rfl (by decide +kernel) rfl rfl (Nat.le_of_ble_eq_true rfl) hdg (fun H1 locs1 hw1 => ?_)
  obtain ⟨r1, r2⟩ := hw.2.1.put (s' := s) (m' := (mS_tr m x)) (k := 0) (by omega) rfl (c22 (fun h => absurd rfl h) (fun _ => rfl) (fun _ => rfl) (fun _ => rfl) (fun _ => rfl) (fun _ => rfl) (fun _ => rfl) (fun _ => rfl) (fun _ => rfl) (fun _ => rfl) (fun _ => rfl) (fun _ => rfl) (fun _ => rfl) (fun _ => rfl) (fun _ => rfl) (fun _ => rfl) (fun _ => rfl) (fun _ => rfl) (fun _ => rfl) (fun _ => rfl) (fun _ => rfl) (fun _ => rfl)) hw.2.1.2.2.1 hw.2.1.2.2.2
  exact kk H1 locs1 _ ⟨hw1, r1, hw.2.2.tr r2⟩
theorem mp_now (x : Int32) (hexec : p.tables.exec = Jvm.exec) (hb : c.code = cc) (ht : ∀ w ∈ GW, w.before args st = true) (hown : st.vm.findClass own = some mt.cls) (hw : Mk G A lm s m u0 u st H locs) (hlink : Cond.fieldLink own index "QuoteGraphModel" "now" "I" ∈ GW) (hdg : decode cc pc = .ok (.putfield index, 3))
    (kk : ∀ (H1 : Heap) (locs1 : List Loc) (u1 : WT), Mk G A lm s (mS_nw m x) u0 u1 st H1 locs1 → W p l e R st mt args below meth c H1 locs1 cells slots Q (F0 mt (pc + 3) ls rest)) : W p l e R st mt args below meth c H locs cells slots Q (F0 mt pc ls (.int (x) :: .ref (lm 0) :: rest)) := by
  obtain ⟨ha, he⟩ := hw.2.1.1 0 (by omega)
  refine k_put (ty := .int) hexec hb ht i_M t_M t_M_ok n_M hown hw.1 ha he rfl 27 (by decide) hlink (fun _ h => h) rfl (by decide +kernel) rfl rfl (Nat.le_of_ble_eq_true rfl) hdg (fun H1 locs1 hw1 => ?_)
  obtain ⟨r1, r2⟩ := hw.2.1.put (s' := s) (m' := (mS_nw m x)) (k := 0) (by omega) rfl (c22 (fun h => absurd rfl h) (fun _ => rfl) (fun _ => rfl) (fun _ => rfl) (fun _ => rfl) (fun _ => rfl) (fun _ => rfl) (fun _ => rfl) (fun _ => rfl) (fun _ => rfl) (fun _ => rfl) (fun _ => rfl) (fun _ => rfl) (fun _ => rfl) (fun _ => rfl) (fun _ => rfl) (fun _ => rfl) (fun _ => rfl) (fun _ => rfl) (fun _ => rfl) (fun _ => rfl) (fun _ => rfl)) hw.2.1.2.2.1 hw.2.1.2.2.2
  exact kk H1 locs1 _ ⟨hw1, r1, hw.2.2.tr r2⟩
theorem mp_spot (x : Int64) (hexec : p.tables.exec = Jvm.exec) (hb : c.code = cc) (ht : ∀ w ∈ GW, w.before args st = true) (hown : st.vm.findClass own = some mt.cls) (hw : Mk G A lm s m u0 u st H locs) (hlink : Cond.fieldLink own index "QuoteGraphModel" "spot" "J" ∈ GW) (hdg : decode cc pc = .ok (.putfield index, 3))
    (kk : ∀ (H1 : Heap) (locs1 : List Loc) (u1 : WT), Mk G A lm s (mS_sp m x) u0 u1 st H1 locs1 → W p l e R st mt args below meth c H1 locs1 cells slots Q (F0 mt (pc + 3) ls rest)) : W p l e R st mt args below meth c H locs cells slots Q (F0 mt pc ls (.long (x) :: .ref (lm 0) :: rest)) := by
  obtain ⟨ha, he⟩ := hw.2.1.1 0 (by omega)
  refine k_put (ty := .long) hexec hb ht i_M t_M t_M_ok n_M hown hw.1 ha he rfl 28 (by decide) hlink (fun _ h => h) rfl (by decide +kernel) rfl rfl (Nat.le_of_ble_eq_true rfl) hdg (fun H1 locs1 hw1 => ?_)
  obtain ⟨r1, r2⟩ := hw.2.1.put (s' := s) (m' := (mS_sp m x)) (k := 0) (by omega) rfl (c22 (fun h => absurd rfl h) (fun _ => rfl) (fun _ => rfl) (fun _ => rfl) (fun _ => rfl) (fun _ => rfl) (fun _ => rfl) (fun _ => rfl) (fun _ => rfl) (fun _ => rfl) (fun _ => rfl) (fun _ => rfl) (fun _ => rfl) (fun _ => rfl) (fun _ => rfl) (fun _ => rfl) (fun _ => rfl) (fun _ => rfl) (fun _ => rfl) (fun _ => rfl) (fun _ => rfl) (fun _ => rfl)) hw.2.1.2.2.1 hw.2.1.2.2.2
  exact kk H1 locs1 _ ⟨hw1, r1, hw.2.2.tr r2⟩
theorem mp_move (x : Int64) (hexec : p.tables.exec = Jvm.exec) (hb : c.code = cc) (ht : ∀ w ∈ GW, w.before args st = true) (hown : st.vm.findClass own = some mt.cls) (hw : Mk G A lm s m u0 u st H locs) (hlink : Cond.fieldLink own index "QuoteGraphModel" "move" "J" ∈ GW) (hdg : decode cc pc = .ok (.putfield index, 3))
    (kk : ∀ (H1 : Heap) (locs1 : List Loc) (u1 : WT), Mk G A lm s (mS_mv m x) u0 u1 st H1 locs1 → W p l e R st mt args below meth c H1 locs1 cells slots Q (F0 mt (pc + 3) ls rest)) : W p l e R st mt args below meth c H locs cells slots Q (F0 mt pc ls (.long (x) :: .ref (lm 0) :: rest)) := by
  obtain ⟨ha, he⟩ := hw.2.1.1 0 (by omega)
  refine k_put (ty := .long) hexec hb ht i_M t_M t_M_ok n_M hown hw.1 ha he rfl 29 (by decide) hlink (fun _ h => h) rfl (by decide +kernel) rfl rfl (Nat.le_of_ble_eq_true rfl) hdg (fun H1 locs1 hw1 => ?_)
  obtain ⟨r1, r2⟩ := hw.2.1.put (s' := s) (m' := (mS_mv m x)) (k := 0) (by omega) rfl (c22 (fun h => absurd rfl h) (fun _ => rfl) (fun _ => rfl) (fun _ => rfl) (fun _ => rfl) (fun _ => rfl) (fun _ => rfl) (fun _ => rfl) (fun _ => rfl) (fun _ => rfl) (fun _ => rfl) (fun _ => rfl) (fun _ => rfl) (fun _ => rfl) (fun _ => rfl) (fun _ => rfl) (fun _ => rfl) (fun _ => rfl) (fun _ => rfl) (fun _ => rfl) (fun _ => rfl) (fun _ => rfl)) hw.2.1.2.2.1 hw.2.1.2.2.2
  exact kk H1 locs1 _ ⟨hw1, r1, hw.2.2.tr r2⟩
theorem mp_knock (x : Int64) (hexec : p.tables.exec = Jvm.exec) (hb : c.code = cc) (ht : ∀ w ∈ GW, w.before args st = true) (hown : st.vm.findClass own = some mt.cls) (hw : Mk G A lm s m u0 u st H locs) (hlink : Cond.fieldLink own index "QuoteGraphModel" "knock" "J" ∈ GW) (hdg : decode cc pc = .ok (.putfield index, 3))
    (kk : ∀ (H1 : Heap) (locs1 : List Loc) (u1 : WT), Mk G A lm s (mS_kn m x) u0 u1 st H1 locs1 → W p l e R st mt args below meth c H1 locs1 cells slots Q (F0 mt (pc + 3) ls rest)) : W p l e R st mt args below meth c H locs cells slots Q (F0 mt pc ls (.long (x) :: .ref (lm 0) :: rest)) := by
  obtain ⟨ha, he⟩ := hw.2.1.1 0 (by omega)
  refine k_put (ty := .long) hexec hb ht i_M t_M t_M_ok n_M hown hw.1 ha he rfl 30 (by decide) hlink (fun _ h => h) rfl (by decide +kernel) rfl rfl (Nat.le_of_ble_eq_true rfl) hdg (fun H1 locs1 hw1 => ?_)
  obtain ⟨r1, r2⟩ := hw.2.1.put (s' := s) (m' := (mS_kn m x)) (k := 0) (by omega) rfl (c22 (fun h => absurd rfl h) (fun _ => rfl) (fun _ => rfl) (fun _ => rfl) (fun _ => rfl) (fun _ => rfl) (fun _ => rfl) (fun _ => rfl) (fun _ => rfl) (fun _ => rfl) (fun _ => rfl) (fun _ => rfl) (fun _ => rfl) (fun _ => rfl) (fun _ => rfl) (fun _ => rfl) (fun _ => rfl) (fun _ => rfl) (fun _ => rfl) (fun _ => rfl) (fun _ => rfl) (fun _ => rfl)) hw.2.1.2.2.1 hw.2.1.2.2.2
  exact kk H1 locs1 _ ⟨hw1, r1, hw.2.2.tr r2⟩
theorem mp_discount (x : Int64) (hexec : p.tables.exec = Jvm.exec) (hb : c.code = cc) (ht : ∀ w ∈ GW, w.before args st = true) (hown : st.vm.findClass own = some mt.cls) (hw : Mk G A lm s m u0 u st H locs) (hlink : Cond.fieldLink own index "QuoteGraphModel" "discount" "J" ∈ GW) (hdg : decode cc pc = .ok (.putfield index, 3))
    (kk : ∀ (H1 : Heap) (locs1 : List Loc) (u1 : WT), Mk G A lm s (mS_dc m x) u0 u1 st H1 locs1 → W p l e R st mt args below meth c H1 locs1 cells slots Q (F0 mt (pc + 3) ls rest)) : W p l e R st mt args below meth c H locs cells slots Q (F0 mt pc ls (.long (x) :: .ref (lm 0) :: rest)) := by
  obtain ⟨ha, he⟩ := hw.2.1.1 0 (by omega)
  refine k_put (ty := .long) hexec hb ht i_M t_M t_M_ok n_M hown hw.1 ha he rfl 31 (by decide) hlink (fun _ h => h) rfl (by decide +kernel) rfl rfl (Nat.le_of_ble_eq_true rfl) hdg (fun H1 locs1 hw1 => ?_)
  obtain ⟨r1, r2⟩ := hw.2.1.put (s' := s) (m' := (mS_dc m x)) (k := 0) (by omega) rfl (c22 (fun h => absurd rfl h) (fun _ => rfl) (fun _ => rfl) (fun _ => rfl) (fun _ => rfl) (fun _ => rfl) (fun _ => rfl) (fun _ => rfl) (fun _ => rfl) (fun _ => rfl) (fun _ => rfl) (fun _ => rfl) (fun _ => rfl) (fun _ => rfl) (fun _ => rfl) (fun _ => rfl) (fun _ => rfl) (fun _ => rfl) (fun _ => rfl) (fun _ => rfl) (fun _ => rfl) (fun _ => rfl)) hw.2.1.2.2.1 hw.2.1.2.2.2
  exact kk H1 locs1 _ ⟨hw1, r1, hw.2.2.tr r2⟩
end MRows

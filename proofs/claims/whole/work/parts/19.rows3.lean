/-! 19.rows3: the engines' own cells -/
section SRows3
variable {p : Program} {l : Launch} {e : Env} {R : Room} {st : State} {m : MethodId} {args : Array Value} {below : List Frame} {meth : Method} {c : Code} {H : Heap} {locs : List Loc} {cells slots : Nat} {Q : State → Prop}
variable {cc : ByteArray} {pc : Nat} {ls : Array Slot} {rest : List Value} {G : GT} {A : Nat → Prop} {u0 u : WT} {lc : Nat → Nat} {s : QS} {z : ZS} {j n0 index : Nat} {own ref : String}
theorem kg_La (k : Nat) (hk : k < 3) {v : Value} (hexec : p.tables.exec = Jvm.exec) (hb : c.code = cc) (ht : ∀ w ∈ GW, w.before args st = true) (hown : st.vm.findClass own = some m.cls) (hw : Sk G A lc s z n0 u0 u st H locs) (hlink : Cond.fieldLink own index ref (F_La k).2.1 (F_La k).2.2.1 ∈ GW) (hdec : (F_La k).1 = ref) (hv : ([.int 0, .int 0, .ref (lc 3)] : List Value)[k]? = some v) (hdg : decode cc pc = .ok (.getfield index, 3))
    (kk : W p l e R st m args below meth c H locs cells slots Q (F0 m (pc + 3) ls (v :: rest))) : W p l e R st m args below meth c H locs cells slots Q (F0 m pc ls (.ref (lc 5) :: rest)) := by
  obtain ⟨ha, he⟩ := hw.2.1.at (liv_s (k := 5) (by omega))
  exact k_get hexec hb ht i_La hown hw.1 ha he rfl k hk hlink (by rw [hdec]; exact fun _ h => h) hv hdg kk
theorem kr_La (hw : Sk G A lc s z n0 u0 u st H locs) : ∃ cell : Cell, H[lc 5]? = some cell ∧ cell.vm.isStatics = false ∧ st.vm.findClass R_La = some cell.cls := by
  obtain ⟨ha, he⟩ := hw.2.1.at (liv_s (k := 5) (by omega))
  exact k_recv hw.1 ha he rfl
theorem kg_Pa (k : Nat) (hk : k < 3) {v : Value} (hexec : p.tables.exec = Jvm.exec) (hb : c.code = cc) (ht : ∀ w ∈ GW, w.before args st = true) (hown : st.vm.findClass own = some m.cls) (hw : Sk G A lc s z n0 u0 u st H locs) (hlink : Cond.fieldLink own index ref (F_Pa k).2.1 (F_Pa k).2.2.1 ∈ GW) (hdec : (F_Pa k).1 = ref) (hv : ([.int 0, .int 6, .long (z_dw z)] : List Value)[k]? = some v) (hdg : decode cc pc = .ok (.getfield index, 3))
    (kk : W p l e R st m args below meth c H locs cells slots Q (F0 m (pc + 3) ls (v :: rest))) : W p l e R st m args below meth c H locs cells slots Q (F0 m pc ls (.ref (lc 6) :: rest)) := by
  obtain ⟨ha, he⟩ := hw.2.1.at (liv_s (k := 6) (by omega))
  exact k_get hexec hb ht i_Pa hown hw.1 ha he rfl k hk hlink (by rw [hdec]; exact fun _ h => h) hv hdg kk
theorem kr_Pa (hw : Sk G A lc s z n0 u0 u st H locs) : ∃ cell : Cell, H[lc 6]? = some cell ∧ cell.vm.isStatics = false ∧ st.vm.findClass R_Pa = some cell.cls := by
  obtain ⟨ha, he⟩ := hw.2.1.at (liv_s (k := 6) (by omega))
  exact k_recv hw.1 ha he rfl
theorem kg_Ne (k : Nat) (hk : k < 3) {v : Value} (hexec : p.tables.exec = Jvm.exec) (hb : c.code = cc) (ht : ∀ w ∈ GW, w.before args st = true) (hown : st.vm.findClass own = some m.cls) (hw : Sk G A lc s z n0 u0 u st H locs) (hlink : Cond.fieldLink own index ref (F_Ne k).2.1 (F_Ne k).2.2.1 ∈ GW) (hdec : (F_Ne k).1 = ref) (hv : ([.int 1, .int 20, .ref (lc 4)] : List Value)[k]? = some v) (hdg : decode cc pc = .ok (.getfield index, 3))
    (kk : W p l e R st m args below meth c H locs cells slots Q (F0 m (pc + 3) ls (v :: rest))) : W p l e R st m args below meth c H locs cells slots Q (F0 m pc ls (.ref (lc 7) :: rest)) := by
  obtain ⟨ha, he⟩ := hw.2.1.at (liv_s (k := 7) (by omega))
  exact k_get hexec hb ht i_Ne hown hw.1 ha he rfl k hk hlink (by rw [hdec]; exact fun _ h => h) hv hdg kk
theorem kr_Ne (hw : Sk G A lc s z n0 u0 u st H locs) : ∃ cell : Cell, H[lc 7]? = some cell ∧ cell.vm.isStatics = false ∧ st.vm.findClass R_Ne = some cell.cls := by
  obtain ⟨ha, he⟩ := hw.2.1.at (liv_s (k := 7) (by omega))
  exact k_recv hw.1 ha he rfl
theorem ka_lr {i : Int32} {k : Nat} (hi : i = nI k) (hk : k < 21) (hexec : p.tables.exec = Jvm.exec) (hb : c.code = cc) (hw : Sk G A lc s z n0 u0 u st H locs) (hdg : decode cc pc = .ok (.laload, 1))
    (kk : W p l e R st m args below meth c H locs cells slots Q (F0 m (pc + 1) ls (.long (z_lr z k) :: rest))) : W p l e R st m args below meth c H locs cells slots Q (F0 m pc ls (.int i :: .ref (lc 3) :: rest)) := by
  obtain ⟨ha, he⟩ := hw.2.1.at (liv_s (k := 3) (by omega))
  subst hi
  refine k_lald hexec hb hw.1 ha he (vp_in_nI hk (by omega)) hdg ?_
  rw [nI_clamp (by omega)]
  exact kk
theorem kp_lr {i : Int32} {x : Int64} {k : Nat} (hi : i = nI k) (hk : k < 21) (hexec : p.tables.exec = Jvm.exec) (hb : c.code = cc) (hw : Sk G A lc s z n0 u0 u st H locs) (hdg : decode cc pc = .ok (.lastore, 1))
    (kk : ∀ (H1 : Heap) (locs1 : List Loc) (u1 : WT), Sk G A lc s (zS_lr z (vp_updL (z_lr z) k x)) n0 u0 u1 st H1 locs1 → W p l e R st m args below meth c H1 locs1 cells slots Q (F0 m (pc + 1) ls rest)) : W p l e R st m args below meth c H locs cells slots Q (F0 m pc ls (.long x :: .int i :: .ref (lc 3) :: rest)) := by
  obtain ⟨ha, he⟩ := hw.2.1.at (liv_s (k := 3) (by omega))
  subst hi
  refine k_last hexec hb hw.1 ha he (vp_in_nI hk (by omega)) hdg (fun H1 locs1 hw1 => ?_)
  rw [nI_clamp (by omega)] at hw1
  have r := hw.2.1.put (s' := s) (z' := zS_lr z (vp_updL (z_lr z) k x)) (liv_s (k := 3) (by omega)) (x := .inl (G.2.1 0, 21, lgs (vp_updL (z_lr z) k x))) rfl hw.2.1.1 rfl (fun i _ hi => by unfold cQ; simp only [hi, if_false]; rfl) (fun j hj k hk => hw.2.1.2.2.2 j hj k hk)
  exact kk H1 locs1 _ ⟨hw1, r.1, hw.2.2.1.tr (by rw [← hw.2.2.2]; exact r.2), hw.2.2.2⟩
theorem ka_nr {i : Int32} {k : Nat} (hi : i = nI k) (hk : k < 41) (hexec : p.tables.exec = Jvm.exec) (hb : c.code = cc) (hw : Sk G A lc s z n0 u0 u st H locs) (hdg : decode cc pc = .ok (.laload, 1))
    (kk : W p l e R st m args below meth c H locs cells slots Q (F0 m (pc + 1) ls (.long (z_nr z k) :: rest))) : W p l e R st m args below meth c H locs cells slots Q (F0 m pc ls (.int i :: .ref (lc 4) :: rest)) := by
  obtain ⟨ha, he⟩ := hw.2.1.at (liv_s (k := 4) (by omega))
  subst hi
  refine k_lald hexec hb hw.1 ha he (vp_in_nI hk (by omega)) hdg ?_
  rw [nI_clamp (by omega)]
  exact kk
theorem kp_nr {i : Int32} {x : Int64} {k : Nat} (hi : i = nI k) (hk : k < 41) (hexec : p.tables.exec = Jvm.exec) (hb : c.code = cc) (hw : Sk G A lc s z n0 u0 u st H locs) (hdg : decode cc pc = .ok (.lastore, 1))
    (kk : ∀ (H1 : Heap) (locs1 : List Loc) (u1 : WT), Sk G A lc s (zS_nr z (vp_updL (z_nr z) k x)) n0 u0 u1 st H1 locs1 → W p l e R st m args below meth c H1 locs1 cells slots Q (F0 m (pc + 1) ls rest)) : W p l e R st m args below meth c H locs cells slots Q (F0 m pc ls (.long x :: .int i :: .ref (lc 4) :: rest)) := by
  obtain ⟨ha, he⟩ := hw.2.1.at (liv_s (k := 4) (by omega))
  subst hi
  refine k_last hexec hb hw.1 ha he (vp_in_nI hk (by omega)) hdg (fun H1 locs1 hw1 => ?_)
  rw [nI_clamp (by omega)] at hw1
  have r := hw.2.1.put (s' := s) (z' := zS_nr z (vp_updL (z_nr z) k x)) (liv_s (k := 4) (by omega)) (x := .inl (G.2.1 0, 41, lgs (vp_updL (z_nr z) k x))) rfl hw.2.1.1 rfl (fun i _ hi => by unfold cQ; simp only [hi, if_false]; rfl) (fun j hj k hk => hw.2.1.2.2.2 j hj k hk)
  exact kk H1 locs1 _ ⟨hw1, r.1, hw.2.2.1.tr (by rw [← hw.2.2.2]; exact r.2), hw.2.2.2⟩
theorem kp_draw (x : Int64) (hexec : p.tables.exec = Jvm.exec) (hb : c.code = cc) (ht : ∀ w ∈ GW, w.before args st = true) (hown : st.vm.findClass own = some m.cls) (hw : Sk G A lc s z n0 u0 u st H locs) (hlink : Cond.fieldLink own index "QuoteGraph$Paths" "draw" "J" ∈ GW) (hdg : decode cc pc = .ok (.putfield index, 3))
    (kk : ∀ (H1 : Heap) (locs1 : List Loc) (u1 : WT), Sk G A lc s (zS_dw z x) n0 u0 u1 st H1 locs1 → W p l e R st m args below meth c H1 locs1 cells slots Q (F0 m (pc + 3) ls rest)) : W p l e R st m args below meth c H locs cells slots Q (F0 m pc ls (.long x :: .ref (lc 6) :: rest)) := by
  obtain ⟨ha, he⟩ := hw.2.1.at (liv_s (k := 6) (by omega))
  refine k_put hexec hb ht i_Pa t_Pa t_Pa_ok n_Pa hown hw.1 ha he rfl 2 (by decide) hlink (fun _ h => h) rfl (ty := .long) (by decide +kernel) rfl rfl (Nat.le_of_ble_eq_true rfl) hdg (fun H1 locs1 hw1 => ?_)
  have r := hw.2.1.put (s' := s) (z' := zS_dw z x) (liv_s (k := 6) (by omega)) (x := .inr (6, [.int 0, .int 6, .long x])) rfl hw.2.1.1 rfl (fun i _ hi => by unfold cQ; simp only [hi, if_false]; rfl) (fun j hj k hk => hw.2.1.2.2.2 j hj k hk)
  exact kk H1 locs1 _ ⟨hw1, r.1, hw.2.2.1.tr (by rw [← hw.2.2.2]; exact r.2), hw.2.2.2⟩
end SRows3
/-- the lattice's last row, k places of it -/
def lat0 (s : QS) (o : Nat) (f : Nat → Int64) : Nat → (Nat → Int64)
  | 0 => f
  | k + 1 => vp_updL (lat0 s o f k) k (oPay s o (oP s o (2 * nI k - q_sp s o)))
/-- ROUNDED(D * y), in the numbers of the class -/
def lstp (s : QS) (o : Nat) (D a b : Int64) : Int64 := rndL (D * ((q_ch s o).toInt64 * a + (16 - q_ch s o).toInt64 * b)) 14
/-- one time back, k places of it; none: TOO LARGE -/
def lsb (s : QS) (o : Nat) (D : Int64) (t : Int32) (f : Nat → Int64) : Nat → Option (Nat → Int64)
  | 0 => some f
  | k + 1 => match lsb s o D t f k with
    | none => none
    | some g => if bigL (lstp s o D (g (k + 1)) (g k)) = true then none else some (vp_updL g k (oHeld s o (oP s o (2 * nI k - t)) (lstp s o D (g (k + 1)) (g k))))
theorem lsb_none {s : QS} {o : Nat} {D : Int64} {t : Int32} {f : Nat → Int64} {k : Nat} (h : lsb s o D t f k = none) : ∀ d, lsb s o D t f (k + d) = none
  | 0 => h
  | d + 1 => by show (match lsb s o D t f (k + d) with | none => none | some g => _) = none; rw [lsb_none h d]
/-- i times back from N -/
def lts (s : QS) (o : Nat) (D : Int64) (N : Nat) (f : Nat → Int64) : Nat → Option (Nat → Int64)
  | 0 => some f
  | i + 1 => match lts s o D N f i with
    | none => none
    | some g => lsb s o D (nI (N - 1 - i)) g (N - i)
theorem lts_none {s : QS} {o : Nat} {D : Int64} {N : Nat} {f : Nat → Int64} {k : Nat} (h : lts s o D N f k = none) : ∀ d, lts s o D N f (k + d) = none
  | 0 => h
  | d + 1 => by show (match lts s o D N f (k + d) with | none => none | some g => _) = none; rw [lts_none h d]
def latV (s : QS) (o : Nat) (D : Int64) (N : Nat) (f : Nat → Int64) : Option Int64 := (lts s o D N (lat0 s o f (N + 1)) N).map (fun g => g 0)

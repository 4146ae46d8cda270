/-! 57.law0: the law's own world: the object, the reference, two rows -/
abbrev RL : Room := { frames := 2048, cells := 601024, slots := 7293034, locals := 84000 }
theorem rM.ext {G : GT} {lm : Nat → Nat} {s : QS} {m : MS} {u u' : WT} (h : rM G lm s m u) (he : ∀ i, i < 22 → lm i ∈ u'.1 ∧ u'.2 (lm i) = u.2 (lm i)) : rM G lm s m u' := by
  obtain ⟨h1, h2, h3, h4⟩ := h
  exact ⟨fun k hk => ⟨(he k hk).1, (he k hk).2.trans (h1 k hk).2⟩, h2, h3, h4⟩
theorem rQ.fM {G : GT} {lc lm : Nat → Nat} {s : QS} {z : ZS} {u u' : WT} (h : rQ G lc s z u) (hf : fM lm u u') (hne : ∀ k, liv (q_n s) k → ∀ i, i < 22 → lc k ≠ lm i) : rQ G lc s z u' := by
  obtain ⟨h0, h1, h2, h3⟩ := h
  refine ⟨h0, fun k hk => ?_, h2, h3⟩
  obtain ⟨a1, a2⟩ := h1 k hk
  obtain ⟨b1, b2⟩ := hf (lc k) a1 (fun i hi e => hne k hk i hi e.symm)
  exact ⟨b1, b2.trans a2⟩
/-- the class at S, the reference at S2 -/
def LW (G : GT) (lc lm : Nat → Nat) (aL aD : Nat) (S S2 : QS) (m : MS) (f : Nat → Int64) (g : Nat → UInt64) (u : WT) : Prop := ∃ z, rQ G lc S z u ∧ rM G lm S2 m u ∧ (aL ∈ u.1 ∧ u.2 aL = oL G f) ∧ (aD ∈ u.1 ∧ u.2 aD = oD G g) ∧ (∀ k, liv (q_n S) k → lc k ≠ aL ∧ lc k ≠ aD ∧ ∀ i, i < 22 → lc k ≠ lm i) ∧ (∀ i, i < 22 → lm i ≠ aL ∧ lm i ≠ aD) ∧ aL ≠ aD
theorem LW.hL {G : GT} {lc lm : Nat → Nat} {aL aD : Nat} {S S2 S' : QS} {m : MS} {f : Nat → Int64} {g : Nat → UInt64} {u u1 : WT} (h : LW G lc lm aL aD S S2 m f g u) {f' : Nat → Int64} (hf : u1.2 aL = oL G f') (hp : LPq G lc S aL u S' u1) : ∃ lc', lc' 0 = lc 0 ∧ LW G lc' lm aL aD S' S2 m f' g u1 := by
  obtain ⟨z, h1, h2, h3, h4, h5, h6, h7⟩ := h
  obtain ⟨lc', z', p1, p2, p3⟩ := hp
  have qL := p3 aL h3.1 (fun k hk => (h5 k hk).1)
  have qD := p3 aD h4.1 (fun k hk => (h5 k hk).2.1)
  have qM := fun i (hi : i < 22) => p3 (lm i) (h2.1 i hi).1 (fun k hk => (h5 k hk).2.2 i hi)
  refine ⟨lc', p1, z', p2, h2.ext (fun i hi => ⟨(qM i hi).1.1, (qM i hi).1.2 (h6 i hi).1⟩), ⟨qL.1.1, hf⟩, ⟨qD.1.1, (qD.1.2 (Ne.symm h7)).trans h4.2⟩, fun k hk => ⟨qL.2 k hk, qD.2 k hk, fun i hi => (qM i hi).2 k hk⟩, h6, h7⟩
theorem LW.hD {G : GT} {lc lm : Nat → Nat} {aL aD : Nat} {S S2 S' : QS} {m : MS} {f : Nat → Int64} {g : Nat → UInt64} {u u1 : WT} (h : LW G lc lm aL aD S S2 m f g u) {g' : Nat → UInt64} (hf : u1.2 aD = oD G g') (hp : LPq G lc S aD u S' u1) : ∃ lc', lc' 0 = lc 0 ∧ LW G lc' lm aL aD S' S2 m f g' u1 := by
  obtain ⟨z, h1, h2, h3, h4, h5, h6, h7⟩ := h
  obtain ⟨lc', z', p1, p2, p3⟩ := hp
  have qL := p3 aL h3.1 (fun k hk => (h5 k hk).1)
  have qD := p3 aD h4.1 (fun k hk => (h5 k hk).2.1)
  have qM := fun i (hi : i < 22) => p3 (lm i) (h2.1 i hi).1 (fun k hk => (h5 k hk).2.2 i hi)
  refine ⟨lc', p1, z', p2, h2.ext (fun i hi => ⟨(qM i hi).1.1, (qM i hi).1.2 (h6 i hi).2⟩), ⟨qL.1.1, (qL.1.2 h7).trans h3.2⟩, ⟨qD.1.1, hf⟩, fun k hk => ⟨qL.2 k hk, qD.2 k hk, fun i hi => (qM i hi).2 k hk⟩, h6, h7⟩
theorem LW.hV {G : GT} {lc lm : Nat → Nat} {aL aD : Nat} {S S2 S' : QS} {m : MS} {f : Nat → Int64} {g : Nat → UInt64} {u u1 : WT} (h : LW G lc lm aL aD S S2 m f g u) (hp : gQ G lc S u S' u1) : ∃ lc', lc' 0 = lc 0 ∧ LW G lc' lm aL aD S' S2 m f g u1 := by
  have h3 := h
  obtain ⟨z, h1, h2, h3, h4, h5, h6, h7⟩ := h3
  exact h.hL ((hp.at h3.1 (fun k hk => (h5 k hk).1)).2.trans h3.2) (hp.lp aL)
theorem LW.mm {G : GT} {lc lm : Nat → Nat} {aL aD : Nat} {S S2 S3 : QS} {m m' : MS} {f : Nat → Int64} {g : Nat → UInt64} {u u1 : WT} (h : LW G lc lm aL aD S S2 m f g u) (hr : rM G lm S3 m' u1) (hf : fM lm u u1) : LW G lc lm aL aD S S3 m' f g u1 := by
  obtain ⟨z, h1, h2, h3, h4, h5, h6, h7⟩ := h
  have qL := hf aL h3.1 (fun i hi => (h6 i hi).1)
  have qD := hf aD h4.1 (fun i hi => (h6 i hi).2)
  exact ⟨z, h1.fM hf (fun k hk i hi => (h5 k hk).2.2 i hi), hr, ⟨qL.1, qL.2.trans h3.2⟩, ⟨qD.1, qD.2.trans h4.2⟩, h5, h6, h7⟩
section LRows
variable {p : Program} {l : Launch} {e : Env} {R : Room} {st : State} {m : MethodId} {args : Array Value} {below : List Frame} {meth : Method} {c : Code} {H : Heap} {locs : List Loc} {cells slots : Nat} {Q : State → Prop}
variable {cc : ByteArray} {pc : Nat} {ls : Array Slot} {rest : List Value} {G : GT} {A : Nat → Prop} {u : WT} {b L k : Nat} {xs : Nat → Int32}
theorem l_ld {i : Int32} (hi : i = nI k) (hk : k < L) (hL : L ≤ 3072) (hexec : p.tables.exec = Jvm.exec) (hb : c.code = cc) (hX : va_X b L xs st st.heap) (hbl : b < st.heap.size) (hbA : ¬ A b) (hw : Wk G A u st H locs) (hdg : decode cc pc = .ok (.iaload, 1))
    (kk : W p l e R st m args below meth c H locs cells slots Q (F0 m (pc + 1) ls (.int (xs k) :: rest))) : W p l e R st m args below meth c H locs cells slots Q (F0 m pc ls (.int i :: .ref b :: rest)) := by
  subst hi
  refine va_sld hexec hb hX hbl hbA hw.2.2.2.1 (vp_in_nI hk (by omega)) hdg ?_
  rw [nI_clamp (by omega)]
  exact kk
theorem l_len (hexec : p.tables.exec = Jvm.exec) (hb : c.code = cc) (hX : va_X b L xs st st.heap) (hbl : b < st.heap.size) (hbA : ¬ A b) (hw : Wk G A u st H locs) (hdg : decode cc pc = .ok (.arraylength, 1))
    (kk : W p l e R st m args below meth c H locs cells slots Q (F0 m (pc + 1) ls (.int (nI L) :: rest))) : W p l e R st m args below meth c H locs cells slots Q (F0 m pc ls (.ref b :: rest)) := va_slen hexec hb hX hbl hbA hw.2.2.2.1 hdg kk
theorem l_oL {aL : Nat} {f : Nat → Int64} (hexec : p.tables.exec = Jvm.exec) (hb : c.code = cc) (hw : Wk G A u st H locs) (ha : aL ∈ u.1) (he : u.2 aL = oL G f) (hdg : decode cc pc = .ok (.laload, 1))
    (kk : W p l e R st m args below meth c H locs cells slots Q (F0 m (pc + 1) ls (.long (f 0) :: rest))) : W p l e R st m args below meth c H locs cells slots Q (F0 m pc ls (.int (0 : Int32) :: .ref aL :: rest)) := k_lald hexec hb hw ha he (by unfold vp_in; decide) hdg kk
theorem l_oD {aD : Nat} {f : Nat → UInt64} (hexec : p.tables.exec = Jvm.exec) (hb : c.code = cc) (hw : Wk G A u st H locs) (ha : aD ∈ u.1) (he : u.2 aD = oD G f) (hdg : decode cc pc = .ok (.daload, 1))
    (kk : W p l e R st m args below meth c H locs cells slots Q (F0 m (pc + 1) ls (.double (f 0) :: rest))) : W p l e R st m args below meth c H locs cells slots Q (F0 m pc ls (.int (0 : Int32) :: .ref aD :: rest)) := k_dald hexec hb hw ha he (by unfold vp_in; decide) hdg kk
end LRows
theorem lr_Q {G : GT} {A : Nat → Prop} {u : WT} {st : State} {H : Heap} {locs : List Loc} {lc : Nat → Nat} {s : QS} {z : ZS} (hw : Wk G A u st H locs) (hR : rQ G lc s z u) : ∃ cell : Cell, H[lc 0]? = some cell ∧ cell.vm.isStatics = false ∧ st.vm.findClass "QuoteGraph" = some cell.cls := by
  obtain ⟨ha, he⟩ := hR.at (liv_s (k := 0) (by omega))
  exact k_recv hw ha he rfl
theorem lr_M {G : GT} {A : Nat → Prop} {u : WT} {st : State} {H : Heap} {locs : List Loc} {lm : Nat → Nat} {s : QS} {m : MS} (hw : Wk G A u st H locs) (hR : rM G lm s m u) : ∃ cell : Cell, H[lm 0]? = some cell ∧ cell.vm.isStatics = false ∧ st.vm.findClass "QuoteGraphModel" = some cell.cls := by
  obtain ⟨ha, he⟩ := hR.1 0 (by omega)
  exact k_recv hw ha he rfl
theorem nI_6 (j k : Nat) : nI (6 * j) + nI k = nI (6 * j + k) := nI_add _ _

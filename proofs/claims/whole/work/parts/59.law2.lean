/-! 59.law2: the law's end, the law's loop -/
def R_law : String := "QuoteGraphLaw"
def lw_P (b : Addr) (xs : List Int32) (args : Array Value) (s : State) : Prop := args = #[.ref b] ∧ s.IntsAt b xs ∧ xs.length ≤ 3072 ∧ (Jvm.Cond.and given_1 narrow_1).before args s = true
def lw_Q (_ : Array Value) (s : State) (o : Outcome) (t : State) : Prop := o = .returned (some (.int 1)) ∧ Framed s o t [] 601024 7293034
def lw_Z (below : List Frame) (a : Array Value) (s : State) : State → Prop := fun t => ∃ o, t.status = .running ∧ Ended t below o ∧ lw_Q a s o t
/-- the law's own end, with 1 on the stack, nothing written that was there before, its room as the claim has it -/
theorem lw_ret {p : Program} {l : Launch} {e : Env} {s : State} {m : MethodId} {below : List Frame} {meth : Method} {c : Code} {b : Nat} (hx : p.tables.exec = Jvm.exec) (hb : c.code = code) (hr : meth.sig.returnType = ret) (hlocks : meth.locks = false) {pc : Nat} {H : Heap} {ls : Array Slot} (hdg : decode code pc = .ok (.ireturn, 1)) : W p l e room_1 s m #[Value.ref b] below meth c H [] 601024 7293034 (lw_Z below #[Value.ref b] s) (F0 m pc ls [.int 1]) := by
  intro T hT X
  obtain ⟨fs, hret, hrun, hended, hW, hframe⟩ := X.leave (v := some (.int 1)) (hlocks := hlocks) (fun h => by rw [hr] at h; cases h)
  have hmeth' : T.vm.method? m = some meth := X.method'
  refine ⟨T.setFrames fs, ?_, .returned (some (.int 1)), hrun, hended, rfl, ⟨_, rfl⟩, hW, hframe⟩
  jvm_step X.here [X.here.top, hx, hb, hdg, hmeth', hr, ret, narrow_b1]
  (try refine ⟨rfl, ?_⟩); (try refine ⟨rfl, ?_⟩)
  first | (intro acts; rw [hret _ acts rfl rfl rfl]) | rw [hret _ _ rfl rfl rfl]
  exact Steps.refl _
/-- what holds at the law's entry: the machine, the code, the tables' words (any of lw_tbl by 'hts w (by decide +kernel)'), the script of L ints xs at the cell b, what the Statement gives of the start (any of its parts by flat_of_before) -/
def lw_At (p : Program) (s : State) (m : MethodId) (meth : Method) (c : Code) (b L : Nat) (xs : Nat → Int32) : Prop :=
  p.tables.exec = Jvm.exec ∧ c.code = code ∧ meth.sig.returnType = ret ∧ c.maxLocals = 9 ∧ s.vm.findClass R_law = some m.cls ∧ (∀ w ∈ lw_tbl, w.before #[Value.ref b] s = true) ∧ va_X b L xs s s.heap ∧ b < s.heap.size ∧ meth.locks = false ∧ (Jvm.Cond.and given_1 narrow_1).before #[Value.ref b] s = true
theorem sw_out13 {x : Int32} (h0 : ¬ x = 0) (h1 : ¬ x = 1) (h2 : ¬ x = 2) (h3 : ¬ x = 3) (h4 : ¬ x = 4) (h5 : ¬ x = 5) (h6 : ¬ x = 6) (h7 : ¬ x = 7) (h8 : ¬ x = 8) (h9 : ¬ x = 9) (h10 : ¬ x = 10) (h11 : ¬ x = 11) (h12 : ¬ x = 12) : x.toInt < 0 ∨ 12 < x.toInt := by
  have a0 : x.toInt ≠ 0 := fun h => h0 (Int32.toInt_inj.mp (h.trans (by decide)))
  have a1 : x.toInt ≠ 1 := fun h => h1 (Int32.toInt_inj.mp (h.trans (by decide)))
  have a2 : x.toInt ≠ 2 := fun h => h2 (Int32.toInt_inj.mp (h.trans (by decide)))
  have a3 : x.toInt ≠ 3 := fun h => h3 (Int32.toInt_inj.mp (h.trans (by decide)))
  have a4 : x.toInt ≠ 4 := fun h => h4 (Int32.toInt_inj.mp (h.trans (by decide)))
  have a5 : x.toInt ≠ 5 := fun h => h5 (Int32.toInt_inj.mp (h.trans (by decide)))
  have a6 : x.toInt ≠ 6 := fun h => h6 (Int32.toInt_inj.mp (h.trans (by decide)))
  have a7 : x.toInt ≠ 7 := fun h => h7 (Int32.toInt_inj.mp (h.trans (by decide)))
  have a8 : x.toInt ≠ 8 := fun h => h8 (Int32.toInt_inj.mp (h.trans (by decide)))
  have a9 : x.toInt ≠ 9 := fun h => h9 (Int32.toInt_inj.mp (h.trans (by decide)))
  have a10 : x.toInt ≠ 10 := fun h => h10 (Int32.toInt_inj.mp (h.trans (by decide)))
  have a11 : x.toInt ≠ 11 := fun h => h11 (Int32.toInt_inj.mp (h.trans (by decide)))
  have a12 : x.toInt ≠ 12 := fun h => h12 (Int32.toInt_inj.mp (h.trans (by decide)))
  omega
theorem lt_6 {L j : Nat} (hL : L ≤ 3072) (hj : j ≤ 512) : nI L - 6 < nI (6 * j) ↔ L < 6 * j + 6 := by
  rw [Int32.lt_iff_toInt_lt, show (6 : Int32) = nI 6 from rfl, nI_dif (by omega) (by omega), nI_toInt (by omega)]
  omega
set_option maxHeartbeats 4000000 in
set_option maxRecDepth 100000 in
theorem law_loop {p : Program} {l : Launch} {e : Env} {st : State} {m : MethodId} {below : List Frame} {meth : Method} {c : Code} {G : GT} {b L : Nat} {xs : Nat → Int32} (hl9 : l.stackTraces = false) (hx : p.tables.exec = Jvm.exec) (hb : c.code = code) (hr : meth.sig.returnType = ret) (hlocks : meth.locks = false) (hml : c.maxLocals = 9) (hown : st.vm.findClass "QuoteGraphLaw" = some m.cls) (ht : ∀ w ∈ GW, w.before #[Value.ref b] st = true) (hX : va_X b L xs st st.heap) (hbl : b < st.heap.size) (hL : L ≤ 3072) {lm : Nat → Nat} {aL aD : Nat} : ∀ (d tj : Nat) (lc : Nat → Nat) (S : QS) (M : MS) (f : Nat → Int64) (g : Nat → UInt64) (u : WT) (ls : Array Slot) (H : Heap) (locs : List Loc), tj + d = L / 6 → inv S → LW G lc lm aL aD S S M f g u → Wk G (fun q : Nat => st.heap.size ≤ q) u st H locs → lv_has ls 9 [(0, .ref b), (1, .ref (lc 0)), (2, .ref (lm 0)), (3, .ref aL), (4, .ref aD), (5, .int (nI (6 * tj)))] → W p l e RL st m #[Value.ref b] below meth c H locs (32 + 3 * tj) (666 + 25 * tj) (lw_Z below #[Value.ref b] st) (F0 m 28 ls []) := by
  have hbA : ¬ (fun q : Nat => st.heap.size ≤ q) b := Nat.not_le.mpr hbl
  intro d
  induction d with
  | zero =>
    intro tj lc S M f g u ls H locs hd hi hLW hw hl
    refine lv_iload hx hb d_L_law_28 (lv_at hl 5 rfl) ?_
    refine lv_aload_n hx hb d_L_law_30 rfl (lv_at hl 0 rfl) ?_
    refine l_len hx hb hX hbl hbA hw d_L_law_31 ?_
    refine lv_bipush (v := 6) hx hb d_L_law_32 (by decide) ?_
    refine lv_isub hx hb d_L_law_34 ?_
    refine lv_icmp_gt (tgt := 1136) hx hb d_L_law_35 (by decide) (fun c1 => ?_) (fun c1 => ?_)
    · refine lv_iconst (v := 1) hx hb d_L_law_1136 (by decide) ?_
      refine va_forget (fun q hq => hw.2.2.2.1.2.2 q hq) ?_
      refine W.widen (k := 601024) (n := 7293034) (by omega) (by omega) ?_
      exact lw_ret hx hb hr hlocks d_L_law_1137
    · exact absurd ((lt_6 (j := tj) hL (by omega)).mpr (by omega)) c1
  | succ d ih =>
    intro tj lc S M f g u ls H locs hd hi hLW hw hl
    have htj : 6 * tj + 6 ≤ L := by omega
    have K : ∀ (lc' : Nat → Nat) (S' : QS) (m' : MS) (f' : Nat → Int64) (g' : Nat → UInt64) (u' : WT) (ls : Array Slot) (H : Heap) (locs : List Loc), lc' 0 = lc 0 → inv S' → LW G lc' lm aL aD S' S' m' f' g' u' → Wk G (fun q : Nat => st.heap.size ≤ q) u' st H locs → lv_has ls 9 [(0, .ref b), (1, .ref (lc 0)), (2, .ref (lm 0)), (3, .ref aL), (4, .ref aD), (5, .int (nI (6 * tj)))] → W p l e RL st m #[Value.ref b] below meth c H locs (32 + 3 * tj + 3) (666 + 25 * tj + 25) (lw_Z below #[Value.ref b] st) (F0 m 1130 ls []) := by
      intro lc' S' m' f' g' u' ls H locs h0 hi' hLW' hw' hl
      obtain ⟨i1, ei1⟩ : ∃ y : Int32, y = (nI (6 * tj)) + 6 := ⟨_, rfl⟩
      refine lv_iinc (v := i1) (lv' := [(5, .int i1), (0, .ref b), (1, .ref (lc 0)), (2, .ref (lm 0)), (3, .ref aL), (4, .ref aD)]) hx hb d_L_law_1130 hl (k := 5) rfl (by rw [ei1]; rfl) (by decide) rfl (fun ls hl => ?_)
      have e6 : nI (6 * tj) + 6 = nI (6 * (tj + 1)) := by rw [show (6 : Int32) = nI 6 from rfl, nI_add, Nat.mul_succ]
      rw [e6] at ei1; subst ei1
      refine lv_goto (tgt := 28) hx hb d_L_law_1133 (by decide) ?_
      refine W.widen (k := 32 + 3 * (tj + 1)) (n := 666 + 25 * (tj + 1)) (by omega) (by omega) ?_
      exact ih (tj + 1) lc' S' m' f' g' u' ls H locs (by omega) hi' hLW' hw' (by rw [h0]; exact lv_sub hl [1, 2, 3, 4, 5, 0] rfl)
    refine lv_iload hx hb d_L_law_28 (lv_at hl 5 rfl) ?_
    refine lv_aload_n hx hb d_L_law_30 rfl (lv_at hl 0 rfl) ?_
    refine l_len hx hb hX hbl hbA hw d_L_law_31 ?_
    refine lv_bipush (v := 6) hx hb d_L_law_32 (by decide) ?_
    refine lv_isub hx hb d_L_law_34 ?_
    refine lv_icmp_gt (tgt := 1136) hx hb d_L_law_35 (by decide) (fun c2 => ?_) (fun c2 => ?_)
    · exact absurd ((lt_6 (j := tj) hL (by omega)).mp (by first | exact c2 | exact i_nle.mp c2)) (by omega)
    · refine lv_aload_n hx hb d_L_law_38 rfl (lv_at hl 0 rfl) ?_
      refine lv_iload hx hb d_L_law_39 (lv_at hl 5 rfl) ?_
      refine l_ld (k := 6 * tj + 0) rfl (by omega) hL hx hb hX hbl hbA hw d_L_law_41 ?_
      refine lv_bipush (v := 15) hx hb d_L_law_42 (by decide) ?_
      refine lv_iand hx hb d_L_law_44 ?_
      obtain ⟨x9, ex9⟩ : ∃ x9, x9 = xs (6 * tj + 0) &&& 15 := ⟨_, rfl⟩
      rw [← ex9]
      by_cases hk0 : x9 = 0
      · refine lv_tableIn (tgt := 112) hx hb d_L_law_45 (by rw [hk0]; decide) (by rw [hk0]; decide) (by rw [hk0]; rfl) (by decide) ?_
        exact law_0 hl9 hx hb hml hown ht hX hbl hbA hL htj (by omega) (by omega) hi hLW hw hl K
      by_cases hk1 : x9 = 1
      · refine lv_tableIn (tgt := 178) hx hb d_L_law_45 (by rw [hk1]; decide) (by rw [hk1]; decide) (by rw [hk1]; rfl) (by decide) ?_
        exact law_1 hl9 hx hb hml hown ht hX hbl hbA hL htj (by omega) (by omega) hi hLW hw hl K
      by_cases hk2 : x9 = 2
      · refine lv_tableIn (tgt := 290) hx hb d_L_law_45 (by rw [hk2]; decide) (by rw [hk2]; decide) (by rw [hk2]; rfl) (by decide) ?_
        exact law_2 hl9 hx hb hml hown ht hX hbl hbA hL htj (by omega) (by omega) hi hLW hw hl K
      by_cases hk3 : x9 = 3
      · refine lv_tableIn (tgt := 358) hx hb d_L_law_45 (by rw [hk3]; decide) (by rw [hk3]; decide) (by rw [hk3]; rfl) (by decide) ?_
        exact law_3 hl9 hx hb hml hown ht hX hbl hbA hL htj (by omega) (by omega) hi hLW hw hl K
      by_cases hk4 : x9 = 4
      · refine lv_tableIn (tgt := 472) hx hb d_L_law_45 (by rw [hk4]; decide) (by rw [hk4]; decide) (by rw [hk4]; rfl) (by decide) ?_
        exact law_4 hl9 hx hb hml hown ht hX hbl hbA hL htj (by omega) (by omega) hi hLW hw hl K
      by_cases hk5 : x9 = 5
      · refine lv_tableIn (tgt := 572) hx hb d_L_law_45 (by rw [hk5]; decide) (by rw [hk5]; decide) (by rw [hk5]; rfl) (by decide) ?_
        exact law_5 hl9 hx hb hml hown ht hX hbl hbA hL htj (by omega) (by omega) hi hLW hw hl K
      by_cases hk6 : x9 = 6
      · refine lv_tableIn (tgt := 632) hx hb d_L_law_45 (by rw [hk6]; decide) (by rw [hk6]; decide) (by rw [hk6]; rfl) (by decide) ?_
        exact law_6 hl9 hx hb hml hown ht hX hbl hbA hL htj (by omega) (by omega) hi hLW hw hl K
      by_cases hk7 : x9 = 7
      · refine lv_tableIn (tgt := 710) hx hb d_L_law_45 (by rw [hk7]; decide) (by rw [hk7]; decide) (by rw [hk7]; rfl) (by decide) ?_
        exact law_7 hl9 hx hb hml hown ht hX hbl hbA hL htj (by omega) (by omega) hi hLW hw hl K
      by_cases hk8 : x9 = 8
      · refine lv_tableIn (tgt := 787) hx hb d_L_law_45 (by rw [hk8]; decide) (by rw [hk8]; decide) (by rw [hk8]; rfl) (by decide) ?_
        exact law_8 hl9 hx hb hml hown ht hX hbl hbA hL htj (by omega) (by omega) hi hLW hw hl K
      by_cases hk9 : x9 = 9
      · refine lv_tableIn (tgt := 851) hx hb d_L_law_45 (by rw [hk9]; decide) (by rw [hk9]; decide) (by rw [hk9]; rfl) (by decide) ?_
        exact law_9 hl9 hx hb hml hown ht hX hbl hbA hL htj (by omega) (by omega) hi hLW hw hl K
      by_cases hk10 : x9 = 10
      · refine lv_tableIn (tgt := 962) hx hb d_L_law_45 (by rw [hk10]; decide) (by rw [hk10]; decide) (by rw [hk10]; rfl) (by decide) ?_
        exact law_10 hl9 hx hb hml hown ht hX hbl hbA hL htj (by omega) (by omega) hi hLW hw hl K
      by_cases hk11 : x9 = 11
      · refine lv_tableIn (tgt := 1037) hx hb d_L_law_45 (by rw [hk11]; decide) (by rw [hk11]; decide) (by rw [hk11]; rfl) (by decide) ?_
        exact law_11 hl9 hx hb hml hown ht hX hbl hbA hL htj (by omega) (by omega) hi hLW hw hl K
      by_cases hk12 : x9 = 12
      · refine lv_tableIn (tgt := 1105) hx hb d_L_law_45 (by rw [hk12]; decide) (by rw [hk12]; decide) (by rw [hk12]; rfl) (by decide) ?_
        exact law_12 hl9 hx hb hml hown ht hX hbl hbA hL htj (by omega) (by omega) hi hLW hw hl K
      · refine lv_tableOut (tgt := 1130) hx hb d_L_law_45 (sw_out13 hk0 hk1 hk2 hk3 hk4 hk5 hk6 hk7 hk8 hk9 hk10 hk11 hk12) (by decide) ?_
        refine W.widen (k := 32 + 3 * tj + 3) (n := 666 + 25 * tj + 25) (by omega) (by omega) ?_
        exact K lc S M f g u ls H locs rfl hi hLW hw hl

/-! 61.end: the law from its entry to its end; the claim -/
theorem rQ.ext2 {G : GT} {lc : Nat → Nat} {s : QS} {z : ZS} {u u' : WT} (h : rQ G lc s z u) (he : ∀ k, liv (q_n s) k → lc k ∈ u'.1 ∧ u'.2 (lc k) = u.2 (lc k)) : rQ G lc s z u' := by
  obtain ⟨h0, h1, h2, h3⟩ := h
  exact ⟨h0, fun k hk => ⟨(he k hk).1, (he k hk).2.trans (h1 k hk).2⟩, h2, h3⟩
set_option maxHeartbeats 4000000 in
set_option maxRecDepth 100000 in
theorem whole_start {p : Program} {e : Env} {s : State} {m : MethodId} {below : List Frame} {meth : Method} {c : Code} (l : Launch) (hl9 : l.stackTraces = false) {b L : Nat} {xs : Nat → Int32} (hL : L ≤ 3072) (C0 : lw_At p s m meth c b L xs) : W p l e room_1 s m #[Value.ref b] below meth c s.heap [] 0 0 (lw_Z below #[Value.ref b] s) (entryFrame m ([Value.ref b] : List Value).toArray 9) := by
  obtain ⟨hx, hb, hr, hml, hown, hts, hX, hbl, hlocks, hgv⟩ := id C0
  obtain ⟨G, hE⟩ := start_Ev C0
  have ht : ∀ w ∈ GW, w.before #[Value.ref b] s = true := fun w hw => hts w (List.mem_filter.mp hw).1
  have hw : Wk G (fun q : Nat => s.heap.size ≤ q) (([], fun _ => .inr (0, [])) : WT) s s.heap [] := ⟨hE, fun k q h => by simp [va_pl] at h, ⟨fun i j p q h => by simp [va_pl] at h, fun k q h => by simp [va_pl] at h⟩, va_S.rf, fun q h => h⟩
  have hl := lv_entry ([.ref b]) (n := 9) (Nat.le_of_ble_eq_true rfl)
  rw [lg_entry_eq]
  generalize (lg_sl ([.ref b]) ++ List.replicate (9 - (lg_sl ([.ref b])).length) Slot.unset).toArray = ls at hl ⊢
  have hl : lv_has ls 9 [(0, .ref b)] := hl
  show W p l e RL s m #[Value.ref b] below meth c s.heap [] 0 0 (lw_Z below #[Value.ref b] s) (F0 m 0 ls [])
  refine k_new (ci := 0) (fs := [.null, .null, .int 0, .int 0, .int 0, .int 0]) hx hb ht i_Q t_Q t_Q_ok hown gw_63 gw_64 gw_42 hw rfl (by decide +kernel) (by first | decide | (dsimp only; omega)) (by first | decide | (dsimp only; omega)) d_L_law_0 (fun aQ HaQ hqaQ hwaQ => ?_)
  obtain ⟨v1, hv1⟩ : ∃ v : WT, v = ((([], fun _ => .inr (0, [])) : WT).1 ++ [aQ], va_up (([], fun _ => .inr (0, [])) : WT).2 aQ (.inr (0, [.null, .null, .int 0, .int 0, .int 0, .int 0]))) := ⟨_, rfl⟩
  rw [← hv1] at hwaQ
  have nbaQ : NB (([], fun _ => .inr (0, [])) : WT) v1 aQ (.inr (0, [.null, .null, .int 0, .int 0, .int 0, .int 0])) := by rw [hv1]; exact ⟨hqaQ, rfl, va_up_self _ _ _, fun x hx => va_up_ne _ _ hx⟩
  refine lv_dup hx hb d_L_law_3 rfl ?_
  refine kc_v (kr_I 0 (As := []) (rest := [.ref aQ]) (c_Q_init l G (fun q : Nat => s.heap.size ≤ q) v1 aQ nbaQ.in nbaQ.2.2.1) hx hb hml hown ht hwaQ rfl gw_65 gw_66 gw_42 gw_67 ⟨⟨by decide, by decide⟩, by decide +kernel⟩ ⟨by first | decide | (dsimp only; omega), by first | decide | (dsimp only; omega)⟩ rfl hl.1 rfl (lv_room (Nat.le_of_ble_eq_true rfl)) d_L_law_4 ⟨by first | decide | (dsimp only; omega), by first | decide | (dsimp only; omega)⟩) hwaQ (fun _ _ _ _ _ _ h => h.elim) (fun u1 H1 locs1 hp1 hw1 => ?_)
  obtain ⟨lc, z, hlc, hRq, -, -⟩ := hp1
  subst hlc
  refine lv_astore_n (lv' := [(1, .ref (lc 0)), (0, .ref b)]) hx hb d_L_law_7 rfl hl (by decide) rfl (fun ls hl => ?_)
  refine k_new (ci := 8) (fs := [.null, .null, .null, .null, .null, .null, .null, .null, .null, .null, .null, .null, .null, .null, .null, .null, .null, .null, .null, .null, .null, .int 0, .int 0, .int 0, .int 0, .int 0, .int 0, .int 0, .long 0, .long 0, .long 0, .long 0]) hx hb ht i_M t_M t_M_ok hown gw_791 gw_792 gw_47 hw1 rfl (by decide +kernel) (by first | decide | (dsimp only; omega)) (by first | decide | (dsimp only; omega)) d_L_law_8 (fun aM HaM hqaM hwaM => ?_)
  obtain ⟨v3, hv3⟩ : ∃ v : WT, v = (u1.1 ++ [aM], va_up u1.2 aM (.inr (8, [.null, .null, .null, .null, .null, .null, .null, .null, .null, .null, .null, .null, .null, .null, .null, .null, .null, .null, .null, .null, .null, .int 0, .int 0, .int 0, .int 0, .int 0, .int 0, .int 0, .long 0, .long 0, .long 0, .long 0]))) := ⟨_, rfl⟩
  rw [← hv3] at hwaM
  have nbaM : NB u1 v3 aM (.inr (8, [.null, .null, .null, .null, .null, .null, .null, .null, .null, .null, .null, .null, .null, .null, .null, .null, .null, .null, .null, .null, .null, .int 0, .int 0, .int 0, .int 0, .int 0, .int 0, .int 0, .long 0, .long 0, .long 0, .long 0])) := by rw [hv3]; exact ⟨hqaM, rfl, va_up_self _ _ _, fun x hx => va_up_ne _ _ hx⟩
  refine lv_dup hx hb d_L_law_11 rfl ?_
  refine kc_v (kr_I 0 (As := []) (rest := [.ref aM]) (c_M_init l G (fun q : Nat => s.heap.size ≤ q) v3 aM nbaM.in nbaM.2.2.1) hx hb hml hown ht hwaM rfl gw_793 gw_794 gw_47 gw_795 ⟨⟨by decide, by decide⟩, by decide +kernel⟩ ⟨by first | decide | (dsimp only; omega), by first | decide | (dsimp only; omega)⟩ rfl hl.1 rfl (lv_room (Nat.le_of_ble_eq_true rfl)) d_L_law_12 ⟨by first | decide | (dsimp only; omega), by first | decide | (dsimp only; omega)⟩) hwaM (fun _ _ _ _ _ _ h => h.elim) (fun u2 H2 locs2 hp2 hw2 => ?_)
  obtain ⟨lm, hlm, hRm, hfr, hkp⟩ := hp2
  subst hlm
  refine lv_astore_n (lv' := [(2, .ref (lm 0)), (1, .ref (lc 0)), (0, .ref b)]) hx hb d_L_law_15 rfl hl (by decide) rfl (fun ls hl => ?_)
  have hRq3 : rQ G lc q0 z v3 := hRq.ext (gr.nb nbaM)
  have hRq4 : rQ G lc q0 z u2 := hRq3.ext2 (fun k hk => hkp (lc k) (hRq3.at hk).1 (nbaM.ne (hRq.at hk).1))
  have hsp4 : ∀ k, liv (q_n q0) k → ∀ i, i < 22 → lc k ≠ lm i := fun k hk i hi e => by
    rcases Nat.eq_zero_or_pos i with h | h
    · subst h; exact nbaM.ne (hRq.at hk).1 e
    · exact hfr i h hi (e ▸ (hRq3.at hk).1)
  refine lv_iconst (v := 1) hx hb d_L_law_16 (by decide) ?_
  refine x_newl (N' := 1) hx hb ht hw2 (by decide) (by decide) (by decide) (by first | decide | (dsimp only; omega)) (by first | decide | (dsimp only; omega)) d_L_law_17 (fun aL H5 v5 hw5 nb5 => ?_)
  refine lv_astore_n (lv' := [(3, .ref aL), (2, .ref (lm 0)), (1, .ref (lc 0)), (0, .ref b)]) hx hb d_L_law_19 rfl hl (by decide) rfl (fun ls hl => ?_)
  refine lv_iconst (v := 1) hx hb d_L_law_20 (by decide) ?_
  refine k_newa 3 (atype := .double) (ty := .double) (N' := 1) (a0 := (1, .inr (.inr (.inr (.inl (fun _ => 0)))))) hx hb ht gw_1045 rfl hw5 rfl (fun cA => by rw [vp_cell_d]; rfl) (by decide) (by decide) (by decide) (by first | decide | (dsimp only; omega)) (by first | decide | (dsimp only; omega)) d_L_law_21 (fun aD H6 hq6 hw6 => ?_)
  obtain ⟨v6, hv6⟩ : ∃ v : WT, v = (v5.1 ++ [aD], va_up v5.2 aD (.inl (G.2.1 3, 1, .inr (.inr (.inr (.inl (fun _ => 0))))))) := ⟨_, rfl⟩
  rw [← hv6] at hw6
  have nb6 : NB v5 v6 aD (oD G (fun _ => 0)) := by rw [hv6]; exact ⟨hq6, rfl, va_up_self _ _ _, fun x hx => va_up_ne _ _ hx⟩
  refine lv_astore (lv' := [(4, .ref aD), (3, .ref aL), (2, .ref (lm 0)), (1, .ref (lc 0)), (0, .ref b)]) hx hb d_L_law_23 hl (by decide) rfl (fun ls hl => ?_)
  have hg : gr u2 v6 := (gr.nb nb5).tr (gr.nb nb6)
  have hRm6 : rM G lm q0 m0 v6 := hRm.ext (fun i hi => hg _ (hRm.1 i hi).1)
  have hLW : LW G lc lm aL aD q0 q0 m0 (fun _ => 0) (fun _ => 0) v6 := ⟨z, hRq4.ext hg, hRm6, ⟨nb6.mem nb5.in, (nb6.at nb5.in).trans nb5.2.2.1⟩, ⟨nb6.in, nb6.2.2.1⟩, fun k hk => ⟨nb5.ne (hRq4.at hk).1, nb6.ne (nb5.mem (hRq4.at hk).1), fun i hi => hsp4 k hk i hi⟩, fun i hi => ⟨nb5.ne (hRm.1 i hi).1, nb6.ne (nb5.mem (hRm.1 i hi).1)⟩, nb6.ne nb5.in⟩
  refine lv_iconst (v := 0) hx hb d_L_law_25 (by decide) ?_
  refine lv_istore (lv' := [(5, .int (0 : Int32)), (4, .ref aD), (3, .ref aL), (2, .ref (lm 0)), (1, .ref (lc 0)), (0, .ref b)]) hx hb d_L_law_26 hl (by decide) rfl (fun ls hl => ?_)
  refine W.widen (k := 32 + 3 * 0) (n := 666 + 25 * 0) (Nat.le_of_ble_eq_true rfl) (Nat.le_of_ble_eq_true rfl) ?_
  exact law_loop hl9 hx hb hr hlocks hml hown ht hX hbl hL (L / 6) 0 lc q0 m0 (fun _ => 0) (fun _ => 0) v6 ls H6 _ (by omega) inv_q0 hLW hw6 (lv_sub hl [5, 4, 3, 2, 1, 0] rfl)
set_option maxHeartbeats 4000000 in
theorem lw_walk (l : Launch) (hl9 : l.stackTraces = false) (b : Addr) (xs : List Int32) : MetFree l x (headSpec (Jvm.Cond.code x code maxLocals ret :: tables_1) room_1) (lw_P b xs) (fun _ _ _ _ _ => True) lw_Q := by
  refine MetFree.of_bodyS (code := code) (maxLocals := maxLocals) (ret := ret) (by decide) ?_ ?_
  · intro args s m h hn
    obtain ⟨meth, c, h1, h2, h3, h4, h5, h6, -, -⟩ := Cond.code_spec hn (atoms_spec (ws := Jvm.Cond.code x code maxLocals ret :: tables_1) h _ List.mem_cons_self)
    exact ⟨meth, c, h1, h2, h3, h4, h5, h6⟩
  · intro p e s m args below meth c s₁ B hml0 hP _
    obtain ⟨rfl, hx, hbd, hgv⟩ := hP
    obtain ⟨scr, harrAt, hlist, hof, hsmall⟩ := hx
    obtain ⟨hcb, hkn, -, -⟩ := State.arrayAt?_spec harrAt
    have hown : s.vm.findClass R_law = some m.cls := findClass_of_methodNamed B.named
    have hts0 : ∀ c ∈ (Jvm.Cond.code x code maxLocals ret :: tables_1), c.before #[Value.ref b] s = true := atoms_spec (ws := Jvm.Cond.code x code maxLocals ret :: tables_1) B.pre
    have hts : ∀ w ∈ lw_tbl, w.before #[Value.ref b] s = true := k2_hts_sels lw_privs (fun w hw => hts0 w (List.mem_cons_of_mem _ hw)) lw_privs_ok
    have hml : c.maxLocals = 9 := B.maxLocals_eq (hts0 _ List.mem_cons_self)
    have X₀ : Stand p l e room_1 s m #[Value.ref b] below meth c s₁ [] 0 0 := Stand.of_body B
    have hh0 : s₁.heap = s.heap := by rw [B.state]; rfl
    have hsz : scr.slots.size = xs.length := by rw [← Array.length_toList, hlist, List.length_map]
    have hval : ∀ j : Nat, j < xs.length → scr.slots[j]? = some (.int (xs.getD j 0)) := fun j hj => by
      rw [← Array.getElem?_toList, hlist]
      simp [hj]
    have hbl : b < s.heap.size := (Array.getElem?_eq_some_iff.mp hcb).1
    have hX : va_X b xs.length (fun j => xs.getD j 0) s s.heap := ⟨scr, hcb, hof, hkn, hsz, hval⟩
    have K : W p l e room_1 s m #[Value.ref b] below meth c s₁.heap [] 0 0 (lw_Z below #[Value.ref b] s) (entryFrame m ([Value.ref b] : List Value).toArray 9) := by
      rw [hh0]
      exact whole_start l hl9 hbd ⟨B.exec, B.bytes, B.returns, hml, hown, hts, hX, hbl, B.notSynchronized, hgv⟩
    obtain ⟨t, a1, o, b1, b2, b3⟩ := K s₁ rfl X₀
    exact ⟨t, o, a1, b1, b2, b3⟩
theorem lw_pre_spec {args : Array Value} {s : State} (h : (Jvm.Cond.and given_1 narrow_1).before args s = true) (hr : rest_1_c.before args s = true) : ∃ (b : Addr) (xs : List Int32), lw_P b xs args s := by
  have hs := flat_of_before _ h
  have hq := flat_of_before _ hr
  have hc : (Cond.count 1).before args s = true := hs _ (by decide +kernel)
  have harr : (Cond.arrayOf (.arg 0) .int).before args s = true := hs _ (by decide +kernel)
  have hle : (Cond.le (.length (.arg 0)) (.int 3072)).before args s = true := hs _ (by decide +kernel)
  have hlen : (Cond.isInt (.length (.arg 0))).before args s = true := hq _ (by decide +kernel)
  have hall : (Cond.all (.arg 0) (.isInt (.elem (.arg 0) (.index 0)))).before args s = true := hq _ (by decide +kernel)
  obtain ⟨b, xs, hb, hx⟩ := State.ints_of_pre rfl harr hlen hall
  have hsm : xs.length < 2 ^ 31 := hx.choose_spec.2.2.2
  have hev : (Term.length (.arg 0)).eval args s none [] s = some (.int xs.length.toInt32) := hx.length_eval hb
  have hv := Cond.le_ints hev (show (Term.int 3072).eval args s none [] s = some (.int 3072) from rfl)
  have hd : xs.length.toInt32 ≤ 3072 := by
    simpa [Cond.before, Cond.holds, hv] using hle
  have hN : xs.length ≤ 3072 := (Int32.ofNat_le_ofNat hsm (by decide)).mp (show Int32.ofNat xs.length ≤ Int32.ofNat 3072 from hd)
  exact ⟨b, xs, Cond.one_arg hc (show args[0]? = some (.ref b) from hb), hx, hN, h⟩
theorem lw_comes (l : Launch) (hl9 : l.stackTraces = false) : Comes l x (Jvm.Cond.code x code maxLocals ret :: tables_1) room_1 (fun tb e args s => Calls_1 tb e args s ∧ rest_1 tb e args s ∧ Pre_1 tb e args s)
    (fun _ _ args s o t => lw_Q args s o t) := by
  intro p e ha hc hk s m args below hf hfit hheap happ hpre
  obtain ⟨b, xs, hP⟩ := lw_pre_spec hpre.2.2 hpre.2.1
  obtain ⟨k, o, h1, h2, h3, hQ⟩ := lw_walk l hl9 b xs p e ha hc hk s m args below hf ((Spec.applies_iff_loose hf).mp happ).1 hP trivial
  exact ⟨k, o, h1, h2, h3, hQ⟩
theorem lw_frame {s t : State} {o : Outcome} {args : Array Value} (h : Framed s o t [] 601024 7293034) :
    Framed s o t (fieldLocs frame_1_writes args s ++ arrayLocs frame_1_arrays args s ++ staticLocs frame_1_statics s) 601024 7293034 := h
theorem lw_limb (L : Cond) (hL : ∀ (args : Array Value) (s t : State), L.after args s (.returned (some (.int 1))) t = true) :
    ArmFor flags0 classFile x code maxLocals ret World_1 tables_1 room_1 Calls_1 rest_1 Pre_1
      (fun tb e a s o t => postC L tb e a s o t ∧ Framed s o t (fieldLocs frame_1_writes a s ++ arrayLocs frame_1_arrays a s ++ staticLocs frame_1_statics s) 601024 7293034) := by
  intro l hfl _ _ p e ha hc hk s m args below hf hfit hheap happ hpre
  have hl9 : l.stackTraces = false := by show (!l.flags.contains Jvm.noTraceFlag) = false; rw [hfl]; decide +kernel
  obtain ⟨k, o, h1, h2, h3, rfl, hF⟩ := lw_comes l hl9 p e ha hc hk s m args below hf hfit hheap happ hpre
  exact ⟨k, _, h1, h2, h3, hL args s _, lw_frame hF⟩
theorem i_vc : Claimed_1_1 ∧ Claimed_1_2 := ⟨lw_limb limb_1_1 (fun args s t => by simp [limb_1_1, Cond.after, Cond.holds, Cond.value]), lw_limb limb_1_2 (fun args s t => Cond.after_iff.mpr (by
  first | (rw [show limb_1_2 = Cond.eq .result (.int 1) from rfl, Cond.eq_ints (x := 1) (y := 1) rfl rfl]; simp; done) | (simp [limb_1_2, Cond.value, Term.eval]; done)))⟩

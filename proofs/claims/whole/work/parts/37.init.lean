/-! 37.init: contracts of the constructors of the object and its engines -/
theorem F_eng : ∀ k, k < 2 → F_Pa k = F_La k ∧ F_Ne k = F_La k ∧ (F_La k).1 = "QuoteGraph$Engine" ∧ (F_La k).2.2.2 = true ∧ (F_La k).2.2.1 = "I" := by decide
section XEn
variable {p : Program} {l : Launch} {e : Env} {R : Room} {s : State} {m : MethodId} {args : Array Value} {below : List Frame} {meth : Method} {c : Code} {H : Heap} {locs : List Loc} {cells slots : Nat} {Q : State → Prop}
variable {cc : ByteArray} {pc : Nat} {ls : Array Slot} {rest : List Value} {G : GT} {A : Nat → Prop} {a : Nat} {u : WT} {index : Nat} {ref : String}
theorem x_putE (k : Nat) (hk : k < 2) {t : Nat} (ht3 : t < 3) {hs hs' : List Value} {v : Int32} (hl : hs.length = 3) (hset : hs.set k (.int v) = hs') (hexec : p.tables.exec = Jvm.exec) (hb : c.code = cc) (ht : ∀ w ∈ GW, w.before args s = true) (hown : s.vm.findClass "QuoteGraph$Engine" = some m.cls) (hw : Wk G A u s H locs) (ha : a ∈ u.1) (he : u.2 a = .inr (t + 5, hs)) (hlink : Cond.fieldLink "QuoteGraph$Engine" index "QuoteGraph$Engine" (F_La k).2.1 (F_La k).2.2.1 ∈ GW) (hin : meth.name = "<init>") (hdg : decode cc pc = .ok (.putfield index, 3))
    (kk : ∀ (H1 : Heap) (locs1 : List Loc) (u1 : WT), Wk G A u1 s H1 locs1 → N1 u u1 a (.inr (t + 5, hs')) → W p l e R s m args below meth c H1 locs1 cells slots Q (F0 m (pc + 3) ls rest)) : W p l e R s m args below meth c H locs cells slots Q (F0 m pc ls (.int v :: .ref a :: rest)) := by
  obtain ⟨e1, e2, e3, e4, e5⟩ := F_eng k hk
  have hd : parseFieldDescriptor (F_La k).2.2.1 = some .int := by rw [e5]; decide +kernel
  have h5 : t = 0 ∨ t = 1 ∨ t = 2 := by omega
  rcases h5 with rfl | rfl | rfl
  · exact x_putF hexec hb ht i_La t_La t_La_ok n_La hown hw ha he rfl k (by omega) hlink (Or.inl e3.symm) e4 hin e3 hset hd rfl rfl (by omega) hdg kk
  · rw [← e1] at hlink e3 e4 hd; exact x_putF hexec hb ht i_Pa t_Pa t_Pa_ok n_Pa hown hw ha he rfl k (by omega) hlink (Or.inl e3.symm) e4 hin e3 hset hd rfl rfl (by omega) hdg kk
  · rw [← e2] at hlink e3 e4 hd; exact x_putF hexec hb ht i_Ne t_Ne t_Ne_ok n_Ne hown hw ha he rfl k (by omega) hlink (Or.inl e3.symm) e4 hin e3 hset hd rfl rfl (by omega) hdg kk
/-- a new row of longs -/
theorem x_newl (hexec : p.tables.exec = Jvm.exec) (hb : c.code = cc) (ht : ∀ w ∈ GW, w.before args s = true) (hw : Wk G A u s H locs) {n : Int32} {N' : Nat} (hn : ¬ n < 0) (hN : n.toNatClampNeg = N') (hbytes : N' * 8 ≤ 536870912) (hcells : cells + 1 ≤ R.cells) (hslots : slots + N' ≤ R.slots) (hdg : decode cc pc = .ok (.newarray .long, 2))
    (kk : ∀ (q : Nat) (H1 : Heap) (u1 : WT), Wk G A u1 s H1 locs → NB u u1 q (.inl (G.2.1 0, N', lgs (fun _ => 0))) → W p l e R s m args below meth c H1 locs (cells + 1) (slots + N') Q (F0 m (pc + 2) ls (.ref q :: rest))) : W p l e R s m args below meth c H locs cells slots Q (F0 m pc ls (.int n :: rest)) :=
  k_newa 0 (atype := .long) (ty := .long) (a0 := (N', lgs (fun _ => 0))) hexec hb ht gw_96 rfl hw rfl (fun cA => by rw [vp_cell_l]; rfl) hn hN hbytes hcells hslots hdg (fun q H1 hq h => kk q H1 _ h ⟨hq, rfl, va_up_self _ _ _, fun _ hx => va_up_ne _ _ hx⟩)
end XEn
theorem NB.n1 {u u1 u2 : WT} {a b : Nat} {y x : va_E} (h : NB u u1 b y) (ha : a ∈ u.1) (h' : N1 u1 u2 a x) : NP u u2 a x b y := NP.of h ha h'
/-- nothing yet -/
def q0 : QS := (0, fun _ => 0, fun _ => 0, fun _ => false, fun _ => false, fun _ => false, fun _ => 0, fun _ _ => none, fun _ => 0, fun _ => 0, fun _ => 0, fun _ => 0, fun _ => 0, fun _ => false, fun _ => 0, fun _ => 0, 0, 0, 0)
def z0 : ZS := (fun _ => 0, fun _ => false, fun _ _ => none, fun _ => 0, fun _ => 0, 0)
def lc8 (a b1 b2 b3 b4 b5 b6 b7 : Nat) : Nat → Nat
  | 0 => a
  | 1 => b1
  | 2 => b2
  | 3 => b3
  | 4 => b4
  | 5 => b5
  | 6 => b6
  | _ => b7
set_option maxHeartbeats 4000000 in
set_option maxRecDepth 100000 in
theorem c_En_init (l : Launch) (G : GT) (A : Nat → Prop) (u : WT) (a t : Nat) (ht3 : t < 3) (v : Value) (ha : a ∈ u.1) (he : u.2 a = .inr (t + 5, [.int 0, .int 0, v])) (x y : Int32) : Kt l y_En_init b_En_init 3 none 1 40 0 0 0 0 0 0 G A u [.ref a, .int x, .int y] (KQ G A (Rv (fun u' => N1 u u' a (.inr (t + 5, [.int x, .int y, v]))))) (NX) := by
  refine k_of (by decide) (Nat.le_of_ble_eq_true rfl) (fun p e st m below meth c ls hx hb hr hlocks hml htab hname hown ht hw hl => ?_)
  have hl : lv_has ls 3 [(0, .ref a), (1, .int x), (2, .int y)] := hl
  refine lv_aload_n hx hb d_En_init_0 rfl (lv_at hl 0 rfl) ?_
  refine k_objInit hx hb (hml.trans hl.1.symm) ht hown gw_83 gw_69 gw_70 d_En_init_1 (by first | decide | (dsimp only; omega)) (by first | decide | (dsimp only; omega) | exact Nat.le_of_ble_eq_true rfl) ?_
  refine lv_aload_n hx hb d_En_init_4 rfl (lv_at hl 0 rfl) ?_
  refine lv_iload_n hx hb d_En_init_5 rfl (lv_at hl 1 rfl) ?_
  refine x_putE 0 (by decide) ht3 (hs' := [.int x, .int 0, v]) rfl rfl hx hb ht hown hw ha he gw_85 hname d_En_init_6 (fun H1 locs1 u1 hw1 n1 => ?_)
  have ha1 : a ∈ u1.1 := by rw [n1.1]; exact ha
  refine lv_aload_n hx hb d_En_init_9 rfl (lv_at hl 0 rfl) ?_
  refine lv_iload_n hx hb d_En_init_10 rfl (lv_at hl 2 rfl) ?_
  refine x_putE 1 (by decide) ht3 (hs' := [.int x, .int y, v]) rfl rfl hx hb ht hown hw1 ha1 n1.2.1 gw_87 hname d_En_init_11 (fun H2 locs2 u2 hw2 n2 => ?_)
  exact kt_v hx hb hr hlocks hw2 d_En_init_14 (by exact n1.tr n2) (by first | decide | (dsimp only; omega)) (by first | decide | (dsimp only; omega))
set_option maxHeartbeats 4000000 in
set_option maxRecDepth 100000 in
theorem c_La_init (l : Launch) (G : GT) (A : Nat → Prop) (u : WT) (a : Nat) (ha : a ∈ u.1) (he : u.2 a = .inr (5, [.int 0, .int 0, .null])) : Kt l y_La_init b_La_init 1 none 2 62 1 21 1 21 0 0 G A u [.ref a] (KQ G A (Rv (fun u' => ∃ b, NP u u' a (.inr (5, [.int 0, .int 0, .ref b])) b (.inl (G.2.1 0, 21, lgs (fun _ => 0)))))) (NX) := by
  refine k_of (by decide) (Nat.le_of_ble_eq_true rfl) (fun p e st m below meth c ls hx hb hr hlocks hml htab hname hown ht hw hl => ?_)
  have hl : lv_has ls 1 [(0, .ref a)] := hl
  refine lv_aload_n hx hb d_La_init_0 rfl (lv_at hl 0 rfl) ?_
  refine lv_iconst (v := 0) hx hb d_La_init_1 (by decide) ?_
  refine lv_iconst (v := 0) hx hb d_La_init_2 (by decide) ?_
  refine kc_v (kr_I 2 (As := [.int (0 : Int32), .int (0 : Int32)]) (rest := []) (c_En_init l G A u a 0 (by decide) (.null) ha he 0 0) hx hb hml hown ht hw rfl gw_80 gw_81 gw_43 gw_82 ⟨⟨by decide, by decide⟩, by decide +kernel⟩ ⟨by first | decide | (dsimp only; omega), by first | decide | (dsimp only; omega)⟩ rfl hl.1 rfl (lv_room (Nat.le_of_ble_eq_true rfl)) d_La_init_3 ⟨by first | decide | (dsimp only; omega), by first | decide | (dsimp only; omega)⟩) hw (fun _ _ _ _ _ _ h => h.elim) (fun u1 H1 locs1 hp1 hw1 => ?_)
  have ha1 : a ∈ u1.1 := by rw [hp1.1]; exact ha
  refine lv_aload_n hx hb d_La_init_6 rfl (lv_at hl 0 rfl) ?_
  refine lv_bipush (v := 21) hx hb d_La_init_7 (by decide) ?_
  refine x_newl (N' := 21) hx hb ht hw1 (by decide) (by decide) (by decide) (by first | decide | (dsimp only; omega)) (by first | decide | (dsimp only; omega)) d_La_init_9 (fun b H7 u7 hw7 nb7 => ?_)
  have ha7 : a ∈ u7.1 := nb7.mem ha1
  have he7 : u7.2 a = .inr (5, [.int 0, .int 0, .null]) := (nb7.at ha1).trans hp1.2.1
  refine x_putF hx hb ht i_La t_La t_La_ok n_La hown hw7 ha7 he7 (ty := .array .long) (fs' := [.int 0, .int 0, .ref b]) rfl 2 (by decide) gw_84 (Or.inl rfl) rfl hname rfl rfl (by decide +kernel) rfl rfl (Nat.le_of_ble_eq_true rfl) d_La_init_11 (fun H8 locs8 u8 hw8 n8 => ?_)
  have hg := nb7.n1 ha1 n8
  exact kt_v hx hb hr hlocks hw8 d_La_init_14 (by exact ⟨b, by rw [← hp1.1]; exact hg.1, by rw [← hp1.1]; exact hg.2.1, hg.2.2.1, hg.2.2.2.1, fun c h1 h2 => (hg.2.2.2.2 c h1 h2).trans (hp1.2.2 c h1)⟩) (by first | decide | (dsimp only; omega)) (by first | decide | (dsimp only; omega))
set_option maxHeartbeats 4000000 in
set_option maxRecDepth 100000 in
theorem c_Pa_init (l : Launch) (G : GT) (A : Nat → Prop) (u : WT) (a : Nat) (ha : a ∈ u.1) (he : u.2 a = .inr (6, [.int 0, .int 0, .long 0])) : Kt l y_Pa_init b_Pa_init 1 none 2 62 0 0 0 0 0 0 G A u [.ref a] (KQ G A (Rv (fun u' => N1 u u' a (.inr (6, [.int 0, .int 6, .long 0]))))) (NX) := by
  refine k_of (by decide) (Nat.le_of_ble_eq_true rfl) (fun p e st m below meth c ls hx hb hr hlocks hml htab hname hown ht hw hl => ?_)
  have hl : lv_has ls 1 [(0, .ref a)] := hl
  refine lv_aload_n hx hb d_Pa_init_0 rfl (lv_at hl 0 rfl) ?_
  refine lv_iconst (v := 0) hx hb d_Pa_init_1 (by decide) ?_
  refine lv_bipush (v := 6) hx hb d_Pa_init_2 (by decide) ?_
  refine kc_v (kr_I 2 (As := [.int (0 : Int32), .int (6 : Int32)]) (rest := []) (c_En_init l G A u a 1 (by decide) (.long 0) ha he 0 6) hx hb hml hown ht hw rfl gw_102 gw_81 gw_43 gw_82 ⟨⟨by decide, by decide⟩, by decide +kernel⟩ ⟨by first | decide | (dsimp only; omega), by first | decide | (dsimp only; omega)⟩ rfl hl.1 rfl (lv_room (Nat.le_of_ble_eq_true rfl)) d_Pa_init_4 ⟨by first | decide | (dsimp only; omega), by first | decide | (dsimp only; omega)⟩) hw (fun _ _ _ _ _ _ h => h.elim) (fun u1 H1 locs1 hp1 hw1 => ?_)
  have ha1 : a ∈ u1.1 := by rw [hp1.1]; exact ha
  exact kt_v hx hb hr hlocks hw1 d_Pa_init_7 (by exact hp1) (by first | decide | (dsimp only; omega)) (by first | decide | (dsimp only; omega))
set_option maxHeartbeats 4000000 in
set_option maxRecDepth 100000 in
theorem c_Ne_init (l : Launch) (G : GT) (A : Nat → Prop) (u : WT) (a : Nat) (ha : a ∈ u.1) (he : u.2 a = .inr (7, [.int 0, .int 0, .null])) : Kt l y_Ne_init b_Ne_init 1 none 2 62 1 41 1 41 0 0 G A u [.ref a] (KQ G A (Rv (fun u' => ∃ b, NP u u' a (.inr (7, [.int 1, .int 20, .ref b])) b (.inl (G.2.1 0, 41, lgs (fun _ => 0)))))) (NX) := by
  refine k_of (by decide) (Nat.le_of_ble_eq_true rfl) (fun p e st m below meth c ls hx hb hr hlocks hml htab hname hown ht hw hl => ?_)
  have hl : lv_has ls 1 [(0, .ref a)] := hl
  refine lv_aload_n hx hb d_Ne_init_0 rfl (lv_at hl 0 rfl) ?_
  refine lv_iconst (v := 1) hx hb d_Ne_init_1 (by decide) ?_
  refine lv_bipush (v := 20) hx hb d_Ne_init_2 (by decide) ?_
  refine kc_v (kr_I 2 (As := [.int (1 : Int32), .int (20 : Int32)]) (rest := []) (c_En_init l G A u a 2 (by decide) (.null) ha he 1 20) hx hb hml hown ht hw rfl gw_114 gw_81 gw_43 gw_82 ⟨⟨by decide, by decide⟩, by decide +kernel⟩ ⟨by first | decide | (dsimp only; omega), by first | decide | (dsimp only; omega)⟩ rfl hl.1 rfl (lv_room (Nat.le_of_ble_eq_true rfl)) d_Ne_init_4 ⟨by first | decide | (dsimp only; omega), by first | decide | (dsimp only; omega)⟩) hw (fun _ _ _ _ _ _ h => h.elim) (fun u1 H1 locs1 hp1 hw1 => ?_)
  have ha1 : a ∈ u1.1 := by rw [hp1.1]; exact ha
  refine lv_aload_n hx hb d_Ne_init_7 rfl (lv_at hl 0 rfl) ?_
  refine lv_bipush (v := 41) hx hb d_Ne_init_8 (by decide) ?_
  refine x_newl (N' := 41) hx hb ht hw1 (by decide) (by decide) (by decide) (by first | decide | (dsimp only; omega)) (by first | decide | (dsimp only; omega)) d_Ne_init_10 (fun b H7 u7 hw7 nb7 => ?_)
  have ha7 : a ∈ u7.1 := nb7.mem ha1
  have he7 : u7.2 a = .inr (7, [.int 1, .int 20, .null]) := (nb7.at ha1).trans hp1.2.1
  refine x_putF hx hb ht i_Ne t_Ne t_Ne_ok n_Ne hown hw7 ha7 he7 (ty := .array .long) (fs' := [.int 1, .int 20, .ref b]) rfl 2 (by decide) gw_115 (Or.inl rfl) rfl hname rfl rfl (by decide +kernel) rfl rfl (Nat.le_of_ble_eq_true rfl) d_Ne_init_12 (fun H8 locs8 u8 hw8 n8 => ?_)
  have hg := nb7.n1 ha1 n8
  exact kt_v hx hb hr hlocks hw8 d_Ne_init_15 (by exact ⟨b, by rw [← hp1.1]; exact hg.1, by rw [← hp1.1]; exact hg.2.1, hg.2.2.1, hg.2.2.2.1, fun c h1 h2 => (hg.2.2.2.2 c h1 h2).trans (hp1.2.2 c h1)⟩) (by first | decide | (dsimp only; omega)) (by first | decide | (dsimp only; omega))
set_option maxHeartbeats 4000000 in
set_option maxRecDepth 100000 in
theorem c_Q_init (l : Launch) (G : GT) (A : Nat → Prop) (u : WT) (a : Nat) (ha : a ∈ u.1) (he : u.2 a = .inr (0, [.null, .null, .int 0, .int 0, .int 0, .int 0])) : Kt l y_Q_init b_Q_init 1 none 3 82 7 90 7 90 0 0 G A u [.ref a] (KQ G A (Rv (fun u' => ∃ (lc : Nat → Nat) (z : ZS), lc 0 = a ∧ rQ G lc q0 z u' ∧ (∀ c, c ∈ u.1 → c ≠ a → c ∈ u'.1 ∧ u'.2 c = u.2 c) ∧ ∀ k, k < 8 → k ≠ 0 → lc k ∉ u.1))) (NX) := by
  refine k_of (by decide) (Nat.le_of_ble_eq_true rfl) (fun p e st m below meth c ls hx hb hr hlocks hml htab hname hown ht hw hl => ?_)
  have hl : lv_has ls 1 [(0, .ref a)] := hl
  refine lv_aload_n hx hb d_Q_init_0 rfl (lv_at hl 0 rfl) ?_
  refine k_objInit hx hb (hml.trans hl.1.symm) ht hown gw_68 gw_69 gw_70 d_Q_init_1 (by first | decide | (dsimp only; omega)) (by first | decide | (dsimp only; omega) | exact Nat.le_of_ble_eq_true rfl) ?_
  have hfr : ∀ c, c ∈ u.1 → c ≠ a → c ∈ u.1 ∧ u.2 c = u.2 c := fun c h _ => ⟨h, rfl⟩
  refine lv_aload_n hx hb d_Q_init_4 rfl (lv_at hl 0 rfl) ?_
  refine lv_bipush (v := 16) hx hb d_Q_init_5 (by decide) ?_
  refine k_newq 4 (N' := 16) hx hb ht hown gw_71 hw hw.1.2.2.2.2.2.2.1 rfl (by decide) (by decide) (by decide) (by first | decide | (dsimp only; omega)) (by first | decide | (dsimp only; omega)) d_Q_init_7 (fun b1 H1 hq1 hw1 => ?_)
  obtain ⟨u1, hu1⟩ : ∃ v : WT, v = (u.1 ++ [b1], va_up u.2 b1 (.inl (G.2.1 4, 16, rfs (fun _ => none)))) := ⟨_, rfl⟩
  rw [← hu1] at hw1
  have nb1 : NB u u1 b1 (.inl (G.2.1 4, 16, rfs (fun _ => none))) := by rw [hu1]; exact ⟨hq1, rfl, va_up_self _ _ _, fun x hx => va_up_ne _ _ hx⟩
  have ne_a_b1 : a ≠ b1 := nb1.ne ha
  have m_a_u1 : a ∈ u1.1 := nb1.mem ha
  have e_a_u1 : u1.2 a = .inr (0, [.null, .null, .int 0, .int 0, .int 0, .int 0]) := (nb1.at ha).trans he
  have fr_u1 : ∀ c, c ∈ u.1 → c ≠ a → c ∈ u1.1 ∧ u1.2 c = u.2 c := fun c h1 h2 => ⟨nb1.mem (hfr c h1 h2).1, (nb1.at (hfr c h1 h2).1).trans (hfr c h1 h2).2⟩
  have nw_b1 : b1 ∉ u.1 := fun h => by by_cases h2 : b1 = a; exact ne_a_b1 h2.symm; exact nb1.1 (hfr _ h h2).1
  refine x_putF hx hb ht i_Q t_Q t_Q_ok n_Q hown hw1 m_a_u1 e_a_u1 (ty := .array (.object "QuoteGraph$Node")) (fs' := [.ref b1, .null, .int 0, .int 0, .int 0, .int 0]) rfl 0 (by decide) gw_121 (Or.inl rfl) rfl hname rfl rfl (by decide +kernel) rfl rfl (Nat.le_of_ble_eq_true rfl) d_Q_init_10 (fun H2 locs2 u2 hw2 n2 => ?_)
  have m_a_u2 : a ∈ u2.1 := by rw [n2.1]; exact m_a_u1
  have m_b1_u2 : b1 ∈ u2.1 := by rw [n2.1]; exact nb1.in
  have e_b1_u2 : u2.2 b1 = .inl (G.2.1 4, 16, rfs (fun _ => none)) := (n2.2.2 _ (Ne.symm ne_a_b1)).trans nb1.2.2.1
  have fr_u2 : ∀ c, c ∈ u.1 → c ≠ a → c ∈ u2.1 ∧ u2.2 c = u.2 c := fun c h1 h2 => ⟨by rw [n2.1]; exact (fr_u1 c h1 h2).1, (n2.2.2 c h2).trans (fr_u1 c h1 h2).2⟩
  refine lv_aload_n hx hb d_Q_init_13 rfl (lv_at hl 0 rfl) ?_
  refine lv_iconst (v := 3) hx hb d_Q_init_14 (by decide) ?_
  refine k_newq 5 (N' := 3) hx hb ht hown gw_73 hw2 hw2.1.2.2.2.2.2.2.2.1 rfl (by decide) (by decide) (by decide) (by first | decide | (dsimp only; omega)) (by first | decide | (dsimp only; omega)) d_Q_init_15 (fun b2 H3 hq3 hw3 => ?_)
  obtain ⟨u3, hu3⟩ : ∃ v : WT, v = (u2.1 ++ [b2], va_up u2.2 b2 (.inl (G.2.1 5, 3, rfs (fun _ => none)))) := ⟨_, rfl⟩
  rw [← hu3] at hw3
  have nb3 : NB u2 u3 b2 (.inl (G.2.1 5, 3, rfs (fun _ => none))) := by rw [hu3]; exact ⟨hq3, rfl, va_up_self _ _ _, fun x hx => va_up_ne _ _ hx⟩
  have ne_a_b2 : a ≠ b2 := nb3.ne m_a_u2
  have ne_b1_b2 : b1 ≠ b2 := nb3.ne m_b1_u2
  have m_a_u3 : a ∈ u3.1 := nb3.mem m_a_u2
  have e_a_u3 : u3.2 a = .inr (0, [.ref b1, .null, .int 0, .int 0, .int 0, .int 0]) := (nb3.at m_a_u2).trans n2.2.1
  have m_b1_u3 : b1 ∈ u3.1 := nb3.mem m_b1_u2
  have e_b1_u3 : u3.2 b1 = .inl (G.2.1 4, 16, rfs (fun _ => none)) := (nb3.at m_b1_u2).trans e_b1_u2
  have fr_u3 : ∀ c, c ∈ u.1 → c ≠ a → c ∈ u3.1 ∧ u3.2 c = u.2 c := fun c h1 h2 => ⟨nb3.mem (fr_u2 c h1 h2).1, (nb3.at (fr_u2 c h1 h2).1).trans (fr_u2 c h1 h2).2⟩
  have nw_b2 : b2 ∉ u.1 := fun h => by by_cases h2 : b2 = a; exact ne_a_b2 h2.symm; exact nb3.1 (fr_u2 _ h h2).1
  refine lv_dup hx hb d_Q_init_18 rfl ?_
  refine lv_iconst (v := 0) hx hb d_Q_init_19 (by decide) ?_
  refine k_new (ci := 5) (fs := [.int 0, .int 0, .null]) hx hb ht i_La t_La t_La_ok hown gw_75 gw_76 gw_44 hw3 rfl (by decide +kernel) (by first | decide | (dsimp only; omega)) (by first | decide | (dsimp only; omega)) d_Q_init_20 (fun b5 H4 hq4 hw4 => ?_)
  obtain ⟨u4, hu4⟩ : ∃ v : WT, v = (u3.1 ++ [b5], va_up u3.2 b5 (.inr (5, [.int 0, .int 0, .null]))) := ⟨_, rfl⟩
  rw [← hu4] at hw4
  have nb4 : NB u3 u4 b5 (.inr (5, [.int 0, .int 0, .null])) := by rw [hu4]; exact ⟨hq4, rfl, va_up_self _ _ _, fun x hx => va_up_ne _ _ hx⟩
  have ne_a_b5 : a ≠ b5 := nb4.ne m_a_u3
  have ne_b1_b5 : b1 ≠ b5 := nb4.ne m_b1_u3
  have ne_b2_b5 : b2 ≠ b5 := nb4.ne nb3.in
  have m_a_u4 : a ∈ u4.1 := nb4.mem m_a_u3
  have e_a_u4 : u4.2 a = .inr (0, [.ref b1, .null, .int 0, .int 0, .int 0, .int 0]) := (nb4.at m_a_u3).trans e_a_u3
  have m_b1_u4 : b1 ∈ u4.1 := nb4.mem m_b1_u3
  have e_b1_u4 : u4.2 b1 = .inl (G.2.1 4, 16, rfs (fun _ => none)) := (nb4.at m_b1_u3).trans e_b1_u3
  have m_b2_u4 : b2 ∈ u4.1 := nb4.mem nb3.in
  have e_b2_u4 : u4.2 b2 = .inl (G.2.1 5, 3, rfs (fun _ => none)) := (nb4.at nb3.in).trans nb3.2.2.1
  have fr_u4 : ∀ c, c ∈ u.1 → c ≠ a → c ∈ u4.1 ∧ u4.2 c = u.2 c := fun c h1 h2 => ⟨nb4.mem (fr_u3 c h1 h2).1, (nb4.at (fr_u3 c h1 h2).1).trans (fr_u3 c h1 h2).2⟩
  have nw_b5 : b5 ∉ u.1 := fun h => by by_cases h2 : b5 = a; exact ne_a_b5 h2.symm; exact nb4.1 (fr_u3 _ h h2).1
  refine lv_dup hx hb d_Q_init_23 rfl ?_
  refine kc_v (kr_I 0 (As := []) (rest := [.ref b5, .int (0 : Int32), .ref b2, .ref b2, .ref a]) (c_La_init l G A u4 b5 nb4.in nb4.2.2.1) hx hb hml hown ht hw4 rfl gw_77 gw_78 gw_44 gw_79 ⟨⟨by decide, by decide⟩, by decide +kernel⟩ ⟨by first | decide | (dsimp only; omega), by first | decide | (dsimp only; omega)⟩ rfl hl.1 rfl (lv_room (Nat.le_of_ble_eq_true rfl)) d_Q_init_24 ⟨by first | decide | (dsimp only; omega), by first | decide | (dsimp only; omega)⟩) hw4 (fun _ _ _ _ _ _ h => h.elim) (fun u5 H5 locs5 hp5 hw5 => ?_)
  obtain ⟨b3, np5⟩ := hp5
  have ne_a_b3 : a ≠ b3 := fun e => np5.1 (e ▸ m_a_u4)
  have ne_b1_b3 : b1 ≠ b3 := fun e => np5.1 (e ▸ m_b1_u4)
  have ne_b2_b3 : b2 ≠ b3 := fun e => np5.1 (e ▸ m_b2_u4)
  have ne_b5_b3 : b5 ≠ b3 := fun e => np5.1 (e ▸ nb4.in)
  have m_a_u5 : a ∈ u5.1 := by rw [np5.2.1]; exact List.mem_append_left _ m_a_u4
  have e_a_u5 : u5.2 a = .inr (0, [.ref b1, .null, .int 0, .int 0, .int 0, .int 0]) := (np5.2.2.2.2 _ ne_a_b5 ne_a_b3).trans e_a_u4
  have m_b1_u5 : b1 ∈ u5.1 := by rw [np5.2.1]; exact List.mem_append_left _ m_b1_u4
  have e_b1_u5 : u5.2 b1 = .inl (G.2.1 4, 16, rfs (fun _ => none)) := (np5.2.2.2.2 _ ne_b1_b5 ne_b1_b3).trans e_b1_u4
  have m_b2_u5 : b2 ∈ u5.1 := by rw [np5.2.1]; exact List.mem_append_left _ m_b2_u4
  have e_b2_u5 : u5.2 b2 = .inl (G.2.1 5, 3, rfs (fun _ => none)) := (np5.2.2.2.2 _ ne_b2_b5 ne_b2_b3).trans e_b2_u4
  have m_b5_u5 : b5 ∈ u5.1 := by rw [np5.2.1]; exact List.mem_append_left _ nb4.in
  have fr_u5 : ∀ c, c ∈ u.1 → c ≠ a → c ∈ u5.1 ∧ u5.2 c = u.2 c := fun c h1 h2 => ⟨by rw [np5.2.1]; exact List.mem_append_left _ (fr_u4 c h1 h2).1, (np5.2.2.2.2 c (fun e => nw_b5 (e ▸ h1)) (fun e => np5.1 (e ▸ (fr_u4 c h1 h2).1))).trans (fr_u4 c h1 h2).2⟩
  have nw_b3 : b3 ∉ u.1 := fun h => by by_cases h2 : b3 = a; exact ne_a_b3 h2.symm; exact np5.1 (fr_u4 _ h h2).1
  have m_b3_u5 : b3 ∈ u5.1 := by rw [np5.2.1]; exact List.mem_append_right _ List.mem_cons_self
  refine k_astq 5 (r := (R_La, F_La, 3)) hx hb hw5 m_b2_u5 e_b2_u5 rfl (ew_of 1053 _ (by decide +kernel) rfl) m_b5_u5 np5.2.2.1 rfl (i := 0) (by unfold vp_in; decide) d_Q_init_27 (fun H6 locs6 hw6 => ?_)
  obtain ⟨u6, hu6⟩ : ∃ v : WT, v = (u5.1, va_up u5.2 b2 (.inl (G.2.1 5, 3, rfs (va_up (fun _ => none) 0 (some b5))))) := ⟨_, rfl⟩
  replace hw6 : Wk G A u6 st H6 locs6 := by rw [hu6]; exact hw6
  have n6 : N1 u5 u6 b2 (.inl (G.2.1 5, 3, rfs (va_up (fun _ => none) 0 (some b5)))) := by rw [hu6]; exact N1.of
  have m_a_u6 : a ∈ u6.1 := by rw [n6.1]; exact m_a_u5
  have e_a_u6 : u6.2 a = .inr (0, [.ref b1, .null, .int 0, .int 0, .int 0, .int 0]) := (n6.2.2 _ ne_a_b2).trans e_a_u5
  have m_b1_u6 : b1 ∈ u6.1 := by rw [n6.1]; exact m_b1_u5
  have e_b1_u6 : u6.2 b1 = .inl (G.2.1 4, 16, rfs (fun _ => none)) := (n6.2.2 _ ne_b1_b2).trans e_b1_u5
  have m_b2_u6 : b2 ∈ u6.1 := by rw [n6.1]; exact m_b2_u5
  have m_b5_u6 : b5 ∈ u6.1 := by rw [n6.1]; exact m_b5_u5
  have e_b5_u6 : u6.2 b5 = .inr (5, [.int 0, .int 0, .ref b3]) := (n6.2.2 _ (Ne.symm ne_b2_b5)).trans np5.2.2.1
  have m_b3_u6 : b3 ∈ u6.1 := by rw [n6.1]; exact m_b3_u5
  have e_b3_u6 : u6.2 b3 = .inl (G.2.1 0, 21, lgs (fun _ => 0)) := (n6.2.2 _ (Ne.symm ne_b2_b3)).trans np5.2.2.2.1
  have fr_u6 : ∀ c, c ∈ u.1 → c ≠ a → c ∈ u6.1 ∧ u6.2 c = u.2 c := fun c h1 h2 => ⟨by rw [n6.1]; exact (fr_u5 c h1 h2).1, (n6.2.2 c (fun e => nw_b2 (e ▸ h1))).trans (fr_u5 c h1 h2).2⟩
  refine lv_dup hx hb d_Q_init_28 rfl ?_
  refine lv_iconst (v := 1) hx hb d_Q_init_29 (by decide) ?_
  refine k_new (ci := 6) (fs := [.int 0, .int 0, .long 0]) hx hb ht i_Pa t_Pa t_Pa_ok hown gw_97 gw_98 gw_45 hw6 rfl (by decide +kernel) (by first | decide | (dsimp only; omega)) (by first | decide | (dsimp only; omega)) d_Q_init_30 (fun b6 H7 hq7 hw7 => ?_)
  obtain ⟨u7, hu7⟩ : ∃ v : WT, v = (u6.1 ++ [b6], va_up u6.2 b6 (.inr (6, [.int 0, .int 0, .long 0]))) := ⟨_, rfl⟩
  rw [← hu7] at hw7
  have nb7 : NB u6 u7 b6 (.inr (6, [.int 0, .int 0, .long 0])) := by rw [hu7]; exact ⟨hq7, rfl, va_up_self _ _ _, fun x hx => va_up_ne _ _ hx⟩
  have ne_a_b6 : a ≠ b6 := nb7.ne m_a_u6
  have ne_b1_b6 : b1 ≠ b6 := nb7.ne m_b1_u6
  have ne_b2_b6 : b2 ≠ b6 := nb7.ne m_b2_u6
  have ne_b5_b6 : b5 ≠ b6 := nb7.ne m_b5_u6
  have ne_b3_b6 : b3 ≠ b6 := nb7.ne m_b3_u6
  have m_a_u7 : a ∈ u7.1 := nb7.mem m_a_u6
  have e_a_u7 : u7.2 a = .inr (0, [.ref b1, .null, .int 0, .int 0, .int 0, .int 0]) := (nb7.at m_a_u6).trans e_a_u6
  have m_b1_u7 : b1 ∈ u7.1 := nb7.mem m_b1_u6
  have e_b1_u7 : u7.2 b1 = .inl (G.2.1 4, 16, rfs (fun _ => none)) := (nb7.at m_b1_u6).trans e_b1_u6
  have m_b2_u7 : b2 ∈ u7.1 := nb7.mem m_b2_u6
  have e_b2_u7 : u7.2 b2 = .inl (G.2.1 5, 3, rfs (va_up (fun _ => none) 0 (some b5))) := (nb7.at m_b2_u6).trans n6.2.1
  have m_b5_u7 : b5 ∈ u7.1 := nb7.mem m_b5_u6
  have e_b5_u7 : u7.2 b5 = .inr (5, [.int 0, .int 0, .ref b3]) := (nb7.at m_b5_u6).trans e_b5_u6
  have m_b3_u7 : b3 ∈ u7.1 := nb7.mem m_b3_u6
  have e_b3_u7 : u7.2 b3 = .inl (G.2.1 0, 21, lgs (fun _ => 0)) := (nb7.at m_b3_u6).trans e_b3_u6
  have fr_u7 : ∀ c, c ∈ u.1 → c ≠ a → c ∈ u7.1 ∧ u7.2 c = u.2 c := fun c h1 h2 => ⟨nb7.mem (fr_u6 c h1 h2).1, (nb7.at (fr_u6 c h1 h2).1).trans (fr_u6 c h1 h2).2⟩
  have nw_b6 : b6 ∉ u.1 := fun h => by by_cases h2 : b6 = a; exact ne_a_b6 h2.symm; exact nb7.1 (fr_u6 _ h h2).1
  refine lv_dup hx hb d_Q_init_33 rfl ?_
  refine kc_v (kr_I 0 (As := []) (rest := [.ref b6, .int (1 : Int32), .ref b2, .ref b2, .ref a]) (c_Pa_init l G A u7 b6 nb7.in nb7.2.2.1) hx hb hml hown ht hw7 rfl gw_99 gw_100 gw_45 gw_101 ⟨⟨by decide, by decide⟩, by decide +kernel⟩ ⟨by first | decide | (dsimp only; omega), by first | decide | (dsimp only; omega)⟩ rfl hl.1 rfl (lv_room (Nat.le_of_ble_eq_true rfl)) d_Q_init_34 ⟨by first | decide | (dsimp only; omega), by first | decide | (dsimp only; omega)⟩) hw7 (fun _ _ _ _ _ _ h => h.elim) (fun u8 H8 locs8 hp8 hw8 => ?_)
  have m_a_u8 : a ∈ u8.1 := by rw [hp8.1]; exact m_a_u7
  have e_a_u8 : u8.2 a = .inr (0, [.ref b1, .null, .int 0, .int 0, .int 0, .int 0]) := (hp8.2.2 _ ne_a_b6).trans e_a_u7
  have m_b1_u8 : b1 ∈ u8.1 := by rw [hp8.1]; exact m_b1_u7
  have e_b1_u8 : u8.2 b1 = .inl (G.2.1 4, 16, rfs (fun _ => none)) := (hp8.2.2 _ ne_b1_b6).trans e_b1_u7
  have m_b2_u8 : b2 ∈ u8.1 := by rw [hp8.1]; exact m_b2_u7
  have e_b2_u8 : u8.2 b2 = .inl (G.2.1 5, 3, rfs (va_up (fun _ => none) 0 (some b5))) := (hp8.2.2 _ ne_b2_b6).trans e_b2_u7
  have m_b5_u8 : b5 ∈ u8.1 := by rw [hp8.1]; exact m_b5_u7
  have e_b5_u8 : u8.2 b5 = .inr (5, [.int 0, .int 0, .ref b3]) := (hp8.2.2 _ ne_b5_b6).trans e_b5_u7
  have m_b3_u8 : b3 ∈ u8.1 := by rw [hp8.1]; exact m_b3_u7
  have e_b3_u8 : u8.2 b3 = .inl (G.2.1 0, 21, lgs (fun _ => 0)) := (hp8.2.2 _ ne_b3_b6).trans e_b3_u7
  have m_b6_u8 : b6 ∈ u8.1 := by rw [hp8.1]; exact nb7.in
  have fr_u8 : ∀ c, c ∈ u.1 → c ≠ a → c ∈ u8.1 ∧ u8.2 c = u.2 c := fun c h1 h2 => ⟨by rw [hp8.1]; exact (fr_u7 c h1 h2).1, (hp8.2.2 c (fun e => nw_b6 (e ▸ h1))).trans (fr_u7 c h1 h2).2⟩
  refine k_astq 5 (r := (R_Pa, F_Pa, 3)) hx hb hw8 m_b2_u8 e_b2_u8 rfl (ew_of 1055 _ (by decide +kernel) rfl) m_b6_u8 hp8.2.1 rfl (i := 1) (by unfold vp_in; decide) d_Q_init_37 (fun H9 locs9 hw9 => ?_)
  obtain ⟨u9, hu9⟩ : ∃ v : WT, v = (u8.1, va_up u8.2 b2 (.inl (G.2.1 5, 3, rfs (va_up (va_up (fun _ => none) 0 (some b5)) 1 (some b6))))) := ⟨_, rfl⟩
  replace hw9 : Wk G A u9 st H9 locs9 := by rw [hu9]; exact hw9
  have n9 : N1 u8 u9 b2 (.inl (G.2.1 5, 3, rfs (va_up (va_up (fun _ => none) 0 (some b5)) 1 (some b6)))) := by rw [hu9]; exact N1.of
  have m_a_u9 : a ∈ u9.1 := by rw [n9.1]; exact m_a_u8
  have e_a_u9 : u9.2 a = .inr (0, [.ref b1, .null, .int 0, .int 0, .int 0, .int 0]) := (n9.2.2 _ ne_a_b2).trans e_a_u8
  have m_b1_u9 : b1 ∈ u9.1 := by rw [n9.1]; exact m_b1_u8
  have e_b1_u9 : u9.2 b1 = .inl (G.2.1 4, 16, rfs (fun _ => none)) := (n9.2.2 _ ne_b1_b2).trans e_b1_u8
  have m_b2_u9 : b2 ∈ u9.1 := by rw [n9.1]; exact m_b2_u8
  have m_b5_u9 : b5 ∈ u9.1 := by rw [n9.1]; exact m_b5_u8
  have e_b5_u9 : u9.2 b5 = .inr (5, [.int 0, .int 0, .ref b3]) := (n9.2.2 _ (Ne.symm ne_b2_b5)).trans e_b5_u8
  have m_b3_u9 : b3 ∈ u9.1 := by rw [n9.1]; exact m_b3_u8
  have e_b3_u9 : u9.2 b3 = .inl (G.2.1 0, 21, lgs (fun _ => 0)) := (n9.2.2 _ (Ne.symm ne_b2_b3)).trans e_b3_u8
  have m_b6_u9 : b6 ∈ u9.1 := by rw [n9.1]; exact m_b6_u8
  have e_b6_u9 : u9.2 b6 = .inr (6, [.int 0, .int 6, .long 0]) := (n9.2.2 _ (Ne.symm ne_b2_b6)).trans hp8.2.1
  have fr_u9 : ∀ c, c ∈ u.1 → c ≠ a → c ∈ u9.1 ∧ u9.2 c = u.2 c := fun c h1 h2 => ⟨by rw [n9.1]; exact (fr_u8 c h1 h2).1, (n9.2.2 c (fun e => nw_b2 (e ▸ h1))).trans (fr_u8 c h1 h2).2⟩
  refine lv_dup hx hb d_Q_init_38 rfl ?_
  refine lv_iconst (v := 2) hx hb d_Q_init_39 (by decide) ?_
  refine k_new (ci := 7) (fs := [.int 0, .int 0, .null]) hx hb ht i_Ne t_Ne t_Ne_ok hown gw_109 gw_110 gw_46 hw9 rfl (by decide +kernel) (by first | decide | (dsimp only; omega)) (by first | decide | (dsimp only; omega)) d_Q_init_40 (fun b7 H10 hq10 hw10 => ?_)
  obtain ⟨u10, hu10⟩ : ∃ v : WT, v = (u9.1 ++ [b7], va_up u9.2 b7 (.inr (7, [.int 0, .int 0, .null]))) := ⟨_, rfl⟩
  rw [← hu10] at hw10
  have nb10 : NB u9 u10 b7 (.inr (7, [.int 0, .int 0, .null])) := by rw [hu10]; exact ⟨hq10, rfl, va_up_self _ _ _, fun x hx => va_up_ne _ _ hx⟩
  have ne_a_b7 : a ≠ b7 := nb10.ne m_a_u9
  have ne_b1_b7 : b1 ≠ b7 := nb10.ne m_b1_u9
  have ne_b2_b7 : b2 ≠ b7 := nb10.ne m_b2_u9
  have ne_b5_b7 : b5 ≠ b7 := nb10.ne m_b5_u9
  have ne_b3_b7 : b3 ≠ b7 := nb10.ne m_b3_u9
  have ne_b6_b7 : b6 ≠ b7 := nb10.ne m_b6_u9
  have m_a_u10 : a ∈ u10.1 := nb10.mem m_a_u9
  have e_a_u10 : u10.2 a = .inr (0, [.ref b1, .null, .int 0, .int 0, .int 0, .int 0]) := (nb10.at m_a_u9).trans e_a_u9
  have m_b1_u10 : b1 ∈ u10.1 := nb10.mem m_b1_u9
  have e_b1_u10 : u10.2 b1 = .inl (G.2.1 4, 16, rfs (fun _ => none)) := (nb10.at m_b1_u9).trans e_b1_u9
  have m_b2_u10 : b2 ∈ u10.1 := nb10.mem m_b2_u9
  have e_b2_u10 : u10.2 b2 = .inl (G.2.1 5, 3, rfs (va_up (va_up (fun _ => none) 0 (some b5)) 1 (some b6))) := (nb10.at m_b2_u9).trans n9.2.1
  have m_b5_u10 : b5 ∈ u10.1 := nb10.mem m_b5_u9
  have e_b5_u10 : u10.2 b5 = .inr (5, [.int 0, .int 0, .ref b3]) := (nb10.at m_b5_u9).trans e_b5_u9
  have m_b3_u10 : b3 ∈ u10.1 := nb10.mem m_b3_u9
  have e_b3_u10 : u10.2 b3 = .inl (G.2.1 0, 21, lgs (fun _ => 0)) := (nb10.at m_b3_u9).trans e_b3_u9
  have m_b6_u10 : b6 ∈ u10.1 := nb10.mem m_b6_u9
  have e_b6_u10 : u10.2 b6 = .inr (6, [.int 0, .int 6, .long 0]) := (nb10.at m_b6_u9).trans e_b6_u9
  have fr_u10 : ∀ c, c ∈ u.1 → c ≠ a → c ∈ u10.1 ∧ u10.2 c = u.2 c := fun c h1 h2 => ⟨nb10.mem (fr_u9 c h1 h2).1, (nb10.at (fr_u9 c h1 h2).1).trans (fr_u9 c h1 h2).2⟩
  have nw_b7 : b7 ∉ u.1 := fun h => by by_cases h2 : b7 = a; exact ne_a_b7 h2.symm; exact nb10.1 (fr_u9 _ h h2).1
  refine lv_dup hx hb d_Q_init_43 rfl ?_
  refine kc_v (kr_I 0 (As := []) (rest := [.ref b7, .int (2 : Int32), .ref b2, .ref b2, .ref a]) (c_Ne_init l G A u10 b7 nb10.in nb10.2.2.1) hx hb hml hown ht hw10 rfl gw_111 gw_112 gw_46 gw_113 ⟨⟨by decide, by decide⟩, by decide +kernel⟩ ⟨by first | decide | (dsimp only; omega), by first | decide | (dsimp only; omega)⟩ rfl hl.1 rfl (lv_room (Nat.le_of_ble_eq_true rfl)) d_Q_init_44 ⟨by first | decide | (dsimp only; omega), by first | decide | (dsimp only; omega)⟩) hw10 (fun _ _ _ _ _ _ h => h.elim) (fun u11 H11 locs11 hp11 hw11 => ?_)
  obtain ⟨b4, np11⟩ := hp11
  have ne_a_b4 : a ≠ b4 := fun e => np11.1 (e ▸ m_a_u10)
  have ne_b1_b4 : b1 ≠ b4 := fun e => np11.1 (e ▸ m_b1_u10)
  have ne_b2_b4 : b2 ≠ b4 := fun e => np11.1 (e ▸ m_b2_u10)
  have ne_b5_b4 : b5 ≠ b4 := fun e => np11.1 (e ▸ m_b5_u10)
  have ne_b3_b4 : b3 ≠ b4 := fun e => np11.1 (e ▸ m_b3_u10)
  have ne_b6_b4 : b6 ≠ b4 := fun e => np11.1 (e ▸ m_b6_u10)
  have ne_b7_b4 : b7 ≠ b4 := fun e => np11.1 (e ▸ nb10.in)
  have m_a_u11 : a ∈ u11.1 := by rw [np11.2.1]; exact List.mem_append_left _ m_a_u10
  have e_a_u11 : u11.2 a = .inr (0, [.ref b1, .null, .int 0, .int 0, .int 0, .int 0]) := (np11.2.2.2.2 _ ne_a_b7 ne_a_b4).trans e_a_u10
  have m_b1_u11 : b1 ∈ u11.1 := by rw [np11.2.1]; exact List.mem_append_left _ m_b1_u10
  have e_b1_u11 : u11.2 b1 = .inl (G.2.1 4, 16, rfs (fun _ => none)) := (np11.2.2.2.2 _ ne_b1_b7 ne_b1_b4).trans e_b1_u10
  have m_b2_u11 : b2 ∈ u11.1 := by rw [np11.2.1]; exact List.mem_append_left _ m_b2_u10
  have e_b2_u11 : u11.2 b2 = .inl (G.2.1 5, 3, rfs (va_up (va_up (fun _ => none) 0 (some b5)) 1 (some b6))) := (np11.2.2.2.2 _ ne_b2_b7 ne_b2_b4).trans e_b2_u10
  have m_b5_u11 : b5 ∈ u11.1 := by rw [np11.2.1]; exact List.mem_append_left _ m_b5_u10
  have e_b5_u11 : u11.2 b5 = .inr (5, [.int 0, .int 0, .ref b3]) := (np11.2.2.2.2 _ ne_b5_b7 ne_b5_b4).trans e_b5_u10
  have m_b3_u11 : b3 ∈ u11.1 := by rw [np11.2.1]; exact List.mem_append_left _ m_b3_u10
  have e_b3_u11 : u11.2 b3 = .inl (G.2.1 0, 21, lgs (fun _ => 0)) := (np11.2.2.2.2 _ ne_b3_b7 ne_b3_b4).trans e_b3_u10
  have m_b6_u11 : b6 ∈ u11.1 := by rw [np11.2.1]; exact List.mem_append_left _ m_b6_u10
  have e_b6_u11 : u11.2 b6 = .inr (6, [.int 0, .int 6, .long 0]) := (np11.2.2.2.2 _ ne_b6_b7 ne_b6_b4).trans e_b6_u10
  have m_b7_u11 : b7 ∈ u11.1 := by rw [np11.2.1]; exact List.mem_append_left _ nb10.in
  have fr_u11 : ∀ c, c ∈ u.1 → c ≠ a → c ∈ u11.1 ∧ u11.2 c = u.2 c := fun c h1 h2 => ⟨by rw [np11.2.1]; exact List.mem_append_left _ (fr_u10 c h1 h2).1, (np11.2.2.2.2 c (fun e => nw_b7 (e ▸ h1)) (fun e => np11.1 (e ▸ (fr_u10 c h1 h2).1))).trans (fr_u10 c h1 h2).2⟩
  have nw_b4 : b4 ∉ u.1 := fun h => by by_cases h2 : b4 = a; exact ne_a_b4 h2.symm; exact np11.1 (fr_u10 _ h h2).1
  have m_b4_u11 : b4 ∈ u11.1 := by rw [np11.2.1]; exact List.mem_append_right _ List.mem_cons_self
  refine k_astq 5 (r := (R_Ne, F_Ne, 3)) hx hb hw11 m_b2_u11 e_b2_u11 rfl (ew_of 1054 _ (by decide +kernel) rfl) m_b7_u11 np11.2.2.1 rfl (i := 2) (by unfold vp_in; decide) d_Q_init_47 (fun H12 locs12 hw12 => ?_)
  obtain ⟨u12, hu12⟩ : ∃ v : WT, v = (u11.1, va_up u11.2 b2 (.inl (G.2.1 5, 3, rfs (va_up (va_up (va_up (fun _ => none) 0 (some b5)) 1 (some b6)) 2 (some b7))))) := ⟨_, rfl⟩
  replace hw12 : Wk G A u12 st H12 locs12 := by rw [hu12]; exact hw12
  have n12 : N1 u11 u12 b2 (.inl (G.2.1 5, 3, rfs (va_up (va_up (va_up (fun _ => none) 0 (some b5)) 1 (some b6)) 2 (some b7)))) := by rw [hu12]; exact N1.of
  have m_a_u12 : a ∈ u12.1 := by rw [n12.1]; exact m_a_u11
  have e_a_u12 : u12.2 a = .inr (0, [.ref b1, .null, .int 0, .int 0, .int 0, .int 0]) := (n12.2.2 _ ne_a_b2).trans e_a_u11
  have m_b1_u12 : b1 ∈ u12.1 := by rw [n12.1]; exact m_b1_u11
  have e_b1_u12 : u12.2 b1 = .inl (G.2.1 4, 16, rfs (fun _ => none)) := (n12.2.2 _ ne_b1_b2).trans e_b1_u11
  have m_b2_u12 : b2 ∈ u12.1 := by rw [n12.1]; exact m_b2_u11
  have m_b5_u12 : b5 ∈ u12.1 := by rw [n12.1]; exact m_b5_u11
  have e_b5_u12 : u12.2 b5 = .inr (5, [.int 0, .int 0, .ref b3]) := (n12.2.2 _ (Ne.symm ne_b2_b5)).trans e_b5_u11
  have m_b3_u12 : b3 ∈ u12.1 := by rw [n12.1]; exact m_b3_u11
  have e_b3_u12 : u12.2 b3 = .inl (G.2.1 0, 21, lgs (fun _ => 0)) := (n12.2.2 _ (Ne.symm ne_b2_b3)).trans e_b3_u11
  have m_b6_u12 : b6 ∈ u12.1 := by rw [n12.1]; exact m_b6_u11
  have e_b6_u12 : u12.2 b6 = .inr (6, [.int 0, .int 6, .long 0]) := (n12.2.2 _ (Ne.symm ne_b2_b6)).trans e_b6_u11
  have m_b7_u12 : b7 ∈ u12.1 := by rw [n12.1]; exact m_b7_u11
  have e_b7_u12 : u12.2 b7 = .inr (7, [.int 1, .int 20, .ref b4]) := (n12.2.2 _ (Ne.symm ne_b2_b7)).trans np11.2.2.1
  have m_b4_u12 : b4 ∈ u12.1 := by rw [n12.1]; exact m_b4_u11
  have e_b4_u12 : u12.2 b4 = .inl (G.2.1 0, 41, lgs (fun _ => 0)) := (n12.2.2 _ (Ne.symm ne_b2_b4)).trans np11.2.2.2.1
  have fr_u12 : ∀ c, c ∈ u.1 → c ≠ a → c ∈ u12.1 ∧ u12.2 c = u.2 c := fun c h1 h2 => ⟨by rw [n12.1]; exact (fr_u11 c h1 h2).1, (n12.2.2 c (fun e => nw_b2 (e ▸ h1))).trans (fr_u11 c h1 h2).2⟩
  refine x_putF hx hb ht i_Q t_Q t_Q_ok n_Q hown hw12 m_a_u12 e_a_u12 (ty := .array (.object "QuoteGraph$Engine")) (fs' := [.ref b1, .ref b2, .int 0, .int 0, .int 0, .int 0]) rfl 1 (by decide) gw_122 (Or.inl rfl) rfl hname rfl rfl (by decide +kernel) rfl rfl (Nat.le_of_ble_eq_true rfl) d_Q_init_48 (fun H13 locs13 u13 hw13 n13 => ?_)
  have m_a_u13 : a ∈ u13.1 := by rw [n13.1]; exact m_a_u12
  have m_b1_u13 : b1 ∈ u13.1 := by rw [n13.1]; exact m_b1_u12
  have e_b1_u13 : u13.2 b1 = .inl (G.2.1 4, 16, rfs (fun _ => none)) := (n13.2.2 _ (Ne.symm ne_a_b1)).trans e_b1_u12
  have m_b2_u13 : b2 ∈ u13.1 := by rw [n13.1]; exact m_b2_u12
  have e_b2_u13 : u13.2 b2 = .inl (G.2.1 5, 3, rfs (va_up (va_up (va_up (fun _ => none) 0 (some b5)) 1 (some b6)) 2 (some b7))) := (n13.2.2 _ (Ne.symm ne_a_b2)).trans n12.2.1
  have m_b5_u13 : b5 ∈ u13.1 := by rw [n13.1]; exact m_b5_u12
  have e_b5_u13 : u13.2 b5 = .inr (5, [.int 0, .int 0, .ref b3]) := (n13.2.2 _ (Ne.symm ne_a_b5)).trans e_b5_u12
  have m_b3_u13 : b3 ∈ u13.1 := by rw [n13.1]; exact m_b3_u12
  have e_b3_u13 : u13.2 b3 = .inl (G.2.1 0, 21, lgs (fun _ => 0)) := (n13.2.2 _ (Ne.symm ne_a_b3)).trans e_b3_u12
  have m_b6_u13 : b6 ∈ u13.1 := by rw [n13.1]; exact m_b6_u12
  have e_b6_u13 : u13.2 b6 = .inr (6, [.int 0, .int 6, .long 0]) := (n13.2.2 _ (Ne.symm ne_a_b6)).trans e_b6_u12
  have m_b7_u13 : b7 ∈ u13.1 := by rw [n13.1]; exact m_b7_u12
  have e_b7_u13 : u13.2 b7 = .inr (7, [.int 1, .int 20, .ref b4]) := (n13.2.2 _ (Ne.symm ne_a_b7)).trans e_b7_u12
  have m_b4_u13 : b4 ∈ u13.1 := by rw [n13.1]; exact m_b4_u12
  have e_b4_u13 : u13.2 b4 = .inl (G.2.1 0, 41, lgs (fun _ => 0)) := (n13.2.2 _ (Ne.symm ne_a_b4)).trans e_b4_u12
  have fr_u13 : ∀ c, c ∈ u.1 → c ≠ a → c ∈ u13.1 ∧ u13.2 c = u.2 c := fun c h1 h2 => ⟨by rw [n13.1]; exact (fr_u12 c h1 h2).1, (n13.2.2 c h2).trans (fr_u12 c h1 h2).2⟩
  have hin : ∀ i j, i < 8 → j < 8 → lc8 a b1 b2 b3 b4 b5 b6 b7 i = lc8 a b1 b2 b3 b4 b5 b6 b7 j → i = j := by
    intro i j hi hj h
    have hi9 : i = 0 ∨ i = 1 ∨ i = 2 ∨ i = 3 ∨ i = 4 ∨ i = 5 ∨ i = 6 ∨ i = 7 := by omega
    have hj9 : j = 0 ∨ j = 1 ∨ j = 2 ∨ j = 3 ∨ j = 4 ∨ j = 5 ∨ j = 6 ∨ j = 7 := by omega
    rcases hi9 with rfl | rfl | rfl | rfl | rfl | rfl | rfl | rfl <;> rcases hj9 with rfl | rfl | rfl | rfl | rfl | rfl | rfl | rfl
    · rfl
    · exact absurd h ne_a_b1
    · exact absurd h ne_a_b2
    · exact absurd h ne_a_b3
    · exact absurd h ne_a_b4
    · exact absurd h ne_a_b5
    · exact absurd h ne_a_b6
    · exact absurd h ne_a_b7
    · exact absurd h (Ne.symm ne_a_b1)
    · rfl
    · exact absurd h ne_b1_b2
    · exact absurd h ne_b1_b3
    · exact absurd h ne_b1_b4
    · exact absurd h ne_b1_b5
    · exact absurd h ne_b1_b6
    · exact absurd h ne_b1_b7
    · exact absurd h (Ne.symm ne_a_b2)
    · exact absurd h (Ne.symm ne_b1_b2)
    · rfl
    · exact absurd h ne_b2_b3
    · exact absurd h ne_b2_b4
    · exact absurd h ne_b2_b5
    · exact absurd h ne_b2_b6
    · exact absurd h ne_b2_b7
    · exact absurd h (Ne.symm ne_a_b3)
    · exact absurd h (Ne.symm ne_b1_b3)
    · exact absurd h (Ne.symm ne_b2_b3)
    · rfl
    · exact absurd h ne_b3_b4
    · exact absurd h (Ne.symm ne_b5_b3)
    · exact absurd h ne_b3_b6
    · exact absurd h ne_b3_b7
    · exact absurd h (Ne.symm ne_a_b4)
    · exact absurd h (Ne.symm ne_b1_b4)
    · exact absurd h (Ne.symm ne_b2_b4)
    · exact absurd h (Ne.symm ne_b3_b4)
    · rfl
    · exact absurd h (Ne.symm ne_b5_b4)
    · exact absurd h (Ne.symm ne_b6_b4)
    · exact absurd h (Ne.symm ne_b7_b4)
    · exact absurd h (Ne.symm ne_a_b5)
    · exact absurd h (Ne.symm ne_b1_b5)
    · exact absurd h (Ne.symm ne_b2_b5)
    · exact absurd h ne_b5_b3
    · exact absurd h ne_b5_b4
    · rfl
    · exact absurd h ne_b5_b6
    · exact absurd h ne_b5_b7
    · exact absurd h (Ne.symm ne_a_b6)
    · exact absurd h (Ne.symm ne_b1_b6)
    · exact absurd h (Ne.symm ne_b2_b6)
    · exact absurd h (Ne.symm ne_b3_b6)
    · exact absurd h ne_b6_b4
    · exact absurd h (Ne.symm ne_b5_b6)
    · rfl
    · exact absurd h ne_b6_b7
    · exact absurd h (Ne.symm ne_a_b7)
    · exact absurd h (Ne.symm ne_b1_b7)
    · exact absurd h (Ne.symm ne_b2_b7)
    · exact absurd h (Ne.symm ne_b3_b7)
    · exact absurd h ne_b7_b4
    · exact absurd h (Ne.symm ne_b5_b7)
    · exact absurd h (Ne.symm ne_b6_b7)
    · rfl
  have hcq : ∀ k, k < 8 → (lc8 a b1 b2 b3 b4 b5 b6 b7) k ∈ u13.1 ∧ u13.2 ((lc8 a b1 b2 b3 b4 b5 b6 b7) k) = cQ G (lc8 a b1 b2 b3 b4 b5 b6 b7) q0 z0 k := by
    intro k hk
    have hk9 : k = 0 ∨ k = 1 ∨ k = 2 ∨ k = 3 ∨ k = 4 ∨ k = 5 ∨ k = 6 ∨ k = 7 := by omega
    rcases hk9 with rfl | rfl | rfl | rfl | rfl | rfl | rfl | rfl
    · exact ⟨m_a_u13, n13.2.1.trans rfl⟩
    · refine ⟨m_b1_u13, e_b1_u13.trans ?_⟩; show (.inl (G.2.1 4, 16, rfs (fun _ => none)) : va_E) = .inl (G.2.1 4, 16, rfs (fun j => if j < 0 then some (lc8 a b1 b2 b3 b4 b5 b6 b7 (8 + j)) else none)); rw [show (fun _ => none : Nat → Option Nat) = (fun j => if j < 0 then some (lc8 a b1 b2 b3 b4 b5 b6 b7 (8 + j)) else none) from funext (fun j => by rw [if_neg (by omega)])]
    · refine ⟨m_b2_u13, e_b2_u13.trans ?_⟩; show (.inl (G.2.1 5, 3, rfs (va_up (va_up (va_up (fun _ => none) 0 (some b5)) 1 (some b6)) 2 (some b7))) : va_E) = .inl (G.2.1 5, 3, rfs (fun j => if j < 3 then some (lc8 a b1 b2 b3 b4 b5 b6 b7 (5 + j)) else none)); rw [show (va_up (va_up (va_up (fun _ => none) 0 (some b5)) 1 (some b6)) 2 (some b7)) = (fun j => if j < 3 then some (lc8 a b1 b2 b3 b4 b5 b6 b7 (5 + j)) else none) from funext (fun j => by by_cases h0 : j = 0; (subst h0; rfl); by_cases h1 : j = 1; (subst h1; rfl); by_cases h2 : j = 2; (subst h2; rfl); rw [va_up_ne _ _ h2, va_up_ne _ _ h1, va_up_ne _ _ h0, if_neg (by omega)])]
    · exact ⟨m_b3_u13, e_b3_u13.trans rfl⟩
    · exact ⟨m_b4_u13, e_b4_u13.trans rfl⟩
    · exact ⟨m_b5_u13, e_b5_u13.trans rfl⟩
    · exact ⟨m_b6_u13, e_b6_u13.trans rfl⟩
    · exact ⟨m_b7_u13, e_b7_u13.trans rfl⟩
  have hlv : ∀ k, liv (q_n q0) k → k < 8 := fun k h => by unfold liv at h; have e : q_n q0 = 0 := rfl; rw [e] at h; omega
  exact kt_v hx hb hr hlocks hw13 d_Q_init_51 (by exact ⟨(lc8 a b1 b2 b3 b4 b5 b6 b7), z0, rfl, ⟨⟨by decide, fun j hj => absurd hj (Nat.not_lt_zero _)⟩, fun k hk => hcq k (hlv k hk), fun i j hi hj => hin i j (hlv i hi) (hlv j hj), fun j hj => absurd hj (Nat.not_lt_zero _)⟩, fr_u13, fun k hk h0 => by have hk9 : k = 1 ∨ k = 2 ∨ k = 3 ∨ k = 4 ∨ k = 5 ∨ k = 6 ∨ k = 7 := (by omega); rcases hk9 with rfl | rfl | rfl | rfl | rfl | rfl | rfl; exact nw_b1; exact nw_b2; exact nw_b3; exact nw_b4; exact nw_b5; exact nw_b6; exact nw_b7⟩) (by first | decide | (dsimp only; omega)) (by first | decide | (dsimp only; omega))

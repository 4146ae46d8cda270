/-! 33.make: contracts of what makes nodes -/
section XGet
variable {p : Program} {l : Launch} {e : Env} {R : Room} {s : State} {m : MethodId} {args : Array Value} {below : List Frame} {meth : Method} {c : Code} {H : Heap} {locs : List Loc} {cells slots : Nat} {Q : State → Prop}
variable {cc : ByteArray} {pc : Nat} {ls : Array Slot} {rest : List Value} {G : GT} {A : Nat → Prop} {a : Nat} {u : WT} {index : Nat} {own ref : String}
theorem x_getN (k : Nat) (hk : k < 10) {t : Nat} (ht4 : t < 4) {hs X : List Value} {v : Value} (hv : hs[k]? = some v) (hexec : p.tables.exec = Jvm.exec) (hb : c.code = cc) (ht : ∀ w ∈ GW, w.before args s = true) (hown : s.vm.findClass own = some m.cls) (hw : Wk G A u s H locs) (ha : a ∈ u.1) (he : u.2 a = .inr (t + 1, hs ++ X)) (hlink : Cond.fieldLink own index ref (F_Qt k).2.1 (F_Qt k).2.2.1 ∈ GW) (hsame : ref = "QuoteGraph$Node" ∨ Cond.sameField ref "QuoteGraph$Node" (F_Qt k).2.1 (F_Qt k).2.2.1 ∈ GW) (hdg : decode cc pc = .ok (.getfield index, 3))
    (kk : W p l e R s m args below meth c H locs cells slots Q (F0 m (pc + 3) ls (v :: rest))) : W p l e R s m args below meth c H locs cells slots Q (F0 m pc ls (.ref a :: rest)) := by
  obtain ⟨e1, e2, e3, e4⟩ := F_all k hk
  have hs0 := k_same ht (o := "QuoteGraph$Node") hsame
  rw [← e4] at hs0
  have hv' : (hs ++ X)[k]? = some v := by rw [List.getElem?_append_left (List.getElem?_eq_some_iff.mp hv).1]; exact hv
  have h5 : t = 0 ∨ t = 1 ∨ t = 2 ∨ t = 3 := by omega
  rcases h5 with rfl | rfl | rfl | rfl
  · exact k_get hexec hb ht i_Qt hown hw ha he rfl k hk hlink hs0 hv' hdg kk
  · rw [← e1] at hlink hs0; exact k_get hexec hb ht i_Bl hown hw ha he rfl k (by omega) hlink hs0 hv' hdg kk
  · rw [← e2] at hlink hs0; exact k_get hexec hb ht i_Gr hown hw ha he rfl k hk hlink hs0 hv' hdg kk
  · rw [← e3] at hlink hs0; exact k_get hexec hb ht i_Op hown hw ha he rfl k (by omega) hlink hs0 hv' hdg kk
end XGet
theorem gr.nb {u u1 : WT} {b : Nat} {y : va_E} (h : NB u u1 b y) : gr u u1 := fun _ hx => ⟨h.mem hx, h.at hx⟩
theorem gr.np {u u1 u2 : WT} {a b : Nat} {v x y : va_E} (h : NB u u1 a v) (h' : NP u1 u2 a x b y) : gr u u2 := fun c hc => by
  have h1 : c ∈ u1.1 := h.mem hc
  refine ⟨by rw [h'.2.1]; exact List.mem_append_left _ h1, ?_⟩
  rw [h'.2.2.2.2 c (h.ne hc) (fun e => h'.1 (e ▸ h1)), h.at hc]
theorem NewN.mk {G : GT} {lc : Nat → Nat} {s : QS} {z : ZS} {u u1 u2 u' : WT} {a b : Nat} {v x y : va_E} (hR : rQ G lc s z u) (h : NB u u1 a v) (h' : NP u1 u2 a x b y) (hu : u'.1 = u2.1)
    (e0 : u'.2 (lc 0) = .inr (0, [.ref (lc 1), .ref (lc 2), .int (nI (q_n s + 1)), .int (q_tl s), .int (q_wk s), .int (q_fl s)])) (e1 : u'.2 (lc 1) = .inl (G.2.1 4, 16, rfs (va_up (fun j => if j < q_n s then some (lc (8 + j)) else none) (q_n s) (some a)))) (ho : ∀ c, c ≠ lc 0 → c ≠ lc 1 → u'.2 c = u2.2 c) : NewN G lc s u u' a b x y := by
  have g := gr.np h h'
  have ia1 : a ∈ u1.1 := h.in
  have hb1 : b ∉ u.1 := fun hb => h'.1 (h.mem hb)
  have l0 : ∀ k, k < 8 → lc k ∈ u.1 := fun k hk => (hR.at (liv_s hk)).1
  refine ⟨h.1, hb1, fun e => h'.1 (e ▸ ia1), fun c hc => by rw [hu]; exact (g c hc).1, by rw [hu, h'.2.1]; exact List.mem_append_left _ ia1, by rw [hu, h'.2.1]; exact List.mem_append_right _ List.mem_cons_self, ?_, ?_, e0, e1, fun c hc n0 n1 => by rw [ho c n0 n1]; exact (g c hc).2⟩
  · rw [ho a (fun e => h.1 (e ▸ l0 0 (by omega))) (fun e => h.1 (e ▸ l0 1 (by omega)))]; exact h'.2.2.1
  · rw [ho b (fun e => hb1 (e ▸ l0 0 (by omega))) (fun e => hb1 (e ▸ l0 1 (by omega)))]; exact h'.2.2.2.1
set_option maxHeartbeats 4000000 in
set_option maxRecDepth 100000 in
theorem c_Nd_init (l : Launch) (G : GT) (A : Nat → Prop) (u : WT) (a : Nat) (t : Nat) (ht4 : t < 4) (X : List Value) (ha : a ∈ u.1) (he : u.2 a = .inr (t + 1, D10 ++ X)) (k c9 : Int32) (b : Nat) : Kt l y_Nd_init b_Nd_init 4 none 1 40 0 0 0 0 0 0 G A u [.ref a, .int k, .ref b, .int c9] (KQ G A (Rv (fun u' => N1 u u' a (.inr (t + 1, [.int k, .ref b, .int c9, .long 0, .int 0, .int 0, .int 0, .int 0, .long 0, .int 0] ++ X))))) (NX) := by
  refine k_of (by decide) (Nat.le_of_ble_eq_true rfl) (fun p e st m below meth c ls hx hb hr hlocks hml htab hname hown ht hw hl => ?_)
  have hl : lv_has ls 4 [(0, .ref a), (1, .int k), (2, .ref b), (3, .int c9)] := hl
  refine lv_aload_n hx hb d_Nd_init_0 rfl (lv_at hl 0 rfl) ?_
  refine k_objInit hx hb (hml.trans hl.1.symm) ht hown gw_257 gw_69 gw_70 d_Nd_init_1 (by first | decide | (dsimp only; omega)) (by first | decide | (dsimp only; omega) | exact Nat.le_of_ble_eq_true rfl) ?_
  refine lv_aload_n hx hb d_Nd_init_4 rfl (lv_at hl 0 rfl) ?_
  refine lv_iload_n hx hb d_Nd_init_5 rfl (lv_at hl 1 rfl) ?_
  refine x_putN 0 (by decide) (t := t) ht4 (hs := [.int 0, .null, .int 0, .long 0, .int 0, .int 0, .int 0, .int 0, .long 0, .int 0]) (hs' := [.int k, .null, .int 0, .long 0, .int 0, .int 0, .int 0, .int 0, .long 0, .int 0]) (X := X) (ty := .int) rfl rfl hx hb ht hown hw ha he gw_258 (Or.inl rfl) (Or.inr ⟨hname, rfl⟩) (by decide +kernel) rfl rfl d_Nd_init_6 (fun H1 locs1 u1 hw1 n1 => ?_)
  have ha1 : a ∈ u1.1 := by rw [n1.1]; exact ha
  refine lv_aload_n hx hb d_Nd_init_9 rfl (lv_at hl 0 rfl) ?_
  refine lv_aload_n hx hb d_Nd_init_10 rfl (lv_at hl 2 rfl) ?_
  refine x_putN 1 (by decide) (t := t) ht4 (hs := [.int k, .null, .int 0, .long 0, .int 0, .int 0, .int 0, .int 0, .long 0, .int 0]) (hs' := [.int k, .ref b, .int 0, .long 0, .int 0, .int 0, .int 0, .int 0, .long 0, .int 0]) (X := X) (ty := (.array (.object "QuoteGraph$Node"))) rfl rfl hx hb ht hown hw1 ha1 n1.2.1 gw_260 (Or.inl rfl) (Or.inr ⟨hname, rfl⟩) (by decide +kernel) rfl rfl d_Nd_init_11 (fun H2 locs2 u2 hw2 n2 => ?_)
  have ha2 : a ∈ u2.1 := by rw [n2.1]; exact ha1
  refine lv_aload_n hx hb d_Nd_init_14 rfl (lv_at hl 0 rfl) ?_
  refine lv_iload_n hx hb d_Nd_init_15 rfl (lv_at hl 3 rfl) ?_
  refine x_putN 2 (by decide) (t := t) ht4 (hs := [.int k, .ref b, .int 0, .long 0, .int 0, .int 0, .int 0, .int 0, .long 0, .int 0]) (hs' := [.int k, .ref b, .int c9, .long 0, .int 0, .int 0, .int 0, .int 0, .long 0, .int 0]) (X := X) (ty := .int) rfl rfl hx hb ht hown hw2 ha2 n2.2.1 gw_268 (Or.inl rfl) (Or.inr ⟨hname, rfl⟩) (by decide +kernel) rfl rfl d_Nd_init_16 (fun H3 locs3 u3 hw3 n3 => ?_)
  have ha3 : a ∈ u3.1 := by rw [n3.1]; exact ha2
  exact kt_v hx hb hr hlocks hw3 d_Nd_init_19 (by exact (n1.tr n2).tr n3) (by first | decide | (dsimp only; omega)) (by first | decide | (dsimp only; omega))
set_option maxHeartbeats 4000000 in
set_option maxRecDepth 100000 in
theorem c_Qt_init (l : Launch) (G : GT) (A : Nat → Prop) (u : WT) (a : Nat) (ha : a ∈ u.1) (he : u.2 a = .inr (1, D10 ++ ([] : List Value))) (k : Int32) (x : Int64) : Kt l y_Qt_init b_Qt_init 4 none 2 63 1 0 1 0 0 0 G A u [.ref a, .int k, .long x] (KQ G A (Rv (fun u' => ∃ b, NP u u' a (.inr (1, [.int k, .ref b, .int 0, .long x, .int 1, .int 0, .int 0, .int 0, .long 0, .int 0])) b (.inl (G.2.1 4, 0, rfs (fun _ => none)))))) (NX) := by
  refine k_of (by decide) (Nat.le_of_ble_eq_true rfl) (fun p e st m below meth c ls hx hb hr hlocks hml htab hname hown ht hw hl => ?_)
  have hl : lv_has ls 4 [(0, .ref a), (1, .int k), (2, .long x)] := hl
  refine lv_aload_n hx hb d_Qt_init_0 rfl (lv_at hl 0 rfl) ?_
  refine lv_iload_n hx hb d_Qt_init_1 rfl (lv_at hl 1 rfl) ?_
  refine lv_iconst (v := 0) hx hb d_Qt_init_2 (by decide) ?_
  refine x_newq (N' := 0) hx hb ht hown gw_253 hw (by decide) (by decide) (by decide) (by first | decide | (dsimp only; omega)) (by first | decide | (dsimp only; omega)) d_Qt_init_3 (fun b H1 u1 hb9 hw1 h11 h21 h31 => ?_)
  have nb1 : NB u u1 b (.inl (G.2.1 4, 0, rfs (fun _ => none))) := ⟨hb9, h11, h21, h31⟩
  refine lv_iconst (v := 0) hx hb d_Qt_init_6 (by decide) ?_
  refine kc_v (kr_I 3 (As := [.int k, .ref b, .int (0 : Int32)]) (rest := []) (c_Nd_init l G A u1 a 0 (by decide) [] (nb1.mem ha) (by rw [nb1.at ha]; exact he) k 0 b) hx hb hml hown ht hw1 rfl gw_254 gw_255 gw_53 gw_256 ⟨⟨by decide, by decide⟩, by decide +kernel⟩ ⟨by first | decide | (dsimp only; omega), by first | decide | (dsimp only; omega)⟩ rfl hl.1 rfl (lv_room (Nat.le_of_ble_eq_true rfl)) d_Qt_init_7 ⟨by first | decide | (dsimp only; omega), by first | decide | (dsimp only; omega)⟩) hw1 (fun _ _ _ _ _ _ h => h.elim) (fun u2 H2 locs2 hp2 hw2 => ?_)
  have n2 : N1 u1 u2 a (.inr (1, [.int k, .ref b, .int 0, .long 0, .int 0, .int 0, .int 0, .int 0, .long 0, .int 0] ++ [])) := hp2
  have ha2 : a ∈ u2.1 := by rw [n2.1]; exact nb1.mem ha
  refine lv_aload_n hx hb d_Qt_init_10 rfl (lv_at hl 0 rfl) ?_
  refine lv_lload_n hx hb d_Qt_init_11 rfl (lv_at hl 2 rfl) ?_
  refine x_putN 3 (by decide) (t := 0) (by decide) (hs := [.int k, .ref b, .int 0, .long 0, .int 0, .int 0, .int 0, .int 0, .long 0, .int 0]) (hs' := [.int k, .ref b, .int 0, .long x, .int 0, .int 0, .int 0, .int 0, .long 0, .int 0]) (X := ([] : List Value)) (ty := .long) rfl rfl hx hb ht hown hw2 ha2 n2.2.1 gw_272 (Or.inr gw_273) (Or.inl rfl) (by decide +kernel) rfl rfl d_Qt_init_12 (fun H3 locs3 u3 hw3 n3 => ?_)
  have ha3 : a ∈ u3.1 := by rw [n3.1]; exact ha2
  refine lv_aload_n hx hb d_Qt_init_15 rfl (lv_at hl 0 rfl) ?_
  refine lv_iconst (v := 1) hx hb d_Qt_init_16 (by decide) ?_
  refine x_putN 4 (by decide) (t := 0) (by decide) (hs := [.int k, .ref b, .int 0, .long x, .int 0, .int 0, .int 0, .int 0, .long 0, .int 0]) (hs' := [.int k, .ref b, .int 0, .long x, .int (1 : Int32), .int 0, .int 0, .int 0, .long 0, .int 0]) (X := ([] : List Value)) (ty := .boolean) rfl rfl hx hb ht hown hw3 ha3 n3.2.1 gw_281 (Or.inr gw_282) (Or.inl rfl) (by decide +kernel) rfl rfl d_Qt_init_17 (fun H4 locs4 u4 hw4 n4 => ?_)
  have ha4 : a ∈ u4.1 := by rw [n4.1]; exact ha3
  exact kt_v hx hb hr hlocks hw4 d_Qt_init_20 (by exact ⟨b, NP.of nb1 ha ((n2.tr n3).tr n4)⟩) (by first | decide | (dsimp only; omega)) (by first | decide | (dsimp only; omega))
set_option maxHeartbeats 4000000 in
set_option maxRecDepth 100000 in
theorem c_Bl_init (l : Launch) (G : GT) (A : Nat → Prop) (u : WT) (a : Nat) (ha : a ∈ u.1) (he : u.2 a = .inr (2, D10 ++ [.long 0, .long 0])) (k : Int32) (g1 g2 : Nat) (hg1 : isNd u g1) (hg2 : isNd u g2) (x y : Int64) : Kt l y_Bl_init b_Bl_init 8 none 2 63 1 2 1 2 0 0 G A u [.ref a, .int k, .ref g1, .ref g2, .long x, .long y] (KQ G A (Rv (fun u' => ∃ b, NP u u' a (.inr (2, [.int k, .ref b, .int 2, .long 0, .int 0, .int 0, .int 0, .int 0, .long 0, .int 0, .long x, .long y])) b (.inl (G.2.1 4, 2, rfs (va_up (va_up (fun _ => none) 0 (some g1)) 1 (some g2))))))) (NX) := by
  refine k_of (by decide) (Nat.le_of_ble_eq_true rfl) (fun p e st m below meth c ls hx hb hr hlocks hml htab hname hown ht hw hl => ?_)
  have hl : lv_has ls 8 [(0, .ref a), (1, .int k), (2, .ref g1), (3, .ref g2), (4, .long x), (6, .long y)] := hl
  refine lv_aload_n hx hb d_Bl_init_0 rfl (lv_at hl 0 rfl) ?_
  refine lv_iload_n hx hb d_Bl_init_1 rfl (lv_at hl 1 rfl) ?_
  refine lv_iconst (v := 2) hx hb d_Bl_init_2 (by decide) ?_
  refine x_newq (N' := 2) hx hb ht hown gw_338 hw (by decide) (by decide) (by decide) (by first | decide | (dsimp only; omega)) (by first | decide | (dsimp only; omega)) d_Bl_init_3 (fun b H1 u1 hb9 hw1 h11 h21 h31 => ?_)
  have nb1 : NB u u1 b (.inl (G.2.1 4, 2, rfs (fun _ => none))) := ⟨hb9, h11, h21, h31⟩
  refine lv_dup hx hb d_Bl_init_6 rfl ?_
  refine lv_iconst (v := 0) hx hb d_Bl_init_7 (by decide) ?_
  refine lv_aload_n hx hb d_Bl_init_8 rfl (lv_at hl 2 rfl) ?_
  refine x_ast hx hb hw1 nb1.in nb1.2.2.1 (nb1.nd hg1) (by unfold vp_in; decide) d_Bl_init_9 (fun H2 locs2 u2 hw2 n2 => ?_)
  have nb2 : NB u u2 b (.inl (G.2.1 4, 2, rfs (va_up (fun _ => none) 0 (some g1)))) := nb1.put n2
  refine lv_dup hx hb d_Bl_init_10 rfl ?_
  refine lv_iconst (v := 1) hx hb d_Bl_init_11 (by decide) ?_
  refine lv_aload_n hx hb d_Bl_init_12 rfl (lv_at hl 3 rfl) ?_
  refine x_ast hx hb hw2 nb2.in nb2.2.2.1 (nb2.nd hg2) (by unfold vp_in; decide) d_Bl_init_13 (fun H3 locs3 u3 hw3 n3 => ?_)
  have nb3 : NB u u3 b (.inl (G.2.1 4, 2, rfs (va_up (va_up (fun _ => none) 0 (some g1)) 1 (some g2)))) := nb2.put n3
  refine lv_iconst (v := 2) hx hb d_Bl_init_14 (by decide) ?_
  refine kc_v (kr_I 3 (As := [.int k, .ref b, .int (2 : Int32)]) (rest := []) (c_Nd_init l G A u3 a 1 (by decide) [.long 0, .long 0] (nb3.mem ha) (by rw [nb3.at ha]; exact he) k 2 b) hx hb hml hown ht hw3 rfl gw_339 gw_255 gw_53 gw_256 ⟨⟨by decide, by decide⟩, by decide +kernel⟩ ⟨by first | decide | (dsimp only; omega), by first | decide | (dsimp only; omega)⟩ rfl hl.1 rfl (lv_room (Nat.le_of_ble_eq_true rfl)) d_Bl_init_15 ⟨by first | decide | (dsimp only; omega), by first | decide | (dsimp only; omega)⟩) hw3 (fun _ _ _ _ _ _ h => h.elim) (fun u4 H4 locs4 hp4 hw4 => ?_)
  have n4 : N1 u3 u4 a (.inr (2, [.int k, .ref b, .int 2, .long 0, .int 0, .int 0, .int 0, .int 0, .long 0, .int 0] ++ [.long 0, .long 0])) := hp4
  have ha4 : a ∈ u4.1 := by rw [n4.1]; exact nb3.mem ha
  refine lv_aload_n hx hb d_Bl_init_18 rfl (lv_at hl 0 rfl) ?_
  refine lv_lload hx hb d_Bl_init_19 (lv_at hl 4 rfl) ?_
  refine x_putF hx hb ht i_Bl t_Bl t_Bl_ok n_Bl hown hw4 ha4 n4.2.1 (ty := .long) (fs := [.int k, .ref b, .int 2, .long 0, .int 0, .int 0, .int 0, .int 0, .long 0, .int 0, .long 0, .long 0]) (fs' := [.int k, .ref b, .int 2, .long 0, .int 0, .int 0, .int 0, .int 0, .long 0, .int 0, .long x, .long 0]) rfl 10 (by decide) gw_340 (Or.inl rfl) rfl hname rfl rfl (by decide +kernel) rfl rfl (Nat.le_of_ble_eq_true rfl) d_Bl_init_21 (fun H5 locs5 u5 hw5 n5 => ?_)
  have ha5 : a ∈ u5.1 := by rw [n5.1]; exact ha4
  refine lv_aload_n hx hb d_Bl_init_24 rfl (lv_at hl 0 rfl) ?_
  refine lv_lload hx hb d_Bl_init_25 (lv_at hl 5 rfl) ?_
  refine x_putF hx hb ht i_Bl t_Bl t_Bl_ok n_Bl hown hw5 ha5 n5.2.1 (ty := .long) (fs := [.int k, .ref b, .int 2, .long 0, .int 0, .int 0, .int 0, .int 0, .long 0, .int 0, .long x, .long 0]) (fs' := [.int k, .ref b, .int 2, .long 0, .int 0, .int 0, .int 0, .int 0, .long 0, .int 0, .long x, .long y]) rfl 11 (by decide) gw_341 (Or.inl rfl) rfl hname rfl rfl (by decide +kernel) rfl rfl (Nat.le_of_ble_eq_true rfl) d_Bl_init_27 (fun H6 locs6 u6 hw6 n6 => ?_)
  have ha6 : a ∈ u6.1 := by rw [n6.1]; exact ha5
  exact kt_v hx hb hr hlocks hw6 d_Bl_init_30 (by exact ⟨b, NP.of nb3 ha ((n4.tr n5).tr n6)⟩) (by first | decide | (dsimp only; omega)) (by first | decide | (dsimp only; omega))
set_option maxHeartbeats 4000000 in
set_option maxRecDepth 100000 in
theorem c_Gr_init (l : Launch) (G : GT) (A : Nat → Prop) (u : WT) (a : Nat) (ha : a ∈ u.1) (he : u.2 a = .inr (3, D10 ++ ([] : List Value))) (k : Int32) (g1 g2 : Nat) (hg1 : isNd u g1) (hg2 : isNd u g2) : Kt l y_Gr_init b_Gr_init 4 none 2 63 1 2 1 2 0 0 G A u [.ref a, .int k, .ref g1, .ref g2] (KQ G A (Rv (fun u' => ∃ b, NP u u' a (.inr (3, [.int k, .ref b, .int 2, .long 0, .int 0, .int 0, .int 0, .int 0, .long 0, .int 0])) b (.inl (G.2.1 4, 2, rfs (va_up (va_up (fun _ => none) 0 (some g1)) 1 (some g2))))))) (NX) := by
  refine k_of (by decide) (Nat.le_of_ble_eq_true rfl) (fun p e st m below meth c ls hx hb hr hlocks hml htab hname hown ht hw hl => ?_)
  have hl : lv_has ls 4 [(0, .ref a), (1, .int k), (2, .ref g1), (3, .ref g2)] := hl
  refine lv_aload_n hx hb d_Gr_init_0 rfl (lv_at hl 0 rfl) ?_
  refine lv_iload_n hx hb d_Gr_init_1 rfl (lv_at hl 1 rfl) ?_
  refine lv_iconst (v := 2) hx hb d_Gr_init_2 (by decide) ?_
  refine x_newq (N' := 2) hx hb ht hown gw_369 hw (by decide) (by decide) (by decide) (by first | decide | (dsimp only; omega)) (by first | decide | (dsimp only; omega)) d_Gr_init_3 (fun b H1 u1 hb9 hw1 h11 h21 h31 => ?_)
  have nb1 : NB u u1 b (.inl (G.2.1 4, 2, rfs (fun _ => none))) := ⟨hb9, h11, h21, h31⟩
  refine lv_dup hx hb d_Gr_init_6 rfl ?_
  refine lv_iconst (v := 0) hx hb d_Gr_init_7 (by decide) ?_
  refine lv_aload_n hx hb d_Gr_init_8 rfl (lv_at hl 2 rfl) ?_
  refine x_ast hx hb hw1 nb1.in nb1.2.2.1 (nb1.nd hg1) (by unfold vp_in; decide) d_Gr_init_9 (fun H2 locs2 u2 hw2 n2 => ?_)
  have nb2 : NB u u2 b (.inl (G.2.1 4, 2, rfs (va_up (fun _ => none) 0 (some g1)))) := nb1.put n2
  refine lv_dup hx hb d_Gr_init_10 rfl ?_
  refine lv_iconst (v := 1) hx hb d_Gr_init_11 (by decide) ?_
  refine lv_aload_n hx hb d_Gr_init_12 rfl (lv_at hl 3 rfl) ?_
  refine x_ast hx hb hw2 nb2.in nb2.2.2.1 (nb2.nd hg2) (by unfold vp_in; decide) d_Gr_init_13 (fun H3 locs3 u3 hw3 n3 => ?_)
  have nb3 : NB u u3 b (.inl (G.2.1 4, 2, rfs (va_up (va_up (fun _ => none) 0 (some g1)) 1 (some g2)))) := nb2.put n3
  refine lv_iconst (v := 2) hx hb d_Gr_init_14 (by decide) ?_
  refine kc_v (kr_I 3 (As := [.int k, .ref b, .int (2 : Int32)]) (rest := []) (c_Nd_init l G A u3 a 2 (by decide) [] (nb3.mem ha) (by rw [nb3.at ha]; exact he) k 2 b) hx hb hml hown ht hw3 rfl gw_370 gw_255 gw_53 gw_256 ⟨⟨by decide, by decide⟩, by decide +kernel⟩ ⟨by first | decide | (dsimp only; omega), by first | decide | (dsimp only; omega)⟩ rfl hl.1 rfl (lv_room (Nat.le_of_ble_eq_true rfl)) d_Gr_init_15 ⟨by first | decide | (dsimp only; omega), by first | decide | (dsimp only; omega)⟩) hw3 (fun _ _ _ _ _ _ h => h.elim) (fun u4 H4 locs4 hp4 hw4 => ?_)
  have n4 : N1 u3 u4 a (.inr (3, [.int k, .ref b, .int 2, .long 0, .int 0, .int 0, .int 0, .int 0, .long 0, .int 0] ++ [])) := hp4
  have ha4 : a ∈ u4.1 := by rw [n4.1]; exact nb3.mem ha
  exact kt_v hx hb hr hlocks hw4 d_Gr_init_18 (by exact ⟨b, NP.of nb3 ha n4⟩) (by first | decide | (dsimp only; omega)) (by first | decide | (dsimp only; omega))
set_option maxHeartbeats 4000000 in
set_option maxRecDepth 100000 in
theorem c_Op_init (l : Launch) (G : GT) (A : Nat → Prop) (u : WT) (a : Nat) (ha : a ∈ u.1) (he : u.2 a = .inr (4, D10 ++ [.null, .null, .int 0, .long 0, .int 0, .null, .null, .int 0, .int 0, .null, .int 0])) (k : Int32) (g1 g2 : Nat) (hg1 : isNd u g1) (hg2 : isNd u g2) (kd : Int32) (x : Int64) (sp : Int32) : Kt l y_Op_init b_Op_init 8 none 2 63 1 4 1 4 0 0 G A u [.ref a, .int k, .ref g1, .ref g2, .int kd, .long x, .int sp] (KQ G A (Rv (fun u' => ∃ b, NP u u' a (.inr (4, [.int k, .ref b, .int 2, .long 0, .int 0, .int 0, .int 0, .int 0, .long 0, .int 0, .ref g1, .ref g2, .int kd, .long x, .int sp, .null, .null, .int 8, .int 0, .null, .int 0])) b (.inl (G.2.1 4, 4, rfs (va_up (va_up (va_up (va_up (fun _ => none) 0 (some g1)) 1 (some g2)) 2 none) 3 none)))))) (NX) := by
  refine k_of (by decide) (Nat.le_of_ble_eq_true rfl) (fun p e st m below meth c ls hx hb hr hlocks hml htab hname hown ht hw hl => ?_)
  have hl : lv_has ls 8 [(0, .ref a), (1, .int k), (2, .ref g1), (3, .ref g2), (4, .int kd), (5, .long x), (7, .int sp)] := hl
  refine lv_aload_n hx hb d_Op_init_0 rfl (lv_at hl 0 rfl) ?_
  refine lv_iload_n hx hb d_Op_init_1 rfl (lv_at hl 1 rfl) ?_
  refine lv_iconst (v := 4) hx hb d_Op_init_2 (by decide) ?_
  refine x_newq (N' := 4) hx hb ht hown gw_398 hw (by decide) (by decide) (by decide) (by first | decide | (dsimp only; omega)) (by first | decide | (dsimp only; omega)) d_Op_init_3 (fun b H1 u1 hb9 hw1 h11 h21 h31 => ?_)
  have nb1 : NB u u1 b (.inl (G.2.1 4, 4, rfs (fun _ => none))) := ⟨hb9, h11, h21, h31⟩
  refine lv_dup hx hb d_Op_init_6 rfl ?_
  refine lv_iconst (v := 0) hx hb d_Op_init_7 (by decide) ?_
  refine lv_aload_n hx hb d_Op_init_8 rfl (lv_at hl 2 rfl) ?_
  refine x_ast hx hb hw1 nb1.in nb1.2.2.1 (nb1.nd hg1) (by unfold vp_in; decide) d_Op_init_9 (fun H2 locs2 u2 hw2 n2 => ?_)
  have nb2 : NB u u2 b (.inl (G.2.1 4, 4, rfs (va_up (fun _ => none) 0 (some g1)))) := nb1.put n2
  refine lv_dup hx hb d_Op_init_10 rfl ?_
  refine lv_iconst (v := 1) hx hb d_Op_init_11 (by decide) ?_
  refine lv_aload_n hx hb d_Op_init_12 rfl (lv_at hl 3 rfl) ?_
  refine x_ast hx hb hw2 nb2.in nb2.2.2.1 (nb2.nd hg2) (by unfold vp_in; decide) d_Op_init_13 (fun H3 locs3 u3 hw3 n3 => ?_)
  have nb3 : NB u u3 b (.inl (G.2.1 4, 4, rfs (va_up (va_up (fun _ => none) 0 (some g1)) 1 (some g2)))) := nb2.put n3
  refine lv_dup hx hb d_Op_init_14 rfl ?_
  refine lv_iconst (v := 2) hx hb d_Op_init_15 (by decide) ?_
  refine lv_null hx hb d_Op_init_16 ?_
  refine x_astN hx hb hw3 nb3.in nb3.2.2.1 (by unfold vp_in; decide) d_Op_init_17 (fun H4 locs4 u4 hw4 n4 => ?_)
  have nb4 : NB u u4 b (.inl (G.2.1 4, 4, rfs (va_up (va_up (va_up (fun _ => none) 0 (some g1)) 1 (some g2)) 2 none))) := nb3.put n4
  refine lv_dup hx hb d_Op_init_18 rfl ?_
  refine lv_iconst (v := 3) hx hb d_Op_init_19 (by decide) ?_
  refine lv_null hx hb d_Op_init_20 ?_
  refine x_astN hx hb hw4 nb4.in nb4.2.2.1 (by unfold vp_in; decide) d_Op_init_21 (fun H5 locs5 u5 hw5 n5 => ?_)
  have nb5 : NB u u5 b (.inl (G.2.1 4, 4, rfs (va_up (va_up (va_up (va_up (fun _ => none) 0 (some g1)) 1 (some g2)) 2 none) 3 none))) := nb4.put n5
  refine lv_iconst (v := 2) hx hb d_Op_init_22 (by decide) ?_
  refine kc_v (kr_I 3 (As := [.int k, .ref b, .int (2 : Int32)]) (rest := []) (c_Nd_init l G A u5 a 3 (by decide) [.null, .null, .int 0, .long 0, .int 0, .null, .null, .int 0, .int 0, .null, .int 0] (nb5.mem ha) (by rw [nb5.at ha]; exact he) k 2 b) hx hb hml hown ht hw5 rfl gw_399 gw_255 gw_53 gw_256 ⟨⟨by decide, by decide⟩, by decide +kernel⟩ ⟨by first | decide | (dsimp only; omega), by first | decide | (dsimp only; omega)⟩ rfl hl.1 rfl (lv_room (Nat.le_of_ble_eq_true rfl)) d_Op_init_23 ⟨by first | decide | (dsimp only; omega), by first | decide | (dsimp only; omega)⟩) hw5 (fun _ _ _ _ _ _ h => h.elim) (fun u6 H6 locs6 hp6 hw6 => ?_)
  have n6 : N1 u5 u6 a (.inr (4, [.int k, .ref b, .int 2, .long 0, .int 0, .int 0, .int 0, .int 0, .long 0, .int 0] ++ [.null, .null, .int 0, .long 0, .int 0, .null, .null, .int 0, .int 0, .null, .int 0])) := hp6
  have ha6 : a ∈ u6.1 := by rw [n6.1]; exact nb5.mem ha
  refine lv_aload_n hx hb d_Op_init_26 rfl (lv_at hl 0 rfl) ?_
  refine lv_aload_n hx hb d_Op_init_27 rfl (lv_at hl 2 rfl) ?_
  refine x_putF hx hb ht i_Op t_Op t_Op_ok n_Op hown hw6 ha6 n6.2.1 (ty := (.object "QuoteGraph$Node")) (fs := [.int k, .ref b, .int 2, .long 0, .int 0, .int 0, .int 0, .int 0, .long 0, .int 0, .null, .null, .int 0, .long 0, .int 0, .null, .null, .int 0, .int 0, .null, .int 0]) (fs' := [.int k, .ref b, .int 2, .long 0, .int 0, .int 0, .int 0, .int 0, .long 0, .int 0, .ref g1, .null, .int 0, .long 0, .int 0, .null, .null, .int 0, .int 0, .null, .int 0]) rfl 10 (by decide) gw_400 (Or.inl rfl) rfl hname rfl rfl (by decide +kernel) rfl rfl (Nat.le_of_ble_eq_true rfl) d_Op_init_28 (fun H7 locs7 u7 hw7 n7 => ?_)
  have ha7 : a ∈ u7.1 := by rw [n7.1]; exact ha6
  refine lv_aload_n hx hb d_Op_init_31 rfl (lv_at hl 0 rfl) ?_
  refine lv_aload_n hx hb d_Op_init_32 rfl (lv_at hl 3 rfl) ?_
  refine x_putF hx hb ht i_Op t_Op t_Op_ok n_Op hown hw7 ha7 n7.2.1 (ty := (.object "QuoteGraph$Node")) (fs := [.int k, .ref b, .int 2, .long 0, .int 0, .int 0, .int 0, .int 0, .long 0, .int 0, .ref g1, .null, .int 0, .long 0, .int 0, .null, .null, .int 0, .int 0, .null, .int 0]) (fs' := [.int k, .ref b, .int 2, .long 0, .int 0, .int 0, .int 0, .int 0, .long 0, .int 0, .ref g1, .ref g2, .int 0, .long 0, .int 0, .null, .null, .int 0, .int 0, .null, .int 0]) rfl 11 (by decide) gw_402 (Or.inl rfl) rfl hname rfl rfl (by decide +kernel) rfl rfl (Nat.le_of_ble_eq_true rfl) d_Op_init_33 (fun H8 locs8 u8 hw8 n8 => ?_)
  have ha8 : a ∈ u8.1 := by rw [n8.1]; exact ha7
  refine lv_aload_n hx hb d_Op_init_36 rfl (lv_at hl 0 rfl) ?_
  refine lv_iload hx hb d_Op_init_37 (lv_at hl 4 rfl) ?_
  refine x_putF hx hb ht i_Op t_Op t_Op_ok n_Op hown hw8 ha8 n8.2.1 (ty := .int) (fs := [.int k, .ref b, .int 2, .long 0, .int 0, .int 0, .int 0, .int 0, .long 0, .int 0, .ref g1, .ref g2, .int 0, .long 0, .int 0, .null, .null, .int 0, .int 0, .null, .int 0]) (fs' := [.int k, .ref b, .int 2, .long 0, .int 0, .int 0, .int 0, .int 0, .long 0, .int 0, .ref g1, .ref g2, .int kd, .long 0, .int 0, .null, .null, .int 0, .int 0, .null, .int 0]) rfl 12 (by decide) gw_404 (Or.inl rfl) rfl hname rfl rfl (by decide +kernel) rfl rfl (Nat.le_of_ble_eq_true rfl) d_Op_init_39 (fun H9 locs9 u9 hw9 n9 => ?_)
  have ha9 : a ∈ u9.1 := by rw [n9.1]; exact ha8
  refine lv_aload_n hx hb d_Op_init_42 rfl (lv_at hl 0 rfl) ?_
  refine lv_lload hx hb d_Op_init_43 (lv_at hl 5 rfl) ?_
  refine x_putF hx hb ht i_Op t_Op t_Op_ok n_Op hown hw9 ha9 n9.2.1 (ty := .long) (fs := [.int k, .ref b, .int 2, .long 0, .int 0, .int 0, .int 0, .int 0, .long 0, .int 0, .ref g1, .ref g2, .int kd, .long 0, .int 0, .null, .null, .int 0, .int 0, .null, .int 0]) (fs' := [.int k, .ref b, .int 2, .long 0, .int 0, .int 0, .int 0, .int 0, .long 0, .int 0, .ref g1, .ref g2, .int kd, .long x, .int 0, .null, .null, .int 0, .int 0, .null, .int 0]) rfl 13 (by decide) gw_405 (Or.inl rfl) rfl hname rfl rfl (by decide +kernel) rfl rfl (Nat.le_of_ble_eq_true rfl) d_Op_init_45 (fun H10 locs10 u10 hw10 n10 => ?_)
  have ha10 : a ∈ u10.1 := by rw [n10.1]; exact ha9
  refine lv_aload_n hx hb d_Op_init_48 rfl (lv_at hl 0 rfl) ?_
  refine lv_iload hx hb d_Op_init_49 (lv_at hl 6 rfl) ?_
  refine x_putF hx hb ht i_Op t_Op t_Op_ok n_Op hown hw10 ha10 n10.2.1 (ty := .int) (fs := [.int k, .ref b, .int 2, .long 0, .int 0, .int 0, .int 0, .int 0, .long 0, .int 0, .ref g1, .ref g2, .int kd, .long x, .int 0, .null, .null, .int 0, .int 0, .null, .int 0]) (fs' := [.int k, .ref b, .int 2, .long 0, .int 0, .int 0, .int 0, .int 0, .long 0, .int 0, .ref g1, .ref g2, .int kd, .long x, .int sp, .null, .null, .int 0, .int 0, .null, .int 0]) rfl 14 (by decide) gw_406 (Or.inl rfl) rfl hname rfl rfl (by decide +kernel) rfl rfl (Nat.le_of_ble_eq_true rfl) d_Op_init_51 (fun H11 locs11 u11 hw11 n11 => ?_)
  have ha11 : a ∈ u11.1 := by rw [n11.1]; exact ha10
  refine lv_aload_n hx hb d_Op_init_54 rfl (lv_at hl 0 rfl) ?_
  refine lv_bipush (v := 8) hx hb d_Op_init_55 (by decide) ?_
  refine x_put hx hb ht i_Op t_Op t_Op_ok n_Op hown hw11 ha11 n11.2.1 (ty := .int) (fs := [.int k, .ref b, .int 2, .long 0, .int 0, .int 0, .int 0, .int 0, .long 0, .int 0, .ref g1, .ref g2, .int kd, .long x, .int sp, .null, .null, .int 0, .int 0, .null, .int 0]) (fs' := [.int k, .ref b, .int 2, .long 0, .int 0, .int 0, .int 0, .int 0, .long 0, .int 0, .ref g1, .ref g2, .int kd, .long x, .int sp, .null, .null, .int (8 : Int32), .int 0, .null, .int 0]) rfl 17 (by decide) gw_412 (Or.inl rfl) rfl rfl (by decide +kernel) rfl rfl (Nat.le_of_ble_eq_true rfl) d_Op_init_57 (fun H12 locs12 u12 hw12 n12 => ?_)
  have ha12 : a ∈ u12.1 := by rw [n12.1]; exact ha11
  exact kt_v hx hb hr hlocks hw12 d_Op_init_60 (by exact ⟨b, NP.of nb5 ha ((((((n6.tr n7).tr n8).tr n9).tr n10).tr n11).tr n12)⟩) (by first | decide | (dsimp only; omega)) (by first | decide | (dsimp only; omega))
set_option maxHeartbeats 4000000 in
set_option maxRecDepth 100000 in
theorem c_Q_add (l : Launch) (G : GT) (A : Nat → Prop) (lc : Nat → Nat) (s : QS) (z : ZS) (u : WT) (hR : rQ G lc s z u) (hn16 : q_n s < 16) (a t : Nat) (ht4 : t < 4) (hs X : List Value) (ha : a ∈ u.1) (he : u.2 a = .inr (t + 1, .int (nI (q_n s)) :: hs ++ X)) (hne : ∀ k, k < 8 → a ≠ lc k) : Kt l y_Q_add b_Q_add 2 (some .int) 0 0 0 0 0 0 0 0 G A u [.ref (lc 0), .ref a] (KQ G A (Ri (fun r u' => r = nI (q_n s) ∧ u'.1 = u.1 ∧ u'.2 (lc 0) = .inr (0, [.ref (lc 1), .ref (lc 2), .int (nI (q_n s + 1)), .int (q_tl s), .int (q_wk s), .int (q_fl s)]) ∧ u'.2 (lc 1) = .inl (G.2.1 4, 16, rfs (va_up (fun j => if j < q_n s then some (lc (8 + j)) else none) (q_n s) (some a))) ∧ ∀ c, c ≠ lc 0 → c ≠ lc 1 → u'.2 c = u.2 c))) (NX) := by
  refine k_of (by decide) (Nat.le_of_ble_eq_true rfl) (fun p e st m below meth c ls hx hb hr hlocks hml htab hname hown ht hw hl => ?_)
  have hl : lv_has ls 2 [(0, .ref (lc 0)), (1, .ref a)] := hl
  obtain ⟨n0, hn0⟩ : ∃ n0, q_n s = n0 := ⟨_, rfl⟩
  have hw : Sk G A lc s z n0 u u st st.heap [] := ⟨hw, hR, fQ.rf, hn0⟩
  rw [hn0] at he hn16
  refine lv_aload_n hx hb d_Q_add_0 rfl (lv_at hl 0 rfl) ?_
  refine kg_Q 0 (by decide) hx hb ht hown hw gw_121 rfl rfl d_Q_add_1 ?_
  refine lv_aload_n hx hb d_Q_add_4 rfl (lv_at hl 1 rfl) ?_
  refine x_getN 0 (by decide) ht4 (hs := .int (nI n0) :: hs) (X := X) rfl hx hb ht hown hw.1 ha he gw_259 (Or.inl rfl) d_Q_add_5 ?_
  refine lv_aload_n hx hb d_Q_add_8 rfl (lv_at hl 1 rfl) ?_
  obtain ⟨hm1, he1⟩ := hR.at (liv_s (k := 1) (by omega))
  have he1 : u.2 (lc 1) = .inl (G.2.1 4, 16, rfs (fun j => if j < q_n s then some (lc (8 + j)) else none)) := he1
  obtain ⟨hm0, he0⟩ := hR.at (liv_s (k := 0) (by omega))
  have he0 : u.2 (lc 0) = .inr (0, [.ref (lc 1), .ref (lc 2), .int (nI n0), .int (q_tl s), .int (q_wk s), .int (q_fl s)]) := by rw [he0, ← hn0]; rfl
  have n01 : lc 0 ≠ lc 1 := fun e => absurd (hR.2.2.1 0 1 (liv_s (by omega)) (liv_s (by omega)) e) (by omega)
  refine x_ast hx hb hw.1 hm1 he1 ⟨ha, t, _, ht4, he⟩ (vp_in_nI (by omega) (by omega)) d_Q_add_9 (fun H7 locs7 u7 hw7 n7 => ?_)
  rw [nI_clamp (by omega)] at n7
  have he07 : u7.2 (lc 0) = .inr (0, [.ref (lc 1), .ref (lc 2), .int (nI n0), .int (q_tl s), .int (q_wk s), .int (q_fl s)]) := by rw [n7.2.2 _ n01]; exact he0
  have hm07 : lc 0 ∈ u7.1 := by rw [n7.1]; exact hm0
  refine lv_aload_n hx hb d_Q_add_10 rfl (lv_at hl 0 rfl) ?_
  refine lv_dup hx hb d_Q_add_11 rfl ?_
  refine k_get hx hb ht i_Q hown hw7 hm07 he07 rfl 2 (by decide) gw_123 (fun _ h => h) rfl d_Q_add_12 ?_
  refine lv_iconst (v := 1) hx hb d_Q_add_15 (by decide) ?_
  refine lv_iadd hx hb d_Q_add_16 ?_
  rw [nI_1]
  refine x_put hx hb ht i_Q t_Q t_Q_ok n_Q hown hw7 hm07 he07 (ty := .int) (fs' := [.ref (lc 1), .ref (lc 2), .int (nI (n0 + 1)), .int (q_tl s), .int (q_wk s), .int (q_fl s)]) rfl 2 (by decide) gw_123 (Or.inl rfl) rfl rfl (by decide +kernel) rfl rfl (Nat.le_of_ble_eq_true rfl) d_Q_add_17 (fun H8 locs8 u8 hw8 n8 => ?_)
  have hma : a ∈ u8.1 := by rw [n8.1, n7.1]; exact ha
  have hea : u8.2 a = .inr (t + 1, .int (nI n0) :: hs ++ X) := by rw [n8.2.2 a (hne 0 (by omega)), n7.2.2 a (hne 1 (by omega))]; exact he
  refine lv_aload_n hx hb d_Q_add_20 rfl (lv_at hl 1 rfl) ?_
  refine x_getN 0 (by decide) ht4 (hs := .int (nI n0) :: hs) (X := X) rfl hx hb ht hown hw8 hma hea gw_259 (Or.inl rfl) d_Q_add_21 ?_
  exact kt_i hx hb hr hlocks hw8 d_Q_add_24 (by rw [hn0]; exact ⟨rfl, n8.1.trans n7.1, n8.2.1, by rw [n8.2.2 _ (Ne.symm n01), ← hn0]; rw [← hn0] at n7; exact n7.2.1, fun c h0 h1 => by rw [n8.2.2 c h0, n7.2.2 c h1]⟩) (by first | decide | (dsimp only; omega)) (by first | decide | (dsimp only; omega))

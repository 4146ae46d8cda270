/-! 31.make0: writes with the whole world told: what was at a place, what is there now -/
abbrev D10 : List Value := [.int 0, .null, .int 0, .long 0, .int 0, .int 0, .int 0, .int 0, .long 0, .int 0]
/-- b is new; a holds x, b holds y; the rest is as it was -/
def NP (u u' : WT) (a : Nat) (x : va_E) (b : Nat) (y : va_E) : Prop := b ∉ u.1 ∧ u'.1 = u.1 ++ [b] ∧ u'.2 a = x ∧ u'.2 b = y ∧ ∀ c, c ≠ a → c ≠ b → u'.2 c = u.2 c
/-- only a has turned -/
def N1 (u u' : WT) (a : Nat) (x : va_E) : Prop := u'.1 = u.1 ∧ u'.2 a = x ∧ ∀ c, c ≠ a → u'.2 c = u.2 c
theorem N1.of {u : WT} {a : Nat} {x : va_E} : N1 u (u.1, va_up u.2 a x) a x := ⟨rfl, va_up_self _ _ _, fun _ h => va_up_ne _ _ h⟩
/-- an object of one of the four sorts -/
def isNd (u : WT) (n : Nat) : Prop := n ∈ u.1 ∧ ∃ t vs, t < 4 ∧ u.2 n = .inr (t + 1, vs)
section XRows
variable {p : Program} {l : Launch} {e : Env} {R : Room} {s : State} {m : MethodId} {args : Array Value} {below : List Frame} {meth : Method} {c : Code} {H : Heap} {locs : List Loc} {cells slots : Nat} {Q : State → Prop}
variable {cc : ByteArray} {pc : Nat} {ls : Array Slot} {rest : List Value} {G : GT} {A : Nat → Prop} {a : Nat} {u : WT} {index : Nat} {own ref : String}
/-- a field that every node has, of an object of the t-th sort -/
theorem x_putN (k : Nat) (hk : k < 10) {t : Nat} (ht4 : t < 4) {hs hs' X : List Value} {v : Value} {ty : FieldType} (hl : hs.length = 10) (hset : hs.set k v = hs') (hexec : p.tables.exec = Jvm.exec) (hb : c.code = cc) (ht : ∀ w ∈ GW, w.before args s = true) (hown : s.vm.findClass own = some m.cls) (hw : Wk G A u s H locs) (ha : a ∈ u.1) (he : u.2 a = .inr (t + 1, hs ++ X)) (hlink : Cond.fieldLink own index ref (F_Qt k).2.1 (F_Qt k).2.2.1 ∈ GW) (hsame : ref = "QuoteGraph$Node" ∨ Cond.sameField ref "QuoteGraph$Node" (F_Qt k).2.1 (F_Qt k).2.2.1 ∈ GW) (hfin : (F_Qt k).2.2.2 = false ∨ (meth.name = "<init>" ∧ own = "QuoteGraph$Node")) (hd : parseFieldDescriptor (F_Qt k).2.2.1 = some ty) (hn : narrow ty v = v) (hfit : fits ty v = true) (hdg : decode cc pc = .ok (.putfield index, 3))
    (kk : ∀ (H1 : Heap) (locs1 : List Loc) (u1 : WT), Wk G A u1 s H1 locs1 → N1 u u1 a (.inr (t + 1, hs' ++ X)) → W p l e R s m args below meth c H1 locs1 cells slots Q (F0 m (pc + 3) ls rest)) : W p l e R s m args below meth c H locs cells slots Q (F0 m pc ls (v :: .ref a :: rest)) := by
  obtain ⟨e1, e2, e3, e4⟩ := F_all k hk
  have hs0 := k_same ht (o := "QuoteGraph$Node") hsame
  rw [← e4] at hs0
  have hset' : (hs ++ X).set k v = hs' ++ X := by rw [List.set_append_left _ _ (by omega), hset]
  have hl' : k < (hs ++ X).length := by rw [List.length_append]; omega
  have kk' : ∀ (H1 : Heap) (locs1 : List Loc), Wk G A (u.1, va_up u.2 a (.inr (t + 1, (hs ++ X).set k v))) s H1 locs1 → W p l e R s m args below meth c H1 locs1 cells slots Q (F0 m (pc + 3) ls rest) := fun H1 locs1 h => by
    rw [hset'] at h; exact kk H1 locs1 _ h N1.of
  have h5 : t = 0 ∨ t = 1 ∨ t = 2 ∨ t = 3 := by omega
  rcases hfin with hf | ⟨hin, ho⟩
  · rcases h5 with rfl | rfl | rfl | rfl
    · exact k_put hexec hb ht i_Qt t_Qt t_Qt_ok n_Qt hown hw ha he rfl k hk hlink hs0 hf hd hn hfit hl' hdg kk'
    · rw [← e1] at hlink hs0 hd hf; exact k_put hexec hb ht i_Bl t_Bl t_Bl_ok n_Bl hown hw ha he rfl k (by omega) hlink hs0 hf hd hn hfit hl' hdg kk'
    · rw [← e2] at hlink hs0 hd hf; exact k_put hexec hb ht i_Gr t_Gr t_Gr_ok n_Gr hown hw ha he rfl k hk hlink hs0 hf hd hn hfit hl' hdg kk'
    · rw [← e3] at hlink hs0 hd hf; exact k_put hexec hb ht i_Op t_Op t_Op_ok n_Op hown hw ha he rfl k (by omega) hlink hs0 hf hd hn hfit hl' hdg kk'
  · rcases hfq : (F_Qt k).2.2.2 with _ | _
    · rcases h5 with rfl | rfl | rfl | rfl
      · exact k_put hexec hb ht i_Qt t_Qt t_Qt_ok n_Qt hown hw ha he rfl k hk hlink hs0 hfq hd hn hfit hl' hdg kk'
      · rw [← e1] at hlink hs0 hd hfq; exact k_put hexec hb ht i_Bl t_Bl t_Bl_ok n_Bl hown hw ha he rfl k (by omega) hlink hs0 hfq hd hn hfit hl' hdg kk'
      · rw [← e2] at hlink hs0 hd hfq; exact k_put hexec hb ht i_Gr t_Gr t_Gr_ok n_Gr hown hw ha he rfl k hk hlink hs0 hfq hd hn hfit hl' hdg kk'
      · rw [← e3] at hlink hs0 hd hfq; exact k_put hexec hb ht i_Op t_Op t_Op_ok n_Op hown hw ha he rfl k (by omega) hlink hs0 hfq hd hn hfit hl' hdg kk'
    · have e5 : (F_Qt k).1 = own := e4.trans ho.symm
      rcases h5 with rfl | rfl | rfl | rfl
      · exact k_putF hexec hb ht i_Qt t_Qt t_Qt_ok n_Qt hown hw ha he rfl k hk hlink hs0 hfq hin e5 hd hn hfit hl' hdg kk'
      · rw [← e1] at hlink hs0 hd hfq e5; exact k_putF hexec hb ht i_Bl t_Bl t_Bl_ok n_Bl hown hw ha he rfl k (by omega) hlink hs0 hfq hin e5 hd hn hfit hl' hdg kk'
      · rw [← e2] at hlink hs0 hd hfq e5; exact k_putF hexec hb ht i_Gr t_Gr t_Gr_ok n_Gr hown hw ha he rfl k hk hlink hs0 hfq hin e5 hd hn hfit hl' hdg kk'
      · rw [← e3] at hlink hs0 hd hfq e5; exact k_putF hexec hb ht i_Op t_Op t_Op_ok n_Op hown hw ha he rfl k (by omega) hlink hs0 hfq hin e5 hd hn hfit hl' hdg kk'
/-- a field of an object told in full -/
theorem x_put (hexec : p.tables.exec = Jvm.exec) (hb : c.code = cc) (ht : ∀ w ∈ GW, w.before args s = true) {C : String} {T : u_T} {N ci : Nat} (hin : ∀ w ∈ u_ws C T N, w ∈ GW) (ty0 : Nat → FieldType) (hty : ∀ k, k < N → parseFieldDescriptor (T k).2.2.1 = some (ty0 k)) (hnm : ∀ a, a < N → ∀ b, b < N → a ≠ b → (T a).2.1 ≠ (T b).2.1) (hown : s.vm.findClass own = some m.cls) (hw : Wk G A u s H locs) {fs fs' : List Value} (ha : a ∈ u.1) (he : u.2 a = .inr (ci, fs)) (hc : classes[ci]? = some (C, T, N)) (k : Nat) (hk : k < N) (hlink : Cond.fieldLink own index ref (T k).2.1 (T k).2.2.1 ∈ GW) (hsame : ref = (T k).1 ∨ Cond.sameField ref (T k).1 (T k).2.1 (T k).2.2.1 ∈ GW) (hfin : (T k).2.2.2 = false) {ty : FieldType} {v : Value} (hset : fs.set k v = fs') (hd : parseFieldDescriptor (T k).2.2.1 = some ty) (hn : narrow ty v = v) (hfit : fits ty v = true) (hl : k < fs.length) (hdg : decode cc pc = .ok (.putfield index, 3))
    (kk : ∀ (H1 : Heap) (locs1 : List Loc) (u1 : WT), Wk G A u1 s H1 locs1 → N1 u u1 a (.inr (ci, fs')) → W p l e R s m args below meth c H1 locs1 cells slots Q (F0 m (pc + 3) ls rest)) : W p l e R s m args below meth c H locs cells slots Q (F0 m pc ls (v :: .ref a :: rest)) :=
  k_put hexec hb ht hin ty0 hty hnm hown hw ha he hc k hk hlink (k_same ht hsame) hfin hd hn hfit hl hdg (fun H1 locs1 h => kk H1 locs1 _ (by rw [hset] at h; exact h) N1.of)
theorem x_putF (hexec : p.tables.exec = Jvm.exec) (hb : c.code = cc) (ht : ∀ w ∈ GW, w.before args s = true) {C : String} {T : u_T} {N ci : Nat} (hin : ∀ w ∈ u_ws C T N, w ∈ GW) (ty0 : Nat → FieldType) (hty : ∀ k, k < N → parseFieldDescriptor (T k).2.2.1 = some (ty0 k)) (hnm : ∀ a, a < N → ∀ b, b < N → a ≠ b → (T a).2.1 ≠ (T b).2.1) (hown : s.vm.findClass own = some m.cls) (hw : Wk G A u s H locs) {fs fs' : List Value} (ha : a ∈ u.1) (he : u.2 a = .inr (ci, fs)) (hc : classes[ci]? = some (C, T, N)) (k : Nat) (hk : k < N) (hlink : Cond.fieldLink own index ref (T k).2.1 (T k).2.2.1 ∈ GW) (hsame : ref = (T k).1 ∨ Cond.sameField ref (T k).1 (T k).2.1 (T k).2.2.1 ∈ GW) (hfin : (T k).2.2.2 = true) (hin2 : meth.name = "<init>") (hdecl : (T k).1 = own) {ty : FieldType} {v : Value} (hset : fs.set k v = fs') (hd : parseFieldDescriptor (T k).2.2.1 = some ty) (hn : narrow ty v = v) (hfit : fits ty v = true) (hl : k < fs.length) (hdg : decode cc pc = .ok (.putfield index, 3))
    (kk : ∀ (H1 : Heap) (locs1 : List Loc) (u1 : WT), Wk G A u1 s H1 locs1 → N1 u u1 a (.inr (ci, fs')) → W p l e R s m args below meth c H1 locs1 cells slots Q (F0 m (pc + 3) ls rest)) : W p l e R s m args below meth c H locs cells slots Q (F0 m pc ls (v :: .ref a :: rest)) :=
  k_putF hexec hb ht hin ty0 hty hnm hown hw ha he hc k hk hlink (k_same ht hsame) hfin hin2 hdecl hd hn hfit hl hdg (fun H1 locs1 h => kk H1 locs1 _ (by rw [hset] at h; exact h) N1.of)
/-- a node into a row of nodes -/
theorem x_ast {v n : Nat} {f : Nat → Option Nat} (hexec : p.tables.exec = Jvm.exec) (hb : c.code = cc) (hw : Wk G A u s H locs) (ha : a ∈ u.1) (he : u.2 a = .inl (G.2.1 4, n, rfs f)) (hv : isNd u v) {i : Int32} (hi : vp_in i n) (hdg : decode cc pc = .ok (.aastore, 1))
    (kk : ∀ (H1 : Heap) (locs1 : List Loc) (u1 : WT), Wk G A u1 s H1 locs1 → N1 u u1 a (.inl (G.2.1 4, n, rfs (va_up f i.toNatClampNeg (some v)))) → W p l e R s m args below meth c H1 locs1 cells slots Q (F0 m (pc + 1) ls rest)) : W p l e R s m args below meth c H locs cells slots Q (F0 m pc ls (.ref v :: .int i :: .ref a :: rest)) := by
  obtain ⟨hv1, t, vs, ht4, hv2⟩ := hv
  have h5 : t = 0 ∨ t = 1 ∨ t = 2 ∨ t = 3 := by omega
  rcases h5 with rfl | rfl | rfl | rfl
  · exact k_astq 4 (r := (R_Qt, F_Qt, 10)) hexec hb hw ha he rfl (ew_of 1052 _ (by decide +kernel) rfl) hv1 hv2 rfl hi hdg (fun H1 locs1 h => kk H1 locs1 _ h N1.of)
  · exact k_astq 4 (r := (R_Bl, F_Bl, 12)) hexec hb hw ha he rfl (ew_of 1049 _ (by decide +kernel) rfl) hv1 hv2 rfl hi hdg (fun H1 locs1 h => kk H1 locs1 _ h N1.of)
  · exact k_astq 4 (r := (R_Gr, F_Gr, 10)) hexec hb hw ha he rfl (ew_of 1050 _ (by decide +kernel) rfl) hv1 hv2 rfl hi hdg (fun H1 locs1 h => kk H1 locs1 _ h N1.of)
  · exact k_astq 4 (r := (R_Op, F_Op, 21)) hexec hb hw ha he rfl (ew_of 1051 _ (by decide +kernel) rfl) hv1 hv2 rfl hi hdg (fun H1 locs1 h => kk H1 locs1 _ h N1.of)
theorem x_astN {n : Nat} {f : Nat → Option Nat} (hexec : p.tables.exec = Jvm.exec) (hb : c.code = cc) (hw : Wk G A u s H locs) (ha : a ∈ u.1) (he : u.2 a = .inl (G.2.1 4, n, rfs f)) {i : Int32} (hi : vp_in i n) (hdg : decode cc pc = .ok (.aastore, 1))
    (kk : ∀ (H1 : Heap) (locs1 : List Loc) (u1 : WT), Wk G A u1 s H1 locs1 → N1 u u1 a (.inl (G.2.1 4, n, rfs (va_up f i.toNatClampNeg none))) → W p l e R s m args below meth c H1 locs1 cells slots Q (F0 m (pc + 1) ls rest)) : W p l e R s m args below meth c H locs cells slots Q (F0 m pc ls (.null :: .int i :: .ref a :: rest)) :=
  k_astN 4 hexec hb hw ha he rfl hi hdg (fun H1 locs1 h => kk H1 locs1 _ h N1.of)
/-- a new row of nodes -/
theorem x_newq (hexec : p.tables.exec = Jvm.exec) (hb : c.code = cc) (ht : ∀ w ∈ GW, w.before args s = true) (hown : s.vm.findClass own = some m.cls) (hcl : Cond.classLink own index "QuoteGraph$Node" ∈ GW) (hw : Wk G A u s H locs) {n : Int32} {N' : Nat} (hn : ¬ n < 0) (hN : n.toNatClampNeg = N') (hbytes : N' * 4 ≤ 536870912) (hcells : cells + 1 ≤ R.cells) (hslots : slots + N' ≤ R.slots) (hdg : decode cc pc = .ok (.anewarray index, 3))
    (kk : ∀ (q : Nat) (H1 : Heap) (u1 : WT), q ∉ u.1 → Wk G A u1 s H1 locs → u1.1 = u.1 ++ [q] → u1.2 q = .inl (G.2.1 4, N', rfs (fun _ => none)) → (∀ x, x ≠ q → u1.2 x = u.2 x) → W p l e R s m args below meth c H1 locs (cells + 1) (slots + N') Q (F0 m (pc + 3) ls (.ref q :: rest))) : W p l e R s m args below meth c H locs cells slots Q (F0 m pc ls (.int n :: rest)) :=
  k_newq 4 hexec hb ht hown hcl hw hw.1.2.2.2.2.2.2.1 rfl hn hN hbytes hcells hslots hdg (fun q H1 hq h => kk q H1 _ hq h rfl (va_up_self _ _ _) (fun _ hx => va_up_ne _ _ hx))
end XRows
theorem isNd.kept {u u' : WT} {n : Nat} (h : isNd u n) (h1 : n ∈ u'.1) (h2 : u'.2 n = u.2 n) : isNd u' n := ⟨h1, by rw [h2]; exact h.2⟩

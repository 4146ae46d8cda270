/-! 32.make1: worlds with a new node -/
theorem N1.tr {u v w : WT} {a : Nat} {x y : va_E} (h : N1 u v a x) (h' : N1 v w a y) : N1 u w a y := ⟨h'.1.trans h.1, h'.2.1, fun c hc => (h'.2.2 c hc).trans (h.2.2 c hc)⟩
/-- b is new and holds y; the rest is as it was -/
def NB (u u1 : WT) (b : Nat) (y : va_E) : Prop := b ∉ u.1 ∧ u1.1 = u.1 ++ [b] ∧ u1.2 b = y ∧ ∀ x, x ≠ b → u1.2 x = u.2 x
theorem NB.put {u u1 u2 : WT} {b : Nat} {y y' : va_E} (h : NB u u1 b y) (h' : N1 u1 u2 b y') : NB u u2 b y' := ⟨h.1, h'.1.trans h.2.1, h'.2.1, fun x hx => (h'.2.2 x hx).trans (h.2.2.2 x hx)⟩
theorem NB.in {u u1 : WT} {b : Nat} {y : va_E} (h : NB u u1 b y) : b ∈ u1.1 := by rw [h.2.1]; exact List.mem_append_right _ List.mem_cons_self
theorem NB.mem {u u1 : WT} {b : Nat} {y : va_E} (h : NB u u1 b y) {x : Nat} (hx : x ∈ u.1) : x ∈ u1.1 := by rw [h.2.1]; exact List.mem_append_left _ hx
theorem NB.ne {u u1 : WT} {b : Nat} {y : va_E} (h : NB u u1 b y) {x : Nat} (hx : x ∈ u.1) : x ≠ b := fun e => h.1 (e ▸ hx)
theorem NB.at {u u1 : WT} {b : Nat} {y : va_E} (h : NB u u1 b y) {x : Nat} (hx : x ∈ u.1) : u1.2 x = u.2 x := h.2.2.2 x (h.ne hx)
theorem NB.nd {u u1 : WT} {b : Nat} {y : va_E} (h : NB u u1 b y) {n : Nat} (hn : isNd u n) : isNd u1 n := hn.kept (h.mem hn.1) (h.at hn.1)
theorem NP.of {u u1 u' : WT} {a b : Nat} {x y : va_E} (h : NB u u1 b y) (ha : a ∈ u.1) (h' : N1 u1 u' a x) : NP u u' a x b y := by
  have hab := h.ne ha
  exact ⟨h.1, h'.1.trans h.2.1, h'.2.1, (h'.2.2 b (Ne.symm hab)).trans h.2.2.1, fun c h1 h2 => (h'.2.2 c h1).trans (h.2.2.2 c h2)⟩
/-- the world has grown; what was there stays -/
def gr (u u' : WT) : Prop := ∀ x, x ∈ u.1 → x ∈ u'.1 ∧ u'.2 x = u.2 x
theorem rQ.ext {G : GT} {lc : Nat → Nat} {s : QS} {z : ZS} {u u' : WT} (h : rQ G lc s z u) (hg : gr u u') : rQ G lc s z u' := by
  obtain ⟨h0, h1, h2, h3⟩ := h
  refine ⟨h0, fun k hk => ?_, h2, h3⟩
  obtain ⟨a1, a2⟩ := h1 k hk
  obtain ⟨b1, b2⟩ := hg _ a1
  exact ⟨b1, b2.trans a2⟩
theorem gr.fQ {lc : Nat → Nat} {n : Nat} {u u' : WT} (h : gr u u') : fQ lc n u u' := fun a ha _ => h a ha
theorem gr.tr {u v w : WT} (h : gr u v) (h' : gr v w) : gr u w := fun x hx => ⟨(h' x (h x hx).1).1, ((h' x (h x hx).1).2).trans (h x hx).2⟩
/-- node n new: sort t and the rest -/
def addQ (s : QS) (t : Nat) (am : Int64) (pa pb : Option Nat) (wa wb : Int64) (kd sp : Int32) : QS :=
  (q_n s + 1, va_up (q_so s) (q_n s) t, va_up (q_am s) (q_n s) am, va_up (q_va s) (q_n s) (decide (t = 0)), va_up (q_fr s) (q_n s) false, va_up (q_mi s) (q_n s) false, va_up (q_tw s) (q_n s) 0, va_up (q_pt s) (q_n s) (fun k => if k = 0 then pa else if k = 1 then pb else none), va_up (q_wa s) (q_n s) wa, va_up (q_wb s) (q_n s) wb, va_up (q_kd s) (q_n s) kd, va_up (q_sp s) (q_n s) sp, va_up (q_ch s) (q_n s) 8, va_up (q_us s) (q_n s) false, va_up (q_en s) (q_n s) 0, va_up (q_sz s) (q_n s) 0, q_tl s, q_wk s, q_fl s)
def addZ (z : ZS) (n : Nat) (f : Nat → Option Nat) : ZS := (va_up (z_ra z) n 0, va_up (z_rv z) n false, va_up (z_pr z) n f, z_lr z, z_nr z, z_dw z)
def addL (lc : Nat → Nat) (n a b : Nat) : Nat → Nat := fun k => if k = 8 + n then a else if k = 24 + n then b else lc k
theorem addL_o {lc : Nat → Nat} {n a b k : Nat} (h : liv n k) (hn : n < 16) : addL lc n a b k = lc k := by
  unfold addL; unfold liv at h; rw [if_neg (by omega), if_neg (by omega)]
theorem liv_s1 {n k : Nat} (hn : n < 16) : liv (n + 1) k ↔ liv n k ∨ k = 8 + n ∨ k = 24 + n := by unfold liv; omega
/-- the new node's cells -/
def NewN (G : GT) (lc : Nat → Nat) (s : QS) (u u' : WT) (a b : Nat) (x y : va_E) : Prop :=
  (a ∉ u.1) ∧ (b ∉ u.1) ∧ (a ≠ b) ∧ (∀ c, c ∈ u.1 → c ∈ u'.1) ∧ (a ∈ u'.1) ∧ (b ∈ u'.1) ∧ (u'.2 a = x) ∧ (u'.2 b = y) ∧ (u'.2 (lc 0) = .inr (0, [.ref (lc 1), .ref (lc 2), .int (nI (q_n s + 1)), .int (q_tl s), .int (q_wk s), .int (q_fl s)])) ∧ (u'.2 (lc 1) = .inl (G.2.1 4, 16, rfs (va_up (fun j => if j < q_n s then some (lc (8 + j)) else none) (q_n s) (some a)))) ∧ (∀ c, c ∈ u.1 → c ≠ lc 0 → c ≠ lc 1 → u'.2 c = u.2 c)
theorem NewN.ha {G : GT} {lc : Nat → Nat} {s : QS} {u u' : WT} {a b : Nat} {x y : va_E} (h : NewN G lc s u u' a b x y) : a ∉ u.1 := h.1
theorem NewN.hb {G : GT} {lc : Nat → Nat} {s : QS} {u u' : WT} {a b : Nat} {x y : va_E} (h : NewN G lc s u u' a b x y) : b ∉ u.1 := h.2.1
theorem NewN.hab {G : GT} {lc : Nat → Nat} {s : QS} {u u' : WT} {a b : Nat} {x y : va_E} (h : NewN G lc s u u' a b x y) : a ≠ b := h.2.2.1
theorem NewN.h1 {G : GT} {lc : Nat → Nat} {s : QS} {u u' : WT} {a b : Nat} {x y : va_E} (h : NewN G lc s u u' a b x y) : ∀ c, c ∈ u.1 → c ∈ u'.1 := h.2.2.2.1
theorem NewN.ia {G : GT} {lc : Nat → Nat} {s : QS} {u u' : WT} {a b : Nat} {x y : va_E} (h : NewN G lc s u u' a b x y) : a ∈ u'.1 := h.2.2.2.2.1
theorem NewN.ib {G : GT} {lc : Nat → Nat} {s : QS} {u u' : WT} {a b : Nat} {x y : va_E} (h : NewN G lc s u u' a b x y) : b ∈ u'.1 := h.2.2.2.2.2.1
theorem NewN.ea {G : GT} {lc : Nat → Nat} {s : QS} {u u' : WT} {a b : Nat} {x y : va_E} (h : NewN G lc s u u' a b x y) : u'.2 a = x := h.2.2.2.2.2.2.1
theorem NewN.eb {G : GT} {lc : Nat → Nat} {s : QS} {u u' : WT} {a b : Nat} {x y : va_E} (h : NewN G lc s u u' a b x y) : u'.2 b = y := h.2.2.2.2.2.2.2.1
theorem NewN.e0 {G : GT} {lc : Nat → Nat} {s : QS} {u u' : WT} {a b : Nat} {x y : va_E} (h : NewN G lc s u u' a b x y) : u'.2 (lc 0) = .inr (0, [.ref (lc 1), .ref (lc 2), .int (nI (q_n s + 1)), .int (q_tl s), .int (q_wk s), .int (q_fl s)]) := h.2.2.2.2.2.2.2.2.1
theorem NewN.e1 {G : GT} {lc : Nat → Nat} {s : QS} {u u' : WT} {a b : Nat} {x y : va_E} (h : NewN G lc s u u' a b x y) : u'.2 (lc 1) = .inl (G.2.1 4, 16, rfs (va_up (fun j => if j < q_n s then some (lc (8 + j)) else none) (q_n s) (some a))) := h.2.2.2.2.2.2.2.2.2.1
theorem NewN.ho {G : GT} {lc : Nat → Nat} {s : QS} {u u' : WT} {a b : Nat} {x y : va_E} (h : NewN G lc s u u' a b x y) : ∀ c, c ∈ u.1 → c ≠ lc 0 → c ≠ lc 1 → u'.2 c = u.2 c := h.2.2.2.2.2.2.2.2.2.2
theorem rQ_add {G : GT} {lc : Nat → Nat} {s : QS} {z : ZS} {u u' : WT} (hR : rQ G lc s z u) (hn : q_n s < 16) {t : Nat} {am : Int64} {pa pb : Option Nat} {wa wb : Int64} {kd sp : Int32} {f : Nat → Option Nat} {a b : Nat} (ht : t < 4)
    (hp0 : t = 0 → pa = none ∧ pb = none) (hp1 : t ≠ 0 → ∃ i j, pa = some i ∧ pb = some j ∧ i < q_n s ∧ j < q_n s ∧ f 0 = some (lc (8 + i)) ∧ f 1 = some (lc (8 + j)))
    (hw : NewN G lc s u u' a b (.inr (t + 1, ndB (addL lc (q_n s) a b) (addQ s t am pa pb wa wb kd sp) (addZ z (q_n s) f) (q_n s) ++ ndX (addL lc (q_n s) a b) (addQ s t am pa pb wa wb kd sp) (q_n s))) (.inl (G.2.1 4, plen t, rfs f))) :
    rQ G (addL lc (q_n s) a b) (addQ s t am pa pb wa wb kd sp) (addZ z (q_n s) f) u' ∧ fQ lc (q_n s) u u' := by
  obtain ⟨hok, hm, hi, hpr⟩ := hR
  have hpt : ∀ j, j < q_n s → q_pt (addQ s t am pa pb wa wb kd sp) j = q_pt s j := fun j hj => va_up_ne _ _ (by omega)
  have hptn : q_pt (addQ s t am pa pb wa wb kd sp) (q_n s) = fun k => if k = 0 then pa else if k = 1 then pb else none := va_up_self _ _ _
  have hso : ∀ j, j < q_n s → q_so (addQ s t am pa pb wa wb kd sp) j = q_so s j := fun j hj => va_up_ne _ _ (by omega)
  have hson : q_so (addQ s t am pa pb wa wb kd sp) (q_n s) = t := va_up_self _ _ _
  have hnp : ∀ j, j < q_n s → np (addQ s t am pa pb wa wb kd sp) j = np s j := fun j hj => by unfold np; rw [hpt j hj, hso j hj]
  have hcp : ∀ j, j < q_n s → ∀ k, cp (addQ s t am pa pb wa wb kd sp) j k = cp s j k := fun j hj k => by unfold cp; rw [hpt j hj]
  have hnpn : np (addQ s t am pa pb wa wb kd sp) (q_n s) = if t = 0 then 0 else 2 := by unfold np; rw [hptn, hson]; rfl
  have hL : ∀ x, x < q_n s → addL lc (q_n s) a b (8 + x) = lc (8 + x) := fun x hx => addL_o (liv_n hx) hn
  have hmem : ∀ k, liv (q_n s) k → lc k ∈ u.1 := fun k hk => (hm k hk).1
  have n0 : ∀ k, liv (q_n s) k → k ≠ 0 → lc k ≠ lc 0 := fun k hk h e => h (hi k 0 hk (liv_s (by omega)) e)
  have n1 : ∀ k, liv (q_n s) k → k ≠ 1 → lc k ≠ lc 1 := fun k hk h e => h (hi k 1 hk (liv_s (by omega)) e)
  have hokn : okQ (addQ s t am pa pb wa wb kd sp) := by
    refine ⟨by show q_n s + 1 ≤ 16; omega, fun j hj => ?_⟩
    have hj' : j < q_n s + 1 := hj
    by_cases hjn : j = q_n s
    · subst hjn
      rw [hson, hptn]
      refine ⟨ht, fun k hk h0 => ?_, fun h0 k => ?_, fun _ => ⟨rfl, rfl⟩, fun k x hx => ?_, ?_⟩
      · obtain ⟨i, j, e1, e2, h1, h2, -⟩ := hp1 h0
        have : k = 0 ∨ k = 1 := by omega
        rcases this with rfl | rfl
        · exact ⟨i, e1, by show i < q_n s + 1; omega⟩
        · exact ⟨j, e2, by show j < q_n s + 1; omega⟩
      · obtain ⟨e1, e2⟩ := hp0 h0
        show (if k = 0 then pa else if k = 1 then pb else none) = none
        rw [e1, e2]; split; rfl; split <;> rfl
      · show x < q_n s + 1
        have hx : (if k = 0 then pa else if k = 1 then pb else none) = some x := hx
        by_cases h0 : t = 0
        · obtain ⟨e1, e2⟩ := hp0 h0
          rw [e1, e2] at hx; split at hx; cases hx; split at hx <;> cases hx
        · obtain ⟨i, j, e1, e2, h1, h2, -⟩ := hp1 h0
          rw [e1, e2] at hx
          split at hx
          · cases hx; omega
          · split at hx
            · cases hx; omega
            · cases hx
      · show va_up (q_en s) (q_n s) 0 (q_n s) < 3
        rw [va_up_self]; decide
    · have hjl : j < q_n s := by omega
      obtain ⟨b1, b2, b3, b4, b5, b6⟩ := hok.2 j hjl
      rw [hso j hjl, hpt j hjl]
      refine ⟨b1, fun k hk h0 => ?_, b3, b4, fun k x hx => ?_, ?_⟩
      · obtain ⟨x, e1, e2⟩ := b2 k hk h0
        exact ⟨x, e1, by show x < q_n s + 1; omega⟩
      · have := b5 k x hx; show x < q_n s + 1; omega
      · show va_up (q_en s) (q_n s) 0 j < 3
        rw [va_up_ne _ _ (by omega)]; exact b6
  refine ⟨⟨hokn, fun k hk => ?_, fun i j hi' hj' e => ?_, fun j hj k hk => ?_⟩, fun c hc hne => ?_⟩
  · rcases (liv_s1 hn).mp hk with h | rfl | rfl
    · rw [addL_o h hn]
      refine ⟨hw.h1 _ (hmem k h), ?_⟩
      by_cases k0 : k = 0
      · subst k0
        rw [hw.e0]
        show _ = (.inr (0, [.ref (addL lc (q_n s) a b 1), .ref (addL lc (q_n s) a b 2), _, _, _, _]) : va_E)
        rw [addL_o (liv_s (by omega)) hn, addL_o (liv_s (by omega)) hn]; rfl
      · by_cases k1 : k = 1
        · subst k1
          rw [hw.e1]
          show _ = (.inl (G.2.1 4, 16, rfs (fun j => if j < q_n s + 1 then some (addL lc (q_n s) a b (8 + j)) else none)) : va_E)
          congr 3
          have : va_up (fun j => if j < q_n s then some (lc (8 + j)) else none) (q_n s) (some a) = (fun j => if j < q_n s + 1 then some (addL lc (q_n s) a b (8 + j)) else none) := by
            funext j
            by_cases hj : j = q_n s
            · subst hj; rw [va_up_self, if_pos (by omega)]; unfold addL; rw [if_pos rfl]
            · rw [va_up_ne _ _ hj]
              by_cases h2 : j < q_n s
              · rw [if_pos h2, if_pos (by omega), hL j h2]
              · rw [if_neg h2, if_neg (by omega)]
          rw [this]
        · rw [hw.ho _ (hmem k h) (n0 k h k0) (n1 k h k1), (hm k h).2]
          have h9 : k = 2 ∨ k = 3 ∨ k = 4 ∨ k = 5 ∨ k = 6 ∨ k = 7 ∨ (∃ j, j < q_n s ∧ k = 8 + j) ∨ (∃ j, j < q_n s ∧ k = 24 + j) := by
            unfold liv at h
            by_cases hk8 : k < 8
            · omega
            · by_cases hk2 : k < 8 + q_n s
              · exact Or.inr (Or.inr (Or.inr (Or.inr (Or.inr (Or.inr (Or.inl ⟨k - 8, by omega, by omega⟩))))))
              · exact Or.inr (Or.inr (Or.inr (Or.inr (Or.inr (Or.inr (Or.inr ⟨k - 24, by omega, by omega⟩))))))
          rcases h9 with rfl | rfl | rfl | rfl | rfl | rfl | ⟨j, hj, rfl⟩ | ⟨j, hj, rfl⟩
          · show (.inl (G.2.1 5, 3, rfs (fun j => if j < 3 then some (lc (5 + j)) else none)) : va_E) = (.inl (G.2.1 5, 3, rfs (fun j => if j < 3 then some (addL lc (q_n s) a b (5 + j)) else none)) : va_E)
            have : (fun j => if j < 3 then some (lc (5 + j)) else none) = (fun j => if j < 3 then some (addL lc (q_n s) a b (5 + j)) else none) := by
              funext j; by_cases h3 : j < 3
              · rw [if_pos h3, if_pos h3, addL_o (liv_s (by omega)) hn]
              · rw [if_neg h3, if_neg h3]
            rw [this]
          · rfl
          · rfl
          · show (.inr (5, [.int 0, .int 0, .ref (lc 3)]) : va_E) = (.inr (5, [.int 0, .int 0, .ref (addL lc (q_n s) a b 3)]) : va_E)
            rw [addL_o (liv_s (by omega)) hn]
          · rfl
          · show (.inr (7, [.int 1, .int 20, .ref (lc 4)]) : va_E) = (.inr (7, [.int 1, .int 20, .ref (addL lc (q_n s) a b 4)]) : va_E)
            rw [addL_o (liv_s (by omega)) hn]
          · rw [cQ_n (by omega), cQ_n (by omega), hso j hj]
            congr 2
            have hjn : j ≠ q_n s := by omega
            have eB : ndB (addL lc (q_n s) a b) (addQ s t am pa pb wa wb kd sp) (addZ z (q_n s) f) j = ndB lc s z j := by
              show ([.int (nI j), .ref (addL lc (q_n s) a b (24 + j)), .int (nI (np (addQ s t am pa pb wa wb kd sp) j)), .long (va_up (q_am s) (q_n s) am j), .int (bI (va_up (q_va s) (q_n s) (decide (t = 0)) j)), .int (bI (va_up (q_fr s) (q_n s) false j)), .int (bI (va_up (q_mi s) (q_n s) false j)), .int (va_up (q_tw s) (q_n s) 0 j), .long (va_up (z_ra z) (q_n s) 0 j), .int (bI (va_up (z_rv z) (q_n s) false j))] : List Value) = _
              rw [addL_o (liv_p hj) hn, hnp j hj, va_up_ne _ _ hjn, va_up_ne _ _ hjn, va_up_ne _ _ hjn, va_up_ne _ _ hjn, va_up_ne _ _ hjn, va_up_ne _ _ hjn, va_up_ne _ _ hjn]; rfl
            have eX : ndX (addL lc (q_n s) a b) (addQ s t am pa pb wa wb kd sp) j = ndX lc s j := by
              have hpx : ∀ k x, q_pt s j k = some x → addL lc (q_n s) a b (8 + x) = lc (8 + x) := fun k x hx => hL x ((hok.2 j hj).2.2.2.2.1 k x hx)
              unfold ndX
              rw [hso j hj]
              split
              · show ([.long (va_up (q_wa s) (q_n s) wa j), .long (va_up (q_wb s) (q_n s) wb j)] : List Value) = _
                rw [va_up_ne _ _ hjn, va_up_ne _ _ hjn]
              · split
                · rename_i h1 h3
                  obtain ⟨x0, p0, -⟩ := (hok.2 j hj).2.1 0 (by omega) (by omega)
                  obtain ⟨x1, p1, -⟩ := (hok.2 j hj).2.1 1 (by omega) (by omega)
                  have m2 : (q_pt s j 2).map (fun x => addL lc (q_n s) a b (8 + x)) = (q_pt s j 2).map (fun x => lc (8 + x)) := by
                    rcases h2 : q_pt s j 2 with _ | x
                    · rfl
                    · show some (addL lc (q_n s) a b (8 + x)) = some (lc (8 + x)); rw [hpx 2 x h2]
                  have m3 : (q_pt s j 3).map (fun x => addL lc (q_n s) a b (8 + x)) = (q_pt s j 3).map (fun x => lc (8 + x)) := by
                    rcases h2 : q_pt s j 3 with _ | x
                    · rfl
                    · show some (addL lc (q_n s) a b (8 + x)) = some (lc (8 + x)); rw [hpx 3 x h2]
                  have en3 := (hok.2 j hj).2.2.2.2.2
                  rw [hpt j hj, p0, p1, m2, m3]
                  show ([.ref (addL lc (q_n s) a b (8 + x0)), .ref (addL lc (q_n s) a b (8 + x1)), .int (va_up (q_kd s) (q_n s) kd j), .long (va_up (q_wa s) (q_n s) wa j), .int (va_up (q_sp s) (q_n s) sp j), _, _, .int (va_up (q_ch s) (q_n s) 8 j), .int (bI (va_up (q_us s) (q_n s) false j)), .ref (addL lc (q_n s) a b (5 + va_up (q_en s) (q_n s) 0 j)), .int (va_up (q_sz s) (q_n s) 0 j)] : List Value) = _
                  rw [hpx 0 x0 p0, hpx 1 x1 p1, va_up_ne _ _ hjn, va_up_ne _ _ hjn, va_up_ne _ _ hjn, va_up_ne _ _ hjn, va_up_ne _ _ hjn, va_up_ne _ _ hjn, va_up_ne _ _ hjn, addL_o (liv_s (by omega)) hn]; rfl
                · rfl
            rw [eB, eX]
          · rw [cQ_p, cQ_p, hso j hj]
            congr 3
            show rfs (z_pr z j) = rfs (va_up (z_pr z) (q_n s) f j)
            rw [va_up_ne _ _ (by omega)]
    · rw [show addL lc (q_n s) a b (8 + q_n s) = a by unfold addL; rw [if_pos rfl], hw.ea, cQ_n (by omega), hson]
      exact ⟨hw.ia, rfl⟩
    · rw [show addL lc (q_n s) a b (24 + q_n s) = b by unfold addL; rw [if_neg (by omega), if_pos rfl], hw.eb, cQ_p, hson]
      refine ⟨hw.ib, ?_⟩
      show _ = (.inl (G.2.1 4, plen t, rfs (va_up (z_pr z) (q_n s) f (q_n s))) : va_E)
      rw [va_up_self]
  · have fa : addL lc (q_n s) a b (8 + q_n s) = a := by unfold addL; rw [if_pos rfl]
    have fb : addL lc (q_n s) a b (24 + q_n s) = b := by unfold addL; rw [if_neg (by omega), if_pos rfl]
    rcases (liv_s1 hn).mp hi' with h | rfl | rfl
    · rw [addL_o h hn] at e
      rcases (liv_s1 hn).mp hj' with h' | rfl | rfl
      · rw [addL_o h' hn] at e; exact hi i j h h' e
      · rw [fa] at e; exact absurd (e ▸ hmem i h) hw.ha
      · rw [fb] at e; exact absurd (e ▸ hmem i h) hw.hb
    · rw [fa] at e
      rcases (liv_s1 hn).mp hj' with h' | rfl | rfl
      · rw [addL_o h' hn] at e; exact absurd (e ▸ hmem j h') hw.ha
      · rfl
      · rw [fb] at e; exact absurd e hw.hab
    · rw [fb] at e
      rcases (liv_s1 hn).mp hj' with h' | rfl | rfl
      · rw [addL_o h' hn] at e; exact absurd (e ▸ hmem j h') hw.hb
      · rw [fa] at e; exact absurd e.symm hw.hab
      · rfl
  · have hj' : j < q_n s + 1 := hj
    by_cases hjn : j = q_n s
    · subst hjn
      rw [hnpn] at hk
      by_cases h0 : t = 0
      · rw [if_pos h0] at hk; omega
      · rw [if_neg h0] at hk
        obtain ⟨i, j, e1, e2, h1, h2, f0, f1⟩ := hp1 h0
        show va_up (z_pr z) (q_n s) f (q_n s) k = _
        rw [va_up_self]
        unfold cp
        rw [hptn, if_pos hk]
        have : k = 0 ∨ k = 1 := by omega
        rcases this with rfl | rfl
        · show f 0 = some (addL lc (q_n s) a b (8 + (Option.getD pa 0)))
          rw [f0, e1]; show some (lc (8 + i)) = some (addL lc (q_n s) a b (8 + i)); rw [hL i h1]
        · show f 1 = some (addL lc (q_n s) a b (8 + (Option.getD pb 0)))
          rw [f1, e2]; show some (lc (8 + j)) = some (addL lc (q_n s) a b (8 + j)); rw [hL j h2]
    · have hjl : j < q_n s := by omega
      rw [hnp j hjl] at hk
      rw [hcp j hjl, hL _ (cp_lt hok hjl hk)]
      show va_up (z_pr z) (q_n s) f j k = _
      rw [va_up_ne _ _ hjn]
      exact hpr j hjl k hk
  · exact ⟨hw.h1 c hc, hw.ho c hc (fun e => hne 0 (liv_s (by omega)) e.symm) (fun e => hne 1 (liv_s (by omega)) e.symm)⟩

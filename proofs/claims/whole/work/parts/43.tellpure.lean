/-! 43.tellpure: telling, as the least set: both ways find it -/
/-- s with other marks and another count -/
def tlQ (s : QS) (va mi : Nat → Bool) (t : Int32) : QS := qS_tl (qS_mi (qS_va s va) mi) t
theorem tlQ_va (s : QS) (va mi : Nat → Bool) (t : Int32) : q_va (tlQ s va mi t) = va := rfl
theorem tlQ_mi (s : QS) (va mi : Nat → Bool) (t : Int32) : q_mi (tlQ s va mi t) = mi := rfl
theorem tlQ_tl (s : QS) (va mi : Nat → Bool) (t : Int32) : q_tl (tlQ s va mi t) = t := rfl
theorem tlQ_fr (s : QS) (va mi : Nat → Bool) (t : Int32) : q_fr (tlQ s va mi t) = q_fr s := rfl
theorem tlQ_n (s : QS) (va mi : Nat → Bool) (t : Int32) : q_n (tlQ s va mi t) = q_n s := rfl
theorem tlQ_pt (s : QS) (va mi : Nat → Bool) (t : Int32) : q_pt (tlQ s va mi t) = q_pt s := rfl
theorem tlQ_ed (s : QS) (va mi : Nat → Bool) (t : Int32) (y x : Nat) : ed (tlQ s va mi t) y x = ed s y x := rfl
theorem tlQ_tlQ (s : QS) (va mi va' mi' : Nat → Bool) (t t' : Int32) : tlQ (tlQ s va mi t) va' mi' t' = tlQ s va' mi' t' := by
  simp only [tlQ, qS_tl, qS_mi, qS_va]
theorem tlQ_self (s : QS) : tlQ s (q_va s) (q_mi s) (q_tl s) = s := rfl
theorem tlQ_m (s : QS) (mi : Nat → Bool) : tlQ s (q_va s) mi (q_tl s) = qS_mi s mi := rfl
theorem tlQ_o (s : QS) (va : Nat → Bool) (t : Int32) : tlQ s va (q_mi s) t = qS_tl (qS_va s va) t := rfl
def okT (s : QS) (y : Nat) : Prop := q_va s y = true ∧ q_fr s y = false
/-- s' is s with those told that I tells -/
def Sp (s : QS) (I : Nat → Prop) (s' : QS) : Prop := ∃ (T : Nat → Bool) (mi : Nat → Bool),
  (∀ y, T y = true → y < q_n s ∧ okT s y) ∧ (∀ y, y < q_n s → I y → okT s y → T y = true) ∧ (∀ x y, T x = true → y < q_n s → ed s y x → okT s y → T y = true) ∧
  (∀ C : Nat → Prop, (∀ y, y < q_n s → I y → okT s y → C y) → (∀ x y, C x → y < q_n s → ed s y x → okT s y → C y) → ∀ y, T y = true → C y) ∧
  (∀ y, mi y = true ↔ q_mi s y = true ∨ (y < q_n s ∧ q_fr s y = true ∧ q_va s y = true ∧ (I y ∨ ∃ x, T x = true ∧ ed s y x))) ∧
  s' = tlQ s (fun y => q_va s y && !T y) mi (q_tl s + nI (vc T (q_n s)))
theorem b_iff {a b : Bool} {P : Prop} (h1 : a = true ↔ P) (h2 : b = true ↔ P) : a = b := by
  rcases a with _ | _ <;> rcases b with _ | _
  · rfl
  · exact absurd (h1.mpr (h2.mp rfl)) (by decide)
  · exact absurd (h2.mpr (h1.mp rfl)) (by decide)
  · rfl
theorem Sp.eq {s s1 s2 : QS} {I : Nat → Prop} (h1 : Sp s I s1) (h2 : Sp s I s2) : s1 = s2 := by
  obtain ⟨T1, m1, a1, a2, a3, a4, a5, a6⟩ := h1
  obtain ⟨T2, m2, b1, b2, b3, b4, b5, b6⟩ := h2
  have hT : T1 = T2 := funext fun y => b_iff (P := T1 y = true) Iff.rfl ⟨fun h => b4 (fun y => T1 y = true) a2 a3 y h, fun h => a4 (fun y => T2 y = true) b2 b3 y h⟩
  subst hT
  have hm : m1 = m2 := funext fun y => b_iff (a5 y) (b5 y)
  subst hm
  rw [a6, b6]
theorem Sp.cg {s s' : QS} {I J : Nat → Prop} (h : Sp s I s') (hI : ∀ y, y < q_n s → (I y ↔ J y)) : Sp s J s' := by
  obtain ⟨T, mi, a1, a2, a3, a4, a5, a6⟩ := h
  refine ⟨T, mi, a1, fun y h1 h2 => a2 y h1 ((hI y h1).mpr h2), a3, fun C h1 h2 => a4 C (fun y g1 g2 => h1 y g1 ((hI y g1).mp g2)) h2, fun y => ?_, a6⟩
  rw [a5 y]
  constructor
  · rintro (h | ⟨h1, h2, h3, h4⟩)
    · exact Or.inl h
    · exact Or.inr ⟨h1, h2, h3, h4.imp (hI y h1).mp id⟩
  · rintro (h | ⟨h1, h2, h3, h4⟩)
    · exact Or.inl h
    · exact Or.inr ⟨h1, h2, h3, h4.imp (hI y h1).mpr id⟩
theorem vc_0 : ∀ n, vc (fun _ => false) n = 0
  | 0 => rfl
  | n + 1 => by show vc _ n + _ = 0; rw [vc_0 n]; rfl
theorem vc_or {f g : Nat → Bool} (h : ∀ i, f i = true → g i = false) : ∀ n, vc (fun i => f i || g i) n = vc f n + vc g n
  | 0 => rfl
  | n + 1 => by
    have ih := vc_or h n
    show vc (fun i => f i || g i) n + (if (f n || g n) = true then 1 else 0) = (vc f n + (if f n = true then 1 else 0)) + (vc g n + (if g n = true then 1 else 0))
    rw [ih]
    rcases hf : f n with _ | _
    · rcases hg : g n with _ | _ <;> simp <;> omega
    · rw [h n hf]; simp; omega
theorem Sp.nil {s : QS} {I : Nat → Prop} (h : ∀ y, y < q_n s → I y → q_va s y = false) : Sp s I s := by
  refine ⟨fun _ => false, q_mi s, (fun y h => absurd h Bool.false_ne_true), fun y h1 h2 h3 => ?_, (fun x y h => absurd h Bool.false_ne_true), (fun C _ _ y h => absurd h Bool.false_ne_true), fun y => ?_, ?_⟩
  · have := h y h1 h2; rw [h3.1] at this; cases this
  · constructor
    · exact Or.inl
    · rintro (h9 | ⟨h1, h2, h3, h4 | ⟨x, hx, -⟩⟩)
      · exact h9
      · have := h y h1 h4; rw [h3] at this; cases this
      · cases hx
  · rw [vc_0]
    have e1 : (fun y => q_va s y && !false) = q_va s := funext fun y => by simp
    rw [e1, show q_tl s + nI 0 = q_tl s from Int32.add_zero _, tlQ_self]
theorem Sp.frz {s : QS} {x : Nat} (hx : x < q_n s) (hf : q_fr s x = true) (hv : q_va s x = true) : Sp s (fun y => y = x) (qS_mi s (va_up (q_mi s) x true)) := by
  refine ⟨fun _ => false, va_up (q_mi s) x true, (fun y h => absurd h Bool.false_ne_true), fun y h1 h2 h3 => ?_, (fun x y h => absurd h Bool.false_ne_true), (fun C _ _ y h => absurd h Bool.false_ne_true), fun y => ?_, ?_⟩
  · subst h2; have := h3.2; rw [hf] at this; cases this
  · by_cases hy : y = x
    · subst hy; rw [va_up_self]; exact ⟨fun _ => Or.inr ⟨hx, hf, hv, Or.inl rfl⟩, fun _ => rfl⟩
    · rw [va_up_ne _ _ hy]
      constructor
      · exact Or.inl
      · rintro (h9 | ⟨h1, h2, h3, h4 | ⟨x, hx, -⟩⟩)
        · exact h9
        · exact absurd h4 hy
        · cases hx
  · rw [vc_0]
    have e1 : (fun y => q_va s y && !false) = q_va s := funext fun y => by simp
    rw [e1, show q_tl s + nI 0 = q_tl s from Int32.add_zero _, tlQ_m]
theorem Sp.comp {s s1 s2 : QS} {I1 I2 : Nat → Prop} (h1 : Sp s I1 s1) (h2 : Sp s1 I2 s2) : Sp s (fun y => I1 y ∨ I2 y) s2 := by
  obtain ⟨T1, m1, a1, a2, a3, a4, a5, rfl⟩ := h1
  obtain ⟨T2, m2, b1, b2, b3, b4, b5, rfl⟩ := h2
  rw [tlQ_n] at b1 b2 b3 b4
  simp only [tlQ_n, tlQ_fr, tlQ_va, tlQ_mi, tlQ_ed] at b3 b4 b5
  have ok1 : ∀ y, okT (tlQ s (fun y => q_va s y && !T1 y) m1 (q_tl s + nI (vc T1 (q_n s)))) y ↔ okT s y ∧ T1 y = false := by
    intro y
    unfold okT
    rw [tlQ_va, tlQ_fr, Bool.and_eq_true, Bool.not_eq_true']
    exact ⟨fun ⟨⟨g1, g2⟩, g3⟩ => ⟨⟨g1, g3⟩, g2⟩, fun ⟨⟨g1, g3⟩, g2⟩ => ⟨⟨g1, g2⟩, g3⟩⟩
  have hdis : ∀ i, T1 i = true → T2 i = false := by
    intro i hi
    rcases h : T2 i with _ | _
    · rfl
    · have := ((ok1 i).mp (b1 i h).2).2; rw [hi] at this; cases this
  have hor : ∀ y, (T1 y || T2 y) = true ↔ T1 y = true ∨ T2 y = true := fun y => by rw [Bool.or_eq_true]
  refine ⟨fun y => T1 y || T2 y, m2, fun y h => ?_, fun y g1 g2 g3 => ?_, fun x y gx g1 g2 g3 => ?_, fun C c1 c2 y h => ?_, fun y => ?_, ?_⟩
  · rcases (hor y).mp h with h | h
    · exact a1 y h
    · exact ⟨(b1 y h).1, ((ok1 y).mp (b1 y h).2).1⟩
  · refine (hor y).mpr ?_
    rcases g2 with g2 | g2
    · exact Or.inl (a2 y g1 g2 g3)
    · rcases ht : T1 y with _ | _
      · exact Or.inr (b2 y g1 g2 ((ok1 y).mpr ⟨g3, ht⟩))
      · exact Or.inl rfl
  · refine (hor y).mpr ?_
    rcases (hor x).mp gx with gx | gx
    · exact Or.inl (a3 x y gx g1 g2 g3)
    · rcases ht : T1 y with _ | _
      · exact Or.inr (b3 x y gx g1 g2 ((ok1 y).mpr ⟨g3, ht⟩))
      · exact Or.inl rfl
  · rcases (hor y).mp h with h | h
    · exact a4 C (fun y g1 g2 g3 => c1 y g1 (Or.inl g2) g3) c2 y h
    · exact b4 C (fun y g1 g2 g3 => c1 y g1 (Or.inr g2) ((ok1 y).mp g3).1) (fun x y gx g1 g2 g3 => c2 x y gx g1 g2 ((ok1 y).mp g3).1) y h
  · rw [b5 y]
    rw [a5 y]
    have hfT : q_fr s y = true → T1 y = false := fun hf => by
      rcases h : T1 y with _ | _
      · rfl
      · have := (a1 y h).2.2; rw [hf] at this; cases this
    constructor
    · rintro ((h | ⟨g1, g2, g3, g4⟩) | ⟨g1, g2, g3, g4⟩)
      · exact Or.inl h
      · refine Or.inr ⟨g1, g2, g3, ?_⟩
        rcases g4 with g4 | ⟨x, gx, ge⟩
        · exact Or.inl (Or.inl g4)
        · exact Or.inr ⟨x, (hor x).mpr (Or.inl gx), ge⟩
      · refine Or.inr ⟨g1, g2, (Bool.and_eq_true _ _ ▸ g3).1, ?_⟩
        rcases g4 with g4 | ⟨x, gx, ge⟩
        · exact Or.inl (Or.inr g4)
        · exact Or.inr ⟨x, (hor x).mpr (Or.inr gx), ge⟩
    · rintro (h | ⟨g1, g2, g3, g4⟩)
      · exact Or.inl (Or.inl h)
      · have g3' : (q_va s y && !T1 y) = true := by rw [g3, hfT g2]; rfl
        rcases g4 with (g4 | g4) | ⟨x, gx, ge⟩
        · exact Or.inl (Or.inr ⟨g1, g2, g3, Or.inl g4⟩)
        · exact Or.inr ⟨g1, g2, g3', Or.inl g4⟩
        · rcases (hor x).mp gx with gx | gx
          · exact Or.inl (Or.inr ⟨g1, g2, g3, Or.inr ⟨x, gx, ge⟩⟩)
          · exact Or.inr ⟨g1, g2, g3', Or.inr ⟨x, gx, ge⟩⟩
  · have e1 : (fun y => (q_va s y && !T1 y) && !T2 y) = (fun y => q_va s y && !(T1 y || T2 y)) := funext fun y => by
      cases q_va s y <;> cases T1 y <;> cases T2 y <;> rfl
    rw [vc_or hdis, ← nI_add, ← Int32.add_assoc, ← e1, tlQ_tlQ, tlQ_va, tlQ_tl, tlQ_n]
def offs (s : QS) (x : Nat) : QS := tlQ s (va_up (q_va s) x false) (q_mi s) (q_tl s + 1)
theorem offs_eq (s : QS) (x : Nat) : qS_tl (qS_va s (va_up (q_va s) x false)) (q_tl s + 1) = offs s x := rfl
theorem Sp.exp {s s' : QS} {x : Nat} {I : Nat → Prop} (hx : x < q_n s) (hok : okT s x) (h : Sp (offs s x) (fun y => I y ∨ ed s y x) s') : Sp s (fun y => I y ∨ y = x) s' := by
  unfold offs at h
  obtain ⟨T, mi, b1, b2, b3, b4, b5, rfl⟩ := h
  rw [tlQ_n] at b1 b2 b3 b4
  simp only [tlQ_n, tlQ_fr, tlQ_va, tlQ_mi, tlQ_ed] at b3 b4 b5
  have ok1 : ∀ y, okT (tlQ s (va_up (q_va s) x false) (q_mi s) (q_tl s + 1)) y ↔ okT s y ∧ y ≠ x := by
    intro y
    unfold okT
    rw [tlQ_va, tlQ_fr]
    by_cases hy : y = x
    · subst hy; rw [va_up_self]; exact ⟨fun h => absurd h.1 Bool.false_ne_true, fun h => absurd rfl h.2⟩
    · rw [va_up_ne _ _ hy]; exact ⟨fun h => ⟨h, hy⟩, fun h => h.1⟩
  have hTx : T x = false := by
    rcases h : T x with _ | _
    · rfl
    · exact absurd rfl ((ok1 x).mp (b1 x h).2).2
  have hT : ∀ y, va_up T x true y = true ↔ T y = true ∨ y = x := by
    intro y
    by_cases hy : y = x
    · subst hy; rw [va_up_self]; exact ⟨fun _ => Or.inr rfl, fun _ => rfl⟩
    · rw [va_up_ne _ _ hy]; exact ⟨Or.inl, fun h => h.elim id (fun h => absurd h hy)⟩
  refine ⟨va_up T x true, mi, fun y h => ?_, fun y g1 g2 g3 => ?_, fun x0 y gx g1 g2 g3 => ?_, fun C c1 c2 y h => ?_, fun y => ?_, ?_⟩
  · rcases (hT y).mp h with h | h
    · exact ⟨(b1 y h).1, ((ok1 y).mp (b1 y h).2).1⟩
    · subst h; exact ⟨hx, hok⟩
  · refine (hT y).mpr ?_
    by_cases hy : y = x
    · exact Or.inr hy
    · rcases g2 with g2 | g2
      · exact Or.inl (b2 y g1 (Or.inl g2) ((ok1 y).mpr ⟨g3, hy⟩))
      · exact absurd g2 hy
  · refine (hT y).mpr ?_
    by_cases hy : y = x
    · exact Or.inr hy
    · rcases (hT x0).mp gx with gx | gx
      · exact Or.inl (b3 x0 y gx g1 g2 ((ok1 y).mpr ⟨g3, hy⟩))
      · subst gx; exact Or.inl (b2 y g1 (Or.inr g2) ((ok1 y).mpr ⟨g3, hy⟩))
  · have cx : C x := c1 x hx (Or.inr rfl) hok
    rcases (hT y).mp h with h | h
    · refine b4 C (fun y g1 g2 g3 => ?_) (fun x0 y gx g1 g2 g3 => c2 x0 y gx g1 g2 ((ok1 y).mp g3).1) y h
      rcases g2 with g2 | g2
      · exact c1 y g1 (Or.inl g2) ((ok1 y).mp g3).1
      · exact c2 x y cx g1 g2 ((ok1 y).mp g3).1
    · subst h; exact cx
  · rw [b5 y]
    have hne : q_fr s y = true → y ≠ x := fun hf e => by subst e; have := hok.2; rw [hf] at this; cases this
    constructor
    · rintro (h | ⟨g1, g2, g3, g4⟩)
      · exact Or.inl h
      · rw [va_up_ne _ _ (hne g2)] at g3
        refine Or.inr ⟨g1, g2, g3, ?_⟩
        rcases g4 with (g4 | g4) | ⟨x0, gx, ge⟩
        · exact Or.inl (Or.inl g4)
        · exact Or.inr ⟨x, (hT x).mpr (Or.inr rfl), g4⟩
        · exact Or.inr ⟨x0, (hT x0).mpr (Or.inl gx), ge⟩
    · rintro (h | ⟨g1, g2, g3, g4⟩)
      · exact Or.inl h
      · refine Or.inr ⟨g1, g2, by rw [va_up_ne _ _ (hne g2)]; exact g3, ?_⟩
        rcases g4 with (g4 | g4) | ⟨x0, gx, ge⟩
        · exact Or.inl (Or.inl g4)
        · exact absurd g4 (hne g2)
        · rcases (hT x0).mp gx with gx | gx
          · exact Or.inr ⟨x0, gx, ge⟩
          · subst gx; exact Or.inl (Or.inr ge)
  · have e1 : (fun y => va_up (q_va s) x false y && !T y) = (fun y => q_va s y && !va_up T x true y) := funext fun y => by
      by_cases hy : y = x
      · subst hy; rw [va_up_self, va_up_self]; simp
      · rw [va_up_ne _ _ hy, va_up_ne _ _ hy]
    have e2 : vc (va_up T x true) (q_n s) = vc T (q_n s) + 1 := by
      have := vc_off (f := va_up T x true) hx (va_up_self _ _ _)
      rw [va_up_up, va_up_same hTx] at this
      exact this.symm
    rw [e2, ← e1, ← nI_1, tlQ_tlQ, tlQ_va, tlQ_tl, tlQ_n, Int32.add_assoc, Int32.add_comm 1]
/-! the class's way -/
theorem tl_ed {s s' : QS} (h : tlK s s') {y x : Nat} : ed s' y x ↔ ed s y x := by unfold ed; rw [h.1.2.2.2.2.2.1]
theorem tl_fr {s s' : QS} (h : tlK s s') : q_fr s' = q_fr s := h.1.2.2.2.1
theorem sp_tellU {d : Nat} (ih : ∀ (s : QS) (j : Nat), okQ s → vc (q_va s) (q_n s) < d → j < q_n s → Sp s (fun y => y = j) (tellF d s j)) {s : QS} (ho : okQ s) (hv : vc (q_va s) (q_n s) < d) {j : Nat} (hj : j < q_n s) : ∀ k, k ≤ q_n s → Sp s (fun y => y < k ∧ ed s y j) (tellU (tellF d) j s k)
  | 0, _ => Sp.nil (fun y _ h => absurd h.1 (by omega))
  | k + 1, hk => by
    have h0 := sp_tellU ih ho hv hj k (by omega)
    have hK : tlK s (tellU (tellF d) j s k) := tellU_K (fun s i => tellF_K d s i) k
    have hok := hK.ok ho
    have hN : q_n (tellU (tellF d) j s k) = q_n s := hK.1.1
    have h16 := ho.1
    have hb := pbits_bt hok (j := k) (by rw [hN]; omega) (x := j) (by omega)
    show Sp s _ (if pbits (tellU (tellF d) j s k) k &&& bitI j = 0 then _ else _)
    by_cases hc : pbits (tellU (tellF d) j s k) k &&& bitI j = 0
    · rw [if_pos hc]
      refine h0.cg (fun y hy => ⟨fun h => ⟨by omega, h.2⟩, fun h => ⟨?_, h.2⟩⟩)
      by_cases hyk : y = k
      · subst hyk
        have := hb.mpr ((tl_ed hK).mpr h.2)
        rw [(b_and0 (by omega)).mp hc] at this; cases this
      · omega
    · rw [if_neg hc]
      have he : ed s k j := (tl_ed hK).mp (hb.mp (by rcases h : bt (pbits (tellU (tellF d) j s k) k) j with _ | _; exact absurd ((b_and0 (by omega)).mpr h) hc; rfl))
      refine (h0.comp (ih _ k hok (Nat.lt_of_le_of_lt hK.vc hv) (by rw [hN]; omega))).cg (fun y hy => ⟨?_, ?_⟩)
      · rintro (h | h)
        · exact ⟨by omega, h.2⟩
        · subst h; exact ⟨by omega, he⟩
      · rintro ⟨h1, h2⟩
        by_cases hyk : y = k
        · exact Or.inr hyk
        · exact Or.inl ⟨by omega, h2⟩
theorem sp_tellF : ∀ (d : Nat) (s : QS) (j : Nat), okQ s → vc (q_va s) (q_n s) < d → j < q_n s → Sp s (fun y => y = j) (tellF d s j)
  | 0, _, _, _, h, _ => absurd h (Nat.not_lt_zero _)
  | d + 1, s, j, ho, hv, hj => by
    have eF : tellF (d + 1) s j = (if q_va s j = false then s else if q_fr s j = true then qS_mi s (va_up (q_mi s) j true) else tellU (tellF d) j (qS_tl (qS_va s (va_up (q_va s) j false)) (q_tl s + 1)) (q_n s)) := rfl
    rw [eF, offs_eq]
    by_cases h1 : q_va s j = false
    · rw [if_pos h1]; exact Sp.nil (fun y _ h => by rw [h]; exact h1)
    · rw [if_neg h1]
      have h1' : q_va s j = true := by cases h : q_va s j; exact absurd h h1; rfl
      by_cases h2 : q_fr s j = true
      · rw [if_pos h2]; exact Sp.frz hj h2 h1'
      · rw [if_neg h2]
        have h2' : q_fr s j = false := by cases h : q_fr s j; rfl; exact absurd h h2
        have hv' : vc (q_va (offs s j)) (q_n (offs s j)) < d := by
          have := vc_off (f := q_va s) hj h1'
          unfold offs; rw [tlQ_va, tlQ_n]; omega
        have hoN : q_n (offs s j) = q_n s := tlQ_n _ _ _ _
        have hoE : ∀ y, ed (offs s j) y j = ed s y j := fun y => tlQ_ed _ _ _ _ y j
        have h3 := sp_tellU (sp_tellF d) (s := offs s j) (by rw [← offs_eq]; exact tlK_off.ok ho) hv' (j := j) (by rw [hoN]; exact hj) (q_n s) (by rw [hoN]; exact Nat.le_refl _)
        refine (Sp.exp (I := fun _ => False) hj ⟨h1', h2'⟩ (h3.cg (fun y hy => ⟨fun h => Or.inr (by rw [← hoE]; exact h.2), fun h => ⟨by rw [← hoN]; exact hy, by rw [hoE]; exact h.elim False.elim id⟩⟩))).cg (fun y _ => ⟨fun h => h.elim False.elim id, Or.inr⟩)
theorem tell_eq {s s' : QS} (ho : okQ s) {j : Nat} (hj : j < q_n s) (h : Sp s (fun y => y = j) s') : s' = tellF 17 s j := h.eq (sp_tellF 17 s j ho (vc_17 ho.1) hj)
theorem tellU_eq {s s' : QS} (ho : okQ s) {j : Nat} (hj : j < q_n s) (h : Sp s (fun y => ed s y j) s') : s' = tellU (tellF 17) j s (q_n s) :=
  h.eq ((sp_tellU (sp_tellF 17) ho (vc_17 ho.1) hj (q_n s) (Nat.le_refl _)).cg (fun y hy => ⟨fun h => h.2, fun h => ⟨hy, h⟩⟩))
/-! the list -/
def inL (li : Nat → Int32) (n y : Nat) : Prop := ∃ i, i < n ∧ li i = nI y
/-- the first n of the list are nodes, none twice -/
def LG (li : Nat → Int32) (n N : Nat) : Prop := (∀ i, i < n → ∃ y, y < N ∧ li i = nI y) ∧ ∀ i j, i < n → j < n → li i = li j → i = j
theorem nI_inj {a b : Nat} (ha : a < 2 ^ 31) (hb : b < 2 ^ 31) (h : nI a = nI b) : a = b := by
  have := congrArg Int32.toInt h; rw [nI_toInt ha, nI_toInt hb] at this; omega
theorem LG_le {li : Nat → Int32} {N : Nat} (hN : N ≤ 16) : ∀ {n : Nat}, LG li n N → ∃ f : Nat → Bool, vc f N = n ∧ ∀ y, f y = true → inL li n y
  | 0, _ => ⟨fun _ => false, vc_0 N, fun _ h => absurd h Bool.false_ne_true⟩
  | n + 1, h => by
    obtain ⟨f, h1, h2⟩ := LG_le hN (n := n) ⟨fun i hi => h.1 i (by omega), fun i j hi hj => h.2 i j (by omega) (by omega)⟩
    obtain ⟨y, hy, e⟩ := h.1 n (by omega)
    have hfy : f y = false := by
      rcases hq : f y with _ | _
      · rfl
      · obtain ⟨i, hi, e2⟩ := h2 y hq
        have := h.2 i n (by omega) (by omega) (e2.trans e.symm)
        omega
    refine ⟨va_up f y true, ?_, fun x hx => ?_⟩
    · have := vc_off (f := va_up f y true) hy (va_up_self _ _ _)
      rw [va_up_up, va_up_same hfy, h1] at this
      exact this.symm
    · by_cases hxy : x = y
      · subst hxy; exact ⟨n, by omega, e⟩
      · rw [va_up_ne _ _ hxy] at hx
        obtain ⟨i, hi, e2⟩ := h2 x hx
        exact ⟨i, by omega, e2⟩
theorem LG.le {li : Nat → Int32} {n N : Nat} (hN : N ≤ 16) (h : LG li n N) : n ≤ N := by
  obtain ⟨f, h1, -⟩ := LG_le hN h
  have := vc_le f N; omega
theorem LG.push {li : Nat → Int32} {n N y : Nat} (hN : N ≤ 16) (h : LG li n N) (hy : y < N) (hne : ¬ inL li n y) : LG (va_up li n (nI y)) (n + 1) N ∧ ∀ x, x < N → (inL (va_up li n (nI y)) (n + 1) x ↔ inL li n x ∨ x = y) := by
  have e : ∀ i, i < n → va_up li n (nI y) i = li i := fun i hi => va_up_ne _ _ (by omega)
  refine ⟨⟨fun i hi => ?_, fun i j hi hj hij => ?_⟩, fun x hx => ?_⟩
  · by_cases hin : i = n
    · subst hin; exact ⟨y, hy, va_up_self _ _ _⟩
    · rw [e i (by omega)]; exact h.1 i (by omega)
  · by_cases hin : i = n
    · by_cases hjn : j = n
      · omega
      · subst hin; rw [va_up_self, e j (by omega)] at hij; exact absurd ⟨j, by omega, hij.symm⟩ hne
    · by_cases hjn : j = n
      · subst hjn; rw [va_up_self, e i (by omega)] at hij; exact absurd ⟨i, by omega, hij⟩ hne
      · rw [e i (by omega), e j (by omega)] at hij; exact h.2 i j (by omega) (by omega) hij
  · constructor
    · rintro ⟨i, hi, e2⟩
      by_cases hin : i = n
      · subst hin; rw [va_up_self] at e2; exact Or.inr (nI_inj (by omega) (by omega) e2).symm
      · rw [e i (by omega)] at e2; exact Or.inl ⟨i, by omega, e2⟩
    · rintro (⟨i, hi, e2⟩ | rfl)
      · exact ⟨i, by omega, by rw [e i hi]; exact e2⟩
      · exact ⟨n, by omega, va_up_self _ _ _⟩
/-- flags of users' loops -/
def usK (s : QS) (w x : Nat) : Nat → Bool
  | 0 => false
  | k + 1 => usK s w x k || decide (q_pt s w k = some x)
theorem usK_iff {s : QS} {w x : Nat} : ∀ k, usK s w x k = true ↔ ∃ i, i < k ∧ q_pt s w i = some x
  | 0 => ⟨fun h => absurd h Bool.false_ne_true, fun ⟨_, h, _⟩ => absurd h (by omega)⟩
  | k + 1 => by
    rw [show usK s w x (k + 1) = (usK s w x k || decide (q_pt s w k = some x)) from rfl, Bool.or_eq_true, decide_eq_true_eq, usK_iff k]
    constructor
    · rintro (⟨i, hi, e⟩ | e)
      · exact ⟨i, by omega, e⟩
      · exact ⟨k, by omega, e⟩
    · rintro ⟨i, hi, e⟩
      by_cases h : i = k
      · subst h; exact Or.inr e
      · exact Or.inl ⟨i, by omega, e⟩
def lsK (li : Nat → Int32) (w : Nat) : Nat → Bool
  | 0 => false
  | k + 1 => lsK li w k || decide (li k = nI w)
theorem lsK_iff {li : Nat → Int32} {w : Nat} : ∀ k, lsK li w k = true ↔ inL li k w
  | 0 => ⟨fun h => absurd h Bool.false_ne_true, fun ⟨_, h, _⟩ => absurd h (by omega)⟩
  | k + 1 => by
    rw [show lsK li w (k + 1) = (lsK li w k || decide (li k = nI w)) from rfl, Bool.or_eq_true, decide_eq_true_eq, lsK_iff k]
    constructor
    · rintro (⟨i, hi, e⟩ | e)
      · exact ⟨i, by omega, e⟩
      · exact ⟨k, by omega, e⟩
    · rintro ⟨i, hi, e⟩
      by_cases h : i = k
      · subst h; exact Or.inr e
      · exact Or.inl ⟨i, by omega, e⟩

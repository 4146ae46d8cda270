/-! 41.reach: which nodes hang on which: both ways find the least closed set -/
def bt (x : Int32) (i : Nat) : Bool := x.toBitVec.getLsbD i
theorem b_ext {x y : Int32} (h : ∀ i, i < 32 → bt x i = bt y i) : x = y := Int32.toBitVec_inj.mp (BitVec.eq_of_getLsbD_eq (fun i hi => h i hi))
theorem b_or (x y : Int32) (i : Nat) : bt (x ||| y) i = (bt x i || bt y i) := by unfold bt; rw [Int32.toBitVec_or, BitVec.getLsbD_or]
theorem b_and (x y : Int32) (i : Nat) : bt (x &&& y) i = (bt x i && bt y i) := by unfold bt; rw [Int32.toBitVec_and, BitVec.getLsbD_and]
theorem b_xor (x y : Int32) (i : Nat) : bt (x ^^^ y) i = (bt x i ^^ bt y i) := by unfold bt; rw [Int32.toBitVec_xor, BitVec.getLsbD_xor]
theorem b_big {x : Int32} {i : Nat} (h : 32 ≤ i) : bt x i = false := BitVec.getLsbD_of_ge _ _ h
theorem b_255 (i : Nat) : bt 255 i = decide (i < 8) := by
  rcases Nat.lt_or_ge i 32 with h | h
  · exact (by decide +kernel : ∀ i, i < 32 → bt 255 i = decide (i < 8)) i h
  · rw [b_big h, decide_eq_false (by omega)]
theorem b_65535 (i : Nat) : bt 65535 i = decide (i < 16) := by
  rcases Nat.lt_or_ge i 32 with h | h
  · exact (by decide +kernel : ∀ i, i < 32 → bt 65535 i = decide (i < 16)) i h
  · rw [b_big h, decide_eq_false (by omega)]
theorem b_m1 : ∀ i, i < 32 → bt (-1) i = true := by decide +kernel
theorem b_0 (i : Nat) : bt 0 i = false := BitVec.getLsbD_zero
theorem s_l : ∀ n, n < 32 → ((nI n &&& 31).toBitVec.smod 32).toNat = n := by decide +kernel
theorem s_u : ∀ n, n < 32 → (((nI n).toUInt32 &&& Int32.toUInt32 31).toBitVec % 32).toNat = n := by decide +kernel
theorem b_shl (n : Nat) (hn : n < 32) (x : Int32) {i : Nat} (hi : i < 32) : bt (x <<< (nI n &&& 31)) i = (decide (n ≤ i) && bt x (i - n)) := by
  unfold bt
  rw [Int32.toBitVec_shiftLeft]
  show (x.toBitVec <<< ((nI n &&& 31).toBitVec.smod 32).toNat).getLsbD i = _
  rw [s_l n hn, BitVec.getLsbD_shiftLeft]
  rcases Nat.lt_or_ge i n with h | h
  · simp [h, Nat.not_le.mpr h]
  · simp [hi, h, Nat.not_lt.mpr h]
theorem b_ushr (n : Nat) (hn : n < 32) (x : Int32) (i : Nat) : bt ((x.toUInt32 >>> ((nI n).toUInt32 &&& Int32.toUInt32 31)).toInt32) i = bt x (n + i) := by
  show (x.toUInt32 >>> ((nI n).toUInt32 &&& Int32.toUInt32 31)).toBitVec.getLsbD i = x.toUInt32.toBitVec.getLsbD (n + i)
  rw [UInt32.toBitVec_shiftRight]
  show (x.toUInt32.toBitVec >>> (((nI n).toUInt32 &&& Int32.toUInt32 31).toBitVec % 32).toNat).getLsbD i = _
  rw [s_u n hn, BitVec.getLsbD_ushiftRight]
theorem b_sshr (n : Nat) (hn : n < 32) (x : Int32) {i : Nat} (hi : i < 32) : bt (x >>> (nI n &&& 31)) i = if n + i < 32 then bt x (n + i) else bt x 31 := by
  unfold bt
  rw [Int32.toBitVec_shiftRight]
  show (x.toBitVec.sshiftRight ((nI n &&& 31).toBitVec.smod 32).toNat).getLsbD i = _
  rw [s_l n hn, BitVec.getLsbD_sshiftRight, BitVec.msb_eq_getLsbD_last]
  simp [hi]
theorem b_1 : ∀ i, i < 32 → bt 1 i = decide (i = 0) := by decide +kernel
theorem b_bit {j : Nat} (hj : j < 32) {i : Nat} (hi : i < 32) : bt (bitI j) i = decide (i = j) := by
  unfold bitI
  rw [b_shl j hj 1 hi]
  by_cases h : j ≤ i
  · rw [b_1 (i - j) (by omega), decide_eq_true h, Bool.true_and]
    by_cases h2 : i = j
    · rw [decide_eq_true (by omega), decide_eq_true h2]
    · rw [decide_eq_false (by omega), decide_eq_false h2]
  · rw [decide_eq_false h, Bool.false_and, decide_eq_false (by omega)]
theorem b_and0 {x : Int32} {j : Nat} (hj : j < 32) : x &&& bitI j = 0 ↔ bt x j = false := by
  constructor
  · intro h
    have : bt (x &&& bitI j) j = bt 0 j := by rw [h]
    rw [b_and, b_bit hj hj, decide_eq_true rfl, Bool.and_true] at this
    rw [this]; exact b_0 j
  · intro h
    refine b_ext (fun i hi => ?_)
    rw [b_and, b_bit hj hi, b_0]
    by_cases h2 : i = j
    · subst h2; rw [h]; rfl
    · rw [decide_eq_false h2, Bool.and_false]
theorem b_sh1 {x : Int32} {j : Nat} (hj : j < 32) : (x >>> (nI j &&& 31)) &&& 1 = 0 ↔ bt x j = false := by
  have e0 : bt (x >>> (nI j &&& 31)) 0 = bt x j := by rw [b_sshr j hj x (by omega), if_pos (by omega)]; rfl
  constructor
  · intro h
    have : bt ((x >>> (nI j &&& 31)) &&& 1) 0 = bt 0 0 := by rw [h]
    rw [b_and, b_1 0 (by omega), e0] at this
    rw [decide_eq_true rfl, Bool.and_true] at this
    rw [this]; exact b_0 0
  · intro h
    refine b_ext (fun i hi => ?_)
    rw [b_and, b_1 i hi, b_0]
    by_cases h2 : i = 0
    · subst h2; rw [e0, h]; rfl
    · rw [decide_eq_false h2, Bool.and_false]
/-- y is a part of x -/
def ed (s : QS) (x y : Nat) : Prop := ∃ k, k < 4 ∧ q_pt s x k = some y
/-- y is in every set that holds a's parts and is closed -/
def lst (s : QS) (a y : Nat) : Prop := ∀ C : Nat → Prop, (∀ y, ed s a y → C y) → (∀ x y, x < q_n s → C x → ed s x y → C y) → C y
theorem cp_ed {s : QS} (h : okQ s) {j : Nat} (hj : j < q_n s) (x : Nat) : (∃ k, k < np s j ∧ cp s j k = x) ↔ ed s j x := by
  obtain ⟨b1, b2, b3, b4, b5, b6⟩ := h.2 j hj
  by_cases h0 : q_so s j = 0
  · have e := b3 h0
    constructor
    · rintro ⟨k, hk, -⟩
      unfold np at hk; rw [if_pos h0, e 2, e 3] at hk; simp at hk
    · rintro ⟨k, -, hk⟩; rw [e k] at hk; cases hk
  · obtain ⟨x0, e0, -⟩ := b2 0 (by omega) h0
    obtain ⟨x1, e1, -⟩ := b2 1 (by omega) h0
    have hnp : np s j = 2 + (if (q_pt s j 2).isSome then 1 else 0) + (if (q_pt s j 3).isSome then 1 else 0) := by unfold np; rw [if_neg h0]
    have c0 : cp s j 0 = x0 := by unfold cp; rw [if_pos (by omega), e0]; rfl
    have c1 : cp s j 1 = x1 := by unfold cp; rw [if_pos (by omega), e1]; rfl
    rcases h2 : q_pt s j 2 with _ | x2 <;> rcases h3 : q_pt s j 3 with _ | x3 <;> rw [h2, h3] at hnp <;> simp at hnp
    · constructor
      · rintro ⟨k, hk, rfl⟩
        have : k = 0 ∨ k = 1 := by omega
        rcases this with rfl | rfl
        · exact ⟨0, by omega, by rw [c0]; exact e0⟩
        · exact ⟨1, by omega, by rw [c1]; exact e1⟩
      · rintro ⟨k, hk, e⟩
        have : k = 0 ∨ k = 1 ∨ k = 2 ∨ k = 3 := by omega
        rcases this with rfl | rfl | rfl | rfl
        · exact ⟨0, by omega, by rw [c0]; exact Option.some.inj (e0.symm.trans e)⟩
        · exact ⟨1, by omega, by rw [c1]; exact Option.some.inj (e1.symm.trans e)⟩
        · rw [h2] at e; cases e
        · rw [h3] at e; cases e
    · have c2 : cp s j 2 = x3 := by unfold cp; rw [if_neg (by omega), if_pos rfl, h2, h3]; rfl
      constructor
      · rintro ⟨k, hk, rfl⟩
        have : k = 0 ∨ k = 1 ∨ k = 2 := by omega
        rcases this with rfl | rfl | rfl
        · exact ⟨0, by omega, by rw [c0]; exact e0⟩
        · exact ⟨1, by omega, by rw [c1]; exact e1⟩
        · exact ⟨3, by omega, by rw [c2]; exact h3⟩
      · rintro ⟨k, hk, e⟩
        have : k = 0 ∨ k = 1 ∨ k = 2 ∨ k = 3 := by omega
        rcases this with rfl | rfl | rfl | rfl
        · exact ⟨0, by omega, by rw [c0]; exact Option.some.inj (e0.symm.trans e)⟩
        · exact ⟨1, by omega, by rw [c1]; exact Option.some.inj (e1.symm.trans e)⟩
        · rw [h2] at e; cases e
        · exact ⟨2, by omega, by rw [c2]; exact Option.some.inj (h3.symm.trans e)⟩
    · have c2 : cp s j 2 = x2 := by unfold cp; rw [if_neg (by omega), if_pos rfl, h2]
      constructor
      · rintro ⟨k, hk, rfl⟩
        have : k = 0 ∨ k = 1 ∨ k = 2 := by omega
        rcases this with rfl | rfl | rfl
        · exact ⟨0, by omega, by rw [c0]; exact e0⟩
        · exact ⟨1, by omega, by rw [c1]; exact e1⟩
        · exact ⟨2, by omega, by rw [c2]; exact h2⟩
      · rintro ⟨k, hk, e⟩
        have : k = 0 ∨ k = 1 ∨ k = 2 ∨ k = 3 := by omega
        rcases this with rfl | rfl | rfl | rfl
        · exact ⟨0, by omega, by rw [c0]; exact Option.some.inj (e0.symm.trans e)⟩
        · exact ⟨1, by omega, by rw [c1]; exact Option.some.inj (e1.symm.trans e)⟩
        · exact ⟨2, by omega, by rw [c2]; exact Option.some.inj (h2.symm.trans e)⟩
        · rw [h3] at e; cases e
    · have c2 : cp s j 2 = x2 := by unfold cp; rw [if_neg (by omega), if_pos rfl, h2]
      have c3 : cp s j 3 = x3 := by unfold cp; rw [if_neg (by omega), if_neg (by omega), h3]; rfl
      constructor
      · rintro ⟨k, hk, rfl⟩
        have : k = 0 ∨ k = 1 ∨ k = 2 ∨ k = 3 := by omega
        rcases this with rfl | rfl | rfl | rfl
        · exact ⟨0, by omega, by rw [c0]; exact e0⟩
        · exact ⟨1, by omega, by rw [c1]; exact e1⟩
        · exact ⟨2, by omega, by rw [c2]; exact h2⟩
        · exact ⟨3, by omega, by rw [c3]; exact h3⟩
      · rintro ⟨k, hk, e⟩
        have : k = 0 ∨ k = 1 ∨ k = 2 ∨ k = 3 := by omega
        rcases this with rfl | rfl | rfl | rfl
        · exact ⟨0, by omega, by rw [c0]; exact Option.some.inj (e0.symm.trans e)⟩
        · exact ⟨1, by omega, by rw [c1]; exact Option.some.inj (e1.symm.trans e)⟩
        · exact ⟨2, by omega, by rw [c2]; exact Option.some.inj (h2.symm.trans e)⟩
        · exact ⟨3, by omega, by rw [c3]; exact Option.some.inj (h3.symm.trans e)⟩
theorem ed_lt {s : QS} (h : okQ s) {j y : Nat} (hj : j < q_n s) (e : ed s j y) : y < q_n s := by
  obtain ⟨k, -, hk⟩ := e
  exact (h.2 j hj).2.2.2.2.1 k y hk
theorem pb_bt {s : QS} (h : okQ s) {j : Nat} (hj : j < q_n s) {x : Nat} (hx : x < 32) : ∀ k, k ≤ np s j → (bt (pb s j k) x = true ↔ ∃ i, i < k ∧ cp s j i = x)
  | 0, _ => ⟨fun e => absurd e (by rw [show pb s j 0 = 0 from rfl, b_0]; decide), fun ⟨i, hi, _⟩ => absurd hi (by omega)⟩
  | k + 1, hk => by
    have hc : cp s j k < 32 := by have := cp_lt h hj (show k < np s j by omega); have := h.1; omega
    rw [show pb s j (k + 1) = pb s j k ||| bitI (cp s j k) from rfl, b_or, b_bit hc hx, Bool.or_eq_true, decide_eq_true_eq, pb_bt h hj hx k (by omega)]
    constructor
    · rintro (⟨i, hi, e⟩ | e)
      · exact ⟨i, by omega, e⟩
      · exact ⟨k, by omega, e.symm⟩
    · rintro ⟨i, hi, e⟩
      by_cases hik : i = k
      · subst hik; exact Or.inr e.symm
      · exact Or.inl ⟨i, by omega, e⟩
/-- a node's bits are its parts' -/
theorem pbits_bt {s : QS} (h : okQ s) {j : Nat} (hj : j < q_n s) {x : Nat} (hx : x < 32) : bt (pbits s j) x = true ↔ ed s j x := by
  unfold pbits; rw [pb_bt h hj hx _ (Nat.le_refl _)]; exact cp_ed h hj x
/-! rounds -/
def itr (F : Int32 → Int32) (b : Int32) : Nat → Int32
  | 0 => b
  | r + 1 => F (itr F b r)
/-- all bits lie below n -/
def blw (n : Nat) (b : Int32) : Prop := ∀ i, i < 32 → bt b i = true → i < n
theorem itr_fix {F : Int32 → Int32} {n : Nat} (hn : n ≤ 32) (h1 : ∀ b i, bt b i = true → bt (F b) i = true) (h2 : ∀ b, blw n b → blw n (F b)) {b : Int32} (hb : blw n b) {N : Nat} (hN : n ≤ N) : F (itr F b N) = itr F b N := by
  have hbl : ∀ r, blw n (itr F b r) := by
    intro r; induction r with
    | zero => exact hb
    | succ r ih => exact h2 _ ih
  have step : ∀ c, blw n c → F c ≠ c → vc (bt c) n + 1 ≤ vc (bt (F c)) n := by
    intro c hc hne
    have : ∃ i, i < n ∧ bt c i = false ∧ bt (F c) i = true := by
      by_cases hex : ∃ i, i < n ∧ bt c i = false ∧ bt (F c) i = true
      · exact hex
      · refine absurd (b_ext (fun i hi => ?_)) hne
        rcases hci : bt c i with _ | _
        · rcases hfi : bt (F c) i with _ | _
          · rfl
          · exact absurd ⟨i, h2 c hc i hi hfi, hci, hfi⟩ hex
        · exact h1 c i hci
    obtain ⟨i, hi, e1, e2⟩ := this
    have e3 := vc_off (f := bt (F c)) hi e2
    have e4 : vc (bt c) n ≤ vc (va_up (bt (F c)) i false) n := vc_mono (fun x hx hxt => by
      by_cases hxi : x = i
      · subst hxi; rw [e1] at hxt; cases hxt
      · rw [va_up_ne _ _ hxi]; exact h1 c x hxt)
    omega
  have key : ∀ r, F (itr F b r) = itr F b r ∨ r ≤ vc (bt (itr F b r)) n := by
    intro r
    induction r with
    | zero => exact Or.inr (Nat.zero_le _)
    | succ r ih =>
      rcases ih with ih | ih
      · left; show F (F (itr F b r)) = F (itr F b r); rw [ih, ih]
      · by_cases hf : F (itr F b r) = itr F b r
        · left; show F (F (itr F b r)) = F (itr F b r); rw [hf, hf]
        · right; have := step _ (hbl r) hf; show r + 1 ≤ vc (bt (F (itr F b r))) n; omega
  rcases key N with h | h
  · exact h
  · by_cases hf : F (itr F b N) = itr F b N
    · exact hf
    · have := step _ (hbl N) hf
      have := vc_le (bt (F (itr F b N))) n
      omega
/-! the class's way -/
theorem ibs_up {s : QS} {b : Int32} {i : Nat} (h : bt b i = true) : ∀ k, bt (ibs s b k) i = true
  | 0 => h
  | k + 1 => by
    show bt (if _ then _ else _) i = true
    split
    · exact ibs_up h k
    · rw [b_or, ibs_up h k]; rfl
theorem ibs_in {s : QS} (h : okQ s) {C : Nat → Prop} (hC : ∀ x y, x < q_n s → C x → ed s x y → C y) {b : Int32} (hb : ∀ i, i < 32 → bt b i = true → C i) : ∀ k, k ≤ q_n s → ∀ i, i < 32 → bt (ibs s b k) i = true → C i
  | 0, _ => hb
  | k + 1, hk => by
    intro i hi hbi
    have hbi : bt (if ibs s b k &&& bitI k = 0 then ibs s b k else ibs s b k ||| pbits s k) i = true := hbi
    have h16 := h.1
    split at hbi
    · exact ibs_in h hC hb k (by omega) i hi hbi
    · rename_i hne
      rw [b_or, Bool.or_eq_true] at hbi
      rcases hbi with hbi | hbi
      · exact ibs_in h hC hb k (by omega) i hi hbi
      · refine hC k i (by omega) (ibs_in h hC hb k (by omega) k (by omega) ?_) ((pbits_bt h (by omega) hi).mp hbi)
        rcases hq : bt (ibs s b k) k with _ | _
        · exact absurd ((b_and0 (by omega)).mpr hq) hne
        · rfl
theorem ibs_fix {s : QS} (h : okQ s) {b : Int32} (hf : ibs s b (q_n s) = b) {x y : Nat} (hx : x < q_n s) (hb : bt b x = true) (e : ed s x y) : bt b y = true := by
  have h16 := h.1
  have hy := ed_lt h hx e
  have mono : ∀ k d, ∀ i, bt (ibs s b k) i = true → bt (ibs s b (k + d)) i = true := by
    intro k d i hi
    induction d with
    | zero => exact hi
    | succ d ih =>
      show bt (if ibs s b (k + d) &&& bitI (k + d) = 0 then ibs s b (k + d) else ibs s b (k + d) ||| pbits s (k + d)) i = true
      split
      · exact ih
      · rw [b_or, ih]; rfl
  have h1 : bt (ibs s b (x + 1)) y = true := by
    show bt (if ibs s b x &&& bitI x = 0 then _ else _) y = true
    rw [if_neg (fun h0 => by have := ibs_up (s := s) hb x; rw [(b_and0 (by omega)).mp h0] at this; cases this), b_or, (pbits_bt h hx (by omega)).mpr e, Bool.or_true]
  have h2 := mono (x + 1) (q_n s - (x + 1)) y h1
  rw [show x + 1 + (q_n s - (x + 1)) = q_n s by omega, hf] at h2
  exact h2
theorem obs_itr {s : QS} {b : Int32} : ∀ r, obs s b r = itr (fun c => ibs s c (q_n s)) b r
  | 0 => rfl
  | r + 1 => by show ibs s (obs s b r) _ = ibs s (itr _ b r) _; rw [obs_itr r]
theorem usesC_lst {s : QS} (h : okQ s) {a y : Nat} (ha : a < q_n s) (hy : y < q_n s) : usesC s a y = true ↔ lst s a y := by
  have h16 := h.1
  have hE : usesC s a y = true ↔ bt (ubits s a) y = true := by
    unfold usesC; rw [decide_eq_true_eq]
    constructor
    · intro hn; rcases hq : bt (ubits s a) y with _ | _
      · exact absurd ((b_and0 (by omega)).mpr hq) hn
      · rfl
    · intro hq h0; rw [(b_and0 (by omega)).mp h0] at hq; cases hq
  rw [hE]
  have hb0 : blw (q_n s) (pbits s a) := fun i hi hbi => ed_lt h ha ((pbits_bt h ha hi).mp hbi)
  constructor
  · intro hq C hC1 hC2
    have key : ∀ r, ∀ i, i < 32 → bt (obs s (pbits s a) r) i = true → C i := by
      intro r
      induction r with
      | zero => exact fun i hi hbi => hC1 i ((pbits_bt h ha hi).mp hbi)
      | succ r ih => exact ibs_in h hC2 ih _ (Nat.le_refl _)
    exact key _ y (by omega) hq
  · intro hl
    have hfix : ibs s (ubits s a) (q_n s) = ubits s a := by
      unfold ubits; rw [obs_itr]
      exact itr_fix (F := fun c => ibs s c (q_n s)) (n := q_n s) (by omega) (fun b i hb => ibs_up hb _) (fun b hb => ibs_in h (C := fun i => i < q_n s) (fun x y hx _ e => ed_lt h hx e) hb _ (Nat.le_refl _)) hb0 (Nat.le_refl _)
    refine hl (fun z => bt (ubits s a) z = true) (fun z e => ?_) (fun x z hx hbx e => ibs_fix h hfix hx hbx e)
    have hz := ed_lt h ha e
    have up : ∀ r, bt (obs s (pbits s a) r) z = true := by
      intro r
      induction r with
      | zero => exact (pbits_bt h ha (by omega)).mpr e
      | succ r ih => exact ibs_up ih _
    exact up _
/-! the reference's way -/
def hgk (s : QS) (a n : Nat) (b : Int32) : Nat → Int32
  | 0 => b
  | k + 1 => if n = a ∨ bt (hgk s a n b k) n = true then (match q_pt s n k with | none => hgk s a n b k | some x => hgk s a n b k ||| bitI x) else hgk s a n b k
def hgn (s : QS) (a : Nat) (b : Int32) : Nat → Int32
  | 0 => b
  | n + 1 => hgk s a n (hgn s a b n) 4
def hgR (s : QS) (a y : Nat) : Bool := bt (itr (fun c => hgn s a c (q_n s)) 0 16) y
theorem hgk_up {s : QS} {a n : Nat} {b : Int32} {i : Nat} (h : bt b i = true) : ∀ k, bt (hgk s a n b k) i = true
  | 0 => h
  | k + 1 => by
    show bt (if _ then _ else _) i = true
    split
    · split
      · exact hgk_up h k
      · rw [b_or, hgk_up h k]; rfl
    · exact hgk_up h k
theorem hgn_up {s : QS} {a : Nat} {b : Int32} {i : Nat} (h : bt b i = true) : ∀ n, bt (hgn s a b n) i = true
  | 0 => h
  | n + 1 => hgk_up (hgn_up h n) 4
theorem hgk_in {s : QS} (h : okQ s) {a n : Nat} (hn : n < q_n s) {C : Nat → Prop} (hA : ∀ y, ed s a y → C y) (hC : ∀ x y, x < q_n s → C x → ed s x y → C y) {b : Int32} (hb : ∀ i, i < 32 → bt b i = true → C i) : ∀ k, k ≤ 4 → ∀ i, i < 32 → bt (hgk s a n b k) i = true → C i
  | 0, _ => hb
  | k + 1, hk => by
    intro i hi hbi
    have h16 := h.1
    have hbi : bt (if n = a ∨ bt (hgk s a n b k) n = true then (match q_pt s n k with | none => hgk s a n b k | some x => hgk s a n b k ||| bitI x) else hgk s a n b k) i = true := hbi
    split at hbi
    · rename_i hc
      rcases hq : q_pt s n k with _ | x
      · rw [hq] at hbi; exact hgk_in h hn hA hC hb k (by omega) i hi hbi
      · rw [hq] at hbi
        have hx := (h.2 n hn).2.2.2.2.1 k x hq
        have hbi : bt (hgk s a n b k ||| bitI x) i = true := hbi
        rw [b_or, b_bit (by omega) hi, Bool.or_eq_true, decide_eq_true_eq] at hbi
        rcases hbi with hbi | hbi
        · exact hgk_in h hn hA hC hb k (by omega) i hi hbi
        · subst hbi
          rcases hc with hc | hc
          · subst hc; exact hA i ⟨k, by omega, hq⟩
          · exact hC n i hn (hgk_in h hn hA hC hb k (by omega) n (by omega) hc) ⟨k, by omega, hq⟩
    · exact hgk_in h hn hA hC hb k (by omega) i hi hbi
theorem hgn_in {s : QS} (h : okQ s) {a : Nat} {C : Nat → Prop} (hA : ∀ y, ed s a y → C y) (hC : ∀ x y, x < q_n s → C x → ed s x y → C y) {b : Int32} (hb : ∀ i, i < 32 → bt b i = true → C i) : ∀ n, n ≤ q_n s → ∀ i, i < 32 → bt (hgn s a b n) i = true → C i
  | 0, _ => hb
  | n + 1, hn => hgk_in h (by omega) hA hC (hgn_in h hA hC hb n (by omega)) 4 (Nat.le_refl _)
theorem hgn_fix {s : QS} (h : okQ s) {a : Nat} {b : Int32} (hf : hgn s a b (q_n s) = b) {x y : Nat} (hx : x < q_n s) (hb : x = a ∨ bt b x = true) (e : ed s x y) : bt b y = true := by
  have h16 := h.1
  obtain ⟨k, hk, hq⟩ := e
  have hy := (h.2 x hx).2.2.2.2.1 k y hq
  have m1 : ∀ n d, ∀ i, bt (hgn s a b n) i = true → bt (hgn s a b (n + d)) i = true := by
    intro n d i hi
    induction d with
    | zero => exact hi
    | succ d ih => exact hgk_up ih 4
  have m2 : ∀ c k d, ∀ i, bt (hgk s a x c k) i = true → bt (hgk s a x c (k + d)) i = true := by
    intro c k d i hi
    induction d with
    | zero => exact hi
    | succ d ih =>
      show bt (if x = a ∨ bt (hgk s a x c (k + d)) x = true then (match q_pt s x (k + d) with | none => hgk s a x c (k + d) | some z => hgk s a x c (k + d) ||| bitI z) else hgk s a x c (k + d)) i = true
      split
      · split
        · exact ih
        · rw [b_or, ih]; rfl
      · exact ih
  have h1 : bt (hgk s a x (hgn s a b x) (k + 1)) y = true := by
    show bt (if x = a ∨ bt (hgk s a x (hgn s a b x) k) x = true then (match q_pt s x k with | none => hgk s a x (hgn s a b x) k | some z => hgk s a x (hgn s a b x) k ||| bitI z) else _) y = true
    rw [if_pos (hb.imp id (fun hb => hgk_up (hgn_up hb x) k)), hq]
    show bt (hgk s a x (hgn s a b x) k ||| bitI y) y = true
    rw [b_or, b_bit (by omega) (by omega), decide_eq_true rfl, Bool.or_true]
  have h2 := m2 (hgn s a b x) (k + 1) (4 - (k + 1)) y h1
  rw [show k + 1 + (4 - (k + 1)) = 4 by omega] at h2
  have h3 := m1 (x + 1) (q_n s - (x + 1)) y h2
  rw [show x + 1 + (q_n s - (x + 1)) = q_n s by omega, hf] at h3
  exact h3
theorem hgR_lst {s : QS} (h : okQ s) {a y : Nat} (ha : a < q_n s) (hy : y < q_n s) : hgR s a y = true ↔ lst s a y := by
  have h16 := h.1
  unfold hgR
  constructor
  · intro hq C hC1 hC2
    have key : ∀ r, ∀ i, i < 32 → bt (itr (fun c => hgn s a c (q_n s)) 0 r) i = true → C i := by
      intro r
      induction r with
      | zero => exact fun i hi hbi => by rw [show itr (fun c => hgn s a c (q_n s)) 0 0 = 0 from rfl, b_0] at hbi; cases hbi
      | succ r ih => exact hgn_in h hC1 hC2 ih _ (Nat.le_refl _)
    exact key _ y (by omega) hq
  · intro hl
    have hfix : hgn s a (itr (fun c => hgn s a c (q_n s)) 0 16) (q_n s) = itr (fun c => hgn s a c (q_n s)) 0 16 :=
      itr_fix (F := fun c => hgn s a c (q_n s)) (n := q_n s) (by omega) (fun b i hb => hgn_up hb _) (fun b hb => hgn_in h (C := fun i => i < q_n s) (fun y e => ed_lt h ha e) (fun x y hx _ e => ed_lt h hx e) hb _ (Nat.le_refl _)) (fun i _ hbi => by rw [b_0] at hbi; cases hbi) h16
    exact hl (fun z => bt (itr (fun c => hgn s a c (q_n s)) 0 16) z = true) (fun z e => hgn_fix h hfix ha (Or.inl rfl) e) (fun x z hx hbx e => hgn_fix h hfix hx (Or.inr hbx) e)
/-- both ways agree -/
theorem hg_uses {s : QS} (h : okQ s) {a y : Nat} (ha : a < q_n s) (hy : y < q_n s) : hgR s a y = usesC s a y := by
  have e1 := hgR_lst h ha hy
  have e2 := usesC_lst h ha hy
  rcases h1 : hgR s a y with _ | _ <;> rcases h2 : usesC s a y with _ | _
  · rfl
  · exact absurd (e1.mpr (e2.mp h2)) (by rw [h1]; decide)
  · exact absurd (e2.mpr (e1.mp h1)) (by rw [h2]; decide)
  · rfl

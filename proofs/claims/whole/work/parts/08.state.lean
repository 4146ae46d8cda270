/-! 08.state: the state as mathematics, and its image in the heap -/
abbrev QS : Type := (Nat) × (Nat → Nat) × (Nat → Int64) × (Nat → Bool) × (Nat → Bool) × (Nat → Bool) × (Nat → Int32) × (Nat → Nat → Option Nat) × (Nat → Int64) × (Nat → Int64) × (Nat → Int32) × (Nat → Int32) × (Nat → Int32) × (Nat → Bool) × (Nat → Nat) × (Nat → Int32) × (Int32) × (Int32) × (Int32)
def q_n (s : QS) : Nat := s.1
def q_so (s : QS) : Nat → Nat := s.2.1
def q_am (s : QS) : Nat → Int64 := s.2.2.1
def q_va (s : QS) : Nat → Bool := s.2.2.2.1
def q_fr (s : QS) : Nat → Bool := s.2.2.2.2.1
def q_mi (s : QS) : Nat → Bool := s.2.2.2.2.2.1
def q_tw (s : QS) : Nat → Int32 := s.2.2.2.2.2.2.1
def q_pt (s : QS) : Nat → Nat → Option Nat := s.2.2.2.2.2.2.2.1
def q_wa (s : QS) : Nat → Int64 := s.2.2.2.2.2.2.2.2.1
def q_wb (s : QS) : Nat → Int64 := s.2.2.2.2.2.2.2.2.2.1
def q_kd (s : QS) : Nat → Int32 := s.2.2.2.2.2.2.2.2.2.2.1
def q_sp (s : QS) : Nat → Int32 := s.2.2.2.2.2.2.2.2.2.2.2.1
def q_ch (s : QS) : Nat → Int32 := s.2.2.2.2.2.2.2.2.2.2.2.2.1
def q_us (s : QS) : Nat → Bool := s.2.2.2.2.2.2.2.2.2.2.2.2.2.1
def q_en (s : QS) : Nat → Nat := s.2.2.2.2.2.2.2.2.2.2.2.2.2.2.1
def q_sz (s : QS) : Nat → Int32 := s.2.2.2.2.2.2.2.2.2.2.2.2.2.2.2.1
def q_tl (s : QS) : Int32 := s.2.2.2.2.2.2.2.2.2.2.2.2.2.2.2.2.1
def q_wk (s : QS) : Int32 := s.2.2.2.2.2.2.2.2.2.2.2.2.2.2.2.2.2.1
def q_fl (s : QS) : Int32 := s.2.2.2.2.2.2.2.2.2.2.2.2.2.2.2.2.2.2
def qS_n (s : QS) (x : Nat) : QS := (x, s.2.1, s.2.2.1, s.2.2.2.1, s.2.2.2.2.1, s.2.2.2.2.2.1, s.2.2.2.2.2.2.1, s.2.2.2.2.2.2.2.1, s.2.2.2.2.2.2.2.2.1, s.2.2.2.2.2.2.2.2.2.1, s.2.2.2.2.2.2.2.2.2.2.1, s.2.2.2.2.2.2.2.2.2.2.2.1, s.2.2.2.2.2.2.2.2.2.2.2.2.1, s.2.2.2.2.2.2.2.2.2.2.2.2.2.1, s.2.2.2.2.2.2.2.2.2.2.2.2.2.2.1, s.2.2.2.2.2.2.2.2.2.2.2.2.2.2.2.1, s.2.2.2.2.2.2.2.2.2.2.2.2.2.2.2.2.1, s.2.2.2.2.2.2.2.2.2.2.2.2.2.2.2.2.2.1, s.2.2.2.2.2.2.2.2.2.2.2.2.2.2.2.2.2.2)
def qS_so (s : QS) (x : Nat → Nat) : QS := (s.1, x, s.2.2.1, s.2.2.2.1, s.2.2.2.2.1, s.2.2.2.2.2.1, s.2.2.2.2.2.2.1, s.2.2.2.2.2.2.2.1, s.2.2.2.2.2.2.2.2.1, s.2.2.2.2.2.2.2.2.2.1, s.2.2.2.2.2.2.2.2.2.2.1, s.2.2.2.2.2.2.2.2.2.2.2.1, s.2.2.2.2.2.2.2.2.2.2.2.2.1, s.2.2.2.2.2.2.2.2.2.2.2.2.2.1, s.2.2.2.2.2.2.2.2.2.2.2.2.2.2.1, s.2.2.2.2.2.2.2.2.2.2.2.2.2.2.2.1, s.2.2.2.2.2.2.2.2.2.2.2.2.2.2.2.2.1, s.2.2.2.2.2.2.2.2.2.2.2.2.2.2.2.2.2.1, s.2.2.2.2.2.2.2.2.2.2.2.2.2.2.2.2.2.2)
def qS_am (s : QS) (x : Nat → Int64) : QS := (s.1, s.2.1, x, s.2.2.2.1, s.2.2.2.2.1, s.2.2.2.2.2.1, s.2.2.2.2.2.2.1, s.2.2.2.2.2.2.2.1, s.2.2.2.2.2.2.2.2.1, s.2.2.2.2.2.2.2.2.2.1, s.2.2.2.2.2.2.2.2.2.2.1, s.2.2.2.2.2.2.2.2.2.2.2.1, s.2.2.2.2.2.2.2.2.2.2.2.2.1, s.2.2.2.2.2.2.2.2.2.2.2.2.2.1, s.2.2.2.2.2.2.2.2.2.2.2.2.2.2.1, s.2.2.2.2.2.2.2.2.2.2.2.2.2.2.2.1, s.2.2.2.2.2.2.2.2.2.2.2.2.2.2.2.2.1, s.2.2.2.2.2.2.2.2.2.2.2.2.2.2.2.2.2.1, s.2.2.2.2.2.2.2.2.2.2.2.2.2.2.2.2.2.2)
def qS_va (s : QS) (x : Nat → Bool) : QS := (s.1, s.2.1, s.2.2.1, x, s.2.2.2.2.1, s.2.2.2.2.2.1, s.2.2.2.2.2.2.1, s.2.2.2.2.2.2.2.1, s.2.2.2.2.2.2.2.2.1, s.2.2.2.2.2.2.2.2.2.1, s.2.2.2.2.2.2.2.2.2.2.1, s.2.2.2.2.2.2.2.2.2.2.2.1, s.2.2.2.2.2.2.2.2.2.2.2.2.1, s.2.2.2.2.2.2.2.2.2.2.2.2.2.1, s.2.2.2.2.2.2.2.2.2.2.2.2.2.2.1, s.2.2.2.2.2.2.2.2.2.2.2.2.2.2.2.1, s.2.2.2.2.2.2.2.2.2.2.2.2.2.2.2.2.1, s.2.2.2.2.2.2.2.2.2.2.2.2.2.2.2.2.2.1, s.2.2.2.2.2.2.2.2.2.2.2.2.2.2.2.2.2.2)
def qS_fr (s : QS) (x : Nat → Bool) : QS := (s.1, s.2.1, s.2.2.1, s.2.2.2.1, x, s.2.2.2.2.2.1, s.2.2.2.2.2.2.1, s.2.2.2.2.2.2.2.1, s.2.2.2.2.2.2.2.2.1, s.2.2.2.2.2.2.2.2.2.1, s.2.2.2.2.2.2.2.2.2.2.1, s.2.2.2.2.2.2.2.2.2.2.2.1, s.2.2.2.2.2.2.2.2.2.2.2.2.1, s.2.2.2.2.2.2.2.2.2.2.2.2.2.1, s.2.2.2.2.2.2.2.2.2.2.2.2.2.2.1, s.2.2.2.2.2.2.2.2.2.2.2.2.2.2.2.1, s.2.2.2.2.2.2.2.2.2.2.2.2.2.2.2.2.1, s.2.2.2.2.2.2.2.2.2.2.2.2.2.2.2.2.2.1, s.2.2.2.2.2.2.2.2.2.2.2.2.2.2.2.2.2.2)
def qS_mi (s : QS) (x : Nat → Bool) : QS := (s.1, s.2.1, s.2.2.1, s.2.2.2.1, s.2.2.2.2.1, x, s.2.2.2.2.2.2.1, s.2.2.2.2.2.2.2.1, s.2.2.2.2.2.2.2.2.1, s.2.2.2.2.2.2.2.2.2.1, s.2.2.2.2.2.2.2.2.2.2.1, s.2.2.2.2.2.2.2.2.2.2.2.1, s.2.2.2.2.2.2.2.2.2.2.2.2.1, s.2.2.2.2.2.2.2.2.2.2.2.2.2.1, s.2.2.2.2.2.2.2.2.2.2.2.2.2.2.1, s.2.2.2.2.2.2.2.2.2.2.2.2.2.2.2.1, s.2.2.2.2.2.2.2.2.2.2.2.2.2.2.2.2.1, s.2.2.2.2.2.2.2.2.2.2.2.2.2.2.2.2.2.1, s.2.2.2.2.2.2.2.2.2.2.2.2.2.2.2.2.2.2)
def qS_tw (s : QS) (x : Nat → Int32) : QS := (s.1, s.2.1, s.2.2.1, s.2.2.2.1, s.2.2.2.2.1, s.2.2.2.2.2.1, x, s.2.2.2.2.2.2.2.1, s.2.2.2.2.2.2.2.2.1, s.2.2.2.2.2.2.2.2.2.1, s.2.2.2.2.2.2.2.2.2.2.1, s.2.2.2.2.2.2.2.2.2.2.2.1, s.2.2.2.2.2.2.2.2.2.2.2.2.1, s.2.2.2.2.2.2.2.2.2.2.2.2.2.1, s.2.2.2.2.2.2.2.2.2.2.2.2.2.2.1, s.2.2.2.2.2.2.2.2.2.2.2.2.2.2.2.1, s.2.2.2.2.2.2.2.2.2.2.2.2.2.2.2.2.1, s.2.2.2.2.2.2.2.2.2.2.2.2.2.2.2.2.2.1, s.2.2.2.2.2.2.2.2.2.2.2.2.2.2.2.2.2.2)
def qS_pt (s : QS) (x : Nat → Nat → Option Nat) : QS := (s.1, s.2.1, s.2.2.1, s.2.2.2.1, s.2.2.2.2.1, s.2.2.2.2.2.1, s.2.2.2.2.2.2.1, x, s.2.2.2.2.2.2.2.2.1, s.2.2.2.2.2.2.2.2.2.1, s.2.2.2.2.2.2.2.2.2.2.1, s.2.2.2.2.2.2.2.2.2.2.2.1, s.2.2.2.2.2.2.2.2.2.2.2.2.1, s.2.2.2.2.2.2.2.2.2.2.2.2.2.1, s.2.2.2.2.2.2.2.2.2.2.2.2.2.2.1, s.2.2.2.2.2.2.2.2.2.2.2.2.2.2.2.1, s.2.2.2.2.2.2.2.2.2.2.2.2.2.2.2.2.1, s.2.2.2.2.2.2.2.2.2.2.2.2.2.2.2.2.2.1, s.2.2.2.2.2.2.2.2.2.2.2.2.2.2.2.2.2.2)
def qS_wa (s : QS) (x : Nat → Int64) : QS := (s.1, s.2.1, s.2.2.1, s.2.2.2.1, s.2.2.2.2.1, s.2.2.2.2.2.1, s.2.2.2.2.2.2.1, s.2.2.2.2.2.2.2.1, x, s.2.2.2.2.2.2.2.2.2.1, s.2.2.2.2.2.2.2.2.2.2.1, s.2.2.2.2.2.2.2.2.2.2.2.1, s.2.2.2.2.2.2.2.2.2.2.2.2.1, s.2.2.2.2.2.2.2.2.2.2.2.2.2.1, s.2.2.2.2.2.2.2.2.2.2.2.2.2.2.1, s.2.2.2.2.2.2.2.2.2.2.2.2.2.2.2.1, s.2.2.2.2.2.2.2.2.2.2.2.2.2.2.2.2.1, s.2.2.2.2.2.2.2.2.2.2.2.2.2.2.2.2.2.1, s.2.2.2.2.2.2.2.2.2.2.2.2.2.2.2.2.2.2)
def qS_wb (s : QS) (x : Nat → Int64) : QS := (s.1, s.2.1, s.2.2.1, s.2.2.2.1, s.2.2.2.2.1, s.2.2.2.2.2.1, s.2.2.2.2.2.2.1, s.2.2.2.2.2.2.2.1, s.2.2.2.2.2.2.2.2.1, x, s.2.2.2.2.2.2.2.2.2.2.1, s.2.2.2.2.2.2.2.2.2.2.2.1, s.2.2.2.2.2.2.2.2.2.2.2.2.1, s.2.2.2.2.2.2.2.2.2.2.2.2.2.1, s.2.2.2.2.2.2.2.2.2.2.2.2.2.2.1, s.2.2.2.2.2.2.2.2.2.2.2.2.2.2.2.1, s.2.2.2.2.2.2.2.2.2.2.2.2.2.2.2.2.1, s.2.2.2.2.2.2.2.2.2.2.2.2.2.2.2.2.2.1, s.2.2.2.2.2.2.2.2.2.2.2.2.2.2.2.2.2.2)
def qS_kd (s : QS) (x : Nat → Int32) : QS := (s.1, s.2.1, s.2.2.1, s.2.2.2.1, s.2.2.2.2.1, s.2.2.2.2.2.1, s.2.2.2.2.2.2.1, s.2.2.2.2.2.2.2.1, s.2.2.2.2.2.2.2.2.1, s.2.2.2.2.2.2.2.2.2.1, x, s.2.2.2.2.2.2.2.2.2.2.2.1, s.2.2.2.2.2.2.2.2.2.2.2.2.1, s.2.2.2.2.2.2.2.2.2.2.2.2.2.1, s.2.2.2.2.2.2.2.2.2.2.2.2.2.2.1, s.2.2.2.2.2.2.2.2.2.2.2.2.2.2.2.1, s.2.2.2.2.2.2.2.2.2.2.2.2.2.2.2.2.1, s.2.2.2.2.2.2.2.2.2.2.2.2.2.2.2.2.2.1, s.2.2.2.2.2.2.2.2.2.2.2.2.2.2.2.2.2.2)
def qS_sp (s : QS) (x : Nat → Int32) : QS := (s.1, s.2.1, s.2.2.1, s.2.2.2.1, s.2.2.2.2.1, s.2.2.2.2.2.1, s.2.2.2.2.2.2.1, s.2.2.2.2.2.2.2.1, s.2.2.2.2.2.2.2.2.1, s.2.2.2.2.2.2.2.2.2.1, s.2.2.2.2.2.2.2.2.2.2.1, x, s.2.2.2.2.2.2.2.2.2.2.2.2.1, s.2.2.2.2.2.2.2.2.2.2.2.2.2.1, s.2.2.2.2.2.2.2.2.2.2.2.2.2.2.1, s.2.2.2.2.2.2.2.2.2.2.2.2.2.2.2.1, s.2.2.2.2.2.2.2.2.2.2.2.2.2.2.2.2.1, s.2.2.2.2.2.2.2.2.2.2.2.2.2.2.2.2.2.1, s.2.2.2.2.2.2.2.2.2.2.2.2.2.2.2.2.2.2)
def qS_ch (s : QS) (x : Nat → Int32) : QS := (s.1, s.2.1, s.2.2.1, s.2.2.2.1, s.2.2.2.2.1, s.2.2.2.2.2.1, s.2.2.2.2.2.2.1, s.2.2.2.2.2.2.2.1, s.2.2.2.2.2.2.2.2.1, s.2.2.2.2.2.2.2.2.2.1, s.2.2.2.2.2.2.2.2.2.2.1, s.2.2.2.2.2.2.2.2.2.2.2.1, x, s.2.2.2.2.2.2.2.2.2.2.2.2.2.1, s.2.2.2.2.2.2.2.2.2.2.2.2.2.2.1, s.2.2.2.2.2.2.2.2.2.2.2.2.2.2.2.1, s.2.2.2.2.2.2.2.2.2.2.2.2.2.2.2.2.1, s.2.2.2.2.2.2.2.2.2.2.2.2.2.2.2.2.2.1, s.2.2.2.2.2.2.2.2.2.2.2.2.2.2.2.2.2.2)
def qS_us (s : QS) (x : Nat → Bool) : QS := (s.1, s.2.1, s.2.2.1, s.2.2.2.1, s.2.2.2.2.1, s.2.2.2.2.2.1, s.2.2.2.2.2.2.1, s.2.2.2.2.2.2.2.1, s.2.2.2.2.2.2.2.2.1, s.2.2.2.2.2.2.2.2.2.1, s.2.2.2.2.2.2.2.2.2.2.1, s.2.2.2.2.2.2.2.2.2.2.2.1, s.2.2.2.2.2.2.2.2.2.2.2.2.1, x, s.2.2.2.2.2.2.2.2.2.2.2.2.2.2.1, s.2.2.2.2.2.2.2.2.2.2.2.2.2.2.2.1, s.2.2.2.2.2.2.2.2.2.2.2.2.2.2.2.2.1, s.2.2.2.2.2.2.2.2.2.2.2.2.2.2.2.2.2.1, s.2.2.2.2.2.2.2.2.2.2.2.2.2.2.2.2.2.2)
def qS_en (s : QS) (x : Nat → Nat) : QS := (s.1, s.2.1, s.2.2.1, s.2.2.2.1, s.2.2.2.2.1, s.2.2.2.2.2.1, s.2.2.2.2.2.2.1, s.2.2.2.2.2.2.2.1, s.2.2.2.2.2.2.2.2.1, s.2.2.2.2.2.2.2.2.2.1, s.2.2.2.2.2.2.2.2.2.2.1, s.2.2.2.2.2.2.2.2.2.2.2.1, s.2.2.2.2.2.2.2.2.2.2.2.2.1, s.2.2.2.2.2.2.2.2.2.2.2.2.2.1, x, s.2.2.2.2.2.2.2.2.2.2.2.2.2.2.2.1, s.2.2.2.2.2.2.2.2.2.2.2.2.2.2.2.2.1, s.2.2.2.2.2.2.2.2.2.2.2.2.2.2.2.2.2.1, s.2.2.2.2.2.2.2.2.2.2.2.2.2.2.2.2.2.2)
def qS_sz (s : QS) (x : Nat → Int32) : QS := (s.1, s.2.1, s.2.2.1, s.2.2.2.1, s.2.2.2.2.1, s.2.2.2.2.2.1, s.2.2.2.2.2.2.1, s.2.2.2.2.2.2.2.1, s.2.2.2.2.2.2.2.2.1, s.2.2.2.2.2.2.2.2.2.1, s.2.2.2.2.2.2.2.2.2.2.1, s.2.2.2.2.2.2.2.2.2.2.2.1, s.2.2.2.2.2.2.2.2.2.2.2.2.1, s.2.2.2.2.2.2.2.2.2.2.2.2.2.1, s.2.2.2.2.2.2.2.2.2.2.2.2.2.2.1, x, s.2.2.2.2.2.2.2.2.2.2.2.2.2.2.2.2.1, s.2.2.2.2.2.2.2.2.2.2.2.2.2.2.2.2.2.1, s.2.2.2.2.2.2.2.2.2.2.2.2.2.2.2.2.2.2)
def qS_tl (s : QS) (x : Int32) : QS := (s.1, s.2.1, s.2.2.1, s.2.2.2.1, s.2.2.2.2.1, s.2.2.2.2.2.1, s.2.2.2.2.2.2.1, s.2.2.2.2.2.2.2.1, s.2.2.2.2.2.2.2.2.1, s.2.2.2.2.2.2.2.2.2.1, s.2.2.2.2.2.2.2.2.2.2.1, s.2.2.2.2.2.2.2.2.2.2.2.1, s.2.2.2.2.2.2.2.2.2.2.2.2.1, s.2.2.2.2.2.2.2.2.2.2.2.2.2.1, s.2.2.2.2.2.2.2.2.2.2.2.2.2.2.1, s.2.2.2.2.2.2.2.2.2.2.2.2.2.2.2.1, x, s.2.2.2.2.2.2.2.2.2.2.2.2.2.2.2.2.2.1, s.2.2.2.2.2.2.2.2.2.2.2.2.2.2.2.2.2.2)
def qS_wk (s : QS) (x : Int32) : QS := (s.1, s.2.1, s.2.2.1, s.2.2.2.1, s.2.2.2.2.1, s.2.2.2.2.2.1, s.2.2.2.2.2.2.1, s.2.2.2.2.2.2.2.1, s.2.2.2.2.2.2.2.2.1, s.2.2.2.2.2.2.2.2.2.1, s.2.2.2.2.2.2.2.2.2.2.1, s.2.2.2.2.2.2.2.2.2.2.2.1, s.2.2.2.2.2.2.2.2.2.2.2.2.1, s.2.2.2.2.2.2.2.2.2.2.2.2.2.1, s.2.2.2.2.2.2.2.2.2.2.2.2.2.2.1, s.2.2.2.2.2.2.2.2.2.2.2.2.2.2.2.1, s.2.2.2.2.2.2.2.2.2.2.2.2.2.2.2.2.1, x, s.2.2.2.2.2.2.2.2.2.2.2.2.2.2.2.2.2.2)
def qS_fl (s : QS) (x : Int32) : QS := (s.1, s.2.1, s.2.2.1, s.2.2.2.1, s.2.2.2.2.1, s.2.2.2.2.2.1, s.2.2.2.2.2.2.1, s.2.2.2.2.2.2.2.1, s.2.2.2.2.2.2.2.2.1, s.2.2.2.2.2.2.2.2.2.1, s.2.2.2.2.2.2.2.2.2.2.1, s.2.2.2.2.2.2.2.2.2.2.2.1, s.2.2.2.2.2.2.2.2.2.2.2.2.1, s.2.2.2.2.2.2.2.2.2.2.2.2.2.1, s.2.2.2.2.2.2.2.2.2.2.2.2.2.2.1, s.2.2.2.2.2.2.2.2.2.2.2.2.2.2.2.1, s.2.2.2.2.2.2.2.2.2.2.2.2.2.2.2.2.1, s.2.2.2.2.2.2.2.2.2.2.2.2.2.2.2.2.2.1, x)
abbrev ZS : Type := (Nat → Int64) × (Nat → Bool) × (Nat → Nat → Option Nat) × (Nat → Int64) × (Nat → Int64) × (Int64)
def z_ra (s : ZS) : Nat → Int64 := s.1
def z_rv (s : ZS) : Nat → Bool := s.2.1
def z_pr (s : ZS) : Nat → Nat → Option Nat := s.2.2.1
def z_lr (s : ZS) : Nat → Int64 := s.2.2.2.1
def z_nr (s : ZS) : Nat → Int64 := s.2.2.2.2.1
def z_dw (s : ZS) : Int64 := s.2.2.2.2.2
def zS_ra (s : ZS) (x : Nat → Int64) : ZS := (x, s.2.1, s.2.2.1, s.2.2.2.1, s.2.2.2.2.1, s.2.2.2.2.2)
def zS_rv (s : ZS) (x : Nat → Bool) : ZS := (s.1, x, s.2.2.1, s.2.2.2.1, s.2.2.2.2.1, s.2.2.2.2.2)
def zS_pr (s : ZS) (x : Nat → Nat → Option Nat) : ZS := (s.1, s.2.1, x, s.2.2.2.1, s.2.2.2.2.1, s.2.2.2.2.2)
def zS_lr (s : ZS) (x : Nat → Int64) : ZS := (s.1, s.2.1, s.2.2.1, x, s.2.2.2.2.1, s.2.2.2.2.2)
def zS_nr (s : ZS) (x : Nat → Int64) : ZS := (s.1, s.2.1, s.2.2.1, s.2.2.2.1, x, s.2.2.2.2.2)
def zS_dw (s : ZS) (x : Int64) : ZS := (s.1, s.2.1, s.2.2.1, s.2.2.2.1, s.2.2.2.2.1, x)
def bI (b : Bool) : Int32 := if b then 1 else 0
theorem bI_01 (b : Bool) : bI b = 0 ∨ bI b = 1 := by cases b <;> simp [bI]
theorem bI_ne (b : Bool) : bI b ≠ 0 ↔ b = true := by cases b <;> simp [bI]
theorem bI_eq (b : Bool) : bI b = 0 ↔ b = false := by cases b <;> simp [bI]
theorem bI_nar (b : Bool) : narrow .boolean (.int (bI b)) = .int (bI b) := by cases b <;> decide
theorem bI_fit (b : Bool) : fits .boolean (.int (bI b)) = true := by cases b <;> decide
abbrev rfs (f : Nat → Option Nat) : (Nat → Int32) ⊕ (Nat → Int64) ⊕ (Nat → UInt32) ⊕ (Nat → UInt64) ⊕ (Nat → Option Nat) := .inr (.inr (.inr (.inr f)))
abbrev lgs (f : Nat → Int64) : (Nat → Int32) ⊕ (Nat → Int64) ⊕ (Nat → UInt32) ⊕ (Nat → UInt64) ⊕ (Nat → Option Nat) := .inr (.inl f)
/-- how many parts a node has -/
def np (s : QS) (j : Nat) : Nat := (if q_so s j = 0 then 0 else 2) + (if (q_pt s j 2).isSome then 1 else 0) + (if (q_pt s j 3).isSome then 1 else 0)
/-- the k-th part, without gaps -/
def cp (s : QS) (j k : Nat) : Nat := if k < 2 then (q_pt s j k).getD 0 else if k = 2 then (match q_pt s j 2 with | some x => x | none => (q_pt s j 3).getD 0) else (q_pt s j 3).getD 0
def plen (so : Nat) : Nat := if so = 0 then 0 else if so = 3 then 4 else 2
/-- a node's own fields, then its sort's -/
def ndB (lc : Nat → Nat) (s : QS) (z : ZS) (j : Nat) : List Value := [.int (nI j), .ref (lc (24 + j)), .int (nI (np s j)), .long (q_am s j), .int (bI (q_va s j)), .int (bI (q_fr s j)), .int (bI (q_mi s j)), .int (q_tw s j), .long (z_ra z j), .int (bI (z_rv z j))]
def ndX (lc : Nat → Nat) (s : QS) (j : Nat) : List Value := if q_so s j = 1 then [.long (q_wa s j), .long (q_wb s j)] else if q_so s j = 3 then [.ref (lc (8 + (q_pt s j 0).getD 0)), .ref (lc (8 + (q_pt s j 1).getD 0)), .int (q_kd s j), .long (q_wa s j), .int (q_sp s j), va_rf ((q_pt s j 2).map (fun x => lc (8 + x))), va_rf ((q_pt s j 3).map (fun x => lc (8 + x))), .int (q_ch s j), .int (bI (q_us s j)), .ref (lc (5 + q_en s j)), .int (q_sz s j)] else []
/-- what lies at the places of the class's world: 0 the object, 1 nodes, 2 engines, 3 the lattice's row, 4 the net's, 5 to 7 the engines, 8 on the nodes, 24 on their parts -/
def cQ (G : GT) (lc : Nat → Nat) (s : QS) (z : ZS) (k : Nat) : va_E :=
  if k = 0 then .inr (0, [.ref (lc 1), .ref (lc 2), .int (nI (q_n s)), .int (q_tl s), .int (q_wk s), .int (q_fl s)])
  else if k = 1 then .inl (G.2.1 4, 16, rfs (fun j => if j < q_n s then some (lc (8 + j)) else none))
  else if k = 2 then .inl (G.2.1 5, 3, rfs (fun j => if j < 3 then some (lc (5 + j)) else none))
  else if k = 3 then .inl (G.2.1 0, 21, lgs (z_lr z))
  else if k = 4 then .inl (G.2.1 0, 41, lgs (z_nr z))
  else if k = 5 then .inr (5, [.int 0, .int 0, .ref (lc 3)])
  else if k = 6 then .inr (6, [.int 0, .int 6, .long (z_dw z)])
  else if k = 7 then .inr (7, [.int 1, .int 20, .ref (lc 4)])
  else if k < 24 then .inr (q_so s (k - 8) + 1, ndB lc s z (k - 8) ++ ndX lc s (k - 8))
  else .inl (G.2.1 4, plen (q_so s (k - 24)), rfs (z_pr z (k - 24)))
def liv (n k : Nat) : Prop := k < 8 + n ∨ (24 ≤ k ∧ k < 24 + n)
/-- the sorts, the parts, the sizes: what every state keeps to -/
def okQ (s : QS) : Prop := q_n s ≤ 16 ∧ ∀ j, j < q_n s → q_so s j < 4 ∧ (∀ k, k < 2 → q_so s j ≠ 0 → ∃ x, q_pt s j k = some x ∧ x < q_n s) ∧ (q_so s j = 0 → ∀ k, q_pt s j k = none) ∧ (q_so s j ≠ 3 → q_pt s j 2 = none ∧ q_pt s j 3 = none) ∧ (∀ k x, q_pt s j k = some x → x < q_n s) ∧ q_en s j < 3
/-- the class's world holds the state -/
def rQ (G : GT) (lc : Nat → Nat) (s : QS) (z : ZS) (u : WT) : Prop :=
  okQ s ∧ (∀ k, liv (q_n s) k → lc k ∈ u.1 ∧ u.2 (lc k) = cQ G lc s z k) ∧ (∀ i j, liv (q_n s) i → liv (q_n s) j → lc i = lc j → i = j) ∧ (∀ j, j < q_n s → ∀ k, k < np s j → z_pr z j k = some (lc (8 + cp s j k)))
/-- what is not the class's stays -/
def fQ (lc : Nat → Nat) (n : Nat) (u u' : WT) : Prop := ∀ a, a ∈ u.1 → (∀ k, liv n k → lc k ≠ a) → a ∈ u'.1 ∧ u'.2 a = u.2 a
theorem fQ.rf {lc : Nat → Nat} {n : Nat} {u : WT} : fQ lc n u u := fun _ h _ => ⟨h, rfl⟩
theorem fQ.tr {lc : Nat → Nat} {n : Nat} {u v w : WT} (h : fQ lc n u v) (h' : fQ lc n v w) : fQ lc n u w := fun a ha hk => by
  obtain ⟨h1, h2⟩ := h a ha hk
  obtain ⟨h3, h4⟩ := h' a h1 hk
  exact ⟨h3, h4.trans h2⟩
theorem rQ.put {G : GT} {lc : Nat → Nat} {s s' : QS} {z z' : ZS} {u : WT} (h : rQ G lc s z u) {k : Nat} (hk : liv (q_n s) k) {x : va_E} (hx : x = cQ G lc s' z' k) (hok : okQ s') (hn : q_n s' = q_n s) (ho : ∀ i, liv (q_n s) i → i ≠ k → cQ G lc s' z' i = cQ G lc s z i)
    (hp : ∀ j, j < q_n s → ∀ k, k < np s' j → z_pr z' j k = some (lc (8 + cp s' j k))) : rQ G lc s' z' (u.1, va_up u.2 (lc k) x) ∧ fQ lc (q_n s) u (u.1, va_up u.2 (lc k) x) := by
  obtain ⟨h0, h1, h2, h3⟩ := h
  refine ⟨⟨hok, fun i hi => ?_, fun i j hi hj => h2 i j (hn ▸ hi) (hn ▸ hj), fun j hj => hp j (hn ▸ hj)⟩, fun a ha hne => ⟨ha, ?_⟩⟩
  · rw [hn] at hi
    refine ⟨(h1 i hi).1, ?_⟩
    by_cases hik : i = k
    · subst hik
      show va_up u.2 (lc i) x (lc i) = _
      rw [va_up_self, hx]
    · show va_up u.2 (lc k) x (lc i) = _
      rw [va_up_ne _ _ (fun e => hik (h2 i k hi hk e)), (h1 i hi).2, ho i hi hik]
  · exact va_up_ne _ _ (fun e => hne k hk e.symm)
theorem rQ.at {G : GT} {lc : Nat → Nat} {s : QS} {z : ZS} {u : WT} (h : rQ G lc s z u) {k : Nat} (hk : liv (q_n s) k) : lc k ∈ u.1 ∧ u.2 (lc k) = cQ G lc s z k := h.2.1 k hk
theorem liv_s {n k : Nat} (h : k < 8) : liv n k := Or.inl (by omega)
theorem liv_n {n j : Nat} (h : j < n) : liv n (8 + j) := Or.inl (by omega)
theorem liv_p {n j : Nat} (h : j < n) : liv n (24 + j) := Or.inr ⟨by omega, by omega⟩
theorem cQ_n {G : GT} {lc : Nat → Nat} {s : QS} {z : ZS} {j : Nat} (hj : j < 16) : cQ G lc s z (8 + j) = .inr (q_so s j + 1, ndB lc s z j ++ ndX lc s j) := by
  unfold cQ
  rw [if_neg (by omega), if_neg (by omega), if_neg (by omega), if_neg (by omega), if_neg (by omega), if_neg (by omega), if_neg (by omega), if_neg (by omega), if_pos (by omega), Nat.add_sub_cancel_left]
theorem cQ_p {G : GT} {lc : Nat → Nat} {s : QS} {z : ZS} {j : Nat} : cQ G lc s z (24 + j) = .inl (G.2.1 4, plen (q_so s j), rfs (z_pr z j)) := by
  unfold cQ
  rw [if_neg (by omega), if_neg (by omega), if_neg (by omega), if_neg (by omega), if_neg (by omega), if_neg (by omega), if_neg (by omega), if_neg (by omega), if_neg (by omega), Nat.add_sub_cancel_left]
/-- a walk of the class's code: the surroundings, the state, what was there at first -/
def Sk (G : GT) (A : Nat → Prop) (lc : Nat → Nat) (s : QS) (z : ZS) (n0 : Nat) (u0 u : WT) (st : State) (H : Heap) (locs : List Loc) : Prop := Wk G A u st H locs ∧ rQ G lc s z u ∧ fQ lc n0 u0 u ∧ q_n s = n0

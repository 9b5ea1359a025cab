def BW (D : DB) (W : LB) (U : QB) (T : TB) : Prop := DW D ∧ LW W ∧ UW U ∧ TW T
def two (k : Nat) : Bool := k == 0 || k == 2 || k == 4
theorem s_looks {G : GG} {f : Nat → Nat → Nat} {l : Nat → Nat → Int64} {k : Nat} (hk : k < 5) : Spec G mX9_looksAtTwo [.int (nI k)] 114 (f, l, refT) (some (.int (bI (two k)))) 114 (f, l, refT) := by
  rcases (show k = 0 ∨ k = 1 ∨ k = 2 ∨ k = 3 ∨ k = 4 by omega) with rfl | rfl | rfl | rfl | rfl
  · exact s_looks0
  · exact s_looks1
  · exact s_looks2
  · exact s_looks3
  · exact s_looks4
def bitsN (s : Nat) : Nat := cntN (fun i => s.testBit i) 12

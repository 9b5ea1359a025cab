def BW (D : DB) (W : LB) (U : QB) (T : TB) : Prop := DW D ∧ LW W ∧ UW U ∧ TW T
def two (k : Nat) : Bool := k == 0 || k == 2 || k == 4
theorem s_looks {G : GG} {f : Nat → Nat → Nat} {l : Nat → Nat → Int64} {k : Nat} (hk : k < 5) : Spec G mX9_looksAtTwo [.int (nI k)] 114 (f, l, refT) (some (.int (bI (two k)))) 114 (f, l, refT) := by
  rcases (show k = 0 ∨ k = 1 ∨ k = 2 ∨ k = 3 ∨ k = 4 by omega) with rfl | rfl | rfl | rfl | rfl
  · exact s_looks0
  · exact s_looks1
  · exact s_looks2
  · exact s_looks3
  · exact s_looks4
def bitsN (s : Nat) : Nat := cntN (fun i => s.testBit i) 12
/-- what Integer.bitCount makes of its int -/
def bcU (x s : Int32) : Int32 := (x.toUInt32 >>> (s.toUInt32 &&& Int32.toUInt32 31)).toInt32
def bc1 (x : Int32) : Int32 := x - (bcU x (nI 1) &&& 1431655765)
def bc2 (x : Int32) : Int32 := (x &&& 858993459) + (bcU x (nI 2) &&& 858993459)
def bc3 (x : Int32) : Int32 := (x + bcU x (nI 4)) &&& 252645135
def bc4 (x : Int32) : Int32 := x + bcU x (nI 8)
def bc5 (x : Int32) : Int32 := x + bcU x (nI 16)
def bcF (x : Int32) : Int32 := bc5 (bc4 (bc3 (bc2 (bc1 x)))) &&& nI 63
theorem bc_all0 : ∀ a, a < 64 → ∀ b, b < 64 → bcF (nI (64 * a + b)) = nI (bitsN (64 * a + b)) := by decide +kernel
theorem bc_all (s : Nat) (h : s < 4096) : bcF (nI s) = nI (bitsN s) := by
  have := bc_all0 (s / 64) (by omega) (s % 64) (by omega)
  rwa [show 64 * (s / 64) + s % 64 = s by omega] at this

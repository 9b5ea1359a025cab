-- what the rows are, for both sides: (how many, (row, slot: 2 table, 3 trust, 4 kept), (row, column): there, (row, column): number)
abbrev DB : Type := Nat × (Nat → Nat → Nat) × (Nat → Nat → Nat) × (Nat → Nat → Int64)
def DW (D : DB) : Prop := D.1 ≤ 12 ∧ (∀ r j, D.2.1 r j < 2147483648) ∧ (∀ r c, D.2.2.1 r c < 2147483648)
/-- the class's rows are D -/
def RV (f : Nat → Nat → Nat) (l : Nat → Nat → Int64) (D : DB) : Prop :=
  f 2 1 = D.1 ∧ (∀ r, r < 12 → ∀ j, f (4 + 3 * r) j = D.2.1 r j) ∧ (∀ r, r < 12 → ∀ c, f (6 + 3 * r) c = D.2.2.1 r c) ∧ ∀ r, r < 12 → ∀ c, l (5 + 3 * r) c = D.2.2.2 r c
def keptD (D : DB) : Nat := setN (fun r => D.2.1 r 4 != 0) D.1
def withC (D : DB) (t c S : Nat) : Nat := setN (fun r => S.testBit r && D.2.1 r 2 == t && D.2.2.1 r c != 0) D.1
def withN (D : DB) (t c : Nat) (v : Int64) (S : Nat) : Nat := setN (fun r => S.testBit r && D.2.1 r 2 == t && D.2.2.1 r c != 0 && D.2.2.2 r c == v) D.1
def abvZ (D : DB) (c S : Nat) : Nat := setN (fun r => S.testBit r && decide (0 < D.2.2.2 r c)) D.1
def manyD (D : DB) (t : Nat) : Nat := cntN (fun r => D.2.1 r 2 == t) D.1
def trustD (D : DB) (S : Nat) : Nat := sumN (fun r => S.testBit r) (fun r => D.2.1 r 3) D.1
def addD (D : DB) (t c S : Nat) : Int64 := sumL (fun r => (withC D t c S).testBit r) (fun r => D.2.2.2 r c) D.1
theorem keptD_lt {D : DB} (h : DW D) : keptD D < 4096 := setN_4096 _ h.1
theorem withC_lt {D : DB} (h : DW D) (t c S : Nat) : withC D t c S < 4096 := setN_4096 _ h.1
theorem withN_lt {D : DB} (h : DW D) (t c : Nat) (v : Int64) (S : Nat) : withN D t c v S < 4096 := setN_4096 _ h.1
theorem abvZ_lt {D : DB} (h : DW D) (c S : Nat) : abvZ D c S < 4096 := setN_4096 _ h.1

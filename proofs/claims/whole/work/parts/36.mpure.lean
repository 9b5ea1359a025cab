-- the model's small tests (pure)
theorem lt64 (x : Int32) : x.toInt64.toInt = x.toInt := Int32.toInt_toInt64 x
theorem inL (x : Int32) {R : Nat} (hR : R < 2147483648) : (decide ((0 : Int64) ≤ x.toInt64) && decide (x.toInt64 ≤ (nI R - nI 1).toInt64)) = inR x R := by
  have e : (nI R - nI 1).toInt = (R : Int) - 1 := by
    cases R with
    | zero => decide
    | succ R =>
      rw [pk_sub (by omega), zN (by omega)]
      omega
  unfold inR
  simp only [Int64.le_iff_toInt_le, lt64, e]
  congr 1
  simp only [decide_eq_decide]
  omega
theorem inL4 (x : Int32) : (decide ((0 : Int64) ≤ x.toInt64) && decide (x.toInt64 ≤ 3)) = inR x 4 := inL x (R := 4) (by decide)
theorem inL5 (x : Int32) : (decide ((0 : Int64) ≤ x.toInt64) && decide (x.toInt64 ≤ 4)) = inR x 5 := inL x (R := 5) (by decide)
theorem inL6 (x : Int32) : (decide ((0 : Int64) ≤ x.toInt64) && decide (x.toInt64 ≤ 5)) = inR x 6 := inL x (R := 6) (by decide)
def likeB (D : DB) (r c q d : Nat) : Bool := D.2.2.1 r c != 0 && D.2.2.1 q d != 0 && D.2.2.2 r c == D.2.2.2 q d
def ofB (D : DB) (W : LB) (w r S : Nat) : Bool := S.testBit r && D.2.1 r 2 == W.2.1 w 1
def cntB (D : DB) (W : LB) (w r : Nat) : Bool := D.2.2.1 r (W.2.1 w 2) != 0 && D.2.2.1 r (W.2.1 w 3) != 0 && decide (0 < D.2.2.2 r (W.2.1 w 3))
def bitsF (S : Nat) (n : Nat) : Nat := fo (fun k a => a + bt S k) n 0
theorem bitsF_s (S n : Nat) : bitsF S (n + 1) = bitsF S n + bt S n := rfl
theorem bitsF_le (S n : Nat) : bitsF S n ≤ n := by
  induction n with
  | zero => exact Nat.le_refl _
  | succ n ih => rw [bitsF_s]; have := bt_lt S n; omega

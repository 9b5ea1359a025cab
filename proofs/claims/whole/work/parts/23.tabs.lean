-- tables; arguments in and out of a range
abbrev TB : Type := (Nat → Nat) × (Nat → Nat → Nat)
def TV (f : Nat → Nat → Nat) (T : TB) : Prop := (∀ t, t < 4 → f (78 + 2 * t) 1 = T.1 t) ∧ ∀ t, t < 4 → ∀ c, f (79 + 2 * t) c = T.2 t c
def TW (T : TB) : Prop := (∀ t, t < 4 → T.1 t ≤ 6) ∧ ∀ t, t < 4 → ∀ c, T.2 t c < 6
def inR (x : Int32) (n : Nat) : Bool := decide (0 ≤ x.toInt) && decide (x.toInt < n)
theorem inR_f {x : Int32} {n : Nat} : inR x n = false ↔ x.toInt < 0 ∨ (n : Int) ≤ x.toInt := by
  unfold inR
  rw [Bool.and_eq_false_iff, decide_eq_false_iff_not, decide_eq_false_iff_not]
  omega
theorem inR_t {x : Int32} {n : Nat} : inR x n = true ↔ 0 ≤ x.toInt ∧ x.toInt < n := by
  unfold inR
  rw [Bool.and_eq_true, decide_eq_true_eq, decide_eq_true_eq]
theorem inR_n {j n : Nat} (h : j < n) (hn : n ≤ 2147483648) : inR (nI j) n = true := by
  rw [inR_t, zN (by omega)]
  omega
theorem inR_cases (x : Int32) (n : Nat) : inR x n = false ∨ ∃ j, j < n ∧ x = nI j := by
  cases h : inR x n
  · exact Or.inl rfl
  · obtain ⟨h1, h2⟩ := inR_t.mp h
    exact Or.inr (nI_ofZ h1 h2)
def trOK (x : Int32) : Bool := decide (1 ≤ x.toInt) && decide (x.toInt ≤ 100)
theorem trOK_f {x : Int32} : trOK x = false ↔ x.toInt < 1 ∨ 100 < x.toInt := by
  unfold trOK
  rw [Bool.and_eq_false_iff, decide_eq_false_iff_not, decide_eq_false_iff_not]
  omega
theorem trOK_n {j : Nat} (h1 : 1 ≤ j) (h2 : j ≤ 100) : trOK (nI j) = true := by
  unfold trOK
  rw [zN (by omega), Bool.and_eq_true, decide_eq_true_eq, decide_eq_true_eq]
  omega
theorem trOK_cases (x : Int32) : trOK x = false ∨ ∃ j, 1 ≤ j ∧ j ≤ 100 ∧ x = nI j := by
  cases h : trOK x
  · exact Or.inl rfl
  · unfold trOK at h
    rw [Bool.and_eq_true, decide_eq_true_eq, decide_eq_true_eq] at h
    obtain ⟨j, h1, rfl⟩ := nI_ofZ (x := x) (n := 101) (by omega) (by omega)
    rw [zN (by omega)] at h
    exact Or.inr ⟨j, by omega, by omega, rfl⟩
def lanesB (k m : Nat) : Bool := !anyN (fun i => decide (5 < m / 10 ^ i % 10)) k && m / 10 ^ k == 0
def tabsN (T : TB) : Nat := cntN (fun t => T.1 t != 0) 4
/-- how a number lies in a lane -/
def asLane (n : Nat) (v : Int64) : Int64 := if n = 0 then v.toInt32.toInt8.toInt32.toInt64 else if n = 1 then v.toInt32.toInt16.toInt32.toInt64 else if n = 2 then ((v.toInt32).toUInt32 % 65536).toInt32.toInt64 else if n = 3 then v.toInt32.toInt64 else if n = 4 then v else FP.d2l (FP.l2d v)

-- what the rows are, for both sides: (how many, (row, slot: 2 table, 3 trust, 4 kept), (row, column): there, (row, column): number)
abbrev DB : Type := Nat × (Nat → Nat → Nat) × (Nat → Nat → Nat) × (Nat → Nat → Int64)
def DW (D : DB) : Prop := D.1 ≤ 12 ∧ (∀ r j, D.2.1 r j < 2147483648) ∧ (∀ r c, D.2.2.1 r c < 2147483648) ∧ ∀ r, r < D.1 → D.2.1 r 2 < 4 ∧ 1 ≤ D.2.1 r 3 ∧ D.2.1 r 3 ≤ 100 ∧ D.2.1 r 4 < 2 ∧ ∀ c, D.2.2.1 r c < 2
/-- the class's rows are D -/
def RV (f : Nat → Nat → Nat) (l : Nat → Nat → Int64) (D : DB) : Prop :=
  f 2 1 = D.1 ∧ (∀ r, r < 12 → ∀ j, f (4 + 3 * r) j = D.2.1 r j) ∧ (∀ r, r < 12 → ∀ c, f (6 + 3 * r) c = D.2.2.1 r c) ∧ ∀ r, r < 12 → ∀ c, l (5 + 3 * r) c = D.2.2.2 r c
def keptD (D : DB) : Nat := setN (fun r => D.2.1 r 4 != 0) D.1
def withC (D : DB) (t c S : Nat) : Nat := setN (fun r => S.testBit r && D.2.1 r 2 == t && D.2.2.1 r c != 0) D.1
def withN (D : DB) (t c : Nat) (v : Int64) (S : Nat) : Nat := setN (fun r => S.testBit r && D.2.1 r 2 == t && D.2.2.1 r c != 0 && D.2.2.2 r c == v) D.1
def abvZ (D : DB) (c S : Nat) : Nat := setN (fun r => S.testBit r && decide (0 < D.2.2.2 r c)) D.1
def manyD (D : DB) (t : Nat) : Nat := cntN (fun r => D.2.1 r 2 == t) D.1
def trustD (D : DB) (S : Nat) : Nat := sumN (fun r => S.testBit r) (fun r => D.2.1 r 3) D.1
def addD (D : DB) (t c S : Nat) : Int64 := sumL (fun r => (withC D t c S).testBit r) (fun r => D.2.2.2 r c) D.1
theorem keptD_lt {D : DB} (h : DW D) : keptD D < 4096 := setN_4096 _ h.1
theorem withC_lt {D : DB} (h : DW D) (t c S : Nat) : withC D t c S < 4096 := setN_4096 _ h.1
theorem withN_lt {D : DB} (h : DW D) (t c : Nat) (v : Int64) (S : Nat) : withN D t c v S < 4096 := setN_4096 _ h.1
theorem abvZ_lt {D : DB} (h : DW D) (c S : Nat) : abvZ D c S < 4096 := setN_4096 _ h.1
theorem trustD_le {D : DB} (h : DW D) (S : Nat) : trustD D S ≤ 1200 := by
  have h1 := sumN_le (fun r => S.testBit r) (fun r => D.2.1 r 3) (m := 100) D.1 (fun i hi => (h.2.2.2 i hi).2.2.1)
  have h2 := h.1
  unfold trustD
  omega
/-- the cheapest of a list: the first of the least price -/
def chp (D : DB) (L : List Nat) (n : Nat) : Nat := fo (fun i b => if i = 0 ∨ trustD D (L.getD i 0) < trustD D b then L.getD i 0 else b) n 0
theorem chp_s (D : DB) (L : List Nat) (n : Nat) : chp D L (n + 1) = if n = 0 ∨ trustD D (L.getD n 0) < trustD D (chp D L n) then L.getD n 0 else chp D L n := rfl
theorem chp_lt {D : DB} {L : List Nat} {m : Nat} (h : ∀ j, j < L.length → L.getD j 0 < m) (n : Nat) (h0 : 0 < n) (hn : n ≤ L.length) : chp D L n < m := by
  induction n with
  | zero => omega
  | succ n ih =>
    rw [chp_s]
    split
    · exact h n (by omega)
    · next c => exact ih (by omega) (by omega)
/-- the rows of a set dropped -/
def drp (f : Nat → Nat → Nat) (S n : Nat) : Nat → Nat → Nat := fo (fun r g => if S.testBit r = true then uf g (4 + 3 * r) 4 0 else g) n f
theorem drp_s (f : Nat → Nat → Nat) (S n : Nat) : drp f S (n + 1) = if S.testBit n = true then uf (drp f S n) (4 + 3 * n) 4 0 else drp f S n := rfl
theorem drp_ne (f : Nat → Nat → Nat) (S n : Nat) {a b : Nat} (h : b ≠ 4 ∨ ∀ r, r < n → a ≠ 4 + 3 * r) : drp f S n a b = f a b := by
  induction n with
  | zero => rfl
  | succ n ih =>
    have ih := ih (h.imp id (fun h r hr => h r (by omega)))
    rw [drp_s]
    split
    · rw [uf_ne, ih]
      exact h.symm.imp (fun h => h n (by omega)) id
    · exact ih
theorem drp_at (f : Nat → Nat → Nat) (S : Nat) {r : Nat} : ∀ n, r < n → drp f S n (4 + 3 * r) 4 = if S.testBit r = true then 0 else f (4 + 3 * r) 4 := by
  intro n
  induction n with
  | zero => intro h; omega
  | succ n ih =>
    intro h
    rw [drp_s]
    by_cases e : r = n
    · subst e
      split
      · exact uf_self _ _ _ _
      · exact drp_ne f S r (Or.inr (fun q hq => by omega))
    · split
      · rw [uf_ne _ _ (Or.inl (by omega))]; exact ih (by omega)
      · exact ih (by omega)

-- the lowest of a set; the model's least sums (pure)
def lowB (S : Nat) : Nat := (fstP (fun i => S.testBit i) 12).getD 0
theorem lowB_t {S : Nat} (h0 : S ≠ 0) (h : S < 4096) : S.testBit (lowB S) = true ∧ lowB S < 12 ∧ ∀ j, j < lowB S → S.testBit j = false := by
  obtain ⟨i, hi⟩ := Nat.exists_testBit_of_ne_zero h0
  have h12 : i < 12 := by
    apply Nat.lt_of_not_le
    intro hc
    have := Nat.testBit_lt_two_pow (x := S) (i := i) (Nat.lt_of_lt_of_le h (Nat.pow_le_pow_right (by decide) hc : 2 ^ 12 ≤ 2 ^ i))
    rw [this] at hi; exact Bool.noConfusion hi
  cases hf : fstP (fun i => S.testBit i) 12 with
  | none =>
    unfold fstP at hf
    rw [List.find?_eq_none] at hf
    exact absurd hi (hf i (List.mem_range.mpr h12))
  | some k =>
    have hk : lowB S = k := by rw [lowB, hf]; rfl
    rw [hk]
    unfold fstP at hf
    rw [List.find?_range_eq_some] at hf
    refine ⟨hf.1, List.mem_range.mp hf.2.1, fun j hj => ?_⟩
    have := hf.2.2 j hj
    simpa using this
def lsB (D : DB) (W : LB) (w S r : Nat) : Bool := S.testBit r && !(mp D W w (lowB S) S r && !mor (mpb D W w (lowB S) S r) (mg D W w) (W.2.2 w 5) D.1)
def lsM (D : DB) (W : LB) (w S : Nat) : Bool := !anyN (lsB D W w S) D.1 && mor (mp D W w (lowB S) S) (mg D W w) (W.2.2 w 5) D.1

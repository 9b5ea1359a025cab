-- marks: sets with a part that is marked
theorem xor_bit_f {s i : Nat} (h : s.testBit i = false) : s ||| 2 ^ i = s ^^^ 2 ^ i := by
  apply Nat.eq_of_testBit_eq
  intro j
  rw [Nat.testBit_or, Nat.testBit_xor, Nat.testBit_two_pow]
  by_cases hj : i = j
  · subst hj; simp [h]
  · simp [hj]
theorem or_bit_t {s i : Nat} (h : s.testBit i = true) : s ||| 2 ^ i = s := by
  apply Nat.eq_of_testBit_eq
  intro j
  rw [Nat.testBit_or, Nat.testBit_two_pow]
  by_cases hj : i = j
  · subst hj; simp [h]
  · simp [hj]
theorem xor_xor_bit (s i : Nat) : (s ^^^ 2 ^ i) ^^^ 2 ^ i = s := by
  apply Nat.eq_of_testBit_eq
  intro j
  simp only [Nat.testBit_xor]
  cases s.testBit j <;> cases (2 ^ i).testBit j <;> rfl
theorem xor_tb_self (s i : Nat) : (s ^^^ 2 ^ i).testBit i = !s.testBit i := by
  rw [Nat.testBit_xor, Nat.testBit_two_pow]
  simp
theorem xor_tb_ne {s i j : Nat} (h : i ≠ j) : (s ^^^ 2 ^ i).testBit j = s.testBit j := by
  rw [Nat.testBit_xor, Nat.testBit_two_pow]
  simp [h]
theorem or_tb_self (s i : Nat) : (s ||| 2 ^ i).testBit i = true := by
  rw [Nat.testBit_or, Nat.testBit_two_pow]
  simp
theorem lt_two_pow_or {s i n : Nat} (hs : s < 2 ^ n) (hi : i < n) : s ||| 2 ^ i < 2 ^ n := Nat.or_lt_two_pow hs (Nat.pow_lt_pow_right (by decide) hi)
theorem lt_two_pow_xor {s i n : Nat} (hs : s < 2 ^ n) (hi : i < n) : s ^^^ 2 ^ i < 2 ^ n := Nat.xor_lt_two_pow hs (Nat.pow_lt_pow_right (by decide) hi)
def unm (f : Nat → Nat → Nat) (k n : Nat) : Nat → Nat → Nat := fun a b => if a = k ∧ b < n then 0 else f a b
theorem unm_0 (f : Nat → Nat → Nat) (k : Nat) : unm f k 0 = f := by
  funext a b
  simp [unm]
theorem unm_s (f : Nat → Nat → Nat) (k n : Nat) : uf (unm f k n) k n 0 = unm f k (n + 1) := by
  funext a b
  simp only [uf, unm]
  by_cases h : a = k ∧ b = n
  · rw [if_pos h, if_pos (by omega)]
  · rw [if_neg h]
    by_cases h2 : a = k ∧ b < n
    · rw [if_pos h2, if_pos (by omega)]
    · rw [if_neg h2, if_neg (by omega)]
def mwI (f : Nat → Nat → Nat) (k row s : Nat) : Nat → Nat → Nat := fun a b => if a = k ∧ b.testBit row = true ∧ (b ^^^ 2 ^ row) < s ∧ f k (b ^^^ 2 ^ row) ≠ 0 then 1 else f a b
theorem mwI_0 (f : Nat → Nat → Nat) (k row : Nat) : mwI f k row 0 = f := by
  funext a b
  simp [mwI]
theorem mwI_old {f : Nat → Nat → Nat} {k row s a b : Nat} (h : ¬ (a = k ∧ b.testBit row = true ∧ (b ^^^ 2 ^ row) < s ∧ f k (b ^^^ 2 ^ row) ≠ 0)) : mwI f k row s a b = f a b := by
  simp only [mwI]
  rw [if_neg h]
theorem mwI_new {f : Nat → Nat → Nat} {k row s a b : Nat} (h : a = k ∧ b.testBit row = true ∧ (b ^^^ 2 ^ row) < s ∧ f k (b ^^^ 2 ^ row) ≠ 0) : mwI f k row s a b = 1 := if_pos h
theorem mwI_ne (f : Nat → Nat → Nat) {k row s a b : Nat} (h : a ≠ k) : mwI f k row s a b = f a b := mwI_old (fun q => h q.1)
theorem mwI_set {f : Nat → Nat → Nat} {k row s : Nat} (h2 : mwI f k row s k s < 2) (h : mwI f k row s k s ≠ 0) : uf (mwI f k row s) k (s ||| 2 ^ row) 1 = mwI f k row (s + 1) := by
  funext a b
  by_cases hb : s.testBit row = true
  · rw [or_bit_t hb]
    simp only [uf]
    by_cases e : a = k ∧ b = s
    · rw [if_pos e]
      obtain ⟨rfl, rfl⟩ := e
      by_cases c : a = a ∧ b.testBit row = true ∧ (b ^^^ 2 ^ row) < b ∧ f a (b ^^^ 2 ^ row) ≠ 0
      · rw [mwI_new ⟨rfl, c.2.1, by omega, c.2.2.2⟩]
      · rw [mwI_old c] at h h2
        by_cases c2 : a = a ∧ b.testBit row = true ∧ (b ^^^ 2 ^ row) < b + 1 ∧ f a (b ^^^ 2 ^ row) ≠ 0
        · rw [mwI_new c2]
        · rw [mwI_old c2]
          omega
    · rw [if_neg e]
      simp only [mwI]
      by_cases c : a = k ∧ b.testBit row = true ∧ (b ^^^ 2 ^ row) < s ∧ f k (b ^^^ 2 ^ row) ≠ 0
      · rw [if_pos c, if_pos ⟨c.1, c.2.1, by omega, c.2.2.2⟩]
      · rw [if_neg c, if_neg]
        rintro ⟨c1, c2, c3, c4⟩
        refine c ⟨c1, c2, ?_, c4⟩
        by_cases hq : (b ^^^ 2 ^ row) = s
        · exfalso
          have := xor_tb_self b row
          rw [hq, hb, c2] at this
          exact absurd this (by decide)
        · omega
  · have hb : s.testBit row = false := by simpa using hb
    have hs : f k s ≠ 0 := by
      rw [mwI_old (by rw [hb]; simp)] at h
      exact h
    rw [xor_bit_f hb]
    simp only [uf]
    by_cases e : a = k ∧ b = s ^^^ 2 ^ row
    · rw [if_pos e]
      obtain ⟨rfl, rfl⟩ := e
      symm
      apply mwI_new
      refine ⟨rfl, ?_, ?_, ?_⟩
      · rw [xor_tb_self, hb]; rfl
      · rw [xor_xor_bit]; omega
      · rw [xor_xor_bit]; exact hs
    · rw [if_neg e]
      simp only [mwI]
      by_cases c : a = k ∧ b.testBit row = true ∧ (b ^^^ 2 ^ row) < s ∧ f k (b ^^^ 2 ^ row) ≠ 0
      · rw [if_pos c, if_pos ⟨c.1, c.2.1, by omega, c.2.2.2⟩]
      · rw [if_neg c, if_neg]
        rintro ⟨c1, c2, c3, c4⟩
        refine c ⟨c1, c2, ?_, c4⟩
        by_cases hq : (b ^^^ 2 ^ row) = s
        · exact absurd ⟨c1, by rw [← hq, xor_xor_bit]⟩ e
        · omega
theorem mwI_not {f : Nat → Nat → Nat} {k row s : Nat} (h : mwI f k row s k s = 0) : mwI f k row s = mwI f k row (s + 1) := by
  funext a b
  simp only [mwI]
  by_cases c : a = k ∧ b.testBit row = true ∧ (b ^^^ 2 ^ row) < s ∧ f k (b ^^^ 2 ^ row) ≠ 0
  · rw [if_pos c, if_pos ⟨c.1, c.2.1, by omega, c.2.2.2⟩]
  · rw [if_neg c, if_neg]
    rintro ⟨c1, c2, c3, c4⟩
    refine c ⟨c1, c2, ?_, c4⟩
    by_cases hq : (b ^^^ 2 ^ row) = s
    · exfalso
      have hb : s.testBit row = false := by
        have := xor_tb_self b row
        rw [hq, c2] at this
        simpa using this
      rw [mwI_old (by rw [hb]; simp)] at h
      rw [hq] at c4
      exact c4 h
    · omega
theorem mwI_lt {f : Nat → Nat → Nat} {k : Nat} (h : ∀ b, f k b < 2) (row s b : Nat) : mwI f k row s k b < 2 := by
  simp only [mwI]
  split
  · decide
  · exact h b
def mwR (f : Nat → Nat → Nat) (k n row : Nat) : Nat → Nat → Nat := fo (fun r g => mwI g k r (2 ^ n)) row f
theorem mwR_s (f : Nat → Nat → Nat) (k n row : Nat) : mwR f k n (row + 1) = mwI (mwR f k n row) k row (2 ^ n) := rfl
theorem mwR_lt {f : Nat → Nat → Nat} {k : Nat} (h : ∀ b, f k b < 2) (n row b : Nat) : mwR f k n row k b < 2 := by
  induction row generalizing b with
  | zero => exact h b
  | succ row ih => exact mwI_lt ih _ _ _
theorem mwR_ne (f : Nat → Nat → Nat) {k n row a b : Nat} (h : a ≠ k) : mwR f k n row a b = f a b := by
  induction row with
  | zero => rfl
  | succ row ih => exact (mwI_ne _ h).trans ih
/-- q is a part of s -/
def subN (q s : Nat) : Prop := ∀ i, q.testBit i = true → s.testBit i = true
theorem subN.rf (s : Nat) : subN s s := fun _ h => h
theorem subN.tr {a b c : Nat} (h : subN a b) (g : subN b c) : subN a c := fun i hi => g i (h i hi)
theorem subN.le {q s : Nat} (h : subN q s) : q ≤ s := Nat.le_of_testBit (fun i hi => h i hi)
theorem mwR_iff {f : Nat → Nat → Nat} {k n : Nat} : ∀ (row : Nat), row ≤ n → ∀ b, b < 2 ^ n → (mwR f k n row k b ≠ 0 ↔ ∃ q, subN q b ∧ (∀ i, row ≤ i → q.testBit i = b.testBit i) ∧ f k q ≠ 0) := by
  intro row
  induction row with
  | zero =>
    intro _ b _
    constructor
    · intro h
      exact ⟨b, subN.rf b, fun _ _ => rfl, h⟩
    · rintro ⟨q, -, h2, h3⟩
      have : q = b := Nat.eq_of_testBit_eq (fun i => h2 i (Nat.zero_le i))
      rwa [this] at h3
  | succ row ih =>
    intro hr b hb
    rw [mwR_s]
    constructor
    · intro h
      by_cases c : k = k ∧ b.testBit row = true ∧ (b ^^^ 2 ^ row) < 2 ^ n ∧ mwR f k n row k (b ^^^ 2 ^ row) ≠ 0
      · obtain ⟨-, c2, c3, c4⟩ := c
        obtain ⟨q, h1, h2, h3⟩ := (ih (by omega) _ c3).mp c4
        refine ⟨q, fun i hi => ?_, fun i hi => ?_, h3⟩
        · by_cases e : row = i
          · subst e; exact c2
          · have := h1 i hi
            rwa [xor_tb_ne e] at this
        · rw [h2 i (by omega), xor_tb_ne (by omega)]
      · rw [mwI_old c] at h
        obtain ⟨q, h1, h2, h3⟩ := (ih (by omega) b hb).mp h
        exact ⟨q, h1, fun i hi => h2 i (by omega), h3⟩
    · rintro ⟨q, h1, h2, h3⟩
      by_cases hq : q.testBit row = b.testBit row
      · have h0 : mwR f k n row k b ≠ 0 := (ih (by omega) b hb).mpr ⟨q, h1, fun i hi => by
          by_cases e : row = i
          · subst e; exact hq
          · exact h2 i (by omega), h3⟩
        simp only [mwI]
        split
        · decide
        · exact h0
      · have hbt : b.testBit row = true ∧ q.testBit row = false := by
          cases hq1 : q.testBit row
          · cases hb1 : b.testBit row
            · rw [hq1, hb1] at hq; exact absurd rfl hq
            · exact ⟨rfl, rfl⟩
          · rw [hq1, h1 row hq1] at hq; exact absurd rfl hq
        have hx : (b ^^^ 2 ^ row) < 2 ^ n := lt_two_pow_xor hb (by omega)
        have h0 : mwR f k n row k (b ^^^ 2 ^ row) ≠ 0 := (ih (by omega) _ hx).mpr ⟨q, fun i hi => by
          by_cases e : row = i
          · subst e; rw [hbt.2] at hi; cases hi
          · rw [xor_tb_ne e]; exact h1 i hi, fun i hi => by
          by_cases e : row = i
          · subst e; rw [hbt.2, xor_tb_self, hbt.1]; rfl
          · rw [xor_tb_ne e]; exact h2 i (by omega), h3⟩
        rw [mwI_new ⟨rfl, hbt.1, hx, h0⟩]
        decide
theorem mwR_all {f : Nat → Nat → Nat} {k n b : Nat} (hb : b < 2 ^ n) : mwR f k n n k b ≠ 0 ↔ ∃ q, subN q b ∧ f k q ≠ 0 := by
  rw [mwR_iff n (Nat.le_refl _) b hb]
  constructor
  · rintro ⟨q, h1, -, h3⟩; exact ⟨q, h1, h3⟩
  · rintro ⟨q, h1, h3⟩
    refine ⟨q, h1, fun i hi => ?_, h3⟩
    have hb2 : b.testBit i = false := Nat.testBit_lt_two_pow (Nat.lt_of_lt_of_le hb (Nat.pow_le_pow_right (by decide) hi))
    cases hq : q.testBit i
    · exact hb2.symm
    · have := h1 i hq
      rw [hb2] at this
      cases this

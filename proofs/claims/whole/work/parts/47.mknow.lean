-- the submasks of a set, downwards (pure)
theorem and_div2 (a b : Nat) : (a &&& b) / 2 = (a / 2) &&& (b / 2) := by
  apply Nat.eq_of_testBit_eq
  intro i
  simp only [Nat.testBit_and, ← Nat.testBit_succ]
theorem and_mod2 (a b : Nat) : (a &&& b) % 2 = (a % 2) * (b % 2) := by
  have h := Nat.testBit_and a b 0
  simp only [Nat.testBit_zero] at h
  rcases Nat.mod_two_eq_zero_or_one a with ha | ha <;> rcases Nat.mod_two_eq_zero_or_one b with hb | hb <;> rcases Nat.mod_two_eq_zero_or_one (a &&& b) with hc | hc <;> simp [ha, hb, hc] at h ⊢
theorem subN_div2 {q s : Nat} (h : subN q s) : subN (q / 2) (s / 2) := by
  intro i hi
  rw [← Nat.testBit_succ] at hi ⊢
  exact h _ hi
theorem subN_mod2 {q s : Nat} (h : subN q s) : q % 2 ≤ s % 2 := by
  have h0 := h 0
  simp only [Nat.testBit_zero, decide_eq_true_eq] at h0
  omega
theorem submask_next : ∀ (s p q : Nat), subN p s → subN q s → q < p → q ≤ (p - 1) &&& s := by
  intro s
  induction s using Nat.strongRecOn with
  | ind s ih =>
    intro p q hp hq hlt
    by_cases hs : s = 0
    · subst hs
      have := hp.le
      omega
    have hps := hp.le
    have e1 := and_div2 (p - 1) s
    have e2 := and_mod2 (p - 1) s
    have hp2 := subN_mod2 hp
    have hq2 := subN_mod2 hq
    rcases Nat.mod_two_eq_zero_or_one p with h2 | h2
    · have h3 := ih (s / 2) (by omega) (p / 2) (q / 2) (subN_div2 hp) (subN_div2 hq) (by omega)
      rw [show (p - 1) / 2 = p / 2 - 1 by omega] at e1
      rw [show (p - 1) % 2 = 1 by omega, Nat.one_mul] at e2
      omega
    · have h3 : subN (p - 1) s := by
        intro i hi
        cases i with
        | zero => rw [Nat.testBit_zero] at hi; simp only [decide_eq_true_eq] at hi; omega
        | succ i =>
          rw [Nat.testBit_succ, show (p - 1) / 2 = p / 2 by omega, ← Nat.testBit_succ] at hi
          exact hp _ hi
      have h4 : (p - 1) &&& s = p - 1 := by
        apply Nat.eq_of_testBit_eq
        intro i
        rw [Nat.testBit_and]
        cases hb : (p - 1).testBit i
        · rfl
        · rw [h3 i hb]; rfl
      omega

-- sums in the whole numbers: what the walks of isMore and of isLeastSum say
def sumZ (p : Nat → Bool) (g : Nat → Int) (n : Nat) : Int := fo (fun i a => if p i = true then a + g i else a) n 0
theorem sumZ_s (p : Nat → Bool) (g : Nat → Int) (n : Nat) : sumZ p g (n + 1) = if p n = true then sumZ p g n + g n else sumZ p g n := rfl
theorem sumZ_t {p : Nat → Bool} {g : Nat → Int} {n : Nat} (h : p n = true) : sumZ p g (n + 1) = sumZ p g n + g n := by rw [sumZ_s, if_pos h]
theorem sumZ_f {p : Nat → Bool} {g : Nat → Int} {n : Nat} (h : p n = false) : sumZ p g (n + 1) = sumZ p g n := by rw [sumZ_s, if_neg (by rw [h]; exact Bool.noConfusion)]
theorem sumZ_congr {p p' : Nat → Bool} {g g' : Nat → Int} (n : Nat) (h : ∀ i, i < n → p i = p' i) (hg : ∀ i, i < n → p i = true → g i = g' i) : sumZ p g n = sumZ p' g' n := by
  induction n with
  | zero => rfl
  | succ n ih =>
    have ih := ih (fun i hi => h i (by omega)) (fun i hi => hg i (by omega))
    cases hp : p n
    · rw [sumZ_f hp, sumZ_f (by rw [← h n (by omega), hp]), ih]
    · rw [sumZ_t hp, sumZ_t (by rw [← h n (by omega), hp]), ih, hg n (by omega) hp]
theorem sumZ_le {p p' : Nat → Bool} {g : Nat → Int} (n : Nat) (h : ∀ i, i < n → p i = true → p' i = true) (hg : ∀ i, i < n → p' i = true → 0 ≤ g i) : sumZ p g n ≤ sumZ p' g n := by
  induction n with
  | zero => exact Int.le_refl _
  | succ n ih =>
    have ih := ih (fun i hi => h i (by omega)) (fun i hi => hg i (by omega))
    cases hp : p n
    · rw [sumZ_f hp]
      cases hp' : p' n
      · rw [sumZ_f hp']; exact ih
      · rw [sumZ_t hp']; have := hg n (by omega) hp'; omega
    · rw [sumZ_t hp, sumZ_t (h n (by omega) hp)]; omega
theorem sumZ_pos {p : Nat → Bool} {g : Nat → Int} (n : Nat) (hg : ∀ i, i < n → p i = true → 0 ≤ g i) : 0 ≤ sumZ p g n := by
  have := sumZ_le (p := fun _ => false) (p' := p) (g := g) n (fun i _ h => by cases h) hg
  have e : sumZ (fun _ => false) g n = 0 := by
    clear this hg
    induction n with
    | zero => rfl
    | succ n ih => rw [sumZ_f rfl, ih]
  omega
/-- one taken out -/
theorem sumZ_but {p : Nat → Bool} {g : Nat → Int} {b : Nat} (hb : p b = true) (n : Nat) (hn : b < n) : sumZ (fun i => i != b && p i) g n = sumZ p g n - g b := by
  induction n with
  | zero => omega
  | succ n ih =>
    by_cases e : n = b
    · subst e
      rw [sumZ_t hb, sumZ_f (by simp), sumZ_congr (p' := p) (g' := g) n (fun i hi => by simp; omega) (fun _ _ _ => rfl)]
      omega
    · have ih := ih (by omega)
      have hne : (n != b) = true := bne_iff_ne.mpr e
      cases hp : p n
      · rw [sumZ_f hp, sumZ_f (by rw [hp, Bool.and_false]), ih]
      · rw [sumZ_t hp, sumZ_t (by rw [hp, hne]; rfl), ih]; omega
theorem sumZ_stop {p : Nat → Bool} {g : Nat → Int} {m : Nat} (n : Nat) (hm : m ≤ n) (h : ∀ i, m ≤ i → i < n → p i = false) : sumZ p g n = sumZ p g m := by
  induction n with
  | zero => rw [show m = 0 by omega]
  | succ n ih =>
    by_cases e : m = n + 1
    · rw [e]
    · rw [sumZ_f (h n (by omega) (by omega)), ih (by omega) (fun i h1 h2 => h i h1 (by omega))]
theorem i64_0 : (0 : Int64).toInt = 0 := rfl
theorem i64_sub {a b : Int64} (hb : 0 ≤ b.toInt) (h : b.toInt ≤ a.toInt) : (a - b).toInt = a.toInt - b.toInt :=
  Int64.toInt_sub_of_le a b (Int64.le_iff_toInt_le.mpr hb) (Int64.le_iff_toInt_le.mpr h)
/-- the model's isMore -/
theorem mor_iff {p : Nat → Bool} {g : Nat → Int64} {c : Int64} (hc : 0 ≤ c.toInt) : ∀ n, (∀ i, i < n → p i = true → 0 < (g i).toInt) →
    (mor p g c n = true ↔ c.toInt < sumZ p (fun i => (g i).toInt) n) ∧ (mor p g c n = false → (morL p g c n).toInt = c.toInt - sumZ p (fun i => (g i).toInt) n ∧ sumZ p (fun i => (g i).toInt) n ≤ c.toInt) := by
  intro n
  induction n with
  | zero =>
    intro _
    refine ⟨⟨fun h => (by cases h), fun h => ?_⟩, fun _ => ⟨?_, ?_⟩⟩
    · have e : sumZ p (fun i => (g i).toInt) 0 = 0 := rfl
      omega
    · show c.toInt = c.toInt - 0
      omega
    · show (0 : Int) ≤ c.toInt
      exact hc
  | succ n ih =>
    intro hg
    obtain ⟨ih1, ih2⟩ := ih (fun i hi => hg i (by omega))
    have es : mor p g c (n + 1) = (mor p g c n || morB p g c n) := rfl
    cases hm : mor p g c n
    · obtain ⟨e1, e2⟩ := ih2 hm
      rw [es, hm, Bool.false_or]
      cases hp : p n
      · have eb : morB p g c n = false := by rw [morB, hp]; rfl
        rw [eb, sumZ_f hp, morL_f hp]
        exact ⟨⟨fun h => (by cases h), fun h => absurd h (by omega)⟩, fun _ => ⟨e1, e2⟩⟩
      · have hpos := hg n (by omega) hp
        rw [sumZ_t hp, morL_t hp]
        have eb : morB p g c n = decide (morL p g c n < g n) := by rw [morB, hp]; rfl
        rw [eb]
        by_cases hlt : morL p g c n < g n
        · have hz := Int64.lt_iff_toInt_lt.mp hlt
          rw [decide_eq_true hlt]
          exact ⟨⟨fun _ => by omega, fun _ => rfl⟩, fun h => by cases h⟩
        · have hz : (g n).toInt ≤ (morL p g c n).toInt := Int64.le_iff_toInt_le.mp (Int64.not_lt.mp hlt)
          rw [decide_eq_false hlt]
          refine ⟨⟨fun h => (by cases h), fun h => absurd h (by omega)⟩, fun _ => ⟨?_, by omega⟩⟩
          rw [i64_sub (by omega) hz]
          omega
    · have h1 := ih1.mp hm
      have h2 : sumZ p (fun i => (g i).toInt) n ≤ sumZ p (fun i => (g i).toInt) (n + 1) := by
        cases hp : p n
        · rw [sumZ_f hp]; exact Int.le_refl _
        · rw [sumZ_t hp]; have := hg n (by omega) hp; omega
      rw [es, hm, Bool.true_or]
      exact ⟨⟨fun _ => by omega, fun _ => rfl⟩, fun h => by cases h⟩
/-- the class's isLeastSum: what holds on the way -/
def lsI (g : Nat → Int64) (c s0 : Int64) (o n : Nat) : Prop :=
  let T := s0.toInt + sumZ (fun i => o.testBit i) (fun i => (g i).toInt) n
  let s := lsS g c s0 o n
  (s.1 = true → 0 < s.2.2.toInt ∧ s.2.2.toInt ≤ s0.toInt ∧ (∀ r, r < n → o.testBit r = true → s.2.2.toInt ≤ (g r).toInt) ∧ s.2.1.toInt = c.toInt - (T - s.2.2.toInt) ∧ 0 ≤ s.2.1.toInt ∧ (s.2.2 = s0 ∨ ∃ r, r < n ∧ o.testBit r = true ∧ s.2.2 = g r)) ∧
  (s.1 = false → c.toInt < T - s0.toInt ∨ ∃ r, r < n ∧ o.testBit r = true ∧ c.toInt < T - (g r).toInt)
theorem lsI_all {g : Nat → Int64} {c s0 : Int64} {o : Nat} (hc : 0 ≤ c.toInt) (h0 : 0 < s0.toInt) : ∀ n, (∀ i, i < n → o.testBit i = true → 0 < (g i).toInt) → lsI g c s0 o n := by
  intro n
  induction n with
  | zero =>
    intro _
    refine ⟨fun _ => ⟨h0, Int.le_refl _, fun r hr => absurd hr (Nat.not_lt_zero _), ?_, hc, Or.inl rfl⟩, fun h => by cases h⟩
    show c.toInt = c.toInt - (s0.toInt + 0 - s0.toInt)
    omega
  | succ n ih =>
    intro hg
    obtain ⟨i1, i2⟩ := ih (fun i hi => hg i (by omega))
    unfold lsI
    dsimp only
    cases ho : o.testBit n
    · have e : lsS g c s0 o (n + 1) = lsS g c s0 o n := by rw [lsS_s, ho, Bool.and_false]; rfl
      rw [e, sumZ_f (p := fun i => o.testBit i) ho]
      refine ⟨fun h => ?_, fun h => ?_⟩
      · obtain ⟨a1, a2, a3, a4, a5, a6⟩ := i1 h
        refine ⟨a1, a2, fun r hr hb => ?_, a4, a5, ?_⟩
        · by_cases e2 : r = n
          · subst e2; rw [ho] at hb; cases hb
          · exact a3 r (by omega) hb
        · rcases a6 with a6 | ⟨r, b1, b2, b3⟩
          · exact Or.inl a6
          · exact Or.inr ⟨r, by omega, b2, b3⟩
      · rcases i2 h with a | ⟨r, b1, b2, b3⟩
        · exact Or.inl a
        · exact Or.inr ⟨r, by omega, b2, b3⟩
    · have hpos := hg n (by omega) ho
      rw [sumZ_t (p := fun i => o.testBit i) ho]
      cases hs : (lsS g c s0 o n).1
      · have e : lsS g c s0 o (n + 1) = lsS g c s0 o n := by rw [lsS_s, hs, Bool.false_and]; rfl
        rw [e, hs]
        refine ⟨fun h => (by cases h), fun _ => ?_⟩
        rcases i2 hs with a | ⟨r, b1, b2, b3⟩
        · exact Or.inl (by omega)
        · exact Or.inr ⟨r, by omega, b2, by omega⟩
      · obtain ⟨a1, a2, a3, a4, a5, a6⟩ := i1 hs
        rw [lsS_s, hs, ho]
        simp only [Bool.and_self, if_true]
        by_cases hv : (lsS g c s0 o n).2.2 < g n
        · have hv2 := Int64.lt_iff_toInt_lt.mp hv
          rw [if_pos hv]
          by_cases hf : (lsS g c s0 o n).2.1 < g n
          · have hf2 := Int64.lt_iff_toInt_lt.mp hf
            rw [if_pos hf]
            refine ⟨fun h => (by cases h), fun _ => ?_⟩
            rcases a6 with a6 | ⟨r, b1, b2, b3⟩
            · rw [a6] at a4 hv2
              exact Or.inl (by omega)
            · rw [b3] at a4 hv2
              exact Or.inr ⟨r, by omega, b2, by omega⟩
          · have hf2 : (g n).toInt ≤ (lsS g c s0 o n).2.1.toInt := Int64.le_iff_toInt_le.mp (Int64.not_lt.mp hf)
            rw [if_neg hf, if_pos hv]
            dsimp only
            refine ⟨fun _ => ⟨a1, a2, fun r hr hb => ?_, ?_, ?_, ?_⟩, fun h => by cases h⟩
            · by_cases e2 : r = n
              · subst e2; exact Int.le_of_lt hv2
              · exact a3 r (by omega) hb
            · rw [i64_sub (by omega) hf2]; omega
            · rw [i64_sub (by omega) hf2]; omega
            · rcases a6 with a6 | ⟨r, b1, b2, b3⟩
              · exact Or.inl a6
              · exact Or.inr ⟨r, by omega, b2, b3⟩
        · have hv2 : (g n).toInt ≤ (lsS g c s0 o n).2.2.toInt := Int64.le_iff_toInt_le.mp (Int64.not_lt.mp hv)
          rw [if_neg hv]
          by_cases hf : (lsS g c s0 o n).2.1 < (lsS g c s0 o n).2.2
          · have hf2 := Int64.lt_iff_toInt_lt.mp hf
            rw [if_pos hf]
            refine ⟨fun h => (by cases h), fun _ => ?_⟩
            exact Or.inr ⟨n, by omega, ho, by omega⟩
          · have hf2 : (lsS g c s0 o n).2.2.toInt ≤ (lsS g c s0 o n).2.1.toInt := Int64.le_iff_toInt_le.mp (Int64.not_lt.mp hf)
            rw [if_neg hf, if_neg hv]
            dsimp only
            refine ⟨fun _ => ⟨hpos, by omega, fun r hr hb => ?_, ?_, ?_, Or.inr ⟨n, by omega, ho, rfl⟩⟩, fun h => by cases h⟩
            · by_cases e2 : r = n
              · subst e2; exact Int.le_refl _
              · have := a3 r (by omega) hb; omega
            · rw [i64_sub (by omega) hf2]; omega
            · rw [i64_sub (by omega) hf2]; omega
theorem lsS_iff {g : Nat → Int64} {c s0 : Int64} {o : Nat} (hc : 0 ≤ c.toInt) (h0 : 0 < s0.toInt) (n : Nat) (hg : ∀ i, i < n → o.testBit i = true → 0 < (g i).toInt) :
    ((lsS g c s0 o n).1 && decide ((lsS g c s0 o n).2.1 < (lsS g c s0 o n).2.2)) = true ↔
      (c.toInt < s0.toInt + sumZ (fun i => o.testBit i) (fun i => (g i).toInt) n ∧ sumZ (fun i => o.testBit i) (fun i => (g i).toInt) n ≤ c.toInt ∧ ∀ r, r < n → o.testBit r = true → s0.toInt + sumZ (fun i => o.testBit i) (fun i => (g i).toInt) n - (g r).toInt ≤ c.toInt) := by
  obtain ⟨i1, i2⟩ := lsI_all (g := g) (o := o) hc h0 n hg
  cases hs : (lsS g c s0 o n).1
  · rw [Bool.false_and]
    refine ⟨fun h => (by cases h), fun ⟨b1, b2, b3⟩ => ?_⟩
    exfalso
    rcases i2 hs with a | ⟨r, a1, a2, a3⟩
    · omega
    · have := b3 r a1 a2; omega
  · obtain ⟨a1, a2, a3, a4, a5, a6⟩ := i1 hs
    rw [Bool.true_and, decide_eq_true_eq, Int64.lt_iff_toInt_lt]
    constructor
    · intro h
      refine ⟨by omega, by omega, fun r hr hb => ?_⟩
      have := a3 r hr hb
      omega
    · rintro ⟨b1, b2, b3⟩
      omega

-- what a quarrel is, whatever is kept: the class's lists and the model's tests say the same
def rowQ (D : DB) (W : LB) (w r : Nat) : Prop := r < D.1 ∧ D.2.1 r 2 = W.2.1 w 1 ∧ D.2.2.1 r (W.2.1 w 2) ≠ 0 ∧ D.2.2.1 r (W.2.1 w 3) ≠ 0
def vZ (D : DB) (W : LB) (w r : Nat) : Int := (D.2.2.2 r (W.2.1 w 3)).toInt
def totQ (D : DB) (W : LB) (w s : Nat) : Int := sumZ (fun i => s.testBit i) (vZ D W w) D.1
def QP (D : DB) (W : LB) (w s : Nat) : Prop := ∃ hi lo, lo < hi ∧ rowQ D W w hi ∧ rowQ D W w lo ∧ together D W w lo hi = true ∧ s = 2 ^ hi ||| 2 ^ lo
def Q1 (D : DB) (W : LB) (w s : Nat) : Prop := ∃ r, r < D.1 ∧ D.2.1 r 2 = W.2.1 w 1 ∧ alone D W w r = true ∧ s = 2 ^ r
def QS (D : DB) (W : LB) (w s : Nat) : Prop := s ≠ 0 ∧ (∀ r, s.testBit r = true → rowQ D W w r ∧ 0 < vZ D W w r) ∧ (∀ r q, s.testBit r = true → s.testBit q = true → D.2.2.2 r (W.2.1 w 2) = D.2.2.2 q (W.2.1 w 2)) ∧ (W.2.2 w 5).toInt < totQ D W w s ∧ ∀ r, s.testBit r = true → totQ D W w s - vZ D W w r ≤ (W.2.2 w 5).toInt
def C4 (W : LB) : Prop := ∀ w, w < W.1 → W.2.1 w 0 = 4 → 0 ≤ (W.2.2 w 5).toInt
theorem mem_flg {p : Nat → Bool} {g : Nat → Nat} {n s : Nat} {L : List Nat} : s ∈ fl p g n L ↔ s ∈ L ∨ ∃ i, i < n ∧ p i = true ∧ s = g i := by
  induction n with
  | zero => exact ⟨Or.inl, fun h => h.elim id (fun ⟨i, hi, _⟩ => absurd hi (Nat.not_lt_zero _))⟩
  | succ n ih =>
    rw [fl_s]
    cases hp : p n
    · rw [if_neg (by simp), ih]
      constructor
      · rintro (h | ⟨i, h1, h2⟩)
        · exact Or.inl h
        · exact Or.inr ⟨i, by omega, h2⟩
      · rintro (h | ⟨i, h1, h2, h3⟩)
        · exact Or.inl h
        · refine Or.inr ⟨i, ?_, h2, h3⟩
          by_cases e : i = n
          · subst e; rw [hp] at h2; cases h2
          · omega
    · rw [if_pos rfl, List.mem_append, List.mem_singleton, ih]
      constructor
      · rintro ((h | ⟨i, h1, h2⟩) | h)
        · exact Or.inl h
        · exact Or.inr ⟨i, by omega, h2⟩
        · exact Or.inr ⟨n, by omega, hp, h⟩
      · rintro (h | ⟨i, h1, h2, h3⟩)
        · exact Or.inl (Or.inl h)
        · by_cases e : i = n
          · subst e; exact Or.inr h3
          · exact Or.inl (Or.inr ⟨i, by omega, h2, h3⟩)
theorem tb_pair {hi lo i : Nat} : (2 ^ hi ||| 2 ^ lo).testBit i = true ↔ i = hi ∨ i = lo := by
  rw [Nat.testBit_or, Nat.testBit_two_pow, Nat.testBit_two_pow, Bool.or_eq_true, decide_eq_true_eq, decide_eq_true_eq]
  constructor <;> rintro (h | h) <;> simp [h]
theorem tb_one {r i : Nat} : (2 ^ r).testBit i = true ↔ i = r := by
  rw [Nat.testBit_two_pow, decide_eq_true_eq]
  exact ⟨fun h => h.symm, fun h => h.symm⟩
theorem those2_tb {D : DB} {W : LB} {w S r : Nat} : (those2 D W w S).testBit r = true ↔ S.testBit r = true ∧ rowQ D W w r := by
  rw [those2, Nat.testBit_and, withC_tb, withC_tb]
  simp only [Bool.and_eq_true, decide_eq_true_eq, beq_iff_eq, bne_iff_ne, ne_eq, rowQ]
  constructor
  · rintro ⟨⟨a, ⟨b, c⟩, d⟩, -, -, e⟩
    exact ⟨b, a, c, d, e⟩
  · rintro ⟨b, a, c, d, e⟩
    exact ⟨⟨a, ⟨b, c⟩, d⟩, a, ⟨b, c⟩, e⟩
theorem those4_tb {D : DB} {W : LB} {w S r : Nat} : (those4 D W w S).testBit r = true ↔ S.testBit r = true ∧ rowQ D W w r ∧ 0 < vZ D W w r := by
  rw [those4, abvZ, setN_tb]
  simp only [Bool.and_eq_true, decide_eq_true_eq, those2_tb, Int64.lt_iff_toInt_lt, i64_0, vZ]
  constructor
  · rintro ⟨a, ⟨b, c⟩, d⟩
    exact ⟨b, c, d⟩
  · rintro ⟨b, c, d⟩
    exact ⟨c.1, ⟨b, c⟩, d⟩
theorem lowS_tb {D : DB} {W : LB} {w S hi r : Nat} : (lowS D W w S hi).testBit r = true ↔ r < hi ∧ S.testBit r = true ∧ rowQ D W w r ∧ 0 < vZ D W w r ∧ D.2.2.2 r (W.2.1 w 2) = D.2.2.2 hi (W.2.1 w 2) := by
  rw [lowS, Nat.testBit_and, Nat.testBit_two_pow_sub_one, withN_tb]
  simp only [Bool.and_eq_true, decide_eq_true_eq, beq_iff_eq, bne_iff_ne, ne_eq, those4_tb]
  constructor
  · rintro ⟨⟨a, ⟨⟨⟨b, c, d⟩, -⟩, -⟩, e⟩, h⟩
    exact ⟨h, b, c, d, e⟩
  · rintro ⟨h, b, c, d, e⟩
    exact ⟨⟨c.1, ⟨⟨⟨b, c, d⟩, c.2.1⟩, c.2.2.1⟩, e⟩, h⟩
theorem mem_pairL {D : DB} {W : LB} {w S s : Nat} : ∀ n, s ∈ pairL D W w S n ↔ ∃ hi, hi < n ∧ ∃ lo, lo < hi ∧ ((those2 D W w S).testBit hi && (those2 D W w S).testBit lo && together D W w lo hi) = true ∧ s = 2 ^ hi ||| 2 ^ lo := by
  intro n
  induction n with
  | zero => exact ⟨fun h => (by cases h), fun ⟨_, h, _⟩ => absurd h (Nat.not_lt_zero _)⟩
  | succ n ih =>
    rw [pairL_s, pairI, mem_flg, ih]
    constructor
    · rintro (⟨hi, h1, h2⟩ | ⟨i, h1, h2, h3⟩)
      · exact ⟨hi, by omega, h2⟩
      · exact ⟨n, by omega, i, h1, h2, h3⟩
    · rintro ⟨hi, h1, lo, h2, h3, h4⟩
      by_cases e : hi = n
      · subst e; exact Or.inr ⟨lo, h2, h3, h4⟩
      · exact Or.inl ⟨hi, by omega, lo, h2, h3, h4⟩
theorem mem_sumQ {D : DB} {W : LB} {w S s : Nat} : ∀ n, s ∈ sumQ D W w S n ↔ ∃ hi, hi < n ∧ (those4 D W w S).testBit hi = true ∧ ∃ o, o < lowS D W w S hi + 1 ∧ (sd o (lowS D W w S hi) == 0 && leastS D W w hi o) = true ∧ s = 2 ^ hi ||| o := by
  intro n
  induction n with
  | zero => exact ⟨fun h => (by cases h), fun ⟨_, h, _⟩ => absurd h (Nat.not_lt_zero _)⟩
  | succ n ih =>
    rw [sumQ_s]
    by_cases c : (those4 D W w S).testBit n = true
    · rw [if_pos c, sumI, mem_flg, ih]
      constructor
      · rintro (⟨hi, h1, h2⟩ | ⟨i, h1, h2, h3⟩)
        · exact ⟨hi, by omega, h2⟩
        · exact ⟨n, by omega, c, i, h1, h2, h3⟩
      · rintro ⟨hi, h1, h2, o, h3, h4, h5⟩
        by_cases e : hi = n
        · subst e; exact Or.inr ⟨o, h3, h4, h5⟩
        · exact Or.inl ⟨hi, by omega, h2, o, h3, h4, h5⟩
    · rw [if_neg c, ih]
      constructor
      · rintro ⟨hi, h1, h2⟩
        exact ⟨hi, by omega, h2⟩
      · rintro ⟨hi, h1, h2, h3⟩
        refine ⟨hi, ?_, h2, h3⟩
        by_cases e : hi = n
        · subst e; exact absurd h2 c
        · omega
theorem A0_mem {D : DB} {W : LB} {w S s : Nat} : s ∈ pairL D W w S D.1 ↔ subN s S ∧ QP D W w s := by
  rw [mem_pairL]
  constructor
  · rintro ⟨hi, h1, lo, h2, h3, rfl⟩
    simp only [Bool.and_eq_true, those2_tb] at h3
    obtain ⟨⟨⟨a1, a2⟩, b1, b2⟩, c⟩ := h3
    refine ⟨fun i hi => ?_, hi, lo, h2, a2, b2, c, rfl⟩
    rcases tb_pair.mp hi with e | e <;> subst e
    · exact a1
    · exact b1
  · rintro ⟨h, hi, lo, h2, a2, b2, c, rfl⟩
    refine ⟨hi, a2.1, lo, h2, ?_, rfl⟩
    simp only [Bool.and_eq_true, those2_tb]
    exact ⟨⟨⟨h hi (tb_pair.mpr (Or.inl rfl)), a2⟩, h lo (tb_pair.mpr (Or.inr rfl)), b2⟩, c⟩
theorem A1_mem {D : DB} {W : LB} {w S s : Nat} : s ∈ singL D W w S D.1 ↔ subN s S ∧ Q1 D W w s := by
  rw [singL, mem_flg]
  constructor
  · rintro (h | ⟨r, h1, h2, rfl⟩)
    · cases h
    · simp only [Bool.and_eq_true, beq_iff_eq] at h2
      exact ⟨fun i hi => by rw [tb_one.mp hi]; exact h2.1.1, r, h1, h2.1.2, h2.2, rfl⟩
  · rintro ⟨h, r, h1, h2, h3, rfl⟩
    refine Or.inr ⟨r, h1, ?_, rfl⟩
    simp only [Bool.and_eq_true, beq_iff_eq]
    exact ⟨⟨h r (tb_one.mpr rfl), h2⟩, h3⟩
theorem top_bit : ∀ n s, s ≠ 0 → s < 2 ^ n → ∃ hi, s.testBit hi = true ∧ ∀ j, hi < j → s.testBit j = false := by
  intro n
  induction n with
  | zero => intro s h1 h2; rw [Nat.pow_zero] at h2; omega
  | succ n ih =>
    intro s h1 h2
    cases hb : s.testBit n
    · refine ih s h1 (Nat.lt_pow_two_of_testBit s (fun i hi => ?_))
      by_cases e : i = n
      · rw [e]; exact hb
      · exact Nat.testBit_lt_two_pow (Nat.lt_of_lt_of_le h2 (Nat.pow_le_pow_right (by decide) (by omega)))
    · exact ⟨n, hb, fun j hj => Nat.testBit_lt_two_pow (Nat.lt_of_lt_of_le h2 (Nat.pow_le_pow_right (by decide) (by omega)))⟩
theorem leastS_iff {D : DB} {W : LB} {w hi o : Nat} (hc : 0 ≤ (W.2.2 w 5).toInt) (h0 : 0 < vZ D W w hi) (hg : ∀ i, i < hi → o.testBit i = true → 0 < vZ D W w i) :
    leastS D W w hi o = true ↔ ((W.2.2 w 5).toInt < vZ D W w hi + sumZ (fun i => o.testBit i) (vZ D W w) hi ∧ sumZ (fun i => o.testBit i) (vZ D W w) hi ≤ (W.2.2 w 5).toInt ∧ ∀ r, r < hi → o.testBit r = true → vZ D W w hi + sumZ (fun i => o.testBit i) (vZ D W w) hi - vZ D W w r ≤ (W.2.2 w 5).toInt) :=
  lsS_iff (g := fun r => D.2.2.2 r (W.2.1 w 3)) (c := W.2.2 w 5) (s0 := D.2.2.2 hi (W.2.1 w 3)) hc h0 hi hg
theorem tot_top {D : DB} {W : LB} {w s hi o : Nat} (hs : s = 2 ^ hi ||| o) (ho : ∀ r, o.testBit r = true → r < hi) (hh : hi < D.1) : totQ D W w s = vZ D W w hi + sumZ (fun i => o.testBit i) (vZ D W w) hi := by
  have tb : ∀ i, s.testBit i = (decide (hi = i) || o.testBit i) := fun i => by rw [hs, Nat.testBit_or, Nat.testBit_two_pow]
  unfold totQ
  rw [sumZ_stop (m := hi + 1) D.1 (by omega) (fun i h1 h2 => ?_), sumZ_t (p := fun i => s.testBit i) (by rw [tb, decide_eq_true rfl]; rfl), sumZ_congr (p' := fun i => o.testBit i) (g' := vZ D W w) hi (fun i h1 => ?_) (fun _ _ _ => rfl)]
  · omega
  · rw [tb, decide_eq_false (by omega)]; rfl
  · rw [tb, decide_eq_false (by omega), Bool.false_or]
    cases hb : o.testBit i
    · rfl
    · have := ho i hb; omega
theorem A4_mem {D : DB} {W : LB} {w S s : Nat} (hc : 0 ≤ (W.2.2 w 5).toInt) : s ∈ sumQ D W w S D.1 ↔ subN s S ∧ QS D W w s := by
  rw [mem_sumQ]
  constructor
  · rintro ⟨hi, h1, h2, o, h3, h4, hs⟩
    obtain ⟨a1, a2, a3⟩ := those4_tb.mp h2
    rw [Bool.and_eq_true] at h4
    have hsub := sub_of_sd h4.1
    have hlow : ∀ r, o.testBit r = true → r < hi ∧ S.testBit r = true ∧ rowQ D W w r ∧ 0 < vZ D W w r ∧ D.2.2.2 r (W.2.1 w 2) = D.2.2.2 hi (W.2.1 w 2) := fun r hr => lowS_tb.mp (hsub r hr)
    have tb : ∀ i, s.testBit i = true ↔ i = hi ∨ o.testBit i = true := fun i => by
      rw [hs, Nat.testBit_or, Nat.testBit_two_pow, Bool.or_eq_true, decide_eq_true_eq]
      exact ⟨fun h => h.imp (fun e => e.symm) id, fun h => h.imp (fun e => e.symm) id⟩
    have hT := tot_top (D := D) (W := W) (w := w) hs (fun r hr => (hlow r hr).1) h1
    obtain ⟨b1, b2, b3⟩ := (leastS_iff hc a3 (fun i _ hb => (hlow i hb).2.2.2.1)).mp h4.2
    refine ⟨fun i hi2 => ?_, ?_, fun r hr => ?_, fun r q hr hq => ?_, by omega, fun r hr => ?_⟩
    · rcases (tb i).mp hi2 with e | e
      · rw [e]; exact a1
      · exact (hlow i e).2.1
    · intro e
      have := (tb hi).mpr (Or.inl rfl)
      rw [e, Nat.zero_testBit] at this
      cases this
    · rcases (tb r).mp hr with e | e
      · rw [e]; exact ⟨a2, a3⟩
      · exact ⟨(hlow r e).2.2.1, (hlow r e).2.2.2.1⟩
    · have key : ∀ r, s.testBit r = true → D.2.2.2 r (W.2.1 w 2) = D.2.2.2 hi (W.2.1 w 2) := fun r hr => by
        rcases (tb r).mp hr with e | e
        · rw [e]
        · exact (hlow r e).2.2.2.2
      rw [key r hr, key q hq]
    · rcases (tb r).mp hr with e | e
      · rw [e]; omega
      · have := b3 r (hlow r e).1 e; omega
  · rintro ⟨hsub, h0, hr, hq, hT1, hT2⟩
    have hlt : s < 2 ^ D.1 := Nat.lt_pow_two_of_testBit s (fun i hi => by
      cases hb : s.testBit i
      · rfl
      · have := (hr i hb).1.1; omega)
    obtain ⟨hi, t1, t2⟩ := top_bit D.1 s h0 hlt
    obtain ⟨a2, a3⟩ := hr hi t1
    have tbo : ∀ i, (sd s (2 ^ hi)).testBit i = (s.testBit i && !decide (hi = i)) := fun i => by rw [sd_tb, Nat.testBit_two_pow]
    have hob : ∀ i, (sd s (2 ^ hi)).testBit i = true → i < hi ∧ s.testBit i = true := fun i h => by
      rw [tbo, Bool.and_eq_true, Bool.not_eq_true', decide_eq_false_iff_not] at h
      refine ⟨?_, h.1⟩
      apply Nat.lt_of_not_le
      intro hle
      rw [t2 i (by omega)] at h
      cases h.1
    have hs : s = 2 ^ hi ||| sd s (2 ^ hi) := by
      apply Nat.eq_of_testBit_eq
      intro i
      rw [Nat.testBit_or, Nat.testBit_two_pow, tbo]
      by_cases e : hi = i
      · rw [decide_eq_true e, ← e, t1]; rfl
      · rw [decide_eq_false e]; simp
    have hlow : subN (sd s (2 ^ hi)) (lowS D W w S hi) := fun i h => by
      obtain ⟨e1, e2⟩ := hob i h
      exact lowS_tb.mpr ⟨e1, hsub i e2, (hr i e2).1, (hr i e2).2, hq i hi e2 t1⟩
    have hT := tot_top (D := D) (W := W) (w := w) hs (fun r hr => (hob r hr).1) a2.1
    refine ⟨hi, a2.1, those4_tb.mpr ⟨hsub hi t1, a2, a3⟩, sd s (2 ^ hi), Nat.lt_succ_of_le hlow.le, ?_, hs⟩
    rw [Bool.and_eq_true]
    refine ⟨by rw [sd_0.mpr hlow]; rfl, (leastS_iff hc a3 (fun i _ hb => (hr i (hob i hb).2).2)).mpr ⟨by omega, ?_, fun r hr1 hr2 => ?_⟩⟩
    · have := hT2 hi t1; omega
    · have := hT2 r (hob r hr2).2; omega

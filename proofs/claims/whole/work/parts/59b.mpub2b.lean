-- small things for the calls of the mendings (pure)
theorem KN.of1 {f g : Nat → Nat → Nat} {D : DB} {W : LB} (hN : KN f D W) (e : ∀ k j, (k = 86 ∧ (j = 28 ∨ j = 29)) ∨ k = 109 → True → g k j = f k j) : KN g D W := by
  unfold KN
  rw [e 86 28 (by decide) trivial, e 86 29 (by decide) trivial]
  refine ⟨hN.1, fun h0 => ⟨(hN.2 h0).1, fun i hi => ?_⟩⟩
  rw [e 109 i (Or.inr rfl) trivial]
  exact (hN.2 h0).2 i hi
theorem BW_dr {D : DB} {W : LB} {U : QB} {T : TB} {S : Nat} (h : BW D W U T) : BW (drD D S) W U T := by
  obtain ⟨⟨a, b, c, d⟩, h2⟩ := h
  refine ⟨⟨a, fun r j => ?_, c, fun r hr => ?_⟩, h2⟩
  · show (if j = 4 ∧ r < D.1 ∧ S.testBit r = true then 0 else D.2.1 r j) < 2147483648
    split
    · decide
    · exact b r j
  · obtain ⟨e1, e2, e3, e4, e5⟩ := d r hr
    refine ⟨?_, ?_, ?_, ?_, e5⟩
    · show (if 2 = 4 ∧ r < D.1 ∧ S.testBit r = true then 0 else D.2.1 r 2) < 4
      rw [if_neg (by omega)]; exact e1
    · show 1 ≤ (if 3 = 4 ∧ r < D.1 ∧ S.testBit r = true then 0 else D.2.1 r 3)
      rw [if_neg (by omega)]; exact e2
    · show (if 3 = 4 ∧ r < D.1 ∧ S.testBit r = true then 0 else D.2.1 r 3) ≤ 100
      rw [if_neg (by omega)]; exact e3
    · show (if 4 = 4 ∧ r < D.1 ∧ S.testBit r = true then 0 else D.2.1 r 4) < 2
      split
      · decide
      · exact e4
theorem addB_t {D : DB} {t c S r : Nat} (h1 : S.testBit r = true) (h2 : D.2.1 r 2 = t) (h3 : D.2.2.1 r c ≠ 0) : addB D t c S r = true := by simp [addB, h1, h2, h3]
theorem addB_f1 {D : DB} {t c S r : Nat} (h : S.testBit r = false) : ¬ addB D t c S r = true := by simp [addB, h]
theorem addB_f2 {D : DB} {t c S r : Nat} (h : D.2.1 r 2 ≠ t) : ¬ addB D t c S r = true := by simp [addB, h]
theorem addB_f3 {D : DB} {t c S r : Nat} (h : D.2.2.1 r c = 0) : ¬ addB D t c S r = true := by simp [addB, h]

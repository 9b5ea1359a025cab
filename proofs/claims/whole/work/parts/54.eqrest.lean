-- questions, sums, settling: both sides say the same
def fitB (D : DB) (U : QB) (p r S : Nat) : Bool := S.testBit r && D.2.1 r 2 == U.2.1 p && hasT D U p r
def dgM (R w p : Nat) : Nat := w / R ^ p % R
def stmB (D : DB) (U : QB) (S w : Nat) : Bool := !anyN (fun p => !fitB D U p (dgM D.1 w p) S) U.1 && !anyN (fun j => !joinB D U (dgM D.1 w) j) U.2.2.2.2.1
def stM (D : DB) (U : QB) (S : Nat) : Bool := anyN (stmB D U S) (D.1 ^ U.1)
/-- rows for the parts that do -/
def EXq (D : DB) (U : QB) (b : Nat) : Prop := ∃ ρ : Nat → Nat, (∀ p, p < U.1 → ρ p < D.1 ∧ fitB D U p (ρ p) b = true) ∧ ∀ j, j < U.2.2.2.2.1 → joinB D U ρ j = true
theorem not_anyN {p : Nat → Bool} {n : Nat} : (!anyN (fun i => !p i) n) = true ↔ ∀ i, i < n → p i = true := by
  rw [Bool.not_eq_true', anyN_f]
  constructor
  · intro h i hi
    have := h i hi
    rwa [Bool.not_eq_false'] at this
  · intro h i hi
    rw [h i hi]; rfl
/-- a number by its digits -/
def numW (R : Nat) (ρ : Nat → Nat) (n : Nat) : Nat := fo (fun p a => a + ρ p * R ^ p) n 0
theorem numW_s (R : Nat) (ρ : Nat → Nat) (n : Nat) : numW R ρ (n + 1) = numW R ρ n + ρ n * R ^ n := rfl
theorem numW_lt {R : Nat} {ρ : Nat → Nat} : ∀ n, (∀ p, p < n → ρ p < R) → numW R ρ n < R ^ n := by
  intro n
  induction n with
  | zero => intro _; show 0 < R ^ 0; rw [Nat.pow_zero]; decide
  | succ n ih =>
    intro h
    have ih := ih (fun p hp => h p (by omega))
    have h2 := h n (by omega)
    rw [numW_s, Nat.pow_succ, Nat.mul_comm (R ^ n) R]
    have h3 : (ρ n + 1) * R ^ n ≤ R * R ^ n := Nat.mul_le_mul_right _ h2
    rw [Nat.succ_mul] at h3
    omega
theorem numW_dig {R : Nat} {ρ : Nat → Nat} : ∀ n, (∀ p, p < n → ρ p < R) → ∀ p, p < n → dgM R (numW R ρ n) p = ρ p := by
  intro n
  induction n with
  | zero => intro _ p hp; omega
  | succ n ih =>
    intro h p hp
    have ih := ih (fun p hp => h p (by omega))
    have hlt := numW_lt (R := R) (ρ := ρ) n (fun p hp => h p (by omega))
    have hR : 0 < R := by have := h n (by omega); omega
    have hpow : 0 < R ^ n := Nat.pow_pos hR
    unfold dgM at ih ⊢
    rw [numW_s]
    by_cases e : p = n
    · subst e
      rw [Nat.add_mul_div_right _ _ hpow, Nat.div_eq_of_lt hlt, Nat.zero_add, Nat.mod_eq_of_lt (h p (by omega))]
    · have hpn : p < n := by omega
      have e2 : ρ n * R ^ n = (ρ n * R ^ (n - p - 1) * R) * R ^ p := by
        have : R ^ n = R ^ (n - p - 1) * R * R ^ p := by
          rw [← Nat.pow_succ, ← Nat.pow_add]
          congr 1
          omega
        rw [this]
        simp only [Nat.mul_assoc]
      rw [e2, Nat.add_mul_div_right _ _ (Nat.pow_pos hR), Nat.add_mul_mod_self_right]
      exact ih p hpn
theorem joinB_congr {D : DB} {U : QB} (hU : UW U) {ρ ρ' : Nat → Nat} (h : ∀ p, p < U.1 → ρ p = ρ' p) {j : Nat} (hj : j < U.2.2.2.2.1) : joinB D U ρ j = joinB D U ρ' j := by
  obtain ⟨a, -, b, -⟩ := hU.2.2.2 j hj
  unfold joinB
  rw [h _ a, h _ b]
theorem stM_iff {D : DB} {U : QB} (hU : UW U) {b : Nat} : stM D U b = true ↔ EXq D U b := by
  unfold stM
  rw [anyN_t]
  constructor
  · rintro ⟨w, h1, h2⟩
    rw [stmB, Bool.and_eq_true, not_anyN (p := fun p => fitB D U p (dgM D.1 w p) b), not_anyN (p := fun j => joinB D U (dgM D.1 w) j)] at h2
    refine ⟨dgM D.1 w, fun p hp => ⟨?_, h2.1 p hp⟩, h2.2⟩
    have hR : D.1 ≠ 0 := by
      intro z
      rw [z, Nat.zero_pow (by omega)] at h1
      omega
    exact Nat.mod_lt _ (by omega)
  · rintro ⟨ρ, h1, h2⟩
    have hd := numW_dig (R := D.1) (ρ := ρ) U.1 (fun p hp => (h1 p hp).1)
    refine ⟨numW D.1 ρ U.1, numW_lt U.1 (fun p hp => (h1 p hp).1), ?_⟩
    rw [stmB, Bool.and_eq_true, not_anyN (p := fun p => fitB D U p (dgM D.1 (numW D.1 ρ U.1) p) b), not_anyN (p := fun j => joinB D U (dgM D.1 (numW D.1 ρ U.1)) j)]
    exact ⟨fun p hp => by rw [hd p hp]; exact (h1 p hp).2, fun j hj => by rw [joinB_congr hU hd hj]; exact h2 j hj⟩
theorem fitD_tb {D : DB} {U : QB} {S p r : Nat} : (fitD D U S p).testBit r = true ↔ r < D.1 ∧ fitB D U p r S = true := by
  rw [fitD, setN_tb, Bool.and_eq_true, decide_eq_true_eq]
  rfl
theorem stoodB_iff {D : DB} {U : QB} {K n : Nat} : stoodB D U (fitD D U K) n = true ↔ (∀ p, p < U.1 → dig n p < D.1 ∧ fitB D U p (dig n p) K = true) ∧ ∀ j, j < U.2.2.2.2.1 → joinB D U (dig n) j = true := by
  rw [stoodB, Bool.and_eq_true, not_anyN (p := fun p => (fitD D U K p).testBit (dig n p)), not_anyN (p := fun j => joinB D U (dig n) j)]
  simp only [fitD_tb]
theorem setR_tb {ρ : Nat → Nat} {i : Nat} : ∀ n, (setR ρ n).testBit i = true ↔ ∃ p, p < n ∧ i = ρ p := by
  intro n
  induction n with
  | zero => exact ⟨fun h => (by rw [show setR ρ 0 = 0 from rfl, Nat.zero_testBit] at h; cases h), fun ⟨p, h, _⟩ => absurd h (Nat.not_lt_zero _)⟩
  | succ n ih =>
    rw [setR_s, Nat.testBit_or, Bool.or_eq_true, ih, tb_one]
    constructor
    · rintro (⟨p, h1, h2⟩ | h)
      · exact ⟨p, by omega, h2⟩
      · exact ⟨n, by omega, h⟩
    · rintro ⟨p, h1, h2⟩
      by_cases e : p = n
      · subst e; exact Or.inr h2
      · exact Or.inl ⟨p, by omega, h2⟩
theorem fitB_bit {D : DB} {U : QB} {p r S : Nat} (h : fitB D U p r S = true) : S.testBit r = true := by
  unfold fitB at h
  rw [Bool.and_eq_true, Bool.and_eq_true] at h
  exact h.1.1
theorem fitB_in {D : DB} {U : QB} {p r S S' : Nat} (h : fitB D U p r S = true) (hb : S'.testBit r = true) : fitB D U p r S' = true := by
  unfold fitB at h ⊢
  rw [Bool.and_eq_true, Bool.and_eq_true] at h ⊢
  exact ⟨⟨hb, h.1.2⟩, h.2⟩
theorem STD_iff {D : DB} {U : QB} (hD : DW D) (hU : UW U) {K b : Nat} (hb : subN b K) : STD D U K b ↔ EXq D U b := by
  unfold STD
  constructor
  · rintro ⟨n, h1, h2, h3⟩
    rw [stoodB_iff] at h2
    exact ⟨dig n, fun p hp => ⟨(h2.1 p hp).1, fitB_in (h2.1 p hp).2 (h3 _ ((setR_tb _).mpr ⟨p, hp, rfl⟩))⟩, h2.2⟩
  · rintro ⟨ρ, h1, h2⟩
    have h12 : ∀ p, p < U.1 → ρ p < 12 := fun p hp => Nat.lt_of_lt_of_le (h1 p hp).1 hD.1
    have hd : ∀ p, p < U.1 → dig (numW 12 ρ U.1) p = ρ p := numW_dig (R := 12) (ρ := ρ) U.1 h12
    refine ⟨numW 12 ρ U.1, numW_lt U.1 h12, stoodB_iff.mpr ⟨fun p hp => ?_, fun j hj => by rw [joinB_congr hU hd hj]; exact h2 j hj⟩, fun i hi => ?_⟩
    · rw [hd p hp]
      exact ⟨(h1 p hp).1, fitB_in (h1 p hp).2 (hb _ (fitB_bit (h1 p hp).2))⟩
    · obtain ⟨p, p1, p2⟩ := (setR_tb _).mp hi
      rw [p2, hd p p1]
      exact fitB_bit (h1 p p1).2
theorem standsB_iff {D : DB} {U : QB} (hD : DW D) (hU : UW U) {K : Nat} : standsB D U K = true ↔ EXq D U K := by
  rw [← STD_iff hD hU (subN.rf K), standsB, anyN_t]
  constructor
  · rintro ⟨n, h1, h2⟩
    refine ⟨n, h1, h2, fun i hi => ?_⟩
    obtain ⟨p, p1, p2⟩ := (setR_tb _).mp hi
    rw [p2]
    exact fitB_bit ((stoodB_iff.mp h2).1 p p1).2
  · rintro ⟨n, h1, h2, -⟩
    exact ⟨n, h1, h2⟩
theorem b_ext {a b : Bool} (h : a = true ↔ b = true) : a = b := by
  cases a <;> cases b <;> first | rfl | (exact absurd (h.mp rfl) (by decide)) | (exact absurd (h.mpr rfl) (by decide))
theorem stM_stands {D : DB} {U : QB} (hD : DW D) (hU : UW U) : stM D U (keptD D) = standsB D U (keptD D) := b_ext ((stM_iff hU).trans (standsB_iff hD hU).symm)
theorem stM_std {D : DB} {U : QB} (hD : DW D) (hU : UW U) {b : Nat} (hb : subN b (keptD D)) : stM D U b = stdB D U b := b_ext ((stM_iff hU).trans ((STD_iff hD hU hb).symm.trans pb_t.symm))
-- sums
theorem sumL_congr {p p' : Nat → Bool} {g : Nat → Int64} (n : Nat) (h : ∀ i, i < n → p i = p' i) : sumL p g n = sumL p' g n := fo_congr (fun i hi z => by rw [h i hi]) _
theorem sumN_congr {p p' : Nat → Bool} {g : Nat → Nat} (n : Nat) (h : ∀ i, i < n → p i = p' i) : sumN p g n = sumN p' g n := fo_congr (fun i hi z => by rw [h i hi]) _
def addB (D : DB) (t c S r : Nat) : Bool := S.testBit r && D.2.1 r 2 == t && D.2.2.1 r c != 0
theorem addM (D : DB) (t c S : Nat) : sumL (addB D t c S) (fun r => D.2.2.2 r c) D.1 = addD D t c S := by
  unfold addD
  apply sumL_congr
  intro i hi
  rw [withC_tb, decide_eq_true hi, Bool.true_and]
  rfl
theorem bitsF_N (S : Nat) : bitsF S 12 = bitsN S := by
  unfold bitsF bitsN cntN
  apply fo_congr
  intro i _ a
  rw [bt_tb]
  dsimp only
  cases S.testBit i <;> rfl
-- settling
def qM (D : DB) (W : LB) (w F K r : Nat) : Bool := ofB D W w r K && likeB D r (W.2.1 w 2) F (W.2.1 w 2) && D.2.2.1 r (W.2.1 w 3) != 0
def tM (D : DB) (W : LB) (w F K r q : Nat) : Bool := ofB D W w q K && likeB D q (W.2.1 w 2) F (W.2.1 w 2) && likeB D q (W.2.1 w 3) r (W.2.1 w 3)
def sM (D : DB) (W : LB) (w F K r n : Nat) : Nat := sumN (tM D W w F K r) (fun q => D.2.1 q 3) n
theorem sM_s (D : DB) (W : LB) (w F K r n : Nat) : sM D W w F K r (n + 1) = if tM D W w F K r n = true then sM D W w F K r n + D.2.1 n 3 else sM D W w F K r n := rfl
def smP (D : DB) (W : LB) (w F K n : Nat) : Int32 × Int64 := fo (fun r a => if qM D W w F K r = true ∧ (a.1.toInt < (sM D W w F K r D.1 : Int) ∨ ((sM D W w F K r D.1 : Int) = a.1.toInt ∧ D.2.2.2 r (W.2.1 w 3) < a.2)) then (nI (sM D W w F K r D.1), D.2.2.2 r (W.2.1 w 3)) else a) n (-9, 0)
theorem smP_s (D : DB) (W : LB) (w F K n : Nat) : smP D W w F K (n + 1) = if qM D W w F K n = true ∧ ((smP D W w F K n).1.toInt < (sM D W w F K n D.1 : Int) ∨ ((sM D W w F K n D.1 : Int) = (smP D W w F K n).1.toInt ∧ D.2.2.2 n (W.2.1 w 3) < (smP D W w F K n).2)) then (nI (sM D W w F K n D.1), D.2.2.2 n (W.2.1 w 3)) else smP D W w F K n := rfl
theorem smP_no {D : DB} {W : LB} {w F K n : Nat} (h : qM D W w F K n = false) : smP D W w F K (n + 1) = smP D W w F K n := by
  rw [smP_s, if_neg (by rw [h]; exact fun z => Bool.noConfusion z.1)]
theorem smP_gt {D : DB} {W : LB} {w F K n : Nat} (h : qM D W w F K n = true) (c : (smP D W w F K n).1.toInt < (sM D W w F K n D.1 : Int)) : smP D W w F K (n + 1) = (nI (sM D W w F K n D.1), D.2.2.2 n (W.2.1 w 3)) := by
  rw [smP_s, if_pos ⟨h, Or.inl c⟩]
theorem smP_eq {D : DB} {W : LB} {w F K n : Nat} (h : qM D W w F K n = true) (c : (sM D W w F K n D.1 : Int) = (smP D W w F K n).1.toInt) (c2 : D.2.2.2 n (W.2.1 w 3) < (smP D W w F K n).2) : smP D W w F K (n + 1) = (nI (sM D W w F K n D.1), D.2.2.2 n (W.2.1 w 3)) := by
  rw [smP_s, if_pos ⟨h, Or.inr ⟨c, c2⟩⟩]
theorem smP_ge {D : DB} {W : LB} {w F K n : Nat} (c : (sM D W w F K n D.1 : Int) ≤ (smP D W w F K n).1.toInt) (c2 : (smP D W w F K n).2 ≤ D.2.2.2 n (W.2.1 w 3)) : smP D W w F K (n + 1) = smP D W w F K n := by
  rw [smP_s, if_neg]
  rintro ⟨-, h | ⟨-, h⟩⟩
  · omega
  · exact absurd h (Int64.not_lt.mpr c2)
theorem smP_lt {D : DB} {W : LB} {w F K n : Nat} (c : (sM D W w F K n D.1 : Int) ≤ (smP D W w F K n).1.toInt) (c2 : (sM D W w F K n D.1 : Int) ≠ (smP D W w F K n).1.toInt) : smP D W w F K (n + 1) = smP D W w F K n := by
  rw [smP_s, if_neg]
  rintro ⟨-, h | ⟨h, -⟩⟩
  · omega
  · exact c2 h
theorem sM_le {D : DB} (hD : DW D) (W : LB) (w F K r n : Nat) (hn : n ≤ D.1) : sM D W w F K r n ≤ 1200 := by
  have h1 := sumN_le (tM D W w F K r) (fun q => D.2.1 q 3) (m := 100) n (fun i hi => (hD.2.2.2 i (by omega)).2.2.1)
  have h2 := hD.1
  unfold sM
  omega
theorem th_tb {D : DB} {t x y r : Nat} : (thD D t x y).testBit r = true ↔ r < D.1 ∧ (keptD D).testBit r = true ∧ D.2.1 r 2 = t ∧ D.2.2.1 r x ≠ 0 ∧ D.2.2.1 r y ≠ 0 := by
  rw [thD, Nat.testBit_and, withC_tb, withC_tb]
  simp only [Bool.and_eq_true, decide_eq_true_eq, beq_iff_eq, bne_iff_ne, ne_eq]
  constructor
  · rintro ⟨⟨a, ⟨b, c⟩, d⟩, -, -, e⟩
    exact ⟨a, b, c, d, e⟩
  · rintro ⟨a, b, c, d, e⟩
    exact ⟨⟨a, ⟨b, c⟩, d⟩, a, ⟨b, c⟩, e⟩
theorem settled_eq {D : DB} {W : LB} {w F : Nat} (hD : DW D) (hF : (thD D (W.2.1 w 1) (W.2.1 w 2) (W.2.1 w 3)).testBit F = true) :
    (smP D W w F (keptD D) D.1).2 = newV D (W.2.1 w 1) (W.2.1 w 2) (W.2.1 w 3) (thD D (W.2.1 w 1) (W.2.1 w 2) (W.2.1 w 3)) F := by
  have hT := thD_TH D (W.2.1 w 1) (W.2.1 w 2) (W.2.1 w 3)
  have hf := th_tb.mp hF
  have hq : ∀ r, r < D.1 → qM D W w F (keptD D) r = (grpD D (W.2.1 w 1) (W.2.1 w 2) (thD D (W.2.1 w 1) (W.2.1 w 2) (W.2.1 w 3)) F).testBit r := fun r hr => by
    apply b_ext
    rw [grpD_tb hT, th_tb]
    unfold qM likeB
    simp only [Bool.and_eq_true, ofB_iff, bne_iff_ne, ne_eq, beq_iff_eq]
    constructor
    · rintro ⟨⟨⟨a, b⟩, ⟨c, -⟩, d⟩, e⟩
      exact ⟨⟨hr, a, b, c, e⟩, d⟩
    · rintro ⟨⟨-, a, b, c, e⟩, d⟩
      exact ⟨⟨⟨a, b⟩, ⟨c, hf.2.2.2.1⟩, d⟩, e⟩
  have ht : ∀ r, r < D.1 → qM D W w F (keptD D) r = true → sM D W w F (keptD D) r D.1 = trustD D (withN D (W.2.1 w 1) (W.2.1 w 3) (D.2.2.2 r (W.2.1 w 3)) (grpD D (W.2.1 w 1) (W.2.1 w 2) (thD D (W.2.1 w 1) (W.2.1 w 2) (W.2.1 w 3)) F)) := fun r hr hqr => by
    have hy : D.2.2.1 r (W.2.1 w 3) ≠ 0 := by
      unfold qM at hqr
      rw [Bool.and_eq_true, bne_iff_ne] at hqr
      exact hqr.2
    unfold sM trustD
    apply sumN_congr
    intro q hq1
    apply b_ext
    rw [withN_tb, Bool.and_eq_true, Bool.and_eq_true, Bool.and_eq_true, Bool.and_eq_true, decide_eq_true_eq, ← hq q hq1, beq_iff_eq, beq_iff_eq, bne_iff_ne]
    unfold tM qM likeB
    simp only [Bool.and_eq_true, ofB_iff, bne_iff_ne, ne_eq, beq_iff_eq]
    constructor
    · rintro ⟨⟨⟨a, b⟩, ⟨c, d⟩, e⟩, ⟨f, -⟩, g⟩
      exact ⟨hq1, ⟨⟨⟨⟨⟨a, b⟩, ⟨c, d⟩, e⟩, f⟩, b⟩, f⟩, g⟩
    · rintro ⟨-, ⟨⟨⟨⟨⟨a, b⟩, ⟨c, d⟩, e⟩, f⟩, -⟩, -⟩, g⟩
      exact ⟨⟨⟨a, b⟩, ⟨c, d⟩, e⟩, ⟨f, hy⟩, g⟩
  have hpos : ∀ r, r < D.1 → qM D W w F (keptD D) r = true → 1 ≤ sM D W w F (keptD D) r D.1 := fun r hr hqr => by
    have h1 : tM D W w F (keptD D) r r = true := by
      unfold qM likeB at hqr
      unfold tM likeB
      simp only [Bool.and_eq_true, ofB_iff, bne_iff_ne, ne_eq, beq_iff_eq] at hqr ⊢
      exact ⟨⟨hqr.1.1, hqr.1.2⟩, ⟨hqr.2, hqr.2⟩, trivial⟩
    have h2 := sumN_ge (p := tM D W w F (keptD D) r) (g := fun q => D.2.1 q 3) D.1 r hr h1
    have h3 := (hD.2.2.2 r hr).2.1
    unfold sM
    exact Nat.le_trans h3 h2
  have key : ∀ n, n ≤ D.1 → ((smP D W w F (keptD D) n = (-9, 0) ∧ mtP D (W.2.1 w 1) (W.2.1 w 3) (grpD D (W.2.1 w 1) (W.2.1 w 2) (thD D (W.2.1 w 1) (W.2.1 w 2) (W.2.1 w 3)) F) n = (0, 0)) ∨
      ((smP D W w F (keptD D) n).1.toInt = ((mtP D (W.2.1 w 1) (W.2.1 w 3) (grpD D (W.2.1 w 1) (W.2.1 w 2) (thD D (W.2.1 w 1) (W.2.1 w 2) (W.2.1 w 3)) F) n).1 : Int) ∧ (smP D W w F (keptD D) n).2 = (mtP D (W.2.1 w 1) (W.2.1 w 3) (grpD D (W.2.1 w 1) (W.2.1 w 2) (thD D (W.2.1 w 1) (W.2.1 w 2) (W.2.1 w 3)) F) n).2)) := by
    intro n
    induction n with
    | zero => intro _; exact Or.inl ⟨rfl, rfl⟩
    | succ n ih =>
      intro hn
      have ih := ih (by omega)
      cases hqn : qM D W w F (keptD D) n
      · rw [smP_no hqn, mtP_out (by rw [← hq n (by omega), hqn])]
        exact ih
      · have hg := hq n (by omega)
        rw [hqn] at hg
        have e := ht n (by omega) hqn
        have hp := hpos n (by omega) hqn
        have hle := sM_le hD W w F (keptD D) n D.1 (Nat.le_refl _)
        have hz : (nI (sM D W w F (keptD D) n D.1)).toInt = (sM D W w F (keptD D) n D.1 : Int) := zN (by omega)
        right
        rcases ih with ⟨i1, i2⟩ | ⟨i1, i2⟩
        · rw [smP_gt hqn (by rw [i1]; show (-9 : Int32).toInt < _; rw [show (-9 : Int32).toInt = -9 from rfl]; omega), mtP_gt hg.symm (by rw [i2, ← e]; show 0 < _; omega)]
          exact ⟨by rw [hz, e], rfl⟩
        · by_cases c1 : (smP D W w F (keptD D) n).1.toInt < (sM D W w F (keptD D) n D.1 : Int)
          · rw [smP_gt hqn c1, mtP_gt hg.symm (by rw [← e]; omega)]
            exact ⟨by rw [hz, e], rfl⟩
          · by_cases c2 : (sM D W w F (keptD D) n D.1 : Int) = (smP D W w F (keptD D) n).1.toInt
            · by_cases c3 : D.2.2.2 n (W.2.1 w 3) < (smP D W w F (keptD D) n).2
              · rw [smP_eq hqn c2 c3, mtP_eq hg.symm (by rw [← e]; omega) (by rw [← i2]; exact c3)]
                exact ⟨by rw [hz, e], rfl⟩
              · rw [smP_ge (by omega) (Int64.not_lt.mp c3), mtP_ge (by rw [← e]; omega) (by rw [← i2]; exact Int64.not_lt.mp c3)]
                exact ⟨i1, i2⟩
            · rw [smP_lt (by omega) c2, mtP_lt (by rw [← e]; omega) (by rw [← e]; omega)]
              exact ⟨i1, i2⟩
  have := key D.1 (Nat.le_refl _)
  unfold newV
  rcases this with ⟨h1, h2⟩ | ⟨h1, h2⟩
  · rw [h1, h2]
  · exact h2

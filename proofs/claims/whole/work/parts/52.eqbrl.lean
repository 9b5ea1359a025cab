-- the model's tests of laws say the same
theorem dist_comm (v w : Int64) : dist v w = dist w v := by
  unfold dist
  by_cases h1 : w < v
  · rw [if_pos h1, if_neg (fun h2 => absurd (Int64.lt_trans h1 h2) (Int64.lt_irrefl))]
  · by_cases h2 : v < w
    · rw [if_neg h1, if_pos h2]
    · have e : v = w := Int64.le_antisymm (Int64.not_lt.mp h1) (Int64.not_lt.mp h2)
      rw [e]
theorem near_comm (v w c : Int64) : near v w c = near w v c := by unfold near; rw [dist_comm]
theorem together_comm (D : DB) (W : LB) (w r q : Nat) : together D W w r q = together D W w q r := by
  unfold together
  have e1 : (D.2.2.2 r (W.2.1 w 2) == D.2.2.2 q (W.2.1 w 2)) = (D.2.2.2 q (W.2.1 w 2) == D.2.2.2 r (W.2.1 w 2)) := by
    by_cases h : D.2.2.2 r (W.2.1 w 2) = D.2.2.2 q (W.2.1 w 2)
    · rw [h]
    · rw [beq_false_of_ne h, beq_false_of_ne (Ne.symm h)]
  have e2 : (D.2.2.2 r (W.2.1 w 3) != D.2.2.2 q (W.2.1 w 3)) = (D.2.2.2 q (W.2.1 w 3) != D.2.2.2 r (W.2.1 w 3)) := by
    by_cases h : D.2.2.2 r (W.2.1 w 3) = D.2.2.2 q (W.2.1 w 3)
    · rw [h]
    · rw [bne_iff_ne.mpr h, bne_iff_ne.mpr (Ne.symm h)]
  rw [e1, e2, near_comm]
theorem br2_iff {D : DB} {W : LB} {w r q : Nat} : br2 D W w r q = true ↔ D.2.2.1 r (W.2.1 w 2) ≠ 0 ∧ D.2.2.1 r (W.2.1 w 3) ≠ 0 ∧ D.2.2.1 q (W.2.1 w 2) ≠ 0 ∧ D.2.2.1 q (W.2.1 w 3) ≠ 0 ∧ together D W w q r = true := by
  rw [together_comm]
  unfold br2 likeB together
  simp only [Bool.and_eq_true, bne_iff_ne, ne_eq]
  constructor
  · rintro ⟨⟨⟨⟨⟨a, b⟩, c⟩, d⟩, e⟩, f⟩
    exact ⟨a, d, b, e, c, f⟩
  · rintro ⟨a, d, b, e, c, f⟩
    exact ⟨⟨⟨⟨⟨a, b⟩, c⟩, d⟩, e⟩, f⟩
theorem ofB_iff {D : DB} {W : LB} {w r S : Nat} : ofB D W w r S = true ↔ S.testBit r = true ∧ D.2.1 r 2 = W.2.1 w 1 := by
  unfold ofB
  rw [Bool.and_eq_true, beq_iff_eq]
theorem brL_iff {D : DB} {W : LB} {w S : Nat} : brL D W w S = true ↔ ∃ r, r < D.1 ∧ brR D W w S r = true := anyN_t
theorem br1_no {D : DB} {W : LB} {w r S : Nat} (h : W.2.1 w 0 = 0 ∨ W.2.1 w 0 = 2 ∨ W.2.1 w 0 = 4) : br1 D W w r S = false := by
  unfold br1
  rw [if_neg (by omega), if_neg (by omega), if_neg (by omega)]
theorem br1_al {D : DB} {W : LB} {w r S : Nat} (h : W.2.1 w 0 = 1 ∨ W.2.1 w 0 = 3) : br1 D W w r S = alone D W w r := by
  unfold br1 alone
  rcases h with h | h
  · rw [if_pos h, if_neg (by omega)]
    congr 1
    by_cases a : W.2.2 w 5 ≤ D.2.2.2 r (W.2.1 w 2)
    · by_cases b : D.2.2.2 r (W.2.1 w 2) ≤ W.2.2 w 6
      · rw [decide_eq_true a, decide_eq_true b, decide_eq_false (Int64.not_lt.mpr a), decide_eq_false (Int64.not_lt.mpr b)]; rfl
      · rw [decide_eq_false b, decide_eq_true (Int64.not_le.mp b), Bool.and_false, Bool.or_true]; rfl
    · rw [decide_eq_false a, decide_eq_true (Int64.not_le.mp a), Bool.false_and, Bool.true_or]; rfl
  · rw [if_neg (by omega), if_pos h, if_pos h]
/-- kinds 0, 2 -/
theorem B0_brL {D : DB} {W : LB} {w S : Nat} (hk : W.2.1 w 0 = 0 ∨ W.2.1 w 0 = 2) : brL D W w S = true ↔ ∃ s, subN s S ∧ QP D W w s := by
  have hbr : ∀ r, brR D W w S r = (ofB D W w r S && anyN (brT D W w S r) r) := fun r => by
    unfold brR
    have e4 : (W.2.1 w 0 == 4) = false := beq_false_of_ne (by omega)
    have e0 : (W.2.1 w 0 == 0 || W.2.1 w 0 == 2) = true := by
      rcases hk with h | h <;> rw [h] <;> rfl
    rw [br1_no (by omega), e4, e0]
    simp
  rw [brL_iff]
  constructor
  · rintro ⟨r, h1, h2⟩
    rw [hbr, Bool.and_eq_true, ofB_iff, anyN_t] at h2
    obtain ⟨⟨a1, a2⟩, q, q1, q2⟩ := h2
    rw [brT, Bool.and_eq_true, ofB_iff, br2_iff] at q2
    obtain ⟨⟨b1, b2⟩, c1, c2, c3, c4, c5⟩ := q2
    refine ⟨2 ^ r ||| 2 ^ q, fun i hi => ?_, r, q, q1, ⟨h1, a2, c1, c2⟩, ⟨by omega, b2, c3, c4⟩, c5, rfl⟩
    rcases tb_pair.mp hi with e | e <;> subst e
    · exact a1
    · exact b1
  · rintro ⟨s, hs, r, q, q1, ⟨a1, a2, a3, a4⟩, ⟨b1, b2, b3, b4⟩, c, rfl⟩
    refine ⟨r, a1, ?_⟩
    rw [hbr, Bool.and_eq_true, ofB_iff, anyN_t]
    refine ⟨⟨hs r (tb_pair.mpr (Or.inl rfl)), a2⟩, q, q1, ?_⟩
    rw [brT, Bool.and_eq_true, ofB_iff, br2_iff]
    exact ⟨⟨hs q (tb_pair.mpr (Or.inr rfl)), b2⟩, a3, a4, b3, b4, c⟩
theorem brR_one {D : DB} {W : LB} {w S r : Nat} (hk : W.2.1 w 0 = 1 ∨ W.2.1 w 0 = 3 ∨ W.2.1 w 0 = 5) : brR D W w S r = (ofB D W w r S && br1 D W w r S) := by
  unfold brR
  have e4 : (W.2.1 w 0 == 4) = false := beq_false_of_ne (by omega)
  have e0 : (W.2.1 w 0 == 0) = false := beq_false_of_ne (by omega)
  have e2 : (W.2.1 w 0 == 2) = false := beq_false_of_ne (by omega)
  rw [e4, e0, e2]
  simp
/-- kinds 1, 3 -/
theorem B1_brL {D : DB} {W : LB} {w S : Nat} (hk : W.2.1 w 0 = 1 ∨ W.2.1 w 0 = 3) : brL D W w S = true ↔ ∃ s, subN s S ∧ Q1 D W w s := by
  rw [brL_iff]
  constructor
  · rintro ⟨r, h1, h2⟩
    rw [brR_one (by omega), Bool.and_eq_true, ofB_iff, br1_al hk] at h2
    exact ⟨2 ^ r, fun i hi => by rw [tb_one.mp hi]; exact h2.1.1, r, h1, h2.1.2, h2.2, rfl⟩
  · rintro ⟨s, hs, r, h1, h2, h3, rfl⟩
    refine ⟨r, h1, ?_⟩
    rw [brR_one (by omega), Bool.and_eq_true, ofB_iff, br1_al hk]
    exact ⟨⟨hs r (tb_one.mpr rfl), h2⟩, h3⟩
theorem mp_iff {D : DB} {W : LB} {w F S r : Nat} (hr : r < D.1) : mp D W w F S r = true ↔ S.testBit r = true ∧ rowQ D W w r ∧ 0 < vZ D W w r ∧ D.2.2.1 F (W.2.1 w 2) ≠ 0 ∧ D.2.2.2 r (W.2.1 w 2) = D.2.2.2 F (W.2.1 w 2) := by
  unfold mp cntB likeB
  simp only [Bool.and_eq_true, ofB_iff, bne_iff_ne, ne_eq, decide_eq_true_eq, beq_iff_eq, Int64.lt_iff_toInt_lt, i64_0, rowQ, vZ]
  constructor
  · rintro ⟨⟨⟨a, b⟩, ⟨c, d⟩, e⟩, ⟨-, f⟩, g⟩
    exact ⟨a, ⟨hr, b, c, d⟩, e, f, g⟩
  · rintro ⟨a, ⟨-, b, c, d⟩, e, f, g⟩
    exact ⟨⟨⟨a, b⟩, ⟨c, d⟩, e⟩, ⟨c, f⟩, g⟩
/-- a set whose rows are together above most has a least such set in it -/
theorem least_in {D : DB} {W : LB} {w : Nat} : ∀ n s, s ≤ n → s ≠ 0 → (∀ r, s.testBit r = true → rowQ D W w r ∧ 0 < vZ D W w r) → (∀ r q, s.testBit r = true → s.testBit q = true → D.2.2.2 r (W.2.1 w 2) = D.2.2.2 q (W.2.1 w 2)) → 0 ≤ (W.2.2 w 5).toInt → (W.2.2 w 5).toInt < totQ D W w s → ∃ t, subN t s ∧ QS D W w t := by
  intro n
  induction n with
  | zero => intro s h1 h2; omega
  | succ n ih =>
    intro s h1 h2 h3 h4 hc h5
    by_cases hall : ∀ r, s.testBit r = true → totQ D W w s - vZ D W w r ≤ (W.2.2 w 5).toInt
    · exact ⟨s, subN.rf s, h2, h3, h4, h5, hall⟩
    · have : ∃ r, s.testBit r = true ∧ (W.2.2 w 5).toInt < totQ D W w s - vZ D W w r := by
        apply Classical.byContradiction
        intro hn
        apply hall
        intro r hr
        apply Classical.byContradiction
        intro hle
        exact hn ⟨r, hr, by omega⟩
      obtain ⟨r, hr, hlt⟩ := this
      have hsub := xor_sub hr
      have e : totQ D W w (s ^^^ 2 ^ r) = totQ D W w s - vZ D W w r := by
        unfold totQ
        rw [← sumZ_but (p := fun i => s.testBit i) hr D.1 (h3 r hr).1.1]
        apply sumZ_congr _ _ (fun _ _ _ => rfl)
        intro i _
        by_cases e : r = i
        · subst e; rw [xor_tb_self, hr]; simp
        · rw [xor_tb_ne e, bne_iff_ne.mpr (Ne.symm e)]; rfl
      have h0 : s ^^^ 2 ^ r ≠ 0 := by
        intro z
        rw [z] at e
        have z0 : totQ D W w 0 = 0 := by
          unfold totQ
          exact sumZ_stop (m := 0) D.1 (Nat.zero_le _) (fun i _ _ => Nat.zero_testBit i)
        omega
      obtain ⟨t, t1, t2⟩ := ih (s ^^^ 2 ^ r) (by have := xor_lt hr; omega) h0 (fun q hq => h3 q (hsub q hq)) (fun q p hq hp => h4 q p (hsub q hq) (hsub p hp)) hc (by omega)
      exact ⟨t, t1.tr hsub, t2⟩
/-- kind 4 -/
theorem B4_brL {D : DB} {W : LB} {w S : Nat} (hk : W.2.1 w 0 = 4) (hc : 0 ≤ (W.2.2 w 5).toInt) : brL D W w S = true ↔ ∃ s, subN s S ∧ QS D W w s := by
  have hbr : ∀ r, brR D W w S r = (ofB D W w r S && (cntB D W w r && mor (mp D W w r S) (mg D W w) (W.2.2 w 5) D.1)) := fun r => by
    unfold brR
    rw [br1_no (by omega), hk]
    simp
  have hmor : ∀ r, mor (mp D W w r S) (mg D W w) (W.2.2 w 5) D.1 = true ↔ (W.2.2 w 5).toInt < sumZ (mp D W w r S) (vZ D W w) D.1 := fun r =>
    (mor_iff (p := mp D W w r S) (g := mg D W w) hc D.1 (fun i hi h => ((mp_iff hi).mp h).2.2.1)).1
  rw [brL_iff]
  constructor
  · rintro ⟨r, h1, h2⟩
    rw [hbr, Bool.and_eq_true, Bool.and_eq_true, ofB_iff, hmor] at h2
    obtain ⟨⟨a1, a2⟩, a3, a4⟩ := h2
    have hb : ∀ i, (setN (mp D W w r S) D.1).testBit i = true → i < D.1 ∧ mp D W w r S i = true := fun i hi => by
      rw [setN_tb, Bool.and_eq_true, decide_eq_true_eq] at hi
      exact hi
    have hT : totQ D W w (setN (mp D W w r S) D.1) = sumZ (mp D W w r S) (vZ D W w) D.1 := by
      unfold totQ
      apply sumZ_congr _ _ (fun _ _ _ => rfl)
      intro i hi
      rw [setN_tb, decide_eq_true hi, Bool.true_and]
    have h0 : setN (mp D W w r S) D.1 ≠ 0 := by
      intro z
      rw [z] at hT
      have z0 : totQ D W w 0 = 0 := by
        unfold totQ
        exact sumZ_stop (m := 0) D.1 (Nat.zero_le _) (fun i _ _ => Nat.zero_testBit i)
      omega
    obtain ⟨t, t1, t2⟩ := least_in (D := D) (W := W) (w := w) _ (setN (mp D W w r S) D.1) (Nat.le_refl _) h0 (fun i hi => by
      obtain ⟨e1, e2⟩ := hb i hi
      have := (mp_iff e1).mp e2
      exact ⟨this.2.1, this.2.2.1⟩) (fun i q hi hq => by
      obtain ⟨e1, e2⟩ := hb i hi
      obtain ⟨f1, f2⟩ := hb q hq
      rw [((mp_iff e1).mp e2).2.2.2.2, ((mp_iff f1).mp f2).2.2.2.2]) hc (by omega)
    exact ⟨t, fun i hi => ((mp_iff (hb i (t1 i hi)).1).mp (hb i (t1 i hi)).2).1, t2⟩
  · rintro ⟨s, hs, h0, hr, hq, hT1, hT2⟩
    obtain ⟨r, hrs⟩ := Nat.exists_testBit_of_ne_zero h0
    obtain ⟨a2, a3⟩ := hr r hrs
    refine ⟨r, a2.1, ?_⟩
    have h3 : cntB D W w r = true := by
      unfold cntB
      simp only [Bool.and_eq_true, bne_iff_ne, ne_eq, decide_eq_true_eq, Int64.lt_iff_toInt_lt, i64_0]
      exact ⟨⟨a2.2.2.1, a2.2.2.2⟩, a3⟩
    rw [hbr, Bool.and_eq_true, Bool.and_eq_true, ofB_iff, hmor]
    refine ⟨⟨hs r hrs, a2.2.1⟩, h3, Int.lt_of_lt_of_le hT1 ?_⟩
    unfold totQ
    exact sumZ_le D.1 (fun i hi hb => (mp_iff hi).mpr ⟨hs i hb, (hr i hb).1, (hr i hb).2, a2.2.2.1, hq i r hb hrs⟩) (fun i hi hb => Int.le_of_lt ((mp_iff hi).mp hb).2.2.1)
/-- the model's least sums -/
theorem lsM_iff {D : DB} {W : LB} {w s : Nat} (hc : 0 ≤ (W.2.2 w 5).toInt) (h0 : s ≠ 0) (h4 : s < 4096) (hR : ∀ r, s.testBit r = true → r < D.1) : lsM D W w s = true ↔ QS D W w s := by
  obtain ⟨l1, l2, -⟩ := lowB_t h0 h4
  have lR := hR _ l1
  have hmor : mor (mp D W w (lowB s) s) (mg D W w) (W.2.2 w 5) D.1 = true ↔ (W.2.2 w 5).toInt < sumZ (mp D W w (lowB s) s) (vZ D W w) D.1 :=
    (mor_iff (p := mp D W w (lowB s) s) (g := mg D W w) hc D.1 (fun i hi h => ((mp_iff hi).mp h).2.2.1)).1
  have hmorb : ∀ r, mor (mpb D W w (lowB s) s r) (mg D W w) (W.2.2 w 5) D.1 = true ↔ (W.2.2 w 5).toInt < sumZ (mpb D W w (lowB s) s r) (vZ D W w) D.1 := fun r =>
    (mor_iff (p := mpb D W w (lowB s) s r) (g := mg D W w) hc D.1 (fun i hi h => by
      rw [mpb, Bool.and_eq_true] at h
      exact ((mp_iff hi).mp h.2).2.2.1)).1
  have hL : lsM D W w s = true ↔ (∀ r, s.testBit r = true → mp D W w (lowB s) s r = true ∧ ¬ (W.2.2 w 5).toInt < sumZ (mpb D W w (lowB s) s r) (vZ D W w) D.1) ∧ (W.2.2 w 5).toInt < sumZ (mp D W w (lowB s) s) (vZ D W w) D.1 := by
    rw [lsM, Bool.and_eq_true, Bool.not_eq_true', anyN_f, hmor]
    constructor
    · rintro ⟨a, b⟩
      refine ⟨fun r hr => ?_, b⟩
      have := a r (hR r hr)
      rw [lsB, hr, Bool.true_and, Bool.not_eq_false', Bool.and_eq_true, Bool.not_eq_true'] at this
      refine ⟨this.1, fun z => ?_⟩
      rw [(hmorb r).mpr z] at this
      cases this.2
    · rintro ⟨a, b⟩
      refine ⟨fun r _ => ?_, b⟩
      cases hr : s.testBit r
      · rw [lsB, hr]; rfl
      · obtain ⟨e1, e2⟩ := a r hr
        have : mor (mpb D W w (lowB s) s r) (mg D W w) (W.2.2 w 5) D.1 = false := by
          cases hz : mor (mpb D W w (lowB s) s r) (mg D W w) (W.2.2 w 5) D.1
          · rfl
          · exact absurd ((hmorb r).mp hz) e2
        rw [lsB, hr, e1, this]; rfl
  have eq1 : (∀ r, s.testBit r = true → mp D W w (lowB s) s r = true) → sumZ (mp D W w (lowB s) s) (vZ D W w) D.1 = totQ D W w s := fun h => by
    unfold totQ
    apply sumZ_congr _ _ (fun _ _ _ => rfl)
    intro i hi
    cases hb : s.testBit i
    · cases hm : mp D W w (lowB s) s i
      · rfl
      · rw [((mp_iff hi).mp hm).1] at hb; cases hb
    · exact h i hb
  have eq2 : (∀ r, s.testBit r = true → mp D W w (lowB s) s r = true) → ∀ r, s.testBit r = true → sumZ (mpb D W w (lowB s) s r) (vZ D W w) D.1 = totQ D W w s - vZ D W w r := fun h r hr => by
    rw [← eq1 h, ← sumZ_but (p := mp D W w (lowB s) s) (h r hr) D.1 (hR r hr)]
    rfl
  rw [hL]
  constructor
  · rintro ⟨a, b⟩
    have am : ∀ r, s.testBit r = true → mp D W w (lowB s) s r = true := fun r hr => (a r hr).1
    refine ⟨h0, fun r hr => ?_, fun r q hr hq => ?_, by rw [← eq1 am]; exact b, fun r hr => ?_⟩
    · have := (mp_iff (hR r hr)).mp (am r hr)
      exact ⟨this.2.1, this.2.2.1⟩
    · rw [((mp_iff (hR r hr)).mp (am r hr)).2.2.2.2, ((mp_iff (hR q hq)).mp (am q hq)).2.2.2.2]
    · have := (a r hr).2
      rw [eq2 am r hr] at this
      omega
  · rintro ⟨-, b1, b2, b3, b4⟩
    have am : ∀ r, s.testBit r = true → mp D W w (lowB s) s r = true := fun r hr => (mp_iff (hR r hr)).mpr ⟨hr, (b1 r hr).1, (b1 r hr).2, (b1 _ l1).1.2.2.1, b2 r _ hr l1⟩
    refine ⟨fun r hr => ⟨am r hr, ?_⟩, by rw [eq1 am]; exact b3⟩
    rw [eq2 am r hr]
    have := b4 r hr
    omega

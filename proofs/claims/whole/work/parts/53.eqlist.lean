-- AMONG; the lists of both sides are the same
def U5 (D : DB) (W : LB) (w S r : Nat) : Prop := r < D.1 ∧ S.testBit r = true ∧ D.2.1 r 2 = W.2.1 w 1 ∧ D.2.2.1 r (W.2.1 w 2) ≠ 0 ∧ ∀ q, q < D.1 → S.testBit q = true → D.2.1 q 2 = W.2.1 w 4 → D.2.2.1 q (W.2.1 w 3) ≠ 0 → D.2.2.2 q (W.2.1 w 3) = D.2.2.2 r (W.2.1 w 2) → False
theorem bits_0 {x : Nat} : x = 0 ↔ ∀ q, x.testBit q = false := by
  constructor
  · intro h q; rw [h, Nat.zero_testBit]
  · intro h
    apply Nat.eq_of_testBit_eq
    intro i
    rw [h i, Nat.zero_testBit]
theorem withN_0 {D : DB} {t c S : Nat} {v : Int64} : withN D t c v S = 0 ↔ ∀ q, q < D.1 → S.testBit q = true → D.2.1 q 2 = t → D.2.2.1 q c ≠ 0 → D.2.2.2 q c = v → False := by
  rw [bits_0]
  constructor
  · intro h q a b d e f
    have := h q
    rw [withN_tb, decide_eq_true a, b, d, bne_iff_ne.mpr e, f] at this
    simp at this
  · intro h q
    rw [withN_tb]
    cases hb : (decide (q < D.1) && (S.testBit q && D.2.1 q 2 == t && D.2.2.1 q c != 0 && D.2.2.2 q c == v))
    · rfl
    · simp only [Bool.and_eq_true, decide_eq_true_eq, beq_iff_eq, bne_iff_ne, ne_eq] at hb
      exact (h q hb.1 hb.2.1.1.1 hb.2.1.1.2 hb.2.1.2 hb.2.2).elim
theorem mem_unhL {D : DB} {W : LB} {w S s : Nat} : s ∈ unhL D W w S D.1 ↔ ∃ r, U5 D W w S r ∧ s = 2 ^ r := by
  rw [unhL, mem_flg]
  constructor
  · rintro (h | ⟨r, h1, h2, rfl⟩)
    · cases h
    · simp only [Bool.and_eq_true, withC_tb, decide_eq_true_eq, beq_iff_eq, bne_iff_ne, ne_eq, withN_0] at h2
      exact ⟨r, ⟨h1, h2.1.2.1.1, h2.1.2.1.2, h2.1.2.2, h2.2⟩, rfl⟩
  · rintro ⟨r, ⟨h1, h2, h3, h4, h5⟩, rfl⟩
    refine Or.inr ⟨r, h1, ?_, rfl⟩
    simp only [Bool.and_eq_true, withC_tb, decide_eq_true_eq, beq_iff_eq, bne_iff_ne, ne_eq, withN_0]
    exact ⟨⟨h1, ⟨h2, h3⟩, h4⟩, h5⟩
theorem br1_5 {D : DB} {W : LB} {w S r : Nat} (hk : W.2.1 w 0 = 5) : br1 D W w r S = true ↔ D.2.2.1 r (W.2.1 w 2) ≠ 0 ∧ ∀ q, q < D.1 → S.testBit q = true → D.2.1 q 2 = W.2.1 w 4 → D.2.2.1 q (W.2.1 w 3) ≠ 0 → D.2.2.2 q (W.2.1 w 3) = D.2.2.2 r (W.2.1 w 2) → False := by
  unfold br1
  rw [if_neg (by omega), if_neg (by omega), if_pos hk, Bool.and_eq_true, bne_iff_ne, Bool.not_eq_true', anyN_f]
  constructor
  · rintro ⟨a, b⟩
    refine ⟨a, fun q h1 h2 h3 h4 h5 => ?_⟩
    have := b q h1
    unfold helpB likeB at this
    rw [h2, h3, bne_iff_ne.mpr h4, bne_iff_ne.mpr a, h5] at this
    simp at this
  · rintro ⟨a, b⟩
    refine ⟨a, fun q h1 => ?_⟩
    cases hb : helpB D W w r S q
    · rfl
    · unfold helpB likeB at hb
      simp only [Bool.and_eq_true, beq_iff_eq, bne_iff_ne, ne_eq] at hb
      exact (b q h1 hb.1.1 hb.1.2 hb.2.1.2 hb.2.2.symm).elim
theorem B5_brL {D : DB} {W : LB} {w S : Nat} (hk : W.2.1 w 0 = 5) : brL D W w S = true ↔ ∃ r, U5 D W w S r := by
  rw [brL_iff]
  constructor
  · rintro ⟨r, h1, h2⟩
    rw [brR_one (by omega), Bool.and_eq_true, ofB_iff, br1_5 hk] at h2
    exact ⟨r, h1, h2.1.1, h2.1.2, h2.2.1, h2.2.2⟩
  · rintro ⟨r, h1, h2, h3, h4, h5⟩
    refine ⟨r, h1, ?_⟩
    rw [brR_one (by omega), Bool.and_eq_true, ofB_iff, br1_5 hk]
    exact ⟨⟨h2, h3⟩, h4, h5⟩
theorem am5_iff {D : DB} {W : LB} {K w b : Nat} (hb : subN b K) : am5 D W K w b D.1 ↔ ∃ r, U5 D W w b r := by
  have hand : ∀ x : Nat, b &&& x = 0 ↔ ∀ q, b.testBit q = true → x.testBit q = true → False := fun x => by
    rw [bits_0]
    constructor
    · intro h q h1 h2
      have := h q
      rw [Nat.testBit_and, h1, h2] at this
      cases this
    · intro h q
      rw [Nat.testBit_and]
      cases h1 : b.testBit q
      · rfl
      · cases h2 : x.testBit q
        · rfl
        · exact (h q h1 h2).elim
  unfold am5
  constructor
  · rintro ⟨r, h1, h2, h3, h4⟩
    simp only [withC_tb, Bool.and_eq_true, decide_eq_true_eq, beq_iff_eq, bne_iff_ne, ne_eq] at h2
    rw [hand] at h4
    refine ⟨r, h1, h3, h2.2.1.2, h2.2.2, fun q a1 a2 a3 a4 a5 => h4 q a2 ?_⟩
    rw [withN_tb, decide_eq_true a1, hb q a2, a3, bne_iff_ne.mpr a4, a5]
    simp
  · rintro ⟨r, h1, h2, h3, h4, h5⟩
    refine ⟨r, h1, ?_, h2, ?_⟩
    · simp only [withC_tb, Bool.and_eq_true, decide_eq_true_eq, beq_iff_eq, bne_iff_ne, ne_eq]
      exact ⟨h1, ⟨hb r h2, h3⟩, h4⟩
    · rw [hand]
      intro q a1 a2
      simp only [withN_tb, Bool.and_eq_true, decide_eq_true_eq, beq_iff_eq, bne_iff_ne, ne_eq] at a2
      exact h5 q a2.1 a1 a2.2.1.1.2 a2.2.1.2 a2.2.2
/-- a quarrel, but of AMONG -/
def QC (D : DB) (W : LB) (w s : Nat) : Prop := if W.2.1 w 0 = 0 ∨ W.2.1 w 0 = 2 then QP D W w s else if W.2.1 w 0 = 4 then QS D W w s else Q1 D W w s
theorem cQ_mem {D : DB} {W : LB} {w S s : Nat} (hc : W.2.1 w 0 = 4 → 0 ≤ (W.2.2 w 5).toInt) (h5 : W.2.1 w 0 ≠ 5) : s ∈ cQ D W w S ↔ subN s S ∧ QC D W w s := by
  unfold cQ QC
  by_cases h0 : W.2.1 w 0 = 0 ∨ W.2.1 w 0 = 2
  · rw [if_pos h0, if_pos h0]; exact A0_mem
  · rw [if_neg h0, if_neg h0]
    by_cases h4 : W.2.1 w 0 = 4
    · rw [if_pos h4, if_pos h4]; exact A4_mem (hc h4)
    · rw [if_neg h4, if_neg h4, if_neg h5]; exact A1_mem
theorem brL_QC {D : DB} {W : LB} {w S : Nat} (hc : W.2.1 w 0 = 4 → 0 ≤ (W.2.2 w 5).toInt) (h5 : W.2.1 w 0 ≠ 5) (h6 : W.2.1 w 0 < 6) : brL D W w S = true ↔ ∃ s, subN s S ∧ QC D W w s := by
  unfold QC
  by_cases h0 : W.2.1 w 0 = 0 ∨ W.2.1 w 0 = 2
  · rw [B0_brL h0]; simp only [if_pos h0]
  · by_cases h4 : W.2.1 w 0 = 4
    · rw [B4_brL h4 (hc h4)]; simp only [if_neg h0, if_pos h4]
    · rw [B1_brL (by omega)]; simp only [if_neg h0, if_neg h4]
theorem cQ_5 {D : DB} {W : LB} {w S s : Nat} (h5 : W.2.1 w 0 = 5) : s ∈ cQ D W w S ↔ ∃ r, U5 D W w S r ∧ s = 2 ^ r := by
  unfold cQ
  rw [if_neg (by omega), if_neg (by omega), if_pos h5]
  exact mem_unhL
theorem len_ne {L : List Nat} : L.length ≠ 0 ↔ ∃ s, s ∈ L := by
  cases L with
  | nil => exact ⟨fun h => absurd rfl h, fun ⟨s, h⟩ => by cases h⟩
  | cons a t => exact ⟨fun _ => ⟨a, List.mem_cons_self⟩, fun _ => by simp⟩
theorem cQ_brL {D : DB} {W : LB} {w S : Nat} (hc : W.2.1 w 0 = 4 → 0 ≤ (W.2.2 w 5).toInt) (h6 : W.2.1 w 0 < 6) : ((cQ D W w S).length != 0) = brL D W w S := by
  have key : (cQ D W w S).length ≠ 0 ↔ brL D W w S = true := by
    rw [len_ne]
    by_cases h5 : W.2.1 w 0 = 5
    · rw [B5_brL h5]
      constructor
      · rintro ⟨s, hs⟩
        obtain ⟨r, hr, -⟩ := (cQ_5 h5).mp hs
        exact ⟨r, hr⟩
      · rintro ⟨r, hr⟩
        exact ⟨2 ^ r, (cQ_5 h5).mpr ⟨r, hr, rfl⟩⟩
    · rw [brL_QC hc h5 h6]
      constructor
      · rintro ⟨s, hs⟩; exact ⟨s, (cQ_mem hc h5).mp hs⟩
      · rintro ⟨s, hs⟩; exact ⟨s, (cQ_mem hc h5).mpr hs⟩
  cases hb : brL D W w S
  · rw [bne_eq_false_iff_eq]
    apply Classical.byContradiction
    intro hn
    rw [key.mp hn] at hb
    cases hb
  · exact bne_iff_ne.mpr (key.mpr hb)
theorem fstP_congr {p p' : Nat → Bool} {n : Nat} (h : ∀ i, i < n → p i = p' i) : fstP p n = fstP p' n := by
  have key : ∀ L : List Nat, (∀ i ∈ L, p i = p' i) → L.find? p = L.find? p' := by
    intro L
    induction L with
    | nil => intro _; rfl
    | cons a t ih =>
      intro hL
      rw [List.find?_cons, List.find?_cons, hL a List.mem_cons_self, ih (fun i hi => hL i (List.mem_cons_of_mem _ hi))]
  exact key _ (fun i hi => h i (List.mem_range.mp hi))
theorem fB_cBrk {D : DB} {W : LB} (hW : LW W) (h4 : C4 W) (S : Nat) : fstP (cBrk D W S) W.1 = fstP (fB D W S) W.1 := by
  apply fstP_congr
  intro w hw
  unfold cBrk fB
  rw [cQ_brL (h4 w hw) (hW.2 w hw).1]
theorem fstP_isNone {p : Nat → Bool} {n : Nat} : (fstP p n).isNone = true ↔ ∀ i, i < n → p i = false := by
  unfold fstP
  rw [Option.isNone_iff_eq_none, List.find?_eq_none]
  constructor
  · intro h i hi
    have := h i (List.mem_range.mpr hi)
    simpa using this
  · intro h i hi
    rw [h i (List.mem_range.mp hi)]
    exact Bool.noConfusion
/-- the class's marks and the model's tests -/
theorem PBK_iff {D : DB} {W : LB} (hW : LW W) (h4 : C4 W) {K b : Nat} (hb : subN b K) : PBK D W K b ↔ ∃ w, w < W.1 ∧ fB D W b w = true := by
  constructor
  · rintro (⟨q, h1, w, h2, h3, h5, h6⟩ | ⟨w, h2, h3, h5, h6⟩)
    · refine ⟨w, h2, ?_⟩
      unfold fB
      rw [Bool.and_eq_true, bne_iff_ne]
      refine ⟨h3, (brL_QC (h4 w h2) h5 (hW.2 w h2).1).mpr ⟨q, h1, ((cQ_mem (h4 w h2) h5).mp h6).2⟩⟩
    · refine ⟨w, h2, ?_⟩
      unfold fB
      rw [Bool.and_eq_true, bne_iff_ne]
      exact ⟨h3, (B5_brL h5).mpr ((am5_iff hb).mp h6)⟩
  · rintro ⟨w, h2, h3⟩
    unfold fB at h3
    rw [Bool.and_eq_true, bne_iff_ne] at h3
    by_cases h5 : W.2.1 w 0 = 5
    · exact Or.inr ⟨w, h2, h3.1, h5, (am5_iff hb).mpr ((B5_brL h5).mp h3.2)⟩
    · obtain ⟨q, q1, q2⟩ := (brL_QC (h4 w h2) h5 (hW.2 w h2).1).mp h3.2
      exact Or.inl ⟨q, q1, w, h2, h3.1, h5, (cQ_mem (h4 w h2) h5).mpr ⟨q1.tr hb, q2⟩⟩
theorem sd_xor {K s : Nat} (h : subN s K) : sd K s = K ^^^ s := by
  apply Nat.eq_of_testBit_eq
  intro i
  rw [sd_tb, Nat.testBit_xor]
  cases hs : s.testBit i
  · cases K.testBit i <;> rfl
  · rw [h i hs]; rfl
theorem sd_subN (K s : Nat) : subN (sd K s) K := fun i hi => by
  rw [sd_tb, Bool.and_eq_true] at hi
  exact hi.1
theorem mdB_iff {D : DB} {W : LB} (hW : LW W) (h4 : C4 W) {s : Nat} : mdB D W s = true ↔ subN s (keptD D) ∧ ¬ PBK D W (keptD D) (keptD D ^^^ s) := by
  unfold mdB
  rw [Bool.and_eq_true, beq_iff_eq, sd_0, fstP_isNone]
  constructor
  · rintro ⟨a, b⟩
    refine ⟨a, fun h => ?_⟩
    rw [← sd_xor a, PBK_iff hW h4 (sd_subN _ _)] at h
    obtain ⟨w, w1, w2⟩ := h
    rw [b w w1] at w2
    cases w2
  · rintro ⟨a, b⟩
    refine ⟨a, fun w hw => ?_⟩
    rw [← sd_xor a, PBK_iff hW h4 (sd_subN _ _)] at b
    cases hb : fB D W (sd (keptD D) s) w
    · rfl
    · exact absurd ⟨w, hw, hb⟩ b
theorem kB_least {D : DB} {W : LB} (hW : LW W) (h4 : C4 W) (s : Nat) : kB D W s = leastB D W (keptD D) s := by
  have key : kB D W s = true ↔ leastB D W (keptD D) s = true := by
    rw [leastB, pb_t, kB, Bool.and_eq_true, mdB_iff hW h4, Bool.not_eq_true', anyN_f]
    constructor
    · rintro ⟨⟨a, b⟩, c⟩
      refine ⟨a, b, fun q hq hn => ?_⟩
      apply Classical.byContradiction
      intro hne
      have := c q (by have := hq.le; omega)
      rw [sd_0.mpr hq, (mdB_iff hW h4).mpr ⟨hq.tr a, hn⟩] at this
      cases this
    · rintro ⟨a, b, c⟩
      refine ⟨⟨a, b⟩, fun q hq => ?_⟩
      cases hb : (sd q s == 0 && mdB D W q)
      · rfl
      · rw [Bool.and_eq_true, mdB_iff hW h4] at hb
        have := c q (sub_of_sd hb.1) hb.2.2
        omega
  cases hb : leastB D W (keptD D) s
  · cases hk : kB D W s
    · rfl
    · rw [key.mp hk] at hb; cases hb
  · exact key.mpr hb
-- lists that rise
theorem asc_ext : ∀ (L M : List Nat), L.Pairwise (· < ·) → M.Pairwise (· < ·) → (∀ s, s ∈ L ↔ s ∈ M) → L = M := by
  intro L
  induction L with
  | nil =>
    intro M _ _ h
    cases M with
    | nil => rfl
    | cons b u => exact absurd ((h b).mpr List.mem_cons_self) (by simp)
  | cons a t ih =>
    intro M hL hM h
    cases M with
    | nil => exact absurd ((h a).mp List.mem_cons_self) (by simp)
    | cons b u =>
      rw [List.pairwise_cons] at hL hM
      have hab : a = b := by
        have h1 := (h a).mp List.mem_cons_self
        have h2 := (h b).mpr List.mem_cons_self
        rw [List.mem_cons] at h1 h2
        rcases h1 with h1 | h1
        · exact h1
        · rcases h2 with h2 | h2
          · exact h2.symm
          · have := hM.1 a h1
            have := hL.1 b h2
            omega
      subst hab
      congr 1
      refine ih u hL.2 hM.2 (fun s => ?_)
      constructor
      · intro hs
        have h1 := (h s).mp (List.mem_cons_of_mem _ hs)
        rw [List.mem_cons] at h1
        rcases h1 with h1 | h1
        · have := hL.1 s hs; omega
        · exact h1
      · intro hs
        have h1 := (h s).mpr (List.mem_cons_of_mem _ hs)
        rw [List.mem_cons] at h1
        rcases h1 with h1 | h1
        · have := hM.1 s hs; omega
        · exact h1
theorem fl_asc {p : Nat → Bool} {g : Nat → Nat} {L : List Nat} (hL : L.Pairwise (· < ·)) : ∀ n, (∀ x ∈ L, ∀ i, i < n → x < g i) → (∀ i j, i < j → j < n → g i < g j) → (fl p g n L).Pairwise (· < ·) := by
  intro n
  induction n with
  | zero => intro _ _; exact hL
  | succ n ih =>
    intro h1 h2
    have ih := ih (fun x hx i hi => h1 x hx i (by omega)) (fun i j a b => h2 i j a (by omega))
    rw [fl_s]
    by_cases c : p n = true
    · rw [if_pos c, List.pairwise_append]
      refine ⟨ih, List.pairwise_singleton _ _, fun x hx y hy => ?_⟩
      rw [List.mem_singleton.mp hy]
      rcases mem_flg.mp hx with hx | ⟨i, i1, i2, rfl⟩
      · exact h1 x hx n (by omega)
      · exact h2 i n i1 (by omega)
    · rw [if_neg c]; exact ih
theorem or_add {n o : Nat} (h : o < 2 ^ n) : 2 ^ n ||| o = 2 ^ n + o := by
  have := Nat.two_pow_add_eq_or_of_lt h 1
  rw [Nat.mul_one] at this
  exact this.symm
theorem pow_lt {i j : Nat} (h : i < j) : 2 ^ i < 2 ^ j := Nat.pow_lt_pow_right (by decide) h
theorem pairL_asc (D : DB) (W : LB) (w S : Nat) : ∀ n, (pairL D W w S n).Pairwise (· < ·) ∧ ∀ x ∈ pairL D W w S n, x < 2 ^ n := by
  intro n
  induction n with
  | zero => exact ⟨List.Pairwise.nil, fun x hx => by cases hx⟩
  | succ n ih =>
    have e : 2 ^ (n + 1) = 2 ^ n + 2 ^ n := by rw [Nat.pow_succ]; omega
    rw [pairL_s, pairI]
    refine ⟨fl_asc ih.1 n (fun x hx i hi => ?_) (fun i j h1 h2 => ?_), fun x hx => ?_⟩
    · have := ih.2 x hx
      have := Nat.two_pow_pos i
      rw [or_add (pow_lt hi)]; omega
    · rw [or_add (pow_lt (by omega)), or_add (pow_lt h2)]
      have := pow_lt h1
      omega
    · rcases mem_flg.mp hx with hx | ⟨i, i1, i2, rfl⟩
      · have := ih.2 x hx; omega
      · rw [or_add (pow_lt i1)]
        have := pow_lt i1
        omega
theorem sumQ_asc (D : DB) (W : LB) (w S : Nat) : ∀ n, (sumQ D W w S n).Pairwise (· < ·) ∧ ∀ x ∈ sumQ D W w S n, x < 2 ^ n := by
  intro n
  induction n with
  | zero => exact ⟨List.Pairwise.nil, fun x hx => by cases hx⟩
  | succ n ih =>
    have e : 2 ^ (n + 1) = 2 ^ n + 2 ^ n := by rw [Nat.pow_succ]; omega
    have hl := lowS_lt D W w S n
    rw [sumQ_s]
    by_cases c : (those4 D W w S).testBit n = true
    · rw [if_pos c, sumI]
      refine ⟨fl_asc ih.1 _ (fun x hx i hi => ?_) (fun i j h1 h2 => ?_), fun x hx => ?_⟩
      · have := ih.2 x hx
        rw [or_add (by omega)]; omega
      · rw [or_add (by omega), or_add (by omega)]; omega
      · rcases mem_flg.mp hx with hx | ⟨i, i1, i2, rfl⟩
        · have := ih.2 x hx; omega
        · rw [or_add (by omega)]; omega
    · rw [if_neg c]
      exact ⟨ih.1, fun x hx => by have := ih.2 x hx; omega⟩
theorem cQ_asc (D : DB) (W : LB) (w S : Nat) : (cQ D W w S).Pairwise (· < ·) := by
  unfold cQ
  split
  · exact (pairL_asc D W w S D.1).1
  · split
    · exact (sumQ_asc D W w S D.1).1
    · split
      · exact fl_asc List.Pairwise.nil _ (fun x hx => by cases hx) (fun i j h1 _ => pow_lt h1)
      · exact fl_asc List.Pairwise.nil _ (fun x hx => by cases hx) (fun i j h1 _ => pow_lt h1)
theorem id_asc (p : Nat → Bool) (n : Nat) : (fl p (fun s => s) n []).Pairwise (· < ·) := fl_asc List.Pairwise.nil _ (fun x hx => by cases hx) (fun i j h1 _ => h1)
theorem kL_eq {D : DB} {W : LB} (hW : LW W) (h4 : C4 W) : kL D W (2 ^ D.1) = MLs D W := by
  apply asc_ext
  · exact id_asc _ _
  · exact id_asc _ _
  · intro s
    rw [MLs_mem, kL, mem_fl, kB_least hW h4]
    constructor
    · exact fun h => h.2
    · intro h
      have h1 := (pb_t.mp h).1.le
      have := keptD_pow D
      exact ⟨by omega, h⟩
-- the model's quarrels
theorem bits1_all : ∀ a, a < 64 → ∀ b, b < 64 → (!(bitsF (64 * a + b) 12 == 1) || (List.range 12).any (fun r => 64 * a + b == 2 ^ r)) = true := by decide +kernel
theorem bits2_all : ∀ a, a < 64 → ∀ b, b < 64 → (!(bitsF (64 * a + b) 12 == 2) || (List.range 12).any (fun h => (List.range h).any (fun l => 64 * a + b == 2 ^ h ||| 2 ^ l))) = true := by decide +kernel
theorem bits1 {s : Nat} (h : s < 4096) (hb : bitsF s 12 = 1) : ∃ r, r < 12 ∧ s = 2 ^ r := by
  have := bits1_all (s / 64) (by omega) (s % 64) (by omega)
  rw [show 64 * (s / 64) + s % 64 = s by omega, hb] at this
  simp only [beq_self_eq_true, Bool.not_true, Bool.false_or, List.any_eq_true, List.mem_range, beq_iff_eq] at this
  exact this
theorem bits2 {s : Nat} (h : s < 4096) (hb : bitsF s 12 = 2) : ∃ hi, hi < 12 ∧ ∃ lo, lo < hi ∧ s = 2 ^ hi ||| 2 ^ lo := by
  have := bits2_all (s / 64) (by omega) (s % 64) (by omega)
  rw [show 64 * (s / 64) + s % 64 = s by omega, hb] at this
  simp only [beq_self_eq_true, Bool.not_true, Bool.false_or, List.any_eq_true, List.mem_range, beq_iff_eq] at this
  exact this
theorem bits1r : ∀ r, r < 12 → bitsF (2 ^ r) 12 = 1 := by decide +kernel
theorem bits2r : ∀ hi, hi < 12 → ∀ lo, lo < hi → bitsF (2 ^ hi ||| 2 ^ lo) 12 = 2 := by decide +kernel
theorem lowB_one {r : Nat} (h : r < 12) : lowB (2 ^ r) = r := by
  have h1 := pow_lt (show r < 12 from h)
  have := (lowB_t (S := 2 ^ r) (by have := Nat.two_pow_pos r; omega) (by omega)).1
  exact tb_one.mp this
theorem mqB_QC {D : DB} {W : LB} {w s : Nat} (hD : DW D) (hc : W.2.1 w 0 = 4 → 0 ≤ (W.2.2 w 5).toInt) (h5 : W.2.1 w 0 ≠ 5) (h6 : W.2.1 w 0 < 6) (hs : s < 2 ^ D.1) : mqB D W w s = true ↔ subN s (keptD D) ∧ QC D W w s := by
  have h12 := pow12 hD.1
  have hR : ∀ r, s.testBit r = true → r < D.1 := fun r hr => by
    apply Nat.lt_of_not_le
    intro hle
    rw [Nat.testBit_lt_two_pow (Nat.lt_of_lt_of_le hs (Nat.pow_le_pow_right (by decide) hle))] at hr
    cases hr
  unfold mqB QC
  rw [Bool.and_eq_true, Bool.and_eq_true, bne_iff_ne, beq_iff_eq, sd_0]
  by_cases h0 : W.2.1 w 0 = 0 ∨ W.2.1 w 0 = 2
  · rw [if_neg (by omega), if_pos h0, if_pos h0, Bool.and_eq_true, beq_iff_eq, B0_brL h0]
    constructor
    · rintro ⟨-, a, b, t, t1, hi, lo, q1, q2, q3, q4, rfl⟩
      refine ⟨a, ?_⟩
      obtain ⟨x, -, y, hxy, e⟩ := bits2 (by omega) b
      have e1 := tb_pair.mp (e ▸ t1 hi (tb_pair.mpr (Or.inl rfl)))
      have e2 := tb_pair.mp (e ▸ t1 lo (tb_pair.mpr (Or.inr rfl)))
      refine ⟨hi, lo, q1, q2, q3, q4, ?_⟩
      have : hi = x ∧ lo = y := by omega
      rw [this.1, this.2]; exact e
    · rintro ⟨a, hi, lo, q1, q2, q3, q4, rfl⟩
      have hhi : hi < 12 := Nat.lt_of_lt_of_le q2.1 hD.1
      refine ⟨fun z => ?_, a, bits2r hi hhi lo q1, _, subN.rf _, hi, lo, q1, q2, q3, q4, rfl⟩
      have := tb_pair.mpr (Or.inl rfl : hi = hi ∨ hi = lo)
      rw [z, Nat.zero_testBit] at this
      cases this
  · rw [if_neg h0, if_neg h0]
    by_cases h4 : W.2.1 w 0 = 4
    · rw [if_pos h4, if_pos h4]
      constructor
      · rintro ⟨z, a, b⟩
        exact ⟨a, (lsM_iff (hc h4) z (by omega) hR).mp b⟩
      · rintro ⟨a, b⟩
        exact ⟨b.1, a, (lsM_iff (hc h4) b.1 (by omega) hR).mpr b⟩
    · rw [if_neg h4, if_neg h4, Bool.and_eq_true, Bool.and_eq_true, beq_iff_eq, ofB_iff, br1_al (by omega)]
      constructor
      · rintro ⟨-, a, ⟨b, c1, c2⟩, d⟩
        obtain ⟨r, r1, rfl⟩ := bits1 (by omega) b
        rw [lowB_one r1] at c1 c2 d
        exact ⟨a, r, hR r c1, c2, d, rfl⟩
      · rintro ⟨a, r, r1, r2, r3, rfl⟩
        have hr : r < 12 := Nat.lt_of_lt_of_le r1 hD.1
        rw [lowB_one hr]
        exact ⟨by have := Nat.two_pow_pos r; omega, a, ⟨bits1r r hr, tb_one.mpr rfl, r2⟩, r3⟩
theorem mqB_5 {D : DB} {W : LB} {w s : Nat} (hD : DW D) (h5 : W.2.1 w 0 = 5) (hs : s < 2 ^ D.1) : mqB D W w s = true ↔ ∃ r, U5 D W w (keptD D) r ∧ s = 2 ^ r := by
  have h12 := pow12 hD.1
  have hR : ∀ r, s.testBit r = true → r < D.1 := fun r hr => by
    apply Nat.lt_of_not_le
    intro hle
    rw [Nat.testBit_lt_two_pow (Nat.lt_of_lt_of_le hs (Nat.pow_le_pow_right (by decide) hle))] at hr
    cases hr
  unfold mqB
  rw [Bool.and_eq_true, Bool.and_eq_true, bne_iff_ne, beq_iff_eq, sd_0, if_neg (by omega), if_neg (by omega), Bool.and_eq_true, Bool.and_eq_true, beq_iff_eq, ofB_iff, br1_5 h5]
  constructor
  · rintro ⟨-, a, ⟨b, c1, c2⟩, d1, d2⟩
    obtain ⟨r, r1, rfl⟩ := bits1 (by omega) b
    rw [lowB_one r1] at c1 c2 d1 d2
    exact ⟨r, ⟨hR r c1, a r c1, c2, d1, d2⟩, rfl⟩
  · rintro ⟨r, ⟨a, b, c, d1, d2⟩, rfl⟩
    have hr : r < 12 := Nat.lt_of_lt_of_le a hD.1
    rw [lowB_one hr]
    exact ⟨by have := Nat.two_pow_pos r; omega, fun i hi => by rw [tb_one.mp hi]; exact b, ⟨bits1r r hr, tb_one.mpr rfl, c⟩, d1, d2⟩
theorem mQn_eq {D : DB} {W : LB} {w : Nat} (hD : DW D) (hc : W.2.1 w 0 = 4 → 0 ≤ (W.2.2 w 5).toInt) (h6 : W.2.1 w 0 < 6) : mQn D W w (2 ^ D.1) = cQ D W w (keptD D) := by
  apply asc_ext
  · exact id_asc _ _
  · exact cQ_asc D W w _
  · intro s
    rw [mQn, mem_fl]
    by_cases h5 : W.2.1 w 0 = 5
    · rw [cQ_5 h5]
      constructor
      · exact fun h => (mqB_5 hD h5 h.1).mp h.2
      · intro h
        obtain ⟨r, hr, e⟩ := id h
        have hlt : s < 2 ^ D.1 := by rw [e]; exact pow_lt hr.1
        exact ⟨hlt, (mqB_5 hD h5 hlt).mpr h⟩
    · rw [cQ_mem hc h5]
      constructor
      · exact fun h => (mqB_QC hD hc h5 h6 h.1).mp h.2
      · intro h
        have hlt : s < 2 ^ D.1 := by have := h.1.le; have := keptD_pow D; omega
        exact ⟨hlt, (mqB_QC hD hc h5 h6 hlt).mpr h⟩

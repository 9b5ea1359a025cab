-- the walk of Mendings.find
theorem xor_sub {i r : Nat} (h : i.testBit r = true) : subN (i ^^^ 2 ^ r) i := by
  intro j hj
  by_cases e : r = j
  · subst e; exact h
  · rwa [xor_tb_ne e] at hj
theorem xor_lt {i r : Nat} (h : i.testBit r = true) : i ^^^ 2 ^ r < i := by
  have h1 := (xor_sub h).le
  have h2 : i ^^^ 2 ^ r ≠ i := by
    intro e
    have := xor_tb_self i r
    rw [e, h] at this
    cases this
  omega
def CV (D : DB) (W : LB) (K b : Nat) : Prop := ∃ q, subN q b ∧ ¬ PBK D W K (K ^^^ q)
noncomputable def leastB (D : DB) (W : LB) (K s : Nat) : Bool := pb (subN s K ∧ ¬ PBK D W K (K ^^^ s) ∧ ∀ q, subN q s → ¬ PBK D W K (K ^^^ q) → q = s)
noncomputable def ML (D : DB) (W : LB) (K n : Nat) : List Nat := fl (leastB D W K) (fun s => s) n []
theorem ML_s (D : DB) (W : LB) (K n : Nat) : ML D W K (n + 1) = if leastB D W K n = true then ML D W K n ++ [n] else ML D W K n := rfl
theorem ML_len (D : DB) (W : LB) (K n : Nat) : (ML D W K n).length ≤ n := by
  have := fl_len (leastB D W K) (fun s => s) n []
  rw [List.length_nil, Nat.zero_add] at this
  exact this
def IV4 (f : Nat → Nat → Nat) (D : DB) (W : LB) (K i : Nat) (g : Nat → Nat → Nat) : Prop :=
  Fra f g ∧ g 53 4 = K ∧ (∀ b, b ≤ K → (g 55 b ≠ 0 ↔ PBK D W K b)) ∧ (∀ b, b < i → subN b K → (g 56 b ≠ 0 ↔ CV D W K b)) ∧ g 53 3 = (ML D W K i).length ∧ ∀ j, j < (ML D W K i).length → g 54 j = (ML D W K i).getD j 0
def more (D : DB) (g : Nat → Nat → Nat) (s : Nat) : Bool := anyN (fun r => s.testBit r && g 56 (s ^^^ 2 ^ r) != 0) D.1
theorem more_iff {f g : Nat → Nat → Nat} {D : DB} {W : LB} {K i : Nat} (h : IV4 f D W K i g) (hK : K < 2 ^ D.1) (hs : subN i K) : more D g i = true ↔ ∃ q, subN q i ∧ q ≠ i ∧ ¬ PBK D W K (K ^^^ q) := by
  unfold more
  rw [anyN_t]
  constructor
  · rintro ⟨r, -, h2⟩
    simp only [Bool.and_eq_true, bne_iff_ne, ne_eq] at h2
    obtain ⟨q, e1, e2⟩ := (h.2.2.2.1 _ (xor_lt h2.1) ((xor_sub h2.1).tr hs)).mp h2.2
    refine ⟨q, e1.tr (xor_sub h2.1), ?_, e2⟩
    rintro rfl
    have := e1 r h2.1
    rw [xor_tb_self, h2.1] at this
    cases this
  · rintro ⟨q, e1, e2, e3⟩
    have : ∃ r, i.testBit r = true ∧ q.testBit r = false := by
      apply Classical.byContradiction
      intro hn
      apply e2
      apply Nat.eq_of_testBit_eq
      intro r
      cases hq : q.testBit r
      · cases hi : i.testBit r
        · rfl
        · exact absurd ⟨r, hi, hq⟩ hn
      · exact (e1 r hq).symm
    obtain ⟨r, r1, r2⟩ := this
    refine ⟨r, ?_, ?_⟩
    · apply Classical.byContradiction
      intro hr
      have : K.testBit r = false := Nat.testBit_lt_two_pow (Nat.lt_of_lt_of_le hK (Nat.pow_le_pow_right (by decide) (by omega)))
      rw [hs r r1] at this
      cases this
    · simp only [Bool.and_eq_true, bne_iff_ne, ne_eq]
      refine ⟨r1, (h.2.2.2.1 _ (xor_lt r1) ((xor_sub r1).tr hs)).mpr ⟨q, fun j hj => ?_, e3⟩⟩
      by_cases e : r = j
      · subst e; rw [r2] at hj; cases hj
      · rw [xor_tb_ne e]; exact e1 j hj
theorem IV4_skip {f g : Nat → Nat → Nat} {D : DB} {W : LB} {K i : Nat} (h : IV4 f D W K i g) (hs : ¬ subN i K) : IV4 f D W K (i + 1) g := by
  obtain ⟨h1, h2, h3, h4, h5, h6⟩ := h
  have hl : leastB D W K i = false := pb_f.mpr (fun q => hs q.1)
  have e : ML D W K (i + 1) = ML D W K i := by rw [ML_s, hl]; rfl
  refine ⟨h1, h2, h3, fun b hb hsb => h4 b ?_ hsb, by rw [e]; exact h5, by rw [e]; exact h6⟩
  by_cases c : b = i
  · subst c; exact absurd hsb hs
  · omega
theorem IV4_cov {f g : Nat → Nat → Nat} {D : DB} {W : LB} {K i v : Nat} (h : IV4 f D W K i g) (hv : v < 2) (hc : v ≠ 0 ↔ CV D W K i) (hl : leastB D W K i = false) : IV4 f D W K (i + 1) (uf g 56 i v) := by
  obtain ⟨h1, h2, h3, h4, h5, h6⟩ := h
  have e : ML D W K (i + 1) = ML D W K i := by rw [ML_s, hl]; rfl
  refine ⟨h1.put rfl (Or.inl hv), (uf_ne _ _ (Or.inl (by decide))).trans h2, fun b hb => ?_, fun b hb hsb => ?_, ?_, fun j hj => ?_⟩
  · rw [uf_ne _ _ (Or.inl (by decide))]; exact h3 b hb
  · by_cases c : b = i
    · subst c; rw [uf_self]; exact hc
    · rw [uf_ne _ _ (Or.inr c)]; exact h4 b (by omega) hsb
  · rw [e, uf_ne _ _ (Or.inl (by decide))]; exact h5
  · rw [e] at hj ⊢
    rw [uf_ne _ _ (Or.inl (by decide))]; exact h6 j hj
theorem IV4_new {f g : Nat → Nat → Nat} {D : DB} {W : LB} {K i : Nat} (h : IV4 f D W K i g) (hc : CV D W K i) (hl : leastB D W K i = true) : IV4 f D W K (i + 1) (uf (uf (uf g 56 i 1) 54 (ML D W K i).length i) 53 3 ((ML D W K i).length + 1)) := by
  obtain ⟨h1, h2, h3, h4, h5, h6⟩ := h
  have e : ML D W K (i + 1) = ML D W K i ++ [i] := by rw [ML_s, hl]; rfl
  refine ⟨((h1.put rfl (Or.inl (by decide))).put rfl (Or.inr (by decide))).put rfl (Or.inr (by decide)), ?_, fun b hb => ?_, fun b hb hsb => ?_, ?_, fun j hj => ?_⟩
  · rw [uf_ne _ _ (Or.inr (by decide)), uf_ne _ _ (Or.inl (by decide)), uf_ne _ _ (Or.inl (by decide))]; exact h2
  · rw [uf_ne _ _ (Or.inl (by decide)), uf_ne _ _ (Or.inl (by decide)), uf_ne _ _ (Or.inl (by decide))]; exact h3 b hb
  · rw [uf_ne _ _ (Or.inl (by decide)), uf_ne _ _ (Or.inl (by decide))]
    by_cases c : b = i
    · subst c
      rw [uf_self]
      exact ⟨fun _ => hc, fun _ => by decide⟩
    · rw [uf_ne _ _ (Or.inr c)]; exact h4 b (by omega) hsb
  · rw [e, uf_self, List.length_append]; rfl
  · rw [e, List.length_append] at hj
    have hj : j < (ML D W K i).length + 1 := hj
    rw [e, uf_ne _ _ (Or.inl (by decide))]
    by_cases c : j = (ML D W K i).length
    · subst c
      rw [uf_self]
      simp
    · rw [uf_ne _ _ (Or.inr c), uf_ne _ _ (Or.inl (by decide)), h6 j (by omega)]
      simp [List.getD_eq_getElem?_getD, List.getElem?_append_left (show j < (ML D W K i).length by omega)]
theorem find_t {f g : Nat → Nat → Nat} {D : DB} {W : LB} {K i : Nat} (h : IV4 f D W K i g) (hK : K < 2 ^ D.1) (hs : subN i K) (hm : more D g i = true) : CV D W K i ∧ leastB D W K i = false := by
  obtain ⟨q, e1, e2, e3⟩ := (more_iff h hK hs).mp hm
  exact ⟨⟨q, e1, e3⟩, pb_f.mpr (fun c => e2 (c.2.2 q e1 e3))⟩
theorem xorK_le {K i : Nat} (hs : subN i K) : K ^^^ i ≤ K := by
  apply Nat.le_of_testBit
  intro j hj
  rw [Nat.testBit_xor] at hj
  cases hk : K.testBit j
  · cases hi : i.testBit j
    · rw [hk, hi] at hj; cases hj
    · rw [hs j hi] at hk; cases hk
  · rfl
theorem find_f0 {f g : Nat → Nat → Nat} {D : DB} {W : LB} {K i : Nat} (h : IV4 f D W K i g) (hK : K < 2 ^ D.1) (hs : subN i K) (hm : more D g i = false) (hb : g 55 (K ^^^ i) ≠ 0) : ((0 : Nat) ≠ 0 ↔ CV D W K i) ∧ leastB D W K i = false := by
  have hB := (h.2.2.1 _ (xorK_le hs)).mp hb
  refine ⟨⟨fun q => absurd rfl q, ?_⟩, pb_f.mpr (fun c => c.2.1 hB)⟩
  rintro ⟨q, e1, e2⟩
  exfalso
  by_cases c : q = i
  · subst c; exact e2 hB
  · have := (more_iff h hK hs).mpr ⟨q, e1, c, e2⟩
    rw [hm] at this
    cases this
theorem find_f1 {f g : Nat → Nat → Nat} {D : DB} {W : LB} {K i : Nat} (h : IV4 f D W K i g) (hK : K < 2 ^ D.1) (hs : subN i K) (hm : more D g i = false) (hb : g 55 (K ^^^ i) = 0) : CV D W K i ∧ leastB D W K i = true := by
  have hB : ¬ PBK D W K (K ^^^ i) := fun q => (h.2.2.1 _ (xorK_le hs)).mpr q hb
  refine ⟨⟨i, subN.rf i, hB⟩, pb_t.mpr ⟨hs, hB, fun q e1 e2 => ?_⟩⟩
  apply Classical.byContradiction
  intro c
  have := (more_iff h hK hs).mpr ⟨q, e1, c, e2⟩
  rw [hm] at this
  cases this
theorem IV4_0 {f g : Nat → Nat → Nat} {D : DB} {W : LB} {K : Nat} (h : IV3 f D W K W.1 g) : IV4 f D W K 0 (uf g 53 3 0) := by
  obtain ⟨h1, h2, h3, h4⟩ := h
  refine ⟨h1.put rfl (Or.inr (by decide)), (uf_ne _ _ (Or.inr (by decide))).trans h2, fun b hb => ?_, fun b hb => absurd hb (by omega), uf_self _ _ _ _, fun j hj => absurd hj (Nat.not_lt_zero j)⟩
  rw [uf_ne _ _ (Or.inl (by decide))]
  exact h4 b hb
theorem keptD_pow (D : DB) : keptD D < 2 ^ D.1 := setN_lt _ _
/-- what find leaves -/
def FM (f : Nat → Nat → Nat) (D : DB) (W : LB) (g : Nat → Nat → Nat) : Prop :=
  Fra f g ∧ g 53 4 = keptD D ∧ g 53 3 = (ML D W (keptD D) (keptD D + 1)).length ∧ ∀ j, j < (ML D W (keptD D) (keptD D + 1)).length → g 54 j = (ML D W (keptD D) (keptD D + 1)).getD j 0
theorem IV4_FM {f g : Nat → Nat → Nat} {D : DB} {W : LB} (h : IV4 f D W (keptD D) (keptD D + 1) g) : FM f D W g := ⟨h.1, h.2.1, h.2.2.2.2.1, h.2.2.2.2.2⟩
theorem cQ_lt {D : DB} (h : DW D) (W : LB) (w S : Nat) : ∀ i, i < (cQ D W w S).length → (cQ D W w S).getD i 0 < 4096 := by
  have hp := pow12 h.1
  have fl_lt : ∀ (p : Nat → Bool) (g : Nat → Nat) (n : Nat) (L : List Nat), (∀ s ∈ L, s < 4096) → (∀ i, i < n → g i < 4096) → ∀ s ∈ fl p g n L, s < 4096 := by
    intro p g n L hL hg
    induction n with
    | zero => exact hL
    | succ n ih =>
      have ih := ih (fun i hi => hg i (by omega))
      rw [fl_s]
      split
      · intro s hs
        rcases List.mem_append.mp hs with hs | hs
        · exact ih s hs
        · rw [List.mem_singleton.mp hs]; exact hg n (by omega)
      · exact ih
  have pw : ∀ r, r < 12 → 2 ^ r < 2 ^ 12 := fun r hr => Nat.pow_lt_pow_right (by decide) hr
  have hall : ∀ s ∈ cQ D W w S, s < 4096 := by
    unfold cQ
    split
    · have : ∀ n, n ≤ 12 → ∀ s ∈ pairL D W w S n, s < 4096 := by
        intro n
        induction n with
        | zero => intro _ s hs; cases hs
        | succ n ih =>
          intro hn
          rw [pairL_s]
          exact fl_lt _ _ _ _ (ih (by omega)) (fun i hi => Nat.or_lt_two_pow (n := 12) (pw n (by omega)) (pw i (by omega)))
      exact this D.1 h.1
    · split
      · have : ∀ n, n ≤ 12 → ∀ s ∈ sumQ D W w S n, s < 4096 := by
          intro n
          induction n with
          | zero => intro _ s hs; cases hs
          | succ n ih =>
            intro hn
            rw [sumQ_s]
            split
            · refine fl_lt _ _ _ _ (ih (by omega)) (fun i hi => Nat.or_lt_two_pow (n := 12) (pw n (by omega)) ?_)
              have := lowS_lt D W w S n
              have := pw n (by omega)
              omega
            · exact ih (by omega)
        exact this D.1 h.1
      · split
        · exact fl_lt _ _ _ _ (fun s hs => by cases hs) (fun i hi => pw i (by have := h.1; omega))
        · exact fl_lt _ _ _ _ (fun s hs => by cases hs) (fun i hi => pw i (by have := h.1; omega))
  intro i hi
  exact hall _ (mem_getD.mpr ⟨i, hi, rfl⟩)

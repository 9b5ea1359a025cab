-- the least mendings
noncomputable def MLs (D : DB) (W : LB) : List Nat := ML D W (keptD D) (keptD D + 1)
theorem mem_fl {p : Nat → Bool} {n s : Nat} : s ∈ fl p (fun s => s) n [] ↔ s < n ∧ p s = true := by
  induction n with
  | zero => exact ⟨fun h => (by cases h), fun h => absurd h.1 (Nat.not_lt_zero _)⟩
  | succ n ih =>
    rw [fl_s]
    by_cases hp : p n = true
    · rw [if_pos hp, List.mem_append, ih, List.mem_singleton]
      constructor
      · rintro (h | rfl)
        · exact ⟨by omega, h.2⟩
        · exact ⟨by omega, hp⟩
      · rintro ⟨h1, h2⟩
        by_cases e : s = n
        · exact Or.inr e
        · exact Or.inl ⟨by omega, h2⟩
    · rw [if_neg hp, ih]
      constructor
      · rintro ⟨h1, h2⟩; exact ⟨by omega, h2⟩
      · rintro ⟨h1, h2⟩
        refine ⟨?_, h2⟩
        by_cases e : s = n
        · subst e; exact absurd h2 hp
        · omega
theorem MLs_mem {D : DB} {W : LB} {s : Nat} : s ∈ MLs D W ↔ leastB D W (keptD D) s = true := by
  unfold MLs ML
  rw [mem_fl]
  constructor
  · exact fun h => h.2
  · intro h
    have := (pb_t.mp h).1.le
    exact ⟨by omega, h⟩
theorem MLs_sub {D : DB} {W : LB} {j : Nat} (h : j < (MLs D W).length) : subN ((MLs D W).getD j 0) (keptD D) := by
  have := MLs_mem.mp (mem_getD.mpr ⟨j, h, rfl⟩)
  exact (pb_t.mp this).1
theorem MLs_lt {D : DB} (hD : DW D) {W : LB} {j : Nat} (h : j < (MLs D W).length) : (MLs D W).getD j 0 < 4096 := by
  have := (MLs_sub h).le
  have := keptD_lt hD
  omega
theorem MLs_len {D : DB} (hD : DW D) (W : LB) : (MLs D W).length ≤ 4096 := by
  have := ML_len D W (keptD D) (keptD D + 1)
  have := keptD_lt hD
  unfold MLs
  omega
theorem cQ_pos {D : DB} {W : LB} {w S : Nat} : ∀ s ∈ cQ D W w S, s ≠ 0 := by
  have fl_pos : ∀ (p : Nat → Bool) (g : Nat → Nat) (n : Nat) (L : List Nat), (∀ s ∈ L, s ≠ 0) → (∀ i, i < n → g i ≠ 0) → ∀ s ∈ fl p g n L, s ≠ 0 := by
    intro p g n L hL hg
    induction n with
    | zero => exact hL
    | succ n ih =>
      have ih := ih (fun i hi => hg i (by omega))
      rw [fl_s]
      split
      · intro s hs
        rcases List.mem_append.mp hs with hs | hs
        · exact ih s hs
        · rw [List.mem_singleton.mp hs]; exact hg n (by omega)
      · exact ih
  have pw : ∀ r, 2 ^ r ≠ 0 := fun r => Nat.pos_iff_ne_zero.mp (Nat.two_pow_pos r)
  have po : ∀ r x, 2 ^ r ||| x ≠ 0 := fun r x => by
    have h1 := Nat.left_le_or (n := 2 ^ r) (m := x)
    have h2 := Nat.two_pow_pos r
    omega
  unfold cQ
  split
  · have : ∀ n, ∀ s ∈ pairL D W w S n, s ≠ 0 := by
      intro n
      induction n with
      | zero => intro s hs; cases hs
      | succ n ih =>
        rw [pairL_s]
        exact fl_pos _ _ _ _ ih (fun i hi => po _ _)
    exact this D.1
  · split
    · have : ∀ n, ∀ s ∈ sumQ D W w S n, s ≠ 0 := by
        intro n
        induction n with
        | zero => intro s hs; cases hs
        | succ n ih =>
          rw [sumQ_s]
          split
          · exact fl_pos _ _ _ _ ih (fun i hi => po _ _)
          · exact ih
      exact this D.1
    · split
      · exact fl_pos _ _ _ _ (fun s hs => by cases hs) (fun i hi => pw i)
      · exact fl_pos _ _ _ _ (fun s hs => by cases hs) (fun i hi => pw i)
theorem PBK_0 (D : DB) (W : LB) (K : Nat) : ¬ PBK D W K 0 := by
  rintro (⟨q, h1, w, h2, h3, h4, h5⟩ | ⟨w, h2, h3, h4, r, h5, h6, h7, h8⟩)
  · have : q = 0 := Nat.le_zero.mp h1.le
    exact cQ_pos q h5 this
  · rw [Nat.zero_testBit] at h7
    cases h7
theorem MLs_pos (D : DB) (W : LB) : 0 < (MLs D W).length := by
  have key : ∀ n s, s ≤ n → subN s (keptD D) → ¬ PBK D W (keptD D) (keptD D ^^^ s) → ∃ t, leastB D W (keptD D) t = true := by
    intro n
    induction n with
    | zero =>
      intro s hs h1 h2
      refine ⟨s, pb_t.mpr ⟨h1, h2, fun q hq _ => ?_⟩⟩
      have := hq.le
      omega
    | succ n ih =>
      intro s hs h1 h2
      by_cases c : leastB D W (keptD D) s = true
      · exact ⟨s, c⟩
      · have c2 : ¬ ∀ q, subN q s → ¬ PBK D W (keptD D) (keptD D ^^^ q) → q = s := fun z => c (pb_t.mpr ⟨h1, h2, z⟩)
        have : ∃ q, subN q s ∧ ¬ PBK D W (keptD D) (keptD D ^^^ q) ∧ q ≠ s := by
          apply Classical.byContradiction
          intro hn
          apply c2
          intro q e1 e2
          apply Classical.byContradiction
          intro e3
          exact hn ⟨q, e1, e2, e3⟩
        obtain ⟨q, e1, e2, e3⟩ := this
        exact ih q (by have := e1.le; omega) (e1.tr h1) e2
  obtain ⟨t, ht⟩ := key (keptD D) (keptD D) (Nat.le_refl _) (subN.rf _) (by rw [Nat.xor_self]; exact PBK_0 D W _)
  obtain ⟨i, hi, -⟩ := mem_getD.mp (MLs_mem.mpr ht)
  omega
noncomputable def stdB (D : DB) (U : QB) (b : Nat) : Bool := pb (STD D U (keptD D) b)
/-- the least, the greatest of a row of longs -/
def pick (g : Nat) (h : Nat → Int64) (n : Nat) : Int64 := fo (fun i a => if i = 0 ∨ (if g = 0 then h i < a else a < h i) then h i else a) n 0
theorem pick_s (g : Nat) (h : Nat → Int64) (n : Nat) : pick g h (n + 1) = if n = 0 ∨ (if g = 0 then h n < pick g h n else pick g h n < h n) then h n else pick g h n := rfl
theorem pick_z {g : Nat} {h : Nat → Int64} {n : Nat} (hn : n = 0) : pick g h (n + 1) = h n := by rw [pick_s, if_pos (Or.inl hn)]
theorem pick_lk {g : Nat} {h : Nat → Int64} {n : Nat} (hn : n ≠ 0) (hg : g = 0) (c : pick g h n ≤ h n) : pick g h (n + 1) = pick g h n := by
  rw [pick_s, if_neg (by rw [if_pos hg]; exact fun x => x.elim hn (fun y => absurd c (Int64.not_le.mpr y)))]
theorem pick_ln {g : Nat} {h : Nat → Int64} {n : Nat} (hn : n ≠ 0) (hg : g = 0) (c : h n < pick g h n) : pick g h (n + 1) = h n := by
  rw [pick_s, if_pos (by rw [if_pos hg]; exact Or.inr c)]
theorem pick_mk {g : Nat} {h : Nat → Int64} {n : Nat} (hn : n ≠ 0) (hg : g ≠ 0) (c : h n ≤ pick g h n) : pick g h (n + 1) = pick g h n := by
  rw [pick_s, if_neg (by rw [if_neg hg]; exact fun x => x.elim hn (fun y => absurd c (Int64.not_le.mpr y)))]
theorem pick_mn {g : Nat} {h : Nat → Int64} {n : Nat} (hn : n ≠ 0) (hg : g ≠ 0) (c : pick g h n < h n) : pick g h (n + 1) = h n := by
  rw [pick_s, if_pos (by rw [if_neg hg]; exact Or.inr c)]
theorem breaks_cases (x : Int32) (K : Nat) : ¬ (x &&& (nI K ^^^ (-1))) = 0 ∨ ∃ S, subN S K ∧ x = nI S := by
  have hx : x = nI x.toBitVec.toNat := by
    apply i32_ext
    rw [tn]
    simp
  by_cases h : (x &&& (nI K ^^^ (-1))) = 0
  · right
    refine ⟨x.toBitVec.toNat, ?_, hx⟩
    rw [hx, n_not] at h
    apply sd_0.mp
    have h2 : (nI (sd x.toBitVec.toNat K)).toBitVec = (0 : Int32).toBitVec := by rw [h]
    rw [tn] at h2
    have h3 := congrArg BitVec.toNat h2
    have h4 := sd_le x.toBitVec.toNat K
    have h5 := x.toBitVec.isLt
    simp only [BitVec.toNat_ofNat] at h3
    rw [Nat.mod_eq_of_lt (by omega)] at h3
    exact h3
  · exact Or.inl h
theorem bN_nz {b : Bool} : bN b ≠ 0 ↔ b = true := by cases b <;> decide
theorem bN_z {b : Bool} : bN b = 0 ↔ b = false := by cases b <;> decide
theorem std_val {v : Nat} {p : Prop} (h2 : v < 2) (h : v ≠ 0 ↔ p) : v = bN (pb p) := by
  cases hb : pb p
  · have := pb_f.mp hb
    rw [bN_f]
    apply Classical.byContradiction
    intro hv
    exact this (h.mp hv)
  · have := h.mpr (pb_t.mp hb)
    rw [bN_t]
    omega
noncomputable def best (D : DB) (W : LB) : Nat := chp D (MLs D W) (MLs D W).length
theorem best_lt {D : DB} (hD : DW D) (W : LB) : best D W < 4096 := chp_lt (fun j hj => MLs_lt hD hj) _ (MLs_pos D W) (Nat.le_refl _)
noncomputable def oftN (D : DB) (W : LB) (U : QB) : Nat := cntN (fun i => stdB D U (keptD D ^^^ (MLs D W).getD i 0)) (MLs D W).length
noncomputable def agB (D : DB) (W : LB) (U : QB) (j : Nat) : Bool := !stdB D U (keptD D ^^^ (MLs D W).getD j 0)
noncomputable def agR (D : DB) (W : LB) (U : QB) : Int32 := ans9 ((fstP (agB D W U) (MLs D W).length).map (fun j => (MLs D W).getD j 0))
theorem agR_some {D : DB} {W : LB} {U : QB} {i : Nat} (hi : i < (MLs D W).length) (h : agB D W U i = true) (hb : ∀ j, j < i → agB D W U j = false) : agR D W U = nI ((MLs D W).getD i 0) := by
  unfold agR
  rw [fstP_some hi h hb]
  rfl
theorem agR_none {D : DB} {W : LB} {U : QB} (hb : ∀ j, j < (MLs D W).length → agB D W U j = false) : agR D W U = -9 := by
  unfold agR
  rw [fstP_none hb]
  rfl
theorem kx_lt {D : DB} {W : LB} {i : Nat} (h : i < (MLs D W).length) : keptD D ^^^ (MLs D W).getD i 0 < 2 ^ D.1 := by
  have := xorK_le (MLs_sub h)
  have := keptD_pow D
  omega
theorem oftN_le (D : DB) (W : LB) (U : QB) : oftN D W U ≤ (MLs D W).length := cntN_le _ _
noncomputable def sureN (D : DB) (W : LB) (U : QB) : Nat := if oftN D W U = 0 then 0 else if oftN D W U = (MLs D W).length then 2 else 1

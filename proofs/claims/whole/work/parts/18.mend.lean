-- the mendings: what the class's marks say
noncomputable def pb (p : Prop) : Bool := @decide p (Classical.propDecidable p)
theorem pb_t {p : Prop} : pb p = true ↔ p := by
  unfold pb
  exact @decide_eq_true_iff p (Classical.propDecidable p)
theorem pb_f {p : Prop} : pb p = false ↔ ¬ p := by
  unfold pb
  exact @decide_eq_false_iff_not p (Classical.propDecidable p)
def anyN (p : Nat → Bool) (n : Nat) : Bool := fo (fun i b => b || p i) n false
theorem anyN_s (p : Nat → Bool) (n : Nat) : anyN p (n + 1) = (anyN p n || p n) := rfl
theorem anyN_t {p : Nat → Bool} {n : Nat} : anyN p n = true ↔ ∃ i, i < n ∧ p i = true := by
  induction n with
  | zero => simp [anyN, fo]
  | succ n ih =>
    rw [anyN_s, Bool.or_eq_true, ih]
    constructor
    · rintro (⟨i, h1, h2⟩ | h)
      · exact ⟨i, by omega, h2⟩
      · exact ⟨n, by omega, h⟩
    · rintro ⟨i, h1, h2⟩
      by_cases e : i = n
      · exact Or.inr (e ▸ h2)
      · exact Or.inl ⟨i, by omega, h2⟩
theorem anyN_f {p : Nat → Bool} {n : Nat} : anyN p n = false ↔ ∀ i, i < n → p i = false := by
  rw [← Bool.not_eq_true, anyN_t]
  constructor
  · intro h i hi
    cases hp : p i
    · rfl
    · exact absurd ⟨i, hi, hp⟩ h
  · rintro h ⟨i, hi, hp⟩
    rw [h i hi] at hp
    cases hp
theorem sd_0 {a b : Nat} : sd a b = 0 ↔ subN a b := by
  constructor
  · intro h i hi
    have := sd_tb a b i
    rw [h, Nat.zero_testBit, hi] at this
    cases hb : b.testBit i
    · rw [hb] at this; cases this
    · rfl
  · intro h
    apply Nat.eq_of_testBit_eq
    intro i
    rw [sd_tb, Nat.zero_testBit]
    cases ha : a.testBit i
    · rfl
    · rw [h i ha]; rfl
/-- law w breaks by a quarrel in s (all but AMONG) -/
def PB1 (D : DB) (W : LB) (K w s : Nat) : Prop := ∃ w', w' < w ∧ W.2.1 w' 7 ≠ 0 ∧ W.2.1 w' 0 ≠ 5 ∧ s ∈ cQ D W w' K
def PB2 (D : DB) (W : LB) (K s : Nat) : Prop := ∃ q, subN q s ∧ PB1 D W K W.1 q
/-- an AMONG w breaks in s -/
def am5 (D : DB) (W : LB) (K w s n : Nat) : Prop := ∃ r, r < n ∧ (withC D (W.2.1 w 1) (W.2.1 w 2) K).testBit r = true ∧ s.testBit r = true ∧ s &&& withN D (W.2.1 w 4) (W.2.1 w 3) (D.2.2.2 r (W.2.1 w 2)) K = 0
def PB3 (D : DB) (W : LB) (K w s : Nat) : Prop := PB2 D W K s ∨ ∃ w', w' < w ∧ W.2.1 w' 7 ≠ 0 ∧ W.2.1 w' 0 = 5 ∧ am5 D W K w' s D.1
/-- s, left alone, is not clean: the class's way -/
def PBK (D : DB) (W : LB) (K s : Nat) : Prop := PB3 D W K W.1 s
def bwo (f : Nat → Nat → Nat) (r h n : Nat) : Nat → Nat → Nat := fun a b => if a = 55 ∧ b < n ∧ b.testBit r = true ∧ b &&& h = 0 then 1 else f a b
theorem bwo_0 (f : Nat → Nat → Nat) (r h : Nat) : bwo f r h 0 = f := by
  funext a b
  simp [bwo]
theorem bwo_old {f : Nat → Nat → Nat} {r h n a b : Nat} (c : ¬ (a = 55 ∧ b < n ∧ b.testBit r = true ∧ b &&& h = 0)) : bwo f r h n a b = f a b := if_neg c
theorem bwo_new {f : Nat → Nat → Nat} {r h n a b : Nat} (c : a = 55 ∧ b < n ∧ b.testBit r = true ∧ b &&& h = 0) : bwo f r h n a b = 1 := if_pos c
theorem bwo_ne (f : Nat → Nat → Nat) (r h n : Nat) {a b : Nat} (c : a ≠ 55) : bwo f r h n a b = f a b := bwo_old (fun q => c q.1)
theorem bwo_st {f : Nat → Nat → Nat} {r h n : Nat} (c1 : n.testBit r = true) (c2 : n &&& h = 0) : uf (bwo f r h n) 55 n 1 = bwo f r h (n + 1) := by
  funext a b
  simp only [uf]
  by_cases e : a = 55 ∧ b = n
  · rw [if_pos e]
    obtain ⟨rfl, rfl⟩ := e
    rw [bwo_new ⟨rfl, by omega, c1, c2⟩]
  · rw [if_neg e]
    by_cases c : a = 55 ∧ b < n ∧ b.testBit r = true ∧ b &&& h = 0
    · rw [bwo_new c, bwo_new ⟨c.1, by omega, c.2.2⟩]
    · rw [bwo_old c, bwo_old]
      rintro ⟨d1, d2, d3⟩
      exact c ⟨d1, by omega, d3⟩
theorem bwo_sn {f : Nat → Nat → Nat} {r h n : Nat} (c0 : ¬ (n.testBit r = true ∧ n &&& h = 0)) : bwo f r h n = bwo f r h (n + 1) := by
  funext a b
  by_cases c : a = 55 ∧ b < n ∧ b.testBit r = true ∧ b &&& h = 0
  · rw [bwo_new c, bwo_new ⟨c.1, by omega, c.2.2⟩]
  · rw [bwo_old c, bwo_old]
    rintro ⟨d1, d2, d3⟩
    by_cases e : b = n
    · rw [e] at d3; exact c0 d3
    · exact c ⟨d1, by omega, d3⟩
def bam (f : Nat → Nat → Nat) (D : DB) (W : LB) (w K n : Nat) : Nat → Nat → Nat := fo (fun r g => if (withC D (W.2.1 w 1) (W.2.1 w 2) K).testBit r = true then bwo g r (withN D (W.2.1 w 4) (W.2.1 w 3) (D.2.2.2 r (W.2.1 w 2)) K) (K + 1) else g) n f
theorem bam_s (f : Nat → Nat → Nat) (D : DB) (W : LB) (w K n : Nat) : bam f D W w K (n + 1) = if (withC D (W.2.1 w 1) (W.2.1 w 2) K).testBit n = true then bwo (bam f D W w K n) n (withN D (W.2.1 w 4) (W.2.1 w 3) (D.2.2.2 n (W.2.1 w 2)) K) (K + 1) else bam f D W w K n := rfl
theorem bam_ne (f : Nat → Nat → Nat) (D : DB) (W : LB) (w K n : Nat) {a b : Nat} (c : a ≠ 55) : bam f D W w K n a b = f a b := by
  induction n with
  | zero => rfl
  | succ n ih =>
    rw [bam_s]
    split
    · rw [bwo_ne _ _ _ _ c, ih]
    · exact ih
theorem bam_lt {f : Nat → Nat → Nat} (h : ∀ b, f 55 b < 2) (D : DB) (W : LB) (w K n b : Nat) : bam f D W w K n 55 b < 2 := by
  induction n with
  | zero => exact h b
  | succ n ih =>
    rw [bam_s]
    split
    · simp only [bwo]
      split
      · decide
      · exact ih
    · exact ih
theorem bam_iff {f : Nat → Nat → Nat} {D : DB} {W : LB} {w K b : Nat} (hb : b ≤ K) (n : Nat) : bam f D W w K n 55 b ≠ 0 ↔ f 55 b ≠ 0 ∨ am5 D W K w b n := by
  induction n with
  | zero =>
    constructor
    · exact fun h => Or.inl h
    · rintro (h | ⟨r, hr, -⟩)
      · exact h
      · omega
  | succ n ih =>
    rw [bam_s]
    constructor
    · intro h
      split at h
      · next ht =>
        by_cases c : (55 : Nat) = 55 ∧ b < K + 1 ∧ b.testBit n = true ∧ b &&& withN D (W.2.1 w 4) (W.2.1 w 3) (D.2.2.2 n (W.2.1 w 2)) K = 0
        · exact Or.inr ⟨n, by omega, ht, c.2.2.1, c.2.2.2⟩
        · rw [bwo_old c] at h
          rcases ih.mp h with h | ⟨r, h1, h2⟩
          · exact Or.inl h
          · exact Or.inr ⟨r, by omega, h2⟩
      · rcases ih.mp h with h | ⟨r, h1, h2⟩
        · exact Or.inl h
        · exact Or.inr ⟨r, by omega, h2⟩
    · intro h
      by_cases c : (withC D (W.2.1 w 1) (W.2.1 w 2) K).testBit n = true ∧ b.testBit n = true ∧ b &&& withN D (W.2.1 w 4) (W.2.1 w 3) (D.2.2.2 n (W.2.1 w 2)) K = 0
      · rw [if_pos c.1, bwo_new ⟨rfl, by omega, c.2⟩]
        decide
      · have h0 : bam f D W w K n 55 b ≠ 0 := by
          rw [ih]
          rcases h with h | ⟨r, h1, h2, h3⟩
          · exact Or.inl h
          · refine Or.inr ⟨r, ?_, h2, h3⟩
            by_cases e : r = n
            · rw [e] at h2 h3; exact absurd ⟨h2, h3⟩ c
            · omega
        split
        · next ht =>
          rw [bwo_old (fun q => c ⟨ht, q.2.2⟩)]
          exact h0
        · exact h0
theorem Fra.bam {f g : Nat → Nat → Nat} (h : Fra f g) (D : DB) (W : LB) (w K n : Nat) : Fra f (bam g D W w K n) := by
  refine h.tr ⟨fun k j e => ?_, fun q b => ⟨?_, ?_, ?_⟩⟩
  · apply bam_ne
    rintro rfl
    simp [scr] at e
  · exact bam_lt (fun b => (q b).1) _ _ _ _ _ _
  · rw [bam_ne _ _ _ _ _ _ (by decide)]; exact (q b).2.1
  · rw [bam_ne _ _ _ _ _ _ (by decide)]; exact (q b).2.2
-- the first loop of findBroken
def IV1 (f : Nat → Nat → Nat) (D : DB) (W : LB) (K w : Nat) (g : Nat → Nat → Nat) : Prop :=
  Fra f g ∧ g 53 4 = K ∧ (∀ b, g 55 b < 2) ∧ ∀ b, b < 2 ^ D.1 → (g 55 b ≠ 0 ↔ PB1 D W K w b)
def mkL (g : Nat → Nat → Nat) (L : List Nat) (n : Nat) : Nat → Nat → Nat := fun a b => if a = 55 ∧ ∃ i, i < n ∧ i < L.length ∧ L.getD i 0 = b then 1 else g a b
theorem mkL_0 (g : Nat → Nat → Nat) (L : List Nat) : mkL g L 0 = g := by
  funext a b
  simp [mkL]
theorem mkL_ne (g : Nat → Nat → Nat) (L : List Nat) (n : Nat) {a b : Nat} (h : a ≠ 55) : mkL g L n a b = g a b := by
  simp only [mkL]
  rw [if_neg (fun q => h q.1)]
theorem mkL_s {g : Nat → Nat → Nat} {L : List Nat} {n : Nat} (h : n < L.length) : uf (mkL g L n) 55 (L.getD n 0) 1 = mkL g L (n + 1) := by
  funext a b
  simp only [uf, mkL]
  by_cases e : a = 55 ∧ b = L.getD n 0
  · rw [if_pos e, if_pos ⟨e.1, n, by omega, h, e.2.symm⟩]
  · rw [if_neg e]
    by_cases c : a = 55 ∧ ∃ i, i < n ∧ i < L.length ∧ L.getD i 0 = b
    · obtain ⟨c1, i, c2, c3, c4⟩ := c
      rw [if_pos ⟨c1, i, c2, c3, c4⟩, if_pos ⟨c1, i, by omega, c3, c4⟩]
    · rw [if_neg c, if_neg]
      rintro ⟨c1, i, c2, c3, c4⟩
      by_cases hi : i = n
      · subst hi; exact e ⟨c1, c4.symm⟩
      · exact c ⟨c1, i, by omega, c3, c4⟩
theorem mem_getD {L : List Nat} {s : Nat} : s ∈ L ↔ ∃ i, i < L.length ∧ L.getD i 0 = s := by
  rw [List.mem_iff_getElem]
  constructor
  · rintro ⟨i, hi, rfl⟩
    exact ⟨i, hi, by simp [List.getD_eq_getElem?_getD, hi]⟩
  · rintro ⟨i, hi, rfl⟩
    exact ⟨i, hi, by simp [List.getD_eq_getElem?_getD, hi]⟩
theorem IV1_skip {f g : Nat → Nat → Nat} {D : DB} {W : LB} {K w : Nat} (h : IV1 f D W K w g) (c : W.2.1 w 7 = 0 ∨ W.2.1 w 0 = 5) : IV1 f D W K (w + 1) g := by
  obtain ⟨h1, h2, h3, h4⟩ := h
  refine ⟨h1, h2, h3, fun b hb => (h4 b hb).trans ⟨?_, ?_⟩⟩
  · rintro ⟨w', e1, e2⟩; exact ⟨w', by omega, e2⟩
  · rintro ⟨w', e1, e2, e3, e4⟩
    refine ⟨w', ?_, e2, e3, e4⟩
    by_cases e : w' = w
    · subst e
      rcases c with c | c
      · exact absurd c e2
      · exact absurd c e3
    · omega
theorem IV1_mk {f g : Nat → Nat → Nat} {D : DB} {W : LB} {K w : Nat} (h : IV1 f D W K w g) (c7 : W.2.1 w 7 ≠ 0) (c5 : W.2.1 w 0 ≠ 5) : IV1 f D W K (w + 1) (mkL (wrL g (cQ D W w K)) (cQ D W w K) (cQ D W w K).length) := by
  obtain ⟨h1, h2, h3, h4⟩ := h
  have key : ∀ b, mkL (wrL g (cQ D W w K)) (cQ D W w K) (cQ D W w K).length 55 b = if b ∈ cQ D W w K then 1 else g 55 b := by
    intro b
    simp only [mkL]
    by_cases c : b ∈ cQ D W w K
    · rw [if_pos c, if_pos]
      obtain ⟨i, hi, e⟩ := mem_getD.mp c
      exact ⟨trivial, i, hi, hi, e⟩
    · rw [if_neg c, if_neg, wrL_ne _ _ (by decide) (Or.inl (by decide))]
      rintro ⟨-, i, -, hi, e⟩
      exact c (mem_getD.mpr ⟨i, hi, e⟩)
  refine ⟨h1.tr ((Fra.wrL g (cQ D W w K)).tr ⟨fun k j e => ?_, fun q b => ⟨?_, ?_, ?_⟩⟩), ?_, fun b => ?_, fun b hb => ?_⟩
  · apply mkL_ne
    rintro rfl
    simp [scr] at e
  · simp only [mkL]
    split
    · decide
    · exact (q b).1
  · rw [mkL_ne _ _ _ (by decide)]; exact (q b).2.1
  · rw [mkL_ne _ _ _ (by decide)]; exact (q b).2.2
  · rw [mkL_ne _ _ _ (by decide), wrL_ne _ _ (by decide) (Or.inl (by decide))]; exact h2
  · rw [key]
    split
    · decide
    · exact h3 b
  · rw [key]
    constructor
    · intro hn
      split at hn
      · next hm => exact ⟨w, by omega, c7, c5, hm⟩
      · obtain ⟨w', e1, e2⟩ := (h4 b hb).mp hn
        exact ⟨w', by omega, e2⟩
    · rintro ⟨w', e1, e2, e3, e4⟩
      split
      · decide
      · next hm =>
        refine (h4 b hb).mpr ⟨w', ?_, e2, e3, e4⟩
        by_cases e : w' = w
        · subst e; exact absurd e4 hm
        · omega
theorem IV1_0 {f : Nat → Nat → Nat} {D : DB} {W : LB} {K : Nat} (hS : SB f) (hK : f 53 4 = K) : IV1 f D W K 0 (unm f 55 (2 ^ D.1)) := by
  have hlt : ∀ b, unm f 55 (2 ^ D.1) 55 b < 2 := by
    intro b
    simp only [unm]
    split
    · decide
    · exact (hS b).1
  have hne : ∀ a b, a ≠ 55 → unm f 55 (2 ^ D.1) a b = f a b := fun a b h => if_neg (fun q => h q.1)
  refine ⟨⟨fun k j e => ?_, fun q b => ⟨hlt b, ?_, ?_⟩⟩, (hne 53 4 (by decide)).trans hK, hlt, fun b hb => ?_⟩
  · apply hne
    rintro rfl
    simp [scr] at e
  · rw [hne _ _ (by decide)]; exact (q b).2.1
  · rw [hne _ _ (by decide)]; exact (q b).2.2
  · constructor
    · intro h
      simp only [unm] at h
      rw [if_pos ⟨trivial, hb⟩] at h
      exact absurd rfl h
    · rintro ⟨w', e1, -⟩; omega
def IV3 (f : Nat → Nat → Nat) (D : DB) (W : LB) (K w : Nat) (g : Nat → Nat → Nat) : Prop :=
  Fra f g ∧ g 53 4 = K ∧ (∀ b, g 55 b < 2) ∧ ∀ b, b ≤ K → (g 55 b ≠ 0 ↔ PB3 D W K w b)
theorem IV3_0 {f g : Nat → Nat → Nat} {D : DB} {W : LB} {K : Nat} (h : IV1 f D W K W.1 g) (hK : K < 2 ^ D.1) : IV3 f D W K 0 (mwR g 55 D.1 D.1) := by
  obtain ⟨h1, h2, h3, h4⟩ := h
  have hne : ∀ a b, a ≠ 55 → mwR g 55 D.1 D.1 a b = g a b := fun a b h => mwR_ne g h
  refine ⟨h1.tr ⟨fun k j e => ?_, fun q b => ⟨mwR_lt h3 _ _ b, ?_, ?_⟩⟩, (hne 53 4 (by decide)).trans h2, mwR_lt h3 _ _, fun b hb => ?_⟩
  · apply hne
    rintro rfl
    simp [scr] at e
  · rw [hne _ _ (by decide)]; exact (q b).2.1
  · rw [hne _ _ (by decide)]; exact (q b).2.2
  · rw [mwR_all (by omega)]
    constructor
    · rintro ⟨q, e1, e2⟩
      have : q < 2 ^ D.1 := by have := e1.le; omega
      exact Or.inl ⟨q, e1, (h4 q this).mp e2⟩
    · rintro (⟨q, e1, e2⟩ | ⟨w', e1, -⟩)
      · have : q < 2 ^ D.1 := by have := e1.le; omega
        exact ⟨q, e1, (h4 q this).mpr e2⟩
      · omega
theorem IV3_skip {f g : Nat → Nat → Nat} {D : DB} {W : LB} {K w : Nat} (h : IV3 f D W K w g) (c : W.2.1 w 7 = 0 ∨ W.2.1 w 0 ≠ 5) : IV3 f D W K (w + 1) g := by
  obtain ⟨h1, h2, h3, h4⟩ := h
  refine ⟨h1, h2, h3, fun b hb => (h4 b hb).trans ⟨?_, ?_⟩⟩
  · rintro (h | ⟨w', e1, e2⟩)
    · exact Or.inl h
    · exact Or.inr ⟨w', by omega, e2⟩
  · rintro (h | ⟨w', e1, e2, e3, e4⟩)
    · exact Or.inl h
    · refine Or.inr ⟨w', ?_, e2, e3, e4⟩
      by_cases e : w' = w
      · subst e
        rcases c with c | c
        · exact absurd c e2
        · exact absurd e3 c
      · omega
theorem IV3_mk {f g : Nat → Nat → Nat} {D : DB} {W : LB} {K w : Nat} (h : IV3 f D W K w g) (c7 : W.2.1 w 7 ≠ 0) (c5 : W.2.1 w 0 = 5) : IV3 f D W K (w + 1) (bam g D W w K D.1) := by
  obtain ⟨h1, h2, h3, h4⟩ := h
  refine ⟨h1.bam _ _ _ _ _, (bam_ne _ _ _ _ _ _ (by decide)).trans h2, fun b => bam_lt h3 _ _ _ _ _ b, fun b hb => ?_⟩
  rw [bam_iff hb, h4 b hb]
  constructor
  · rintro ((h | ⟨w', e1, e2⟩) | h)
    · exact Or.inl h
    · exact Or.inr ⟨w', by omega, e2⟩
    · exact Or.inr ⟨w, by omega, c7, c5, h⟩
  · rintro (h | ⟨w', e1, e2, e3, e4⟩)
    · exact Or.inl (Or.inl h)
    · by_cases e : w' = w
      · subst e; exact Or.inr e4
      · exact Or.inl (Or.inr ⟨w', by omega, e2, e3, e4⟩)

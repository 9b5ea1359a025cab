-- settling all the groups: what it makes of the numbers (pure)
def grpD (D : DB) (t x th r : Nat) : Nat := withN D t x (D.2.2.2 r x) th
def newV (D : DB) (t x y th r : Nat) : Int64 := (mtP D t y (grpD D t x th r) D.1).2
def sall (D : DB) (t x y th : Nat) (l : Nat → Nat → Int64) (n : Nat) : Nat → Nat → Int64 := fo (fun r h => if th.testBit r = true then sgl h (grpD D t x th r) y (newV D t x y th r) D.1 else h) n l
theorem sall_s (D : DB) (t x y th : Nat) (l : Nat → Nat → Int64) (n : Nat) : sall D t x y th l (n + 1) = if th.testBit n = true then sgl (sall D t x y th l n) (grpD D t x th n) y (newV D t x y th n) D.1 else sall D t x y th l n := rfl
/-- the rows that settling sees: of the table, and with a number in x and in y -/
def TH (D : DB) (t x y th : Nat) : Prop := ∀ r, th.testBit r = true → r < D.1 ∧ D.2.1 r 2 = t ∧ D.2.2.1 r x ≠ 0 ∧ D.2.2.1 r y ≠ 0
theorem withC_tb (D : DB) (t c S r : Nat) : (withC D t c S).testBit r = (decide (r < D.1) && (S.testBit r && D.2.1 r 2 == t && D.2.2.1 r c != 0)) := setN_tb _ _ _
theorem withN_tb (D : DB) (t c : Nat) (v : Int64) (S r : Nat) : (withN D t c v S).testBit r = (decide (r < D.1) && (S.testBit r && D.2.1 r 2 == t && D.2.2.1 r c != 0 && D.2.2.2 r c == v)) := setN_tb _ _ _
theorem TH_mk (D : DB) (t x y S : Nat) : TH D t x y (withC D t x S &&& withC D t y S) := by
  intro r h
  rw [Nat.testBit_and, withC_tb, withC_tb] at h
  simp at h
  exact ⟨h.1.1, h.1.2.1.2, h.1.2.2, h.2.2.2⟩
theorem grpD_tb {D : DB} {t x y th : Nat} (h : TH D t x y th) (r q : Nat) : (grpD D t x th r).testBit q = true ↔ th.testBit q = true ∧ D.2.2.2 q x = D.2.2.2 r x := by
  rw [grpD, withN_tb]
  simp only [Bool.and_eq_true, decide_eq_true_eq, beq_iff_eq, bne_iff_ne]
  constructor
  · rintro ⟨-, ⟨⟨h1, -⟩, -⟩, h2⟩
    exact ⟨h1, h2⟩
  · rintro ⟨h1, h2⟩
    obtain ⟨a, b, c, -⟩ := h q h1
    exact ⟨a, ⟨⟨h1, b⟩, c⟩, h2⟩
theorem grpD_eq {D : DB} {t x th r q : Nat} (h : D.2.2.2 q x = D.2.2.2 r x) : grpD D t x th q = grpD D t x th r := by rw [grpD, grpD, h]
theorem newV_eq {D : DB} {t x y th r q : Nat} (h : D.2.2.2 q x = D.2.2.2 r x) : newV D t x y th q = newV D t x y th r := by rw [newV, newV, grpD_eq h]
theorem grpD_lt {D : DB} (h : DW D) (t x th r : Nat) : grpD D t x th r < 4096 := withN_lt h _ _ _ _
/-- seen: a row of the group stood before n -/
def seenD (D : DB) (x th n q : Nat) : Prop := ∃ r, r < n ∧ th.testBit r = true ∧ D.2.2.2 q x = D.2.2.2 r x
theorem sall_ne {D : DB} {t x y th : Nat} (hT : TH D t x y th) (l : Nat → Nat → Int64) (n : Nat) {a b : Nat} (h : b ≠ y ∨ ∀ r, th.testBit r = true → a ≠ 5 + 3 * r) : sall D t x y th l n a b = l a b := by
  induction n with
  | zero => rfl
  | succ n ih =>
    rw [sall_s]
    split
    · rw [sgl_ne, ih]
      exact h.imp id (fun h r _ hr => h r ((grpD_tb hT n r).mp hr).1)
    · exact ih
theorem sall_at {D : DB} {t x y th : Nat} (hT : TH D t x y th) (l : Nat → Nat → Int64) {q : Nat} (hq : th.testBit q = true) : ∀ n, (seenD D x th n q → sall D t x y th l n (5 + 3 * q) y = newV D t x y th q) ∧ (¬ seenD D x th n q → sall D t x y th l n (5 + 3 * q) y = l (5 + 3 * q) y) := by
  intro n
  induction n with
  | zero => exact ⟨fun ⟨r, h, _⟩ => absurd h (Nat.not_lt_zero _), fun _ => rfl⟩
  | succ n ih =>
    rw [sall_s]
    by_cases hn : th.testBit n = true
    · rw [if_pos hn]
      by_cases e : D.2.2.2 q x = D.2.2.2 n x
      · have hg := (grpD_tb hT n q).mpr ⟨hq, e⟩
        refine ⟨fun _ => ?_, fun h => absurd ⟨n, Nat.lt_succ_self n, hn, e⟩ h⟩
        rw [sgl_at _ _ _ _ hg _ (hT q hq).1, newV_eq e]
      · have hs : seenD D x th (n + 1) q ↔ seenD D x th n q := by
          constructor
          · rintro ⟨r, h1, h2, h3⟩
            refine ⟨r, Nat.lt_of_le_of_ne (Nat.le_of_lt_succ h1) (fun e1 => e (by rw [h3, e1])), h2, h3⟩
          · rintro ⟨r, h1, h2⟩
            exact ⟨r, Nat.lt_succ_of_lt h1, h2⟩
        have hz : sgl (sall D t x y th l n) (grpD D t x th n) y (newV D t x y th n) D.1 (5 + 3 * q) y = sall D t x y th l n (5 + 3 * q) y := by
          apply sgl_ne
          refine Or.inr (fun r _ hr hh => ?_)
          have : q = r := by omega
          subst this
          exact e ((grpD_tb hT n q).mp hr).2
        rw [hz, hs]
        exact ih
    · rw [if_neg hn]
      have hs : seenD D x th (n + 1) q ↔ seenD D x th n q := by
        constructor
        · rintro ⟨r, h1, h2, h3⟩
          refine ⟨r, Nat.lt_of_le_of_ne (Nat.le_of_lt_succ h1) (fun e1 => hn (by rw [← e1]; exact h2)), h2, h3⟩
        · rintro ⟨r, h1, h2⟩
          exact ⟨r, Nat.lt_succ_of_lt h1, h2⟩
      rw [hs]
      exact ih
theorem seen_0 (D : DB) (x th q : Nat) : ¬ seenD D x th 0 q := fun ⟨_, h, _⟩ => absurd h (Nat.not_lt_zero _)
theorem setN_congr {p p' : Nat → Bool} (n : Nat) (h : ∀ i, i < n → p i = p' i) : setN p n = setN p' n := fo_congr (fun i hi z => by rw [h i hi]) _
theorem cntN_congr {p p' : Nat → Bool} (n : Nat) (h : ∀ i, i < n → p i = p' i) : cntN p n = cntN p' n := fo_congr (fun i hi z => by rw [h i hi]) _
/-- the numbers do not tell withN but in its column -/
theorem withN_setD {D : DB} {w : Nat → Nat → Int64} {t c : Nat} {v : Int64} {S : Nat} (h : ∀ r, r < D.1 → S.testBit r = true → w r c = D.2.2.2 r c) : withN (setD D w) t c v S = withN D t c v S := by
  apply setN_congr
  intro i hi
  show (S.testBit i && D.2.1 i 2 == t && D.2.2.1 i c != 0 && w i c == v) = _
  cases hs : S.testBit i
  · rfl
  · rw [h i hi hs]
theorem trustD_setD (D : DB) (w : Nat → Nat → Int64) (S : Nat) : trustD (setD D w) S = trustD D S := rfl
/-- the most trusted, where the numbers of the group are those of D -/
theorem mtP_setD {D : DB} {w : Nat → Nat → Int64} {t y g : Nat} (h : ∀ r, g.testBit r = true → w r y = D.2.2.2 r y) (n : Nat) : mtP (setD D w) t y g n = mtP D t y g n := by
  refine fo_congr (fun i hi z => ?_) _
  by_cases hg : g.testBit i = true
  · show (if g.testBit i = true ∧ (z.1 < trustD D (withN (setD D w) t y (w i y) g) ∨ (trustD D (withN (setD D w) t y (w i y) g) = z.1 ∧ w i y < z.2)) then (trustD D (withN (setD D w) t y (w i y) g), w i y) else z) = _
    rw [h i hg, withN_setD (fun r _ hr => h r hr)]
  · rw [if_neg (fun x => hg x.1), if_neg (fun x => hg x.1)]
theorem sumN_ge {p : Nat → Bool} {g : Nat → Nat} : ∀ n i, i < n → p i = true → g i ≤ sumN p g n := by
  intro n
  induction n with
  | zero => intro i h; omega
  | succ n ih =>
    intro i h hp
    rw [sumN_s]
    by_cases e : i = n
    · subst e
      rw [if_pos hp]; omega
    · have := ih i (by omega) hp
      split <;> omega
/-- the most trusted of numbers that are all one -/
theorem mtP_one {D : DB} (hD : DW D) {t y g : Nat} {v : Int64} (h : ∀ r, g.testBit r = true → r < D.1 ∧ D.2.1 r 2 = t ∧ D.2.2.1 r y ≠ 0 ∧ D.2.2.2 r y = v) : ∀ n, (∃ r, r < n ∧ g.testBit r = true) → (mtP D t y g n).2 = v := by
  have hp : ∀ r, g.testBit r = true → 1 ≤ trustD D (withN D t y v g) := by
    intro r hr
    obtain ⟨h1, h2, h3, h4⟩ := h r hr
    have hm : (withN D t y v g).testBit r = true := by
      rw [withN_tb]
      simp only [Bool.and_eq_true, decide_eq_true_eq, beq_iff_eq, bne_iff_ne]
      exact ⟨h1, ⟨⟨hr, h2⟩, h3⟩, h4⟩
    exact Nat.le_trans (hD.2.2.2 r h1).2.1 (sumN_ge (p := fun r => (withN D t y v g).testBit r) (g := fun r => D.2.1 r 3) D.1 r h1 hm)
  have key : ∀ n, ((∀ r, r < n → g.testBit r = false) ∧ mtP D t y g n = (0, 0)) ∨ (mtP D t y g n).2 = v := by
    intro n
    induction n with
    | zero => exact Or.inl ⟨fun r hr => absurd hr (Nat.not_lt_zero _), rfl⟩
    | succ n ih =>
      rw [mtP_s]
      cases hg : g.testBit n
      · rw [if_neg (by simp)]
        rcases ih with ⟨a, b⟩ | a
        · exact Or.inl ⟨fun r hr => by
            by_cases e : r = n
            · rw [e]; exact hg
            · exact a r (by omega), b⟩
        · exact Or.inr a
      · right
        have hv := (h n hg).2.2.2
        split
        · exact hv
        · next c =>
          rcases ih with ⟨a, b⟩ | a
          · exfalso
            apply c
            rw [b, hv]
            exact ⟨rfl, Or.inl (hp n hg)⟩
          · exact a
  intro n ⟨r, hr, hg⟩
  rcases key n with ⟨a, -⟩ | a
  · rw [a r hr] at hg; exact Bool.noConfusion hg
  · exact a

theorem seen_succ {D : DB} {x th n q : Nat} (hn : th.testBit n = true) : seenD D x th (n + 1) q ↔ seenD D x th n q ∨ D.2.2.2 q x = D.2.2.2 n x := by
  constructor
  · rintro ⟨r, h1, h2, h3⟩
    by_cases e : r = n
    · subst e; exact Or.inr h3
    · exact Or.inl ⟨r, by omega, h2, h3⟩
  · rintro (⟨r, h1, h2⟩ | h)
    · exact ⟨r, by omega, h2⟩
    · exact ⟨n, by omega, hn, h⟩
theorem seen_skip {D : DB} {x th n q : Nat} (hn : th.testBit n = false) : seenD D x th (n + 1) q ↔ seenD D x th n q := by
  constructor
  · rintro ⟨r, h1, h2, h3⟩
    by_cases e : r = n
    · subst e; rw [hn] at h2; exact Bool.noConfusion h2
    · exact ⟨r, by omega, h2, h3⟩
  · rintro ⟨r, h1, h2⟩
    exact ⟨r, by omega, h2⟩
/-- the value of a group at its turn -/
theorem turn_v {f : Nat → Nat → Nat} {l : Nat → Nat → Int64} {D : DB} (hV : RV f l D) (hD : DW D) {t x y th n : Nat} (hT : TH D t x y th) (hn : th.testBit n = true) :
    (mtP (setD D (fun r c => sall D t x y th l n (5 + 3 * r) c)) t y (grpD D t x th n) D.1).2 = newV D t x y th n := by
  have h12 := hD.1
  by_cases hs : seenD D x th n n
  · obtain ⟨q, q1, q2, q3⟩ := hs
    refine mtP_one (D := setD D (fun r c => sall D t x y th l n (5 + 3 * r) c)) (setD_W hD _) (fun r hr => ?_) D.1 ⟨n, (hT n hn).1, (grpD_tb hT n n).mpr ⟨hn, rfl⟩⟩
    obtain ⟨r1, r2⟩ := (grpD_tb hT n r).mp hr
    obtain ⟨a1, a2, a3, a4⟩ := hT r r1
    refine ⟨a1, a2, a4, ?_⟩
    show sall D t x y th l n (5 + 3 * r) y = _
    rw [(sall_at hT l r1 n).1 ⟨q, q1, q2, r2.trans q3⟩, newV_eq r2]
  · rw [mtP_setD (fun r hr => ?_)]
    · rfl
    · obtain ⟨r1, r2⟩ := (grpD_tb hT n r).mp hr
      have h1 := (hT r r1).1
      show sall D t x y th l n (5 + 3 * r) y = _
      rw [(sall_at hT l r1 n).2 (fun ⟨q, q1, q2, q3⟩ => hs ⟨q, q1, q2, r2.symm.trans q3⟩)]
      exact hV.2.2.2 r (by omega) y
/-- how many numbers are changed by the turns before n -/
noncomputable def cS (D : DB) (t x y th n : Nat) : Nat := cntN (fun q => th.testBit q && pb (seenD D x th n q) && D.2.2.2 q y != newV D t x y th q) D.1
def cSall (D : DB) (t x y th : Nat) : Nat := cntN (fun q => th.testBit q && D.2.2.2 q y != newV D t x y th q) D.1
theorem cntN_add {p q r : Nat → Bool} : ∀ n, (∀ i, i < n → bN (p i) = bN (q i) + bN (r i)) → cntN p n = cntN q n + cntN r n := by
  intro n
  induction n with
  | zero => intro _; rfl
  | succ n ih =>
    intro h
    rw [cntN_s, cntN_s, cntN_s, ih (fun i hi => h i (by omega)), h n (Nat.lt_succ_self n)]
    omega
theorem cS_0 (D : DB) (t x y th : Nat) : cS D t x y th 0 = 0 := by
  have h : ∀ n, cntN (fun q => th.testBit q && pb (seenD D x th 0 q) && D.2.2.2 q y != newV D t x y th q) n = 0 := by
    intro n
    induction n with
    | zero => rfl
    | succ n ih =>
      rw [cntN_s, ih, pb_f.mpr (seen_0 D x th n)]
      simp [bN]
  exact h D.1
theorem pb_iff {p q : Prop} (h : p ↔ q) : pb p = pb q := by rw [propext h]
theorem cS_skip {D : DB} {t x y th n : Nat} (hn : th.testBit n = false) : cS D t x y th (n + 1) = cS D t x y th n := by
  apply cntN_congr
  intro i _
  rw [pb_iff (seen_skip hn)]
theorem cS_step {f : Nat → Nat → Nat} {l : Nat → Nat → Int64} {D : DB} (hV : RV f l D) (hD : DW D) {t x y th n : Nat} (hT : TH D t x y th) (hn : th.testBit n = true) :
    cS D t x y th (n + 1) = cS D t x y th n + cntN (fun r => (grpD D t x th n).testBit r && sall D t x y th l n (5 + 3 * r) y != newV D t x y th n) D.1 := by
  have h12 := hD.1
  refine cntN_add D.1 (fun q hq => ?_)
  cases ht : th.testBit q
  · have hg : (grpD D t x th n).testBit q = false := by
      cases h : (grpD D t x th n).testBit q
      · rfl
      · have := ((grpD_tb hT n q).mp h).1
        rw [ht] at this; exact Bool.noConfusion this
    rw [hg]
    simp [bN]
  · by_cases e : D.2.2.2 q x = D.2.2.2 n x
    · have hg := (grpD_tb hT n q).mpr ⟨ht, e⟩
      rw [hg, pb_t.mpr ((seen_succ hn).mpr (Or.inr e)), newV_eq e]
      by_cases hs : seenD D x th n q
      · rw [pb_t.mpr hs, (sall_at hT l ht n).1 hs, newV_eq e]
        simp [bN]
      · rw [pb_f.mpr hs, (sall_at hT l ht n).2 hs, hV.2.2.2 q (by omega) y]
        simp [bN]
    · have hg : (grpD D t x th n).testBit q = false := by
        cases h : (grpD D t x th n).testBit q
        · rfl
        · exact absurd ((grpD_tb hT n q).mp h).2 e
      rw [hg, pb_iff ((seen_succ hn).trans (or_iff_left e))]
      simp [bN]
theorem cS_all {D : DB} {t x y th : Nat} (hT : TH D t x y th) : cS D t x y th D.1 = cSall D t x y th := by
  apply cntN_congr
  intro q hq
  cases ht : th.testBit q
  · rfl
  · rw [pb_t.mpr ⟨q, hq, ht, rfl⟩]
    rfl
/-- the calls at a turn -/
theorem s_wnS {G : GG} {f : Nat → Nat → Nat} {l : Nat → Nat → Int64} {D : DB} (hV : RV f l D) (hD : DW D) {t x y th n : Nat} (hT : TH D t x y th) (ht : t < 4) (hx : x < 6) (hxy : x ≠ y) (hth : th < 4096) :
    Spec G mX7_withNumber [.ref (ad G 2), .int (nI t), .int (nI x), .long (D.2.2.2 n x), .int (nI th)] 114 (f, sall D t x y th l n, refT) (some (.int (nI (grpD D t x th n)))) 114 (f, sall D t x y th l n, refT) := by
  have h := s_withNumber (G := G) (setD_RV (l1 := sall D t x y th l n) (w := fun r c => sall D t x y th l n (5 + 3 * r) c) hV (fun _ _ _ => rfl)) (setD_W hD _) (t := t) (c := x) (v := D.2.2.2 n x) ht hx hth
  have h12 := hD.1
  rw [withN_setD (fun r hr _ => (sall_ne hT l n (Or.inl hxy)).trans (hV.2.2.2 r (by omega) x))] at h
  exact h
theorem s_sgS {G : GG} {f : Nat → Nat → Nat} {l : Nat → Nat → Int64} {D : DB} (hV : RV f l D) (hD : DW D) {t x y th n : Nat} (hT : TH D t x y th) (ht : t < 4) (hy : y < 6) (hn : th.testBit n = true) :
    Spec G mX7_settleGroup [.ref (ad G 2), .int (nI t), .int (nI y), .int (nI (grpD D t x th n))] 114 (f, sall D t x y th l n, refT) (some (.int (nI (cntN (fun r => (grpD D t x th n).testBit r && sall D t x y th l n (5 + 3 * r) y != newV D t x y th n) D.1)))) 114 (f, sall D t x y th l (n + 1), refT) := by
  have h := s_settleGroup (G := G) (setD_RV (l1 := sall D t x y th l n) (w := fun r c => sall D t x y th l n (5 + 3 * r) c) hV (fun _ _ _ => rfl)) (setD_W hD _) (t := t) (y := y) ht hy (grpD_lt hD t x th n)
  have e : (mtP (setD D (fun r c => sall D t x y th l n (5 + 3 * r) c)) t y (grpD D t x th n) (setD D (fun r c => sall D t x y th l n (5 + 3 * r) c)).1).2 = newV D t x y th n := turn_v hV hD hT hn
  rw [e] at h
  rw [sall_s, if_pos hn]
  exact h
def thD (D : DB) (t x y : Nat) : Nat := withC D t x (keptD D) &&& withC D t y (keptD D)
theorem thD_lt {D : DB} (h : DW D) (t x y : Nat) : thD D t x y < 4096 := Nat.lt_of_le_of_lt Nat.and_le_left (withC_lt h _ _ _)
theorem thD_TH (D : DB) (t x y : Nat) : TH D t x y (thD D t x y) := TH_mk D t x y _
noncomputable def cT (D : DB) (t x y th : Nat) : Nat → Nat
  | 0 => 0
  | n + 1 => cS D t x y th (n + 1)
theorem cT_S (D : DB) (t x y th n : Nat) : cT D t x y th n = cS D t x y th n := by
  cases n with
  | zero => exact (cS_0 D t x y th).symm
  | succ n => rfl
theorem cT_le {D : DB} (t x y th n : Nat) : cT D t x y th n ≤ D.1 := by
  rw [cT_S]; exact cntN_le _ _

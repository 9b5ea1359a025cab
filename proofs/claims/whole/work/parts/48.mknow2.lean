-- the model's mendings (pure): the marks, the list, the worlds of know
def mdB (D : DB) (W : LB) (s : Nat) : Bool := sd s (keptD D) == 0 && (fstP (fB D W (sd (keptD D) s)) W.1).isNone
def kB (D : DB) (W : LB) (i : Nat) : Bool := mdB D W i && !anyN (fun q => sd q i == 0 && mdB D W q) i
def kb (D : DB) (W : LB) (i p : Nat) : Bool := mdB D W i && !anyN (fun q => decide (p < q) && (sd q i == 0 && mdB D W q)) i
def kL (D : DB) (W : LB) (n : Nat) : List Nat := fl (kB D W) (fun s => s) n []
theorem kL_t {D : DB} {W : LB} {n : Nat} (h : kB D W n = true) : kL D W (n + 1) = kL D W n ++ [n] := if_pos h
theorem kL_f {D : DB} {W : LB} {n : Nat} (h : kB D W n = false) : kL D W (n + 1) = kL D W n := if_neg (by rw [h]; exact Bool.noConfusion)
theorem kL_len (D : DB) (W : LB) (n : Nat) : (kL D W n).length ≤ n := by
  have := fl_len (kB D W) (fun s => s) n []
  rw [List.length_nil, Nat.zero_add] at this
  exact this
def pmk (p s : Nat) : Nat := (p - 1) &&& s
theorem pmk_eq {p s : Nat} (h : p ≠ 0 ∨ s = 0) : (nI p - nI 1) &&& nI s = nI (pmk p s) := by
  by_cases h0 : p = 0
  · have hs : s = 0 := by omega
    subst h0 hs
    decide
  · rw [pk_sub (by omega), n_and]
    rfl
theorem pmk_sub (p s : Nat) : subN (pmk p s) s := by
  intro i hi
  rw [pmk, Nat.testBit_and, Bool.and_eq_true] at hi
  exact hi.2
theorem pmk_lt {p s : Nat} (h : p ≠ 0) : pmk p s < p := Nat.lt_of_le_of_lt Nat.and_le_left (by omega)
theorem sub_of_sd {a b : Nat} (h : (sd a b == 0) = true) : subN a b := sd_0.mp (by simpa using h)
theorem kb_start {D : DB} {W : LB} {i : Nat} : kb D W i (pmk i i) = mdB D W i := by
  rw [kb, anyN_f.mpr, Bool.not_false, Bool.and_true]
  intro q hq
  cases hc : (decide (pmk i i < q) && (sd q i == 0 && mdB D W q))
  · rfl
  · simp only [Bool.and_eq_true, decide_eq_true_eq] at hc
    have := submask_next i i q (subN.rf _) (sub_of_sd hc.2.1) hq
    have h2 := hc.1
    unfold pmk at h2
    omega
theorem kb_i0 (D : DB) (W : LB) (p : Nat) : kb D W 0 p = kB D W 0 := rfl
theorem kb_false {D : DB} {W : LB} {i p : Nat} (h : kb D W i p = false) : kB D W i = false := by
  cases hk : kB D W i
  · rfl
  · rw [kB, Bool.and_eq_true, Bool.not_eq_true'] at hk
    rw [kb, hk.1, Bool.true_and, Bool.not_eq_false'] at h
    obtain ⟨q, h1, h2⟩ := anyN_t.mp h
    rw [Bool.and_eq_true] at h2
    rw [anyN_f.mp hk.2 q h1] at h2
    exact Bool.noConfusion h2.2
theorem kb_step {D : DB} {W : LB} {i p : Nat} (hp : subN p i) (hpi : p < i) (h0 : p ≠ 0) (h : kb D W i p = true) : kb D W i (pmk p i) = !mdB D W p := by
  rw [kb, Bool.and_eq_true, Bool.not_eq_true'] at h
  rw [kb, h.1, Bool.true_and]
  congr 1
  have hlt := pmk_lt (s := i) h0
  cases hm : mdB D W p
  · rw [anyN_f]
    intro q hq
    cases hc : (decide (pmk p i < q) && (sd q i == 0 && mdB D W q))
    · rfl
    · have hc2 := hc
      simp only [Bool.and_eq_true, decide_eq_true_eq] at hc2
      rcases Nat.lt_trichotomy q p with e | e | e
      · have := submask_next i p q hp (sub_of_sd hc2.2.1) e
        have h2 := hc2.1
        unfold pmk at h2
        omega
      · subst e
        rw [hm] at hc2
        exact Bool.noConfusion hc2.2.2
      · have := anyN_f.mp h.2 q hq
        rw [hc2.2.1, hc2.2.2, decide_eq_true e] at this
        exact Bool.noConfusion this
  · rw [anyN_t]
    refine ⟨p, hpi, ?_⟩
    rw [decide_eq_true hlt, hm, sd_0.mpr hp]
    rfl
theorem kb_zero {D : DB} {W : LB} {i : Nat} (hpi : 0 < i) (h : kb D W i 0 = true) : kB D W i = !mdB D W 0 := by
  rw [kb, Bool.and_eq_true, Bool.not_eq_true'] at h
  rw [kB, h.1, Bool.true_and]
  congr 1
  have h00 : subN 0 i := fun j hj => by rw [Nat.zero_testBit] at hj; exact Bool.noConfusion hj
  cases hm : mdB D W 0
  · rw [anyN_f]
    intro q hq
    cases hc : (sd q i == 0 && mdB D W q)
    · rfl
    · by_cases e : q = 0
      · subst e
        rw [hm, Bool.and_false] at hc
        exact Bool.noConfusion hc
      · have := anyN_f.mp h.2 q hq
        rw [hc, decide_eq_true (by omega : 0 < q)] at this
        exact Bool.noConfusion this
  · rw [anyN_t]
    refine ⟨0, hpi, ?_⟩
    rw [hm, sd_0.mpr h00]
    rfl
/-- the worlds of know: marks below i, the list of those below m -/
def wrK (f : Nat → Nat → Nat) (D : DB) (W : LB) (i m : Nat) : Nat → Nat → Nat := fun k j =>
  if k = 110 ∧ j < i then bN (mdB D W j) else if k = 109 ∧ j < (kL D W m).length then (kL D W m).getD j 0 else if k = 86 ∧ j = 29 then (kL D W m).length else if k = 86 ∧ j = 28 then 1 else f k j
theorem wrK_ne (f : Nat → Nat → Nat) (D : DB) (W : LB) (i m : Nat) {k j : Nat} (h1 : k ≠ 110) (h2 : k ≠ 109) (h3 : k ≠ 86 ∨ (j ≠ 28 ∧ j ≠ 29)) : wrK f D W i m k j = f k j := by
  simp only [wrK]
  rw [if_neg (fun h => h1 h.1), if_neg (fun h => h2 h.1), if_neg (by omega), if_neg (by omega)]
theorem wrK_mk {f : Nat → Nat → Nat} {D : DB} {W : LB} {i m j : Nat} (h : j < i) : wrK f D W i m 110 j = bN (mdB D W j) := if_pos ⟨rfl, h⟩
theorem wrK_len (f : Nat → Nat → Nat) (D : DB) (W : LB) (i m : Nat) : wrK f D W i m 86 29 = (kL D W m).length := rfl
theorem wrK_28 (f : Nat → Nat → Nat) (D : DB) (W : LB) (i m : Nat) : wrK f D W i m 86 28 = 1 := rfl
theorem wrK_at {f : Nat → Nat → Nat} {D : DB} {W : LB} {i m j : Nat} (h : j < (kL D W m).length) : wrK f D W i m 109 j = (kL D W m).getD j 0 := by
  unfold wrK
  rw [if_neg (by omega), if_pos ⟨rfl, h⟩]
theorem wrK_0 (f : Nat → Nat → Nat) (D : DB) (W : LB) : uf (uf f 86 28 1) 86 29 0 = wrK f D W 0 0 := by
  funext k j
  have h0 : kL D W 0 = [] := rfl
  have h1 : ¬ (k = 109 ∧ j < (kL D W 0).length) := by rw [h0]; exact fun z => absurd z.2 (Nat.not_lt_zero _)
  have h2 : ¬ (k = 110 ∧ j < 0) := fun z => absurd z.2 (Nat.not_lt_zero _)
  unfold uf wrK
  by_cases h : k = 86 ∧ j = 29
  · rw [if_pos h, if_neg h2, if_neg h1, if_pos h, h0]; rfl
  · rw [if_neg h, if_neg h2, if_neg h1, if_neg h]
theorem wrK_i (f : Nat → Nat → Nat) (D : DB) (W : LB) (i m : Nat) : uf (wrK f D W i m) 110 i (bN (mdB D W i)) = wrK f D W (i + 1) m := by
  funext k j
  simp only [uf, wrK]
  by_cases h : k = 110 ∧ j = i
  · obtain ⟨rfl, rfl⟩ := h
    rw [if_pos ⟨rfl, rfl⟩, if_pos ⟨rfl, by omega⟩]
  · rw [if_neg h]
    by_cases h2 : k = 110 ∧ j < i
    · rw [if_pos h2, if_pos ⟨h2.1, by omega⟩]
    · rw [if_neg h2, if_neg (show ¬ (k = 110 ∧ j < i + 1) by omega)]
theorem wrK_t {f : Nat → Nat → Nat} {D : DB} {W : LB} {i m : Nat} (h : kB D W m = true) : uf (uf (wrK f D W i m) 109 (kL D W m).length m) 86 29 ((kL D W m).length + 1) = wrK f D W i (m + 1) := by
  funext k j
  rw [wrK, kL_t h]
  simp only [uf, wrK, List.length_append, List.length_cons, List.length_nil]
  by_cases h1 : k = 86 ∧ j = 29
  · rw [if_pos h1, if_neg (by omega), if_neg (by omega), if_pos h1]
  · rw [if_neg h1]
    by_cases h2 : k = 109 ∧ j = (kL D W m).length
    · obtain ⟨rfl, rfl⟩ := h2
      rw [if_pos ⟨rfl, rfl⟩, if_neg (by omega), if_pos ⟨rfl, by omega⟩]
      simp
    · rw [if_neg h2]
      by_cases h4 : k = 110 ∧ j < i
      · rw [if_pos h4, if_pos h4]
      · rw [if_neg h4, if_neg h4]
        by_cases h3 : k = 109 ∧ j < (kL D W m).length
        · rw [if_pos h3, if_pos (by omega)]
          simp [List.getD_eq_getElem?_getD, List.getElem?_append_left h3.2]
        · have e9 : ¬ (k = 109 ∧ j < (kL D W m).length + (0 + 1)) := by omega
          rw [if_neg h3, if_neg e9, if_neg h1, if_neg h1]
theorem wrK_f {f : Nat → Nat → Nat} {D : DB} {W : LB} {i m : Nat} (h : kB D W m = false) : wrK f D W i m = wrK f D W i (m + 1) := by
  funext k j
  simp only [wrK, kL_f h]
theorem MV.wrK {f : Nat → Nat → Nat} {l : Nat → Nat → Int64} {D : DB} {W : LB} {U : QB} {T : TB} {N : Nat} (h : MV f l D W U T N) (i m : Nat) : MV (wrK f D W i m) l D W U T N :=
  h.of (fun k j h1 h2 h3 => wrK_ne f D W i m (by omega) (by omega) (by omega))
theorem CF.wrK (f : Nat → Nat → Nat) (l : Nat → Nat → Int64) (D : DB) (W : LB) (i m : Nat) : CF f l (wrK f D W i m) l := fun k hk => ⟨fun j => wrK_ne f D W i m (by omega) (by omega) (by omega), fun _ => rfl⟩
/-- the model's memory of its mendings -/
def KN (f : Nat → Nat → Nat) (D : DB) (W : LB) : Prop := f 86 28 < 2 ∧ (f 86 28 ≠ 0 → f 86 29 = (MLs D W).length ∧ ∀ j, j < (MLs D W).length → f 109 j = (MLs D W).getD j 0)
/-- what know leaves -/
def KD (f : Nat → Nat → Nat) (D : DB) (W : LB) (g : Nat → Nat → Nat) : Prop := g 86 28 = 1 ∧ g 86 29 = (MLs D W).length ∧ (∀ j, j < (MLs D W).length → g 109 j = (MLs D W).getD j 0) ∧ ∀ k j, k < 109 → (k ≠ 86 ∨ (j ≠ 28 ∧ j ≠ 29)) → g k j = f k j
theorem KD.of {f : Nat → Nat → Nat} {D : DB} {W : LB} (h : KN f D W) (h0 : f 86 28 ≠ 0) : KD f D W f := ⟨by have := h.1; omega, (h.2 h0).1, (h.2 h0).2, fun _ _ _ _ => rfl⟩
theorem KD.new (f : Nat → Nat → Nat) {D : DB} {W : LB} (hE : kL D W (2 ^ D.1) = MLs D W) (i : Nat) : KD f D W (wrK f D W i (2 ^ D.1)) := ⟨rfl, by rw [wrK_len, hE], fun j hj => by rw [wrK_at (by rw [hE]; exact hj), hE], fun k j h1 h3 => wrK_ne f D W i _ (by omega) (by omega) h3⟩
theorem MV.KD {f g : Nat → Nat → Nat} {l : Nat → Nat → Int64} {D : DB} {W : LB} {U : QB} {T : TB} {N : Nat} (h : MV f l D W U T N) (hg : KD f D W g) : MV g l D W U T N :=
  h.of (fun k j h1 h2 h3 => hg.2.2.2 k j (by omega) (by omega))
theorem CF.KD {f g : Nat → Nat → Nat} {D : DB} {W : LB} (l : Nat → Nat → Int64) (hg : KD f D W g) : CF f l g l := fun k hk => ⟨fun j => hg.2.2.2 k j (by omega) (by omega), fun _ => rfl⟩
theorem KN.KD {f g : Nat → Nat → Nat} {D : DB} {W : LB} (hg : KD f D W g) : KN g D W := ⟨by have := hg.1; omega, fun _ => ⟨hg.2.1, hg.2.2.1⟩⟩
theorem fb_none {D : DB} {W : LB} {S : Nat} (hW : W.1 ≤ 10) : (ans9 (fstP (fB D W S) W.1)).toInt = -9 ↔ (fstP (fB D W S) W.1).isNone = true := by
  cases hq : fstP (fB D W S) W.1 with
  | none => exact ⟨fun _ => rfl, fun _ => rfl⟩
  | some q =>
    have hlt : q < W.1 := by
      unfold fstP at hq
      exact List.mem_range.mp (List.mem_of_find?_eq_some hq)
    have hz : (ans9 (some q)).toInt = (q : Int) := zN (by omega)
    rw [hz]
    exact ⟨fun h => by omega, fun h => by cases h⟩

-- worlds of the model's standsIn and settle (pure)
def wrR (g : Nat → Nat → Nat) (R w p : Nat) : Nat → Nat → Nat := fun k j => if k = 113 ∧ j < p then dgM R w j else g k j
theorem wrR_0 (g : Nat → Nat → Nat) (R w : Nat) : g = wrR g R w 0 := by
  funext k j
  unfold wrR
  rw [if_neg (fun z => absurd z.2 (Nat.not_lt_zero _))]
theorem wrR_at {g : Nat → Nat → Nat} {R w p j : Nat} (h : j < p) : wrR g R w p 113 j = dgM R w j := if_pos ⟨rfl, h⟩
theorem wrR_ne (g : Nat → Nat → Nat) (R w p : Nat) {k j : Nat} (h : k ≠ 113) : wrR g R w p k j = g k j := if_neg (fun z => h z.1)
theorem wrR_s (g : Nat → Nat → Nat) (R w p : Nat) : uf (wrR g R w p) 113 p (dgM R w p) = wrR g R w (p + 1) := by
  funext k j
  unfold uf wrR
  by_cases h : k = 113 ∧ j = p
  · rw [if_pos h, if_pos ⟨h.1, by omega⟩, h.2]
  · rw [if_neg h]
    by_cases h2 : k = 113 ∧ j < p
    · rw [if_pos h2, if_pos ⟨h2.1, by omega⟩]
    · rw [if_neg h2, if_neg (show ¬ (k = 113 ∧ j < p + 1) by omega)]
theorem wrR_ex (g : Nat → Nat → Nat) (R w p : Nat) : Ex 113 g (wrR g R w p) := fun _ _ h => wrR_ne g R w p h
theorem pw_s (w R p : Nat) : w / R ^ p / R = w / R ^ (p + 1) := by rw [Nat.div_div_eq_div_mul, Nat.pow_succ]
theorem nx_0 (p : Nat → Bool) : bN (!anyN p 0) = 1 := rfl
theorem nx_a {p : Nat → Bool} {n : Nat} (h : bN (!anyN p n) = 0) : bN (!anyN p (n + 1)) = 0 := by
  have := bN_z.mp h
  rw [Bool.not_eq_false'] at this
  rw [anyN_s, this]; rfl
theorem nx_b {p : Nat → Bool} {n : Nat} (h : p n = true) : bN (!anyN p (n + 1)) = 0 := by rw [anyN_s, h, Bool.or_true]; rfl
theorem nx_1 {p : Nat → Bool} {n : Nat} (h : bN (!anyN p n) ≠ 0) (hp : p n = false) : bN (!anyN p (n + 1)) = 1 := by
  have := bN_nz.mp h
  rw [Bool.not_eq_true'] at this
  rw [anyN_s, this, hp]; rfl
def stJ (D : DB) (U : QB) (S w j : Nat) : Bool := !anyN (fun p => !fitB D U p (dgM D.1 w p) S) U.1 && !anyN (fun j => !joinB D U (dgM D.1 w) j) j
theorem stJ_0 (D : DB) (U : QB) (S w : Nat) : stJ D U S w 0 = !anyN (fun p => !fitB D U p (dgM D.1 w p) S) U.1 := by
  unfold stJ
  rw [show anyN (fun j => !joinB D U (dgM D.1 w) j) 0 = false from rfl, Bool.not_false, Bool.and_true]
theorem stJ_s {D : DB} {U : QB} {S w j : Nat} (h : stJ D U S w j = true) : stJ D U S w (j + 1) = likeB D (dgM D.1 w (U.2.2.2.2.2 j 0)) (U.2.2.2.2.2 j 1) (dgM D.1 w (U.2.2.2.2.2 j 2)) (U.2.2.2.2.2 j 3) := by
  unfold stJ at h ⊢
  rw [Bool.and_eq_true, Bool.not_eq_true'] at h
  rw [h.1, Bool.not_false, Bool.true_and, anyN_s]
  have h2 := h.2
  rw [Bool.not_eq_true'] at h2
  rw [h2, Bool.false_or, Bool.not_not]
  rfl
theorem stJ_f {D : DB} {U : QB} {S w j : Nat} (h : stJ D U S w j = false) (hj : j ≤ U.2.2.2.2.1) : stmB D U S w = false := by
  cases hs : stmB D U S w
  · rfl
  · have hs2 : (!anyN (fun p => !fitB D U p (dgM D.1 w p) S) U.1 && !anyN (fun j => !joinB D U (dgM D.1 w) j) U.2.2.2.2.1) = true := hs
    rw [Bool.and_eq_true, Bool.not_eq_true', Bool.not_eq_true'] at hs2
    unfold stJ at h
    rw [hs2.1, show anyN (fun j => !joinB D U (dgM D.1 w) j) j = false from anyN_f.mpr (fun i hi => anyN_f.mp hs2.2 i (by omega))] at h
    cases h
theorem KD.ex {f g h : Nat → Nat → Nat} {D : DB} {W : LB} (a : KD f D W g) (e : Ex 113 g h) : KD f D W h :=
  ⟨(e _ _ (by decide)).trans a.1, (e _ _ (by decide)).trans a.2.1, fun j hj => (e _ _ (by decide)).trans (a.2.2.1 j hj), fun k j h1 h2 => (e k j (by omega)).trans (a.2.2.2 k j h1 h2)⟩
theorem MV.ex {f g : Nat → Nat → Nat} {l : Nat → Nat → Int64} {D : DB} {W : LB} {U : QB} {T : TB} {N : Nat} (h : MV f l D W U T N) (e : Ex 113 f g) : MV g l D W U T N := h.of (fun k j h1 h2 h3 => e k j (by omega))
theorem CF.ex {f g : Nat → Nat → Nat} (l : Nat → Nat → Int64) (e : Ex 113 f g) : CF f l g l := fun k hk => ⟨fun j => e k j (by omega), fun _ => rfl⟩
theorem KN.ex {f g : Nat → Nat → Nat} {D : DB} {W : LB} (h : KN f D W) (e : Ex 113 f g) : KN g D W := by
  refine ⟨?_, fun h0 => ?_⟩
  · rw [e 86 28 (by decide)]; exact h.1
  · rw [e 86 28 (by decide)] at h0
    obtain ⟨a, b⟩ := h.2 h0
    exact ⟨(e 86 29 (by decide)).trans a, fun j hj => (e 109 j (by decide)).trans (b j hj)⟩
-- settle
def becV (D : DB) (t x y r : Nat) : Int64 := if (thD D t x y).testBit r = true then newV D t x y (thD D t x y) r else D.2.2.2 r y
theorem becV_t {D : DB} {t x y r : Nat} (h : (thD D t x y).testBit r = true) : becV D t x y r = newV D t x y (thD D t x y) r := if_pos h
theorem becV_f {D : DB} {t x y r : Nat} (h : (thD D t x y).testBit r = false) : becV D t x y r = D.2.2.2 r y := if_neg (by rw [h]; exact Bool.noConfusion)
def bcW (l : Nat → Nat → Int64) (D : DB) (t x y n : Nat) : Nat → Nat → Int64 := fun k j => if k = 112 ∧ j < n then becV D t x y j else l k j
theorem bcW_0 (l : Nat → Nat → Int64) (D : DB) (t x y : Nat) : l = bcW l D t x y 0 := by
  funext k j
  unfold bcW
  rw [if_neg (fun z => absurd z.2 (Nat.not_lt_zero _))]
theorem bcW_at {l : Nat → Nat → Int64} {D : DB} {t x y n j : Nat} (h : j < n) : bcW l D t x y n 112 j = becV D t x y j := if_pos ⟨rfl, h⟩
theorem bcW_ne (l : Nat → Nat → Int64) (D : DB) (t x y n : Nat) {k j : Nat} (h : k ≠ 112) : bcW l D t x y n k j = l k j := if_neg (fun z => h z.1)
theorem bcW_s (l : Nat → Nat → Int64) (D : DB) (t x y n : Nat) : uf (bcW l D t x y n) 112 n (becV D t x y n) = bcW l D t x y (n + 1) := by
  funext k j
  unfold uf bcW
  by_cases h : k = 112 ∧ j = n
  · rw [if_pos h, if_pos ⟨h.1, by omega⟩, h.2]
  · rw [if_neg h]
    by_cases h2 : k = 112 ∧ j < n
    · rw [if_pos h2, if_pos ⟨h2.1, by omega⟩]
    · rw [if_neg h2, if_neg (show ¬ (k = 112 ∧ j < n + 1) by omega)]
def stW (l : Nat → Nat → Int64) (D : DB) (t x y n : Nat) : Nat → Nat → Int64 := fun k j => if k = 93 ∧ j % 6 = y ∧ j / 6 < n then becV D t x y (j / 6) else l k j
theorem stW_0 (l : Nat → Nat → Int64) (D : DB) (t x y : Nat) : l = stW l D t x y 0 := by
  funext k j
  unfold stW
  rw [if_neg (fun z => absurd z.2.2 (Nat.not_lt_zero _))]
theorem stW_ne (l : Nat → Nat → Int64) (D : DB) (t x y n : Nat) {k j : Nat} (h : k ≠ 93 ∨ j % 6 ≠ y ∨ n ≤ j / 6) : stW l D t x y n k j = l k j := if_neg (by omega)
theorem stW_at {l : Nat → Nat → Int64} {D : DB} {t x y n r : Nat} (hy : y < 6) (h : r < n) : stW l D t x y n 93 (6 * r + y) = becV D t x y r := by
  have e : (6 * r + y) / 6 = r := by omega
  unfold stW
  rw [if_pos ⟨rfl, by omega, by omega⟩, e]
theorem stW_s (l : Nat → Nat → Int64) (D : DB) (t x y n : Nat) (hy : y < 6) : uf (stW l D t x y n) 93 (6 * n + y) (becV D t x y n) = stW l D t x y (n + 1) := by
  funext k j
  unfold uf stW
  by_cases h : k = 93 ∧ j = 6 * n + y
  · have e : j / 6 = n := by omega
    rw [if_pos h, if_pos ⟨h.1, by omega, by omega⟩, e]
  · rw [if_neg h]
    by_cases h2 : k = 93 ∧ j % 6 = y ∧ j / 6 < n
    · rw [if_pos h2, if_pos ⟨h2.1, h2.2.1, by omega⟩]
    · rw [if_neg h2, if_neg (show ¬ (k = 93 ∧ j % 6 = y ∧ j / 6 < n + 1) by omega)]
/-- the rows settled -/
def setlD (D : DB) (t x y : Nat) : DB := setD D (fun r c => if c = y ∧ r < D.1 then becV D t x y r else D.2.2.2 r c)
theorem MV.stl {f : Nat → Nat → Nat} {l m : Nat → Nat → Int64} {D D2 : DB} {W : LB} {U : QB} {T : TB} {N : Nat} (h : MV f l D W U T N) (e : ∀ k j, k ≠ 93 → k ≠ 112 → m k j = l k j) (h1 : D2.1 = D.1) (h2 : D2.2.1 = D.2.1) (h3 : D2.2.2.1 = D.2.2.1) (hn : ∀ r, r < 12 → ∀ c, c < 6 → m 93 (6 * r + c) = D2.2.2.2 r c) : MV f m D2 W U T N := by
  obtain ⟨a1, a2, a3, a4, a5, a6, a7, a8, a9, b1, b2, b3, b4, b5, b6, b7, b8, b9, c1, c2, c3, c4, c5, c6, c7, c8, c9⟩ := h
  exact ⟨by rw [h1]; exact a1, by rw [h2]; exact a2, by rw [h2]; exact a3, by rw [h2]; exact a4, by rw [h3]; exact a5, hn, a7, a8, a9, b1, b2, b3, fun r hr k => (e _ _ (by decide) (by decide)).trans (b4 r hr k), fun r hr k => (e _ _ (by decide) (by decide)).trans (b5 r hr k), b6, b7, b8, b9, c1, fun r hr c hc => (e _ _ (by decide) (by decide)).trans (c2 r hr c hc), c3, c4, c5, c6, c7, c8, c9⟩
theorem MV.bcW {f : Nat → Nat → Nat} {l : Nat → Nat → Int64} {D : DB} {W : LB} {U : QB} {T : TB} {N : Nat} (h : MV f l D W U T N) (t x y n : Nat) : MV f (bcW l D t x y n) D W U T N :=
  h.stl (fun k j _ h2 => bcW_ne l D t x y n h2) rfl rfl rfl (fun r hr c hc => (bcW_ne l D t x y n (by decide)).trans (h.num r hr c hc))

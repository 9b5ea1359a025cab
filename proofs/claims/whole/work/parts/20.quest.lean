-- the question: (parts, table, told, number, joins, (join, slot: 0 p, 1 c, 2 q, 3 d))
abbrev QB : Type := Nat × (Nat → Nat) × (Nat → Nat → Nat) × (Nat → Nat → Int64) × Nat × (Nat → Nat → Nat)
def UV (f : Nat → Nat → Nat) (l : Nat → Nat → Int64) (U : QB) : Prop :=
  f 57 2 = U.1 ∧ (∀ p, p < 3 → f (63 + 3 * p) 2 = U.2.1 p) ∧ (∀ p, p < 3 → ∀ c, f (64 + 3 * p) c = U.2.2.1 p c) ∧ (∀ p, p < 3 → ∀ c, l (65 + 3 * p) c = U.2.2.2.1 p c) ∧ f 57 4 = U.2.2.2.2.1 ∧ ∀ j, j < 6 → ∀ i, f (72 + j) i = U.2.2.2.2.2 j i
def UW (U : QB) : Prop := U.1 ≤ 3 ∧ U.2.2.2.2.1 ≤ 6 ∧ (∀ p, p < U.1 → U.2.1 p < 4 ∧ ∀ c, U.2.2.1 p c < 2) ∧ ∀ j, j < U.2.2.2.2.1 → U.2.2.2.2.2 j 0 < U.1 ∧ U.2.2.2.2.2 j 1 < 6 ∧ U.2.2.2.2.2 j 2 < U.1 ∧ U.2.2.2.2.2 j 3 < 6
theorem scr_par {p j : Nat} (h : p < 3) : scr (63 + 3 * p) j = false := by simp [scr]; omega
theorem scr_pto {p j : Nat} (h : p < 3) : scr (64 + 3 * p) j = false := by simp [scr]; omega
theorem scr_joi {p j : Nat} (h : p < 6) : scr (72 + p) j = false := by simp [scr]; omega
theorem Fra.UV {f g : Nat → Nat → Nat} {l : Nat → Nat → Int64} {U : QB} (h : Fra f g) (hU : UV f l U) : UV g l U :=
  ⟨(h.1 57 2 rfl).trans hU.1, fun p hp => (h.1 _ _ (scr_par hp)).trans (hU.2.1 p hp), fun p hp c => (h.1 _ _ (scr_pto hp)).trans (hU.2.2.1 p hp c), hU.2.2.2.1, (h.1 57 4 rfl).trans hU.2.2.2.2.1, fun j hj i => (h.1 _ _ (scr_joi hj)).trans (hU.2.2.2.2.2 j hj i)⟩
/-- column c of part p forbids row r -/
def notT (D : DB) (U : QB) (p r c : Nat) : Bool := U.2.2.1 p c != 0 && !(D.2.2.1 r c != 0 && D.2.2.2 r c == U.2.2.2.1 p c)
def hasT (D : DB) (U : QB) (p r : Nat) : Bool := !anyN (notT D U p r) 6
def fitD (D : DB) (U : QB) (S p : Nat) : Nat := setN (fun r => S.testBit r && D.2.1 r 2 == U.2.1 p && hasT D U p r) D.1
theorem fitD_lt {D : DB} (h : DW D) (U : QB) (S p : Nat) : fitD D U S p < 4096 := setN_4096 _ h.1
def dig (n p : Nat) : Nat := n / 12 ^ p % 12
theorem dig_lt (n p : Nat) : dig n p < 12 := Nat.mod_lt _ (by decide)
def joinB (D : DB) (U : QB) (ρ : Nat → Nat) (j : Nat) : Bool :=
  D.2.2.1 (ρ (U.2.2.2.2.2 j 0)) (U.2.2.2.2.2 j 1) != 0 && D.2.2.1 (ρ (U.2.2.2.2.2 j 2)) (U.2.2.2.2.2 j 3) != 0 && D.2.2.2 (ρ (U.2.2.2.2.2 j 0)) (U.2.2.2.2.2 j 1) == D.2.2.2 (ρ (U.2.2.2.2.2 j 2)) (U.2.2.2.2.2 j 3)
def stoodB (D : DB) (U : QB) (Fi : Nat → Nat) (n : Nat) : Bool := !anyN (fun p => !(Fi p).testBit (dig n p)) U.1 && !anyN (fun j => !joinB D U (dig n) j) U.2.2.2.2.1
def standsB (D : DB) (U : QB) (S : Nat) : Bool := anyN (stoodB D U (fitD D U S)) (12 ^ U.1)
def setR (ρ : Nat → Nat) (n : Nat) : Nat := fo (fun p a => a ||| 2 ^ ρ p) n 0
theorem setR_s (ρ : Nat → Nat) (n : Nat) : setR ρ (n + 1) = setR ρ n ||| 2 ^ ρ n := rfl
theorem setR_lt {ρ : Nat → Nat} (h : ∀ p, ρ p < 12) (n : Nat) : setR ρ n < 4096 := by
  induction n with
  | zero => show 0 < 4096; decide
  | succ n ih => exact Nat.or_lt_two_pow (n := 12) ih (Nat.pow_lt_pow_right (by decide) (h n))
/-- all but tried stays -/
def Ex (c : Nat) (f g : Nat → Nat → Nat) : Prop := ∀ k j, k ≠ c → g k j = f k j
theorem Ex.rf (c : Nat) (f : Nat → Nat → Nat) : Ex c f f := fun _ _ _ => rfl
theorem Ex.tr {c : Nat} {f g h : Nat → Nat → Nat} (a : Ex c f g) (b : Ex c g h) : Ex c f h := fun k j e => (b k j e).trans (a k j e)
theorem Ex.put {c : Nat} {f g : Nat → Nat → Nat} (a : Ex c f g) (j v : Nat) : Ex c f (uf g c j v) := fun k i e => (uf_ne g v (Or.inl e)).trans (a k i e)
theorem Ex.fra {c : Nat} {f g : Nat → Nat → Nat} (h : Ex c f g) (hc : c = 60 ∨ c = 61) : Fra f g := by
  refine ⟨fun k j e => h k j ?_, fun q b => ?_⟩
  · rintro rfl
    rcases hc with rfl | rfl <;> simp [scr] at e
  · rw [h 55 b (by omega), h 56 b (by omega), h 62 b (by omega)]
    exact q b
theorem p12 {n : Nat} (h : n ≤ 3) : 12 ^ n ≤ 1728 := Nat.pow_le_pow_right (by decide) h
theorem dig_s (n i : Nat) : n / 12 ^ i / 12 = n / 12 ^ (i + 1) := by rw [Nat.div_div_eq_div_mul, Nat.pow_succ]
-- what findStanding leaves
/-- all but the question's own scratch stays -/
def Q3 (f g : Nat → Nat → Nat) : Prop := ∀ k j, k ≠ 60 → k ≠ 61 → k ≠ 62 → g k j = f k j
def IVq (f : Nat → Nat → Nat) (D : DB) (U : QB) (S i : Nat) (g : Nat → Nat → Nat) : Prop :=
  Fra f g ∧ (∀ p, p < U.1 → g 60 p = fitD D U S p) ∧ (∀ b, b < 2 ^ D.1 → (g 62 b ≠ 0 ↔ ∃ n, n < i ∧ stoodB D U (fitD D U S) n = true ∧ b = setR (dig n) U.1)) ∧ Q3 f g
def STD (D : DB) (U : QB) (K b : Nat) : Prop := ∃ n, n < 12 ^ U.1 ∧ stoodB D U (fitD D U K) n = true ∧ subN (setR (dig n) U.1) b
theorem IVq_no {f g h : Nat → Nat → Nat} {D : DB} {U : QB} {S i : Nat} (hg : IVq f D U S i g) (e : Ex 61 g h) (c : stoodB D U (fitD D U S) i = false) : IVq f D U S (i + 1) h := by
  obtain ⟨h1, h2, h3, h4⟩ := hg
  refine ⟨h1.tr (e.fra (Or.inr rfl)), fun p hp => (e 60 p (by decide)).trans (h2 p hp), fun b hb => ?_, fun k j a b c => (e k j b).trans (h4 k j a b c)⟩
  rw [e 62 b (by decide), h3 b hb]
  constructor
  · rintro ⟨n, e1, e2⟩; exact ⟨n, by omega, e2⟩
  · rintro ⟨n, e1, e2, e3⟩
    refine ⟨n, ?_, e2, e3⟩
    by_cases q : n = i
    · subst q; rw [c] at e2; cases e2
    · omega
theorem IVq_yes {f g h : Nat → Nat → Nat} {D : DB} {U : QB} {S i : Nat} (hg : IVq f D U S i g) (e : Ex 61 g h) (c : stoodB D U (fitD D U S) i = true) : IVq f D U S (i + 1) (uf h 62 (setR (dig i) U.1) 1) := by
  obtain ⟨h1, h2, h3, h4⟩ := hg
  refine ⟨(h1.tr (e.fra (Or.inr rfl))).put rfl (Or.inl (by decide)), fun p hp => (uf_ne _ _ (Or.inl (by decide))).trans ((e 60 p (by decide)).trans (h2 p hp)), fun b hb => ?_, fun k j a b c => (uf_ne _ _ (Or.inl c)).trans ((e k j b).trans (h4 k j a b c))⟩
  by_cases q : b = setR (dig i) U.1
  · rw [q, uf_self]
    exact ⟨fun _ => ⟨i, by omega, c, rfl⟩, fun _ => by decide⟩
  · rw [uf_ne _ _ (Or.inr q), e 62 b (by decide), h3 b hb]
    constructor
    · rintro ⟨n, e1, e2⟩; exact ⟨n, by omega, e2⟩
    · rintro ⟨n, e1, e2, e3⟩
      refine ⟨n, ?_, e2, e3⟩
      by_cases z : n = i
      · subst z; exact absurd e3 q
      · omega
theorem IVq_end {f g : Nat → Nat → Nat} {D : DB} {U : QB} {S : Nat} (hSB : SB f) (hg : IVq f D U S (12 ^ U.1) g) : Fra f (mwR g 62 D.1 D.1) ∧ (∀ b, b < 2 ^ D.1 → (mwR g 62 D.1 D.1 62 b ≠ 0 ↔ STD D U S b)) ∧ Q3 f (mwR g 62 D.1 D.1) := by
  obtain ⟨h1, h2, h3, h4⟩ := hg
  have hne : ∀ a b, a ≠ 62 → mwR g 62 D.1 D.1 a b = g a b := fun a b h => mwR_ne g h
  refine ⟨h1.tr ⟨fun k j e => ?_, fun q b => ⟨?_, ?_, mwR_lt (fun b => (q b).2.2) _ _ b⟩⟩, fun b hb => ?_, fun k j a b c => (hne k j c).trans (h4 k j a b c)⟩
  · apply hne
    rintro rfl
    simp [scr] at e
  · rw [hne _ _ (by decide)]; exact (q b).1
  · rw [hne _ _ (by decide)]; exact (q b).2.1
  · rw [mwR_all hb]
    constructor
    · rintro ⟨q, e1, e2⟩
      obtain ⟨n, n1, n2, n3⟩ := (h3 q (by have := e1.le; omega)).mp e2
      exact ⟨n, n1, n2, n3 ▸ e1⟩
    · rintro ⟨n, n1, n2, n3⟩
      exact ⟨_, n3, (h3 _ (by have := n3.le; omega)).mpr ⟨n, n1, n2, rfl⟩⟩
theorem IVq_0 {f g : Nat → Nat → Nat} {D : DB} {U : QB} {S : Nat} (e : Ex 60 (unm f 62 (2 ^ D.1)) g) (h : ∀ p, p < U.1 → g 60 p = fitD D U S p) : IVq f D U S 0 g := by
  have hne : ∀ a b, a ≠ 62 → unm f 62 (2 ^ D.1) a b = f a b := fun a b h => if_neg (fun q => h q.1)
  refine ⟨Fra.tr (g := unm f 62 (2 ^ D.1)) ⟨fun k j e => ?_, fun q b => ⟨?_, ?_, ?_⟩⟩ (e.fra (Or.inl rfl)), h, fun b hb => ?_, fun k j a b c => (e k j a).trans (hne k j c)⟩
  · apply hne
    rintro rfl
    simp [scr] at e
  · rw [hne _ _ (by decide)]; exact (q b).1
  · rw [hne _ _ (by decide)]; exact (q b).2.1
  · simp only [unm]
    split
    · decide
    · exact (q b).2.2
  · rw [e 62 b (by decide)]
    constructor
    · intro h
      simp only [unm] at h
      rw [if_pos ⟨trivial, hb⟩] at h
      exact absurd rfl h
    · rintro ⟨n, e1, -⟩; omega
theorem stoodB_t {D : DB} {U : QB} {Fi : Nat → Nat} {n : Nat} (h1 : ∀ p, p < U.1 → (Fi p).testBit (dig n p) = true) (h2 : ∀ j, j < U.2.2.2.2.1 → joinB D U (dig n) j = true) : stoodB D U Fi n = true := by
  unfold stoodB
  rw [anyN_f.mpr (fun p hp => by rw [h1 p hp]; rfl), anyN_f.mpr (fun j hj => by rw [h2 j hj]; rfl)]
  rfl
theorem stoodB_f1 {D : DB} {U : QB} {Fi : Nat → Nat} {n p : Nat} (hp : p < U.1) (h : (Fi p).testBit (dig n p) = false) : stoodB D U Fi n = false := by
  unfold stoodB
  rw [anyN_t.mpr ⟨p, hp, by rw [h]; rfl⟩]
  rfl
theorem stoodB_f2 {D : DB} {U : QB} {Fi : Nat → Nat} {n j : Nat} (hj : j < U.2.2.2.2.1) (h : joinB D U (dig n) j = false) : stoodB D U Fi n = false := by
  unfold stoodB
  rw [show anyN (fun j => !joinB D U (dig n) j) U.2.2.2.2.1 = true from anyN_t.mpr ⟨j, hj, by rw [h]; rfl⟩]
  exact Bool.and_false _
theorem lt_snocT {p : Nat → Bool} {i : Nat} (h : ∀ j, j < i → p j = true) (hi : p i = true) : ∀ j, j < i + 1 → p j = true := by
  intro j hj
  by_cases e : j = i
  · rw [e]; exact hi
  · exact h j (by omega)
-- tables
def mkl (f : Nat → Nat → Nat) (t L n : Nat) : Nat → Nat → Nat := fo (fun c g => uf g (79 + 2 * t) c (L / 10 ^ c % 10)) n f
theorem mkl_s (f : Nat → Nat → Nat) (t L n : Nat) : mkl f t L (n + 1) = uf (mkl f t L n) (79 + 2 * t) n (L / 10 ^ n % 10) := rfl
theorem mkl_ne (f : Nat → Nat → Nat) (t L n : Nat) {a b : Nat} (h : a ≠ 79 + 2 * t ∨ n ≤ b) : mkl f t L n a b = f a b := by
  induction n with
  | zero => rfl
  | succ n ih => rw [mkl_s, uf_ne _ _ (by omega), ih (by omega)]
theorem mkl_at (f : Nat → Nat → Nat) (t L c : Nat) : ∀ n, c < n → mkl f t L n (79 + 2 * t) c = L / 10 ^ c % 10 := by
  intro n
  induction n with
  | zero => intro h; omega
  | succ n ih =>
    intro h
    rw [mkl_s]
    by_cases e : c = n
    · subst e; exact uf_self _ _ _ _
    · rw [uf_ne _ _ (Or.inr e)]; exact ih (by omega)
theorem unm_ne (f : Nat → Nat → Nat) (k n : Nat) {a b : Nat} (h : a ≠ k) : unm f k n a b = f a b := if_neg (fun q => h q.1)
theorem fit_snoc {g : Nat → Nat → Nat} {F : Nat → Nat} {i : Nat} (h : ∀ p, p < i → g 60 p = F p) : ∀ p, p < i + 1 → uf g 60 i (F i) 60 p = F p := by
  intro p hp
  by_cases e : p = i
  · subst e; exact uf_self _ _ _ _
  · rw [uf_ne _ _ (Or.inr e)]; exact h p (by omega)
theorem dig_snoc {g : Nat → Nat → Nat} {n i : Nat} (h : ∀ p, p < i → g 61 p = dig n p) : ∀ p, p < i + 1 → uf g 61 i (dig n i) 61 p = dig n p := by
  intro p hp
  by_cases e : p = i
  · subst e; exact uf_self _ _ _ _
  · rw [uf_ne _ _ (Or.inr e)]; exact h p (by omega)
theorem rfl_of {b c : Bool} (h : b = c) : some (Value.int (bI c)) = some (Value.int (bI b)) := by rw [h]
theorem Fra.unm62 (f : Nat → Nat → Nat) (n : Nat) : Fra f (unm f 62 n) := by
  refine ⟨fun k j e => unm_ne f 62 n ?_, fun q b => ⟨?_, ?_, ?_⟩⟩
  · rintro rfl
    simp [scr] at e
  · rw [unm_ne f 62 n (by decide)]; exact (q b).1
  · rw [unm_ne f 62 n (by decide)]; exact (q b).2.1
  · simp only [unm]
    split
    · decide
    · exact (q b).2.2
theorem ten_s (n i : Nat) : n / 10 ^ i / 10 = n / 10 ^ (i + 1) := by rw [Nat.div_div_eq_div_mul, Nat.pow_succ]

-- what the model's calls keep (pure)
def ZZ (D : DB) : Prop := ∀ r, r < 12 → ∀ c, D.2.2.1 r c = 0 → D.2.2.2 r c = 0
def MJ (f : Nat → Nat → Nat) (l : Nat → Nat → Int64) (g : Nat → Nat → Nat) (m : Nat → Nat → Int64) (D : DB) (W : LB) (U : QB) (T : TB) (N : Nat) : Prop := MV g m D W U T N ∧ KN g D W ∧ CF f l g m
theorem KN.up {f : Nat → Nat → Nat} {D : DB} {W : LB} {k j v : Nat} (h : k ≠ 109 ∧ (k ≠ 86 ∨ (j ≠ 28 ∧ j ≠ 29))) (hN : KN f D W) : KN (uf f k j v) D W := by
  have e28 : uf f k j v 86 28 = f 86 28 := uf_ne f v (by omega)
  have e29 : uf f k j v 86 29 = f 86 29 := uf_ne f v (by omega)
  unfold KN
  rw [e28, e29]
  refine ⟨hN.1, fun h0 => ⟨(hN.2 h0).1, fun i hi => ?_⟩⟩
  rw [uf_ne f v (by omega)]
  exact (hN.2 h0).2 i hi
theorem KN.z (g : Nat → Nat → Nat) (D : DB) (W : LB) : KN (uf g 86 28 0) D W := by
  unfold KN
  rw [uf_self]
  exact ⟨by decide, fun h => absurd rfl h⟩
theorem KN.D {f : Nat → Nat → Nat} {D D' : DB} {W : LB} (e : MLs D' W = MLs D W) (hN : KN f D W) : KN f D' W := by
  unfold KN
  rw [e]
  exact hN
theorem KN.wM {f : Nat → Nat → Nat} {D : DB} {W : LB} (L : List Nat) (hN : KN f D W) : KN (wrM f L) D W := by
  have e28 : wrM f L 86 28 = f 86 28 := wrM_ne f L (by decide) (by decide)
  have e29 : wrM f L 86 29 = f 86 29 := wrM_ne f L (by decide) (by decide)
  unfold KN
  rw [e28, e29]
  refine ⟨hN.1, fun h0 => ⟨(hN.2 h0).1, fun i hi => ?_⟩⟩
  rw [wrM_ne f L (by decide) (Or.inl (by decide))]
  exact (hN.2 h0).2 i hi
-- trust: the mendings stay
def trD (D : DB) (r a : Nat) : DB := (D.1, uf D.2.1 r 3 a, D.2.2)
theorem tr_ne (D : DB) (r a q : Nat) {j : Nat} (h : j ≠ 3) : (trD D r a).2.1 q j = D.2.1 q j := uf_ne _ _ (Or.inr h)
theorem ofB_tr (D : DB) (W : LB) (r a w q S : Nat) : ofB (trD D r a) W w q S = ofB D W w q S := by unfold ofB; rw [tr_ne D r a q (by decide)]
theorem helpB_tr (D : DB) (W : LB) (r a w q S : Nat) : helpB (trD D r a) W w q S = helpB D W w q S := by
  funext i
  unfold helpB
  rw [tr_ne D r a i (by decide)]
  rfl
theorem br1_tr (D : DB) (W : LB) (r a w q S : Nat) : br1 (trD D r a) W w q S = br1 D W w q S := by
  unfold br1
  rw [helpB_tr]
  rfl
theorem mp_tr (D : DB) (W : LB) (r a w F S : Nat) : mp (trD D r a) W w F S = mp D W w F S := by
  funext i
  unfold mp
  rw [ofB_tr]
  rfl
theorem brT_tr (D : DB) (W : LB) (r a w S q : Nat) : brT (trD D r a) W w S q = brT D W w S q := by
  funext i
  unfold brT
  rw [ofB_tr]
  rfl
theorem brR_tr (D : DB) (W : LB) (r a w S : Nat) : brR (trD D r a) W w S = brR D W w S := by
  funext i
  unfold brR
  rw [ofB_tr, mp_tr, br1_tr, brT_tr]
  rfl
theorem fB_tr (D : DB) (W : LB) (r a S : Nat) : fB (trD D r a) W S = fB D W S := by
  funext w
  unfold fB brL
  rw [brR_tr]
  rfl
theorem keptD_tr (D : DB) (r a : Nat) : keptD (trD D r a) = keptD D := by
  unfold keptD
  rw [show (fun q => (trD D r a).2.1 q 4 != 0) = (fun q => D.2.1 q 4 != 0) from funext (fun q => by rw [tr_ne D r a q (by decide)])]
  rfl
theorem mdB_tr (D : DB) (W : LB) (r a : Nat) : mdB (trD D r a) W = mdB D W := by
  funext s
  unfold mdB
  rw [keptD_tr, fB_tr]
theorem kL_tr (D : DB) (W : LB) (r a n : Nat) : kL (trD D r a) W n = kL D W n := by
  unfold kL
  rw [show kB (trD D r a) W = kB D W from funext (fun i => by unfold kB; rw [mdB_tr])]
theorem MLs_tr {D : DB} {W : LB} (hW : LW W) (h4 : C4 W) (r a : Nat) : MLs (trD D r a) W = MLs D W := by
  rw [← kL_eq hW h4, ← kL_eq hW h4, kL_tr]
  rfl
-- table: the lanes
def mlW (f : Nat → Nat → Nat) (t m n : Nat) : Nat → Nat → Nat := fo (fun c g => uf g 88 (6 * t + c) (m / 10 ^ c % 10)) n f
def lnT (T : TB) (t m n : Nat) : Nat → Nat → Nat := fo (fun c z => uf z t c (m / 10 ^ c % 10)) n T.2
def tabT (T : TB) (t k m : Nat) : TB := ((fun p => if p = t then k else T.1 p), lnT T t m k)
theorem mlW_s (f : Nat → Nat → Nat) (t m n : Nat) : mlW f t m (n + 1) = uf (mlW f t m n) 88 (6 * t + n) (m / 10 ^ n % 10) := rfl
theorem mlW_ne (f : Nat → Nat → Nat) (t m n : Nat) {k j : Nat} (h : k ≠ 88) : mlW f t m n k j = f k j := by
  induction n with
  | zero => rfl
  | succ n ih => rw [mlW_s, uf_ne _ _ (Or.inl h), ih]
theorem mv_lns {f : Nat → Nat → Nat} {l : Nat → Nat → Int64} {D : DB} {W : LB} {U : QB} {T : TB} {N : Nat} (t m : Nat) (h : MV f l D W U T N) : ∀ n, n ≤ 6 → MV (mlW f t m n) l D W U (T.1, lnT T t m n) N := by
  intro n
  induction n with
  | zero => intro _; exact h
  | succ n ih => intro hn; exact mv_lan (by omega) (ih (by omega))
theorem ci_lns {f : Nat → Nat → Nat} {l : Nat → Nat → Int64} {D : DB} {W : LB} {U : QB} {T : TB} {N : Nat} {t : Nat} (ht : t < 4) (m : Nat) (h : CI f l D W U T N) : ∀ n, CI (mkl f t m n) l D W U (T.1, lnT T t m n) N := by
  intro n
  induction n with
  | zero => exact h
  | succ n ih => exact ci_lan ht ih
-- part: nothing told
def ptW (f : Nat → Nat → Nat) (p n : Nat) : Nat → Nat → Nat := fun k j => if k = 103 ∧ 6 * p ≤ j ∧ j < n then 0 else f k j
theorem ptW_0 (f : Nat → Nat → Nat) (p : Nat) : f = ptW f p (6 * p) := by
  funext k j
  unfold ptW
  rw [if_neg (by omega)]
theorem ptW_s {f : Nat → Nat → Nat} {p n : Nat} (h : 6 * p ≤ n) : uf (ptW f p n) 103 n 0 = ptW f p (n + 1) := by
  funext k j
  unfold uf ptW
  by_cases h1 : k = 103 ∧ j = n
  · rw [if_pos h1, if_pos (by omega)]
  · rw [if_neg h1]
    by_cases h2 : k = 103 ∧ 6 * p ≤ j ∧ j < n
    · rw [if_pos h2, if_pos (by omega)]
    · rw [if_neg h2, if_neg (show ¬ (k = 103 ∧ 6 * p ≤ j ∧ j < n + 1) by omega)]
theorem ptW_ne (f : Nat → Nat → Nat) (p n : Nat) {k j : Nat} (h : k ≠ 103) : ptW f p n k j = f k j := if_neg (by omega)
def prtU (U : QB) (t : Nat) : QB := (U.1 + 1, (fun p => if p = U.1 then t else U.2.1 p), (fun p c => if p = U.1 ∧ c < 6 then 0 else U.2.2.1 p c), U.2.2.2)
theorem mv_prt {f : Nat → Nat → Nat} {l : Nat → Nat → Int64} {D : DB} {W : LB} {U : QB} {T : TB} {N : Nat} {t : Nat} (h : MV f l D W U T N) : MV (uf (ptW (uf f 102 U.1 t) U.1 (6 * U.1 + 6)) 86 19 (U.1 + 1)) l D W (prtU U t) T N := by
  obtain ⟨a1, a2, a3, a4, a5, a6, a7, a8, a9, b1, b2, b3, b4, b5, b6, b7, b8, b9, c1, c2, c3, c4, c5, c6, c7, c8, c9⟩ := mv_np (v := U.1 + 1) (mv_pt (q := U.1) (v := t) h)
  have e : ∀ k j, k ≠ 103 → uf (ptW (uf f 102 U.1 t) U.1 (6 * U.1 + 6)) 86 19 (U.1 + 1) k j = uf (uf f 102 U.1 t) 86 19 (U.1 + 1) k j := fun k j hk => by
    unfold uf
    rw [ptW_ne _ _ _ hk]
  refine ⟨(e _ _ (by decide)).trans a1, fun r hr => (e _ _ (by decide)).trans (a2 r hr), fun r hr => (e _ _ (by decide)).trans (a3 r hr), fun r hr => (e _ _ (by decide)).trans (a4 r hr), fun r hr c hc => (e _ _ (by decide)).trans (a5 r hr c hc), a6, (e _ _ (by decide)).trans a7, fun r hr => (e _ _ (by decide)).trans (a8 r hr), fun r hr => (e _ _ (by decide)).trans (a9 r hr), fun r hr => (e _ _ (by decide)).trans (b1 r hr), fun r hr k1 k3 => (e _ _ (by decide)).trans (b2 r hr k1 k3), fun r hr k => (e _ _ (by decide)).trans (b3 r hr k), b4, b5, fun r hr => (e _ _ (by decide)).trans (b6 r hr), (e _ _ (by decide)).trans b7, (e _ _ (by decide)).trans b8, fun r hr => (e _ _ (by decide)).trans (b9 r hr), fun r hr c hc => ?_, c2, (e _ _ (by decide)).trans c3, fun r hr => (e _ _ (by decide)).trans (c4 r hr), fun r hr => (e _ _ (by decide)).trans (c5 r hr), fun r hr => (e _ _ (by decide)).trans (c6 r hr), fun r hr => (e _ _ (by decide)).trans (c7 r hr), fun r hr => (e _ _ (by decide)).trans (c8 r hr), fun r hr c hc => (e _ _ (by decide)).trans (c9 r hr c hc)⟩
  rw [uf_ne _ _ (Or.inl (by decide))]
  show ptW (uf f 102 U.1 t) U.1 (6 * U.1 + 6) 103 (6 * r + c) = if r = U.1 ∧ c < 6 then 0 else U.2.2.1 r c
  unfold ptW
  by_cases h1 : r = U.1
  · rw [if_pos (by omega), if_pos ⟨h1, hc⟩]
  · rw [if_neg (by omega), if_neg (fun z => h1 z.1), uf_ne _ _ (Or.inl (by decide))]
    exact h.tld r hr c hc
-- mend
def drD (D : DB) (S : Nat) : DB := (D.1, (fun r j => if j = 4 ∧ r < D.1 ∧ S.testBit r = true then 0 else D.2.1 r j), D.2.2)
def mdW (f : Nat → Nat → Nat) (S n : Nat) : Nat → Nat → Nat := fun k j => if k = 91 ∧ j < n ∧ S.testBit j = true then 0 else f k j
theorem mdW_0 (f : Nat → Nat → Nat) (S : Nat) : f = mdW f S 0 := by
  funext k j
  unfold mdW
  rw [if_neg (fun z => absurd z.2.1 (Nat.not_lt_zero _))]
theorem mdW_at {f : Nat → Nat → Nat} {S n : Nat} : mdW f S n 91 n = f 91 n := if_neg (fun z => absurd z.2.1 (Nat.lt_irrefl _))
theorem mdW_ne (f : Nat → Nat → Nat) (S n : Nat) {k j : Nat} (h : k ≠ 91) : mdW f S n k j = f k j := if_neg (fun z => h z.1)
theorem mdW_s {f : Nat → Nat → Nat} {S n v : Nat} (h1 : S.testBit n = true → v = 0) (h2 : S.testBit n = false → v = f 91 n) : uf (mdW f S n) 91 n v = mdW f S (n + 1) := by
  funext k j
  unfold uf mdW
  by_cases h : k = 91 ∧ j = n
  · obtain ⟨rfl, rfl⟩ := h
    rw [if_pos ⟨rfl, rfl⟩]
    cases hb : S.testBit j
    · rw [if_neg (fun z => by cases z.2.2), h2 hb]
    · rw [if_pos ⟨rfl, by omega, rfl⟩, h1 hb]
  · rw [if_neg h]
    by_cases h3 : k = 91 ∧ j < n ∧ S.testBit j = true
    · rw [if_pos h3, if_pos ⟨h3.1, by omega, h3.2.2⟩]
    · rw [if_neg h3, if_neg]
      rintro ⟨a, b, c⟩
      exact h3 ⟨a, by omega, c⟩
theorem mv_md {f : Nat → Nat → Nat} {l : Nat → Nat → Int64} {D : DB} {W : LB} {U : QB} {T : TB} {N : Nat} {S n : Nat} (hn : n = D.1) (h : MV f l D W U T N) : MV (mdW f S n) l (drD D S) W U T N := by
  subst hn
  obtain ⟨a1, a2, a3, a4, a5, a6, a7, a8, a9, b1, b2, b3, b4, b5, b6, b7, b8, b9, c1, c2, c3, c4, c5, c6, c7, c8, c9⟩ := h
  have e : ∀ k j, k ≠ 91 → mdW f S D.1 k j = f k j := fun k j hk => mdW_ne f S D.1 hk
  have e4 : ∀ r j, j ≠ 4 → (drD D S).2.1 r j = D.2.1 r j := fun r j hj => if_neg (fun z => hj z.1)
  refine ⟨(e _ _ (by decide)).trans a1, fun r hr => (e _ _ (by decide)).trans ((a2 r hr).trans (e4 r 2 (by decide)).symm), fun r hr => (e _ _ (by decide)).trans ((a3 r hr).trans (e4 r 3 (by decide)).symm), fun r hr => ?_, fun r hr c hc => (e _ _ (by decide)).trans (a5 r hr c hc), a6, (e _ _ (by decide)).trans a7, fun r hr => (e _ _ (by decide)).trans (a8 r hr), fun r hr => (e _ _ (by decide)).trans (a9 r hr), fun r hr => (e _ _ (by decide)).trans (b1 r hr), fun r hr k1 k3 => (e _ _ (by decide)).trans (b2 r hr k1 k3), fun r hr k => (e _ _ (by decide)).trans (b3 r hr k), b4, b5, fun r hr => (e _ _ (by decide)).trans (b6 r hr), (e _ _ (by decide)).trans b7, (e _ _ (by decide)).trans b8, fun r hr => (e _ _ (by decide)).trans (b9 r hr), fun r hr c hc => (e _ _ (by decide)).trans (c1 r hr c hc), c2, (e _ _ (by decide)).trans c3, fun r hr => (e _ _ (by decide)).trans (c4 r hr), fun r hr => (e _ _ (by decide)).trans (c5 r hr), fun r hr => (e _ _ (by decide)).trans (c6 r hr), fun r hr => (e _ _ (by decide)).trans (c7 r hr), fun r hr => (e _ _ (by decide)).trans (c8 r hr), fun r hr c hc => (e _ _ (by decide)).trans (c9 r hr c hc)⟩
  show (if 91 = 91 ∧ r < D.1 ∧ S.testBit r = true then 0 else f 91 r) = if 4 = 4 ∧ r < D.1 ∧ S.testBit r = true then 0 else D.2.1 r 4
  by_cases hc : r < D.1 ∧ S.testBit r = true
  · rw [if_pos ⟨rfl, hc⟩, if_pos ⟨rfl, hc⟩]
  · rw [if_neg (fun z => hc z.2), if_neg (fun z => hc z.2), a4 r hr]
-- ranges
theorem trL (y : Int32) : (decide ((1 : Int64) ≤ y.toInt64) && decide (y.toInt64 ≤ 100)) = trOK y := by
  unfold trOK
  simp only [Int64.le_iff_toInt_le, lt64]
  rfl
theorem two_iff {k : Nat} : two k = true ↔ k = 0 ∨ k = 2 ∨ k = 4 := by
  unfold two
  simp only [Bool.or_eq_true, beq_iff_eq, or_assoc]
theorem two_f {k : Nat} : two k = false ↔ k ≠ 0 ∧ k ≠ 2 ∧ k ≠ 4 := by
  cases h : two k
  · refine ⟨fun _ => ?_, fun _ => rfl⟩
    refine ⟨fun e => ?_, fun e => ?_, fun e => ?_⟩ <;> (rw [two_iff.mpr (by omega)] at h; cases h)
  · refine ⟨fun h => (by cases h), fun h2 => ?_⟩
    have := two_iff.mp h
    omega
theorem lanesB_t {k m : Nat} (h : lanesB k m = true) : (!anyN (fun i => decide (5 < m / 10 ^ i % 10)) k) = true ∧ m / 10 ^ k = 0 := by
  unfold lanesB at h
  rw [Bool.and_eq_true, beq_iff_eq] at h
  exact h

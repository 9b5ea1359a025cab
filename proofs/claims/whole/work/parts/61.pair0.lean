-- what holds of both sides between calls; what a pair of calls is (pure)
def DZ (D : DB) : Prop := ∀ r, D.1 ≤ r → ∀ c, D.2.2.1 r c = 0
def WZ (W : LB) : Prop := ∀ w, W.1 ≤ w → W.2.1 w 4 = 0
def UZ (U : QB) : Prop := ∀ p c, U.2.2.1 p c < 2
def HH (D : DB) (W : LB) (U : QB) (T : TB) : Prop := BW D W U T ∧ C4 W ∧ ZZ D ∧ DZ D ∧ WZ W ∧ UZ U
def JJ (f : Nat → Nat → Nat) (l : Nat → Nat → Int64) : Prop := ∃ (D : DB) (W : LB) (U : QB) (T : TB) (N : Nat), CI f l D W U T N ∧ MV f l D W U T N ∧ KN f D W ∧ HH D W U T
def isI (r : Option Value) : Prop := ∃ x : Int32, r = some (.int x)
def isL (r : Option Value) : Prop := ∃ x : Int64, r = some (.long x)
/-- a call of the class and the same call of the model: one answer -/
def Pr (G : GG) (m9 m10 : MI) (A : List Value) (R : Option Value → Prop) : Prop := ∀ f l, JJ f l → ∃ rv, R rv ∧ ∃ Q : (Nat → Nat → Nat) → (Nat → Nat → Int64) → Prop,
  SpX G m9 (.ref (ad G 0) :: A) f l (fun r f1 l1 => r = rv ∧ Q f1 l1) ∧ ∀ f1 l1, Q f1 l1 → SpX G m10 (.ref (ad G 86) :: A) f1 l1 (fun r f2 l2 => r = rv ∧ JJ f2 l2)
theorem KN.mf {f g : Nat → Nat → Nat} {l h : Nat → Nat → Int64} {D : DB} {W : LB} (e : MF f l g h) (hN : KN f D W) : KN g D W := hN.of1 (fun k j a _ => (e k (by omega)).1 j)
theorem pr_mk {G : GG} {m9 m10 : MI} {A : List Value} {R : Option Value → Prop} {f : Nat → Nat → Nat} {l : Nat → Nat → Int64} {D : DB} {W : LB} {U : QB} {T : TB} {N : Nat} {rv : Option Value} (D' : DB) (W' : LB) (U' : QB) (T' : TB) (N' : Nat)
    (hM : MV f l D W U T N) (hKN : KN f D W) (hR : R rv) (hH' : HH D' W' U' T')
    (hk : SpX G m9 (.ref (ad G 0) :: A) f l (fun r f1 l1 => r = rv ∧ CI f1 l1 D' W' U' T' N' ∧ MF f l f1 l1))
    (hq : ∀ f1 l1, MV f1 l1 D W U T N → KN f1 D W → SpX G m10 (.ref (ad G 86) :: A) f1 l1 (fun r f2 l2 => r = rv ∧ MJ f1 l1 f2 l2 D' W' U' T' N')) :
    ∃ rv, R rv ∧ ∃ Q : (Nat → Nat → Nat) → (Nat → Nat → Int64) → Prop,
      SpX G m9 (.ref (ad G 0) :: A) f l (fun r f1 l1 => r = rv ∧ Q f1 l1) ∧ ∀ f1 l1, Q f1 l1 → SpX G m10 (.ref (ad G 86) :: A) f1 l1 (fun r f2 l2 => r = rv ∧ JJ f2 l2) :=
  ⟨rv, hR, fun f1 l1 => CI f1 l1 D' W' U' T' N' ∧ MF f l f1 l1, hk, fun f1 l1 hQ => (hq f1 l1 (hM.mf hQ.2) (hKN.mf hQ.2)).mono (fun _ _ _ h => ⟨h.1, D', W', U', T', N', hQ.1.cf h.2.2.2, h.2.1, h.2.2.1, hH'⟩)⟩
section PRX2
variable {G : GG} {m9 m10 : MI} {A : List Value} {R : Option Value → Prop} {f : Nat → Nat → Nat} {l : Nat → Nat → Int64} {D : DB} {W : LB} {U : QB} {T : TB} {N : Nat} {rv : Option Value}
/-- nothing changes -/
theorem pr_no (hC : CI f l D W U T N) (hM : MV f l D W U T N) (hKN : KN f D W) (hH : HH D W U T) (hR : R rv) (hk : Spec G m9 (.ref (ad G 0) :: A) 114 (f, l, refT) rv 114 (f, l, refT))
    (hq : ∀ f1 l1, MV f1 l1 D W U T N → KN f1 D W → SpX G m10 (.ref (ad G 86) :: A) f1 l1 (fun r f2 l2 => r = rv ∧ MJ f1 l1 f2 l2 D W U T N)) :
    ∃ rv, R rv ∧ ∃ Q : (Nat → Nat → Nat) → (Nat → Nat → Int64) → Prop, SpX G m9 (.ref (ad G 0) :: A) f l (fun r f1 l1 => r = rv ∧ Q f1 l1) ∧ ∀ f1 l1, Q f1 l1 → SpX G m10 (.ref (ad G 86) :: A) f1 l1 (fun r f2 l2 => r = rv ∧ JJ f2 l2) :=
  pr_mk D W U T N hM hKN hR hH (hk.X.mono (fun _ _ _ h => ⟨h.1, by rw [h.2.1, h.2.2]; exact hC, by rw [h.2.1, h.2.2]; exact MF.rf _ _⟩)) hq
/-- a finding -/
theorem pr_fi (hC : CI f l D W U T N) (hM : MV f l D W U T N) (hKN : KN f D W) (hH : HH D W U T) (hR : R rv) (hk : Spec G m9 (.ref (ad G 0) :: A) 114 (f, l, refT) rv 114 (uf f 0 5 (N + 1), l, refT))
    (hq : ∀ f1 l1, MV f1 l1 D W U T N → KN f1 D W → SpX G m10 (.ref (ad G 86) :: A) f1 l1 (fun r f2 l2 => r = rv ∧ MJ f1 l1 f2 l2 D W U T (N + 1))) :
    ∃ rv, R rv ∧ ∃ Q : (Nat → Nat → Nat) → (Nat → Nat → Int64) → Prop, SpX G m9 (.ref (ad G 0) :: A) f l (fun r f1 l1 => r = rv ∧ Q f1 l1) ∧ ∀ f1 l1, Q f1 l1 → SpX G m10 (.ref (ad G 86) :: A) f1 l1 (fun r f2 l2 => r = rv ∧ JJ f2 l2) :=
  pr_mk D W U T (N + 1) hM hKN hR hH (hk.X.mono (fun _ _ _ h => ⟨h.1, by rw [h.2.1, h.2.2]; exact ci_fin hC, by rw [h.2.1, h.2.2]; exact (MF.rf _ _).f (by decide)⟩)) hq
/-- scratch alone changes -/
theorem pr_fr (hC : CI f l D W U T N) (hM : MV f l D W U T N) (hKN : KN f D W) (hH : HH D W U T) (hR : R rv) (hk : SpX G m9 (.ref (ad G 0) :: A) f l (fun r f1 l1 => r = rv ∧ Fra f f1 ∧ l = l1))
    (hq : ∀ f1 l1, MV f1 l1 D W U T N → KN f1 D W → SpX G m10 (.ref (ad G 86) :: A) f1 l1 (fun r f2 l2 => r = rv ∧ MJ f1 l1 f2 l2 D W U T N)) :
    ∃ rv, R rv ∧ ∃ Q : (Nat → Nat → Nat) → (Nat → Nat → Int64) → Prop, SpX G m9 (.ref (ad G 0) :: A) f l (fun r f1 l1 => r = rv ∧ Q f1 l1) ∧ ∀ f1 l1, Q f1 l1 → SpX G m10 (.ref (ad G 86) :: A) f1 l1 (fun r f2 l2 => r = rv ∧ JJ f2 l2) :=
  pr_mk D W U T N hM hKN hR hH (hk.mono (fun _ _ _ h => ⟨h.1, by rw [← h.2.2]; exact hC.fra h.2.1, by rw [← h.2.2]; exact MF.fra h.2.1⟩)) hq
/-- a world told exactly -/
theorem pr_ex {f1 : Nat → Nat → Nat} {l1 : Nat → Nat → Int64} (D' : DB) (W' : LB) (U' : QB) (T' : TB) (hM : MV f l D W U T N) (hKN : KN f D W) (hR : R rv) (hH' : HH D' W' U' T') (hC' : CI f1 l1 D' W' U' T' N) (hF : MF f l f1 l1) (hk : Spec G m9 (.ref (ad G 0) :: A) 114 (f, l, refT) rv 114 (f1, l1, refT))
    (hq : ∀ f1 l1, MV f1 l1 D W U T N → KN f1 D W → SpX G m10 (.ref (ad G 86) :: A) f1 l1 (fun r f2 l2 => r = rv ∧ MJ f1 l1 f2 l2 D' W' U' T' N)) :
    ∃ rv, R rv ∧ ∃ Q : (Nat → Nat → Nat) → (Nat → Nat → Int64) → Prop, SpX G m9 (.ref (ad G 0) :: A) f l (fun r f1 l1 => r = rv ∧ Q f1 l1) ∧ ∀ f1 l1, Q f1 l1 → SpX G m10 (.ref (ad G 86) :: A) f1 l1 (fun r f2 l2 => r = rv ∧ JJ f2 l2) :=
  pr_mk D' W' U' T' N hM hKN hR hH' (hk.X.mono (fun _ _ _ h => ⟨h.1, by rw [h.2.1, h.2.2]; exact hC', by rw [h.2.1, h.2.2]; exact hF⟩)) hq
end PRX2
-- what stays well-formed
section HHX
variable {D : DB} {W : LB} {U : QB} {T : TB}
theorem HH_tab {t k m : Nat} (ht : t < 4) (hk : k ≤ 6) (hlb : lanesB k m = true) (h : HH D W U T) : HH D W U (tabT T t k m) := by
  obtain ⟨⟨a, b, c, d1, d2⟩, e⟩ := h
  refine ⟨⟨a, b, c, fun q hq => ?_, fun q hq i => ?_⟩, e⟩
  · show (if q = t then k else T.1 q) ≤ 6
    split
    · exact hk
    · exact d1 q hq
  · have hl := (lanesB_t hlb).1
    rw [Bool.not_eq_true', anyN_f] at hl
    have key : ∀ n, n ≤ k → lnT T t m n q i < 6 := by
      intro n
      induction n with
      | zero => intro _; exact d2 q hq i
      | succ n ih =>
        intro hn
        show uf (lnT T t m n) t n (m / 10 ^ n % 10) q i < 6
        unfold uf
        split
        · have := hl n (by omega)
          rw [decide_eq_false_iff_not] at this
          omega
        · exact ih (by omega)
    exact key k (Nat.le_refl _)
theorem HH_row {t a : Nat} (ht : t < 4) (h1 : 1 ≤ a) (h2 : a ≤ 100) (h12 : D.1 < 12) (h : HH D W U T) : HH (D.1 + 1, uf (uf (uf D.2.1 D.1 2 t) D.1 3 a) D.1 4 1, D.2.2) W U T := by
  obtain ⟨⟨⟨a1, a2, a3, a4⟩, b⟩, c, z, dz, e⟩ := h
  refine ⟨⟨⟨by show D.1 + 1 ≤ 12; omega, fun r j => ?_, a3, fun r hr => ?_⟩, b⟩, c, z, fun r hr i => dz r (by have : D.1 + 1 ≤ r := hr; omega) i, e⟩
  · show uf (uf (uf D.2.1 D.1 2 t) D.1 3 a) D.1 4 1 r j < 2147483648
    unfold uf
    split
    · decide
    · split
      · omega
      · split
        · omega
        · exact a2 r j
  · by_cases e1 : r = D.1
    · subst e1
      refine ⟨?_, ?_, ?_, ?_, fun i => by rw [show (D.1 + 1, uf (uf (uf D.2.1 D.1 2 t) D.1 3 a) D.1 4 1, D.2.2).2.2.1 D.1 i = D.2.2.1 D.1 i from rfl, dz D.1 (Nat.le_refl _) i]; decide⟩
      · show uf (uf (uf D.2.1 D.1 2 t) D.1 3 a) D.1 4 1 D.1 2 < 4
        rw [uf_ne _ _ (Or.inr (by decide)), uf_ne _ _ (Or.inr (by decide)), uf_self]; exact ht
      · show 1 ≤ uf (uf (uf D.2.1 D.1 2 t) D.1 3 a) D.1 4 1 D.1 3
        rw [uf_ne _ _ (Or.inr (by decide)), uf_self]; exact h1
      · show uf (uf (uf D.2.1 D.1 2 t) D.1 3 a) D.1 4 1 D.1 3 ≤ 100
        rw [uf_ne _ _ (Or.inr (by decide)), uf_self]; exact h2
      · show uf (uf (uf D.2.1 D.1 2 t) D.1 3 a) D.1 4 1 D.1 4 < 2
        rw [uf_self]; decide
    · have hr2 : r < D.1 := by have : r < D.1 + 1 := hr; omega
      have ee : ∀ j, uf (uf (uf D.2.1 D.1 2 t) D.1 3 a) D.1 4 1 r j = D.2.1 r j := fun j => by rw [uf_ne _ _ (Or.inl e1), uf_ne _ _ (Or.inl e1), uf_ne _ _ (Or.inl e1)]
      obtain ⟨x1, x2, x3, x4, x5⟩ := a4 r hr2
      refine ⟨?_, ?_, ?_, ?_, x5⟩
      · show uf (uf (uf D.2.1 D.1 2 t) D.1 3 a) D.1 4 1 r 2 < 4; rw [ee]; exact x1
      · show 1 ≤ uf (uf (uf D.2.1 D.1 2 t) D.1 3 a) D.1 4 1 r 3; rw [ee]; exact x2
      · show uf (uf (uf D.2.1 D.1 2 t) D.1 3 a) D.1 4 1 r 3 ≤ 100; rw [ee]; exact x3
      · show uf (uf (uf D.2.1 D.1 2 t) D.1 3 a) D.1 4 1 r 4 < 2; rw [ee]; exact x4
theorem HH_cell {r c v : Nat} {x : Int64} (hr : r < D.1) (hv : v < 2) (hx : v = 0 → x = 0) (h : HH D W U T) : HH (D.1, D.2.1, uf D.2.2.1 r c v, uf D.2.2.2 r c x) W U T := by
  obtain ⟨⟨⟨a1, a2, a3, a4⟩, b⟩, c4, z, dz, e⟩ := h
  refine ⟨⟨⟨a1, a2, fun q i => ?_, fun q hq => ?_⟩, b⟩, c4, fun q hq i h0 => ?_, fun q hq i => ?_, e⟩
  · show uf D.2.2.1 r c v q i < 2147483648
    unfold uf
    split
    · omega
    · exact a3 q i
  · obtain ⟨x1, x2, x3, x4, x5⟩ := a4 q hq
    refine ⟨x1, x2, x3, x4, fun i => ?_⟩
    show uf D.2.2.1 r c v q i < 2
    unfold uf
    split
    · exact hv
    · exact x5 i
  · have h1 : uf D.2.2.1 r c v q i = 0 := h0
    show uf D.2.2.2 r c x q i = 0
    unfold uf at h1 ⊢
    by_cases e1 : q = r ∧ i = c
    · rw [if_pos e1] at h1 ⊢; exact hx h1
    · rw [if_neg e1] at h1 ⊢; exact z q hq i h1
  · have hq2 : D.1 ≤ q := hq
    show uf D.2.2.1 r c v q i = 0
    rw [uf_ne _ _ (Or.inl (by omega))]
    exact dz q hq2 i
theorem HH_tru {r a : Nat} (h1 : 1 ≤ a) (h2 : a ≤ 100) (h : HH D W U T) : HH (trD D r a) W U T := by
  obtain ⟨⟨⟨a1, a2, a3, a4⟩, b⟩, e⟩ := h
  refine ⟨⟨⟨a1, fun q i => ?_, a3, fun q hq => ?_⟩, b⟩, e⟩
  · show uf D.2.1 r 3 a q i < 2147483648
    unfold uf
    split
    · omega
    · exact a2 q i
  · obtain ⟨x1, x2, x3, x4, x5⟩ := a4 q hq
    refine ⟨by rw [tr_ne D r a q (by decide)]; exact x1, ?_, ?_, by rw [tr_ne D r a q (by decide)]; exact x4, x5⟩
    · show 1 ≤ uf D.2.1 r 3 a q 3
      unfold uf
      split
      · exact h1
      · exact x2
    · show uf D.2.1 r 3 a q 3 ≤ 100
      unfold uf
      split
      · exact h2
      · exact x3
theorem HH_kep {r b : Nat} (hb : b < 2) (h : HH D W U T) : HH (D.1, uf D.2.1 r 4 b, D.2.2) W U T := by
  obtain ⟨⟨⟨a1, a2, a3, a4⟩, b'⟩, e⟩ := h
  have e4 : ∀ q j, j ≠ 4 → uf D.2.1 r 4 b q j = D.2.1 q j := fun q j hj => uf_ne _ _ (Or.inr hj)
  refine ⟨⟨⟨a1, fun q i => ?_, a3, fun q hq => ?_⟩, b'⟩, e⟩
  · show uf D.2.1 r 4 b q i < 2147483648
    unfold uf
    split
    · omega
    · exact a2 q i
  · obtain ⟨x1, x2, x3, x4, x5⟩ := a4 q hq
    refine ⟨?_, ?_, ?_, ?_, x5⟩
    · show uf D.2.1 r 4 b q 2 < 4; rw [e4 q 2 (by decide)]; exact x1
    · show 1 ≤ uf D.2.1 r 4 b q 3; rw [e4 q 3 (by decide)]; exact x2
    · show uf D.2.1 r 4 b q 3 ≤ 100; rw [e4 q 3 (by decide)]; exact x3
    · show uf D.2.1 r 4 b q 4 < 2
      unfold uf
      split
      · exact hb
      · exact x4
theorem HH_dr {S : Nat} (h : HH D W U T) : HH (drD D S) W U T := ⟨BW_dr h.1, h.2⟩
theorem HH_frc {r b : Nat} (hb : b < 2) (h : HH D W U T) : HH D (W.1, uf W.2.1 r 7 b, W.2.2) U T := by
  obtain ⟨⟨a, ⟨b1, b2⟩, c⟩, c4, z, dz, wz, uz⟩ := h
  have e7 : ∀ q j, j ≠ 7 → uf W.2.1 r 7 b q j = W.2.1 q j := fun q j hj => uf_ne _ _ (Or.inr hj)
  refine ⟨⟨a, ⟨b1, fun w hw => ?_⟩, c⟩, fun w hw hk => c4 w hw (by rw [← e7 w 0 (by decide)]; exact hk), z, dz, fun w hw => ?_, uz⟩
  · obtain ⟨x0, x1, x2, x3, x4, x7⟩ := b2 w hw
    refine ⟨?_, ?_, ?_, ?_, ?_, ?_⟩
    · show uf W.2.1 r 7 b w 0 < 6; rw [e7 w 0 (by decide)]; exact x0
    · show uf W.2.1 r 7 b w 1 < 4; rw [e7 w 1 (by decide)]; exact x1
    · show uf W.2.1 r 7 b w 2 < 6; rw [e7 w 2 (by decide)]; exact x2
    · show uf W.2.1 r 7 b w 3 < 6; rw [e7 w 3 (by decide)]; exact x3
    · show uf W.2.1 r 7 b w 4 < 4; rw [e7 w 4 (by decide)]; exact x4
    · show uf W.2.1 r 7 b w 7 < 2
      unfold uf
      split
      · exact hb
      · exact x7
  · show uf W.2.1 r 7 b w 4 = 0
    rw [e7 w 4 (by decide)]
    exact wz w hw
theorem HH_law {k t a b : Nat} {c d : Int64} (hk : k < 5) (hk4 : k = 4 → 0 ≤ c) (h10 : W.1 < 10) (ht : t < 4) (ha : a < 6) (hb : b < 6) (h : HH D W U T) : HH D (W.1 + 1, (uf (uf (uf (uf (uf W.2.1 W.1 0 k) W.1 1 t) W.1 7 1) W.1 2 a) W.1 3 b), uf (uf W.2.2 W.1 5 c) W.1 6 d) U T := by
  obtain ⟨⟨a', ⟨b1, b2⟩, c'⟩, c4, z, dz, wz, uz⟩ := h
  have en : ∀ q j, q ≠ W.1 → uf (uf (uf (uf (uf W.2.1 W.1 0 k) W.1 1 t) W.1 7 1) W.1 2 a) W.1 3 b q j = W.2.1 q j := fun q j hq => by
    rw [uf_ne _ _ (Or.inl hq), uf_ne _ _ (Or.inl hq), uf_ne _ _ (Or.inl hq), uf_ne _ _ (Or.inl hq), uf_ne _ _ (Or.inl hq)]
  have e4 : uf (uf (uf (uf (uf W.2.1 W.1 0 k) W.1 1 t) W.1 7 1) W.1 2 a) W.1 3 b W.1 4 = 0 := by
    rw [uf_ne _ _ (Or.inr (by decide)), uf_ne _ _ (Or.inr (by decide)), uf_ne _ _ (Or.inr (by decide)), uf_ne _ _ (Or.inr (by decide)), uf_ne _ _ (Or.inr (by decide))]
    exact wz W.1 (Nat.le_refl _)
  have e0 : uf (uf (uf (uf (uf W.2.1 W.1 0 k) W.1 1 t) W.1 7 1) W.1 2 a) W.1 3 b W.1 0 = k := by
    rw [uf_ne _ _ (Or.inr (by decide)), uf_ne _ _ (Or.inr (by decide)), uf_ne _ _ (Or.inr (by decide)), uf_ne _ _ (Or.inr (by decide)), uf_self]
  refine ⟨⟨a', ⟨by show W.1 + 1 ≤ 10; omega, fun w hw => ?_⟩, c'⟩, fun w hw hkw => ?_, z, dz, fun w hw => ?_, uz⟩
  · by_cases e : w = W.1
    · subst e
      refine ⟨?_, ?_, ?_, ?_, ?_, ?_⟩
      · show uf (uf (uf (uf (uf W.2.1 W.1 0 k) W.1 1 t) W.1 7 1) W.1 2 a) W.1 3 b W.1 0 < 6; rw [e0]; omega
      · show uf (uf (uf (uf (uf W.2.1 W.1 0 k) W.1 1 t) W.1 7 1) W.1 2 a) W.1 3 b W.1 1 < 4
        rw [uf_ne _ _ (Or.inr (by decide)), uf_ne _ _ (Or.inr (by decide)), uf_ne _ _ (Or.inr (by decide)), uf_self]; exact ht
      · show uf (uf (uf (uf (uf W.2.1 W.1 0 k) W.1 1 t) W.1 7 1) W.1 2 a) W.1 3 b W.1 2 < 6
        rw [uf_ne _ _ (Or.inr (by decide)), uf_self]; exact ha
      · show uf (uf (uf (uf (uf W.2.1 W.1 0 k) W.1 1 t) W.1 7 1) W.1 2 a) W.1 3 b W.1 3 < 6
        rw [uf_self]; exact hb
      · show uf (uf (uf (uf (uf W.2.1 W.1 0 k) W.1 1 t) W.1 7 1) W.1 2 a) W.1 3 b W.1 4 < 4; rw [e4]; decide
      · show uf (uf (uf (uf (uf W.2.1 W.1 0 k) W.1 1 t) W.1 7 1) W.1 2 a) W.1 3 b W.1 7 < 2
        rw [uf_ne _ _ (Or.inr (by decide)), uf_ne _ _ (Or.inr (by decide)), uf_self]; decide
    · have hw2 : w < W.1 := by have : w < W.1 + 1 := hw; omega
      obtain ⟨x0, x1, x2, x3, x4, x7⟩ := b2 w hw2
      exact ⟨by rw [show (W.1 + 1, (uf (uf (uf (uf (uf W.2.1 W.1 0 k) W.1 1 t) W.1 7 1) W.1 2 a) W.1 3 b), uf (uf W.2.2 W.1 5 c) W.1 6 d).2.1 w 0 = W.2.1 w 0 from en w 0 e]; exact x0, by rw [show (W.1 + 1, (uf (uf (uf (uf (uf W.2.1 W.1 0 k) W.1 1 t) W.1 7 1) W.1 2 a) W.1 3 b), uf (uf W.2.2 W.1 5 c) W.1 6 d).2.1 w 1 = W.2.1 w 1 from en w 1 e]; exact x1, by rw [show (W.1 + 1, (uf (uf (uf (uf (uf W.2.1 W.1 0 k) W.1 1 t) W.1 7 1) W.1 2 a) W.1 3 b), uf (uf W.2.2 W.1 5 c) W.1 6 d).2.1 w 2 = W.2.1 w 2 from en w 2 e]; exact x2, by rw [show (W.1 + 1, (uf (uf (uf (uf (uf W.2.1 W.1 0 k) W.1 1 t) W.1 7 1) W.1 2 a) W.1 3 b), uf (uf W.2.2 W.1 5 c) W.1 6 d).2.1 w 3 = W.2.1 w 3 from en w 3 e]; exact x3, by rw [show (W.1 + 1, (uf (uf (uf (uf (uf W.2.1 W.1 0 k) W.1 1 t) W.1 7 1) W.1 2 a) W.1 3 b), uf (uf W.2.2 W.1 5 c) W.1 6 d).2.1 w 4 = W.2.1 w 4 from en w 4 e]; exact x4, by rw [show (W.1 + 1, (uf (uf (uf (uf (uf W.2.1 W.1 0 k) W.1 1 t) W.1 7 1) W.1 2 a) W.1 3 b), uf (uf W.2.2 W.1 5 c) W.1 6 d).2.1 w 7 = W.2.1 w 7 from en w 7 e]; exact x7⟩
  · by_cases e : w = W.1
    · subst e
      have h4 : k = 4 := by rw [← e0]; exact hkw
      show 0 ≤ (uf (uf W.2.2 W.1 5 c) W.1 6 d W.1 5).toInt
      rw [uf_ne _ _ (Or.inr (by decide)), uf_self]
      exact Int64.le_iff_toInt_le.mp (hk4 h4)
    · have hw2 : w < W.1 := by have : w < W.1 + 1 := hw; omega
      show 0 ≤ (uf (uf W.2.2 W.1 5 c) W.1 6 d w 5).toInt
      rw [uf_ne _ _ (Or.inl e), uf_ne _ _ (Or.inl e)]
      exact c4 w hw2 (by rw [← en w 0 e]; exact hkw)
  · have hw2 : W.1 + 1 ≤ w := hw
    show uf (uf (uf (uf (uf W.2.1 W.1 0 k) W.1 1 t) W.1 7 1) W.1 2 a) W.1 3 b w 4 = 0
    rw [en w 4 (by omega)]
    exact wz w (by omega)
theorem HH_amo {t c u d : Nat} (h10 : W.1 < 10) (ht : t < 4) (hc : c < 6) (hu : u < 4) (hd : d < 6) (h : HH D W U T) : HH D (W.1 + 1, (uf (uf (uf (uf (uf (uf W.2.1 W.1 0 5) W.1 1 t) W.1 7 1) W.1 2 c) W.1 4 u) W.1 3 d), W.2.2) U T := by
  obtain ⟨⟨a', ⟨b1, b2⟩, c'⟩, c4, z, dz, wz, uz⟩ := h
  have en : ∀ q j, q ≠ W.1 → uf (uf (uf (uf (uf (uf W.2.1 W.1 0 5) W.1 1 t) W.1 7 1) W.1 2 c) W.1 4 u) W.1 3 d q j = W.2.1 q j := fun q j hq => by
    rw [uf_ne _ _ (Or.inl hq), uf_ne _ _ (Or.inl hq), uf_ne _ _ (Or.inl hq), uf_ne _ _ (Or.inl hq), uf_ne _ _ (Or.inl hq), uf_ne _ _ (Or.inl hq)]
  have e0 : uf (uf (uf (uf (uf (uf W.2.1 W.1 0 5) W.1 1 t) W.1 7 1) W.1 2 c) W.1 4 u) W.1 3 d W.1 0 = 5 := by
    rw [uf_ne _ _ (Or.inr (by decide)), uf_ne _ _ (Or.inr (by decide)), uf_ne _ _ (Or.inr (by decide)), uf_ne _ _ (Or.inr (by decide)), uf_ne _ _ (Or.inr (by decide)), uf_self]
  have key : ∀ w, w < W.1 + 1 → LOK (W.1 + 1, (uf (uf (uf (uf (uf (uf W.2.1 W.1 0 5) W.1 1 t) W.1 7 1) W.1 2 c) W.1 4 u) W.1 3 d), W.2.2) w := fun w hw => by
    unfold LOK
    dsimp only
    by_cases e : w = W.1
    · subst e
      refine ⟨by rw [e0]; decide, ?_, ?_, ?_, ?_, ?_⟩
      · rw [uf_ne _ _ (Or.inr (by decide)), uf_ne _ _ (Or.inr (by decide)), uf_ne _ _ (Or.inr (by decide)), uf_ne _ _ (Or.inr (by decide)), uf_self]; exact ht
      · rw [uf_ne _ _ (Or.inr (by decide)), uf_ne _ _ (Or.inr (by decide)), uf_self]; exact hc
      · rw [uf_self]; exact hd
      · rw [uf_ne _ _ (Or.inr (by decide)), uf_self]; exact hu
      · rw [uf_ne _ _ (Or.inr (by decide)), uf_ne _ _ (Or.inr (by decide)), uf_ne _ _ (Or.inr (by decide)), uf_self]; decide
    · rw [en w 0 e, en w 1 e, en w 2 e, en w 3 e, en w 4 e, en w 7 e]
      exact b2 w (by omega)
  refine ⟨⟨a', ⟨by show W.1 + 1 ≤ 10; omega, key⟩, c'⟩, fun w hw hkw => ?_, z, dz, fun w hw => ?_, uz⟩
  · have hkw2 : uf (uf (uf (uf (uf (uf W.2.1 W.1 0 5) W.1 1 t) W.1 7 1) W.1 2 c) W.1 4 u) W.1 3 d w 0 = 4 := hkw
    by_cases e : w = W.1
    · subst e
      rw [e0] at hkw2
      omega
    · have hw2 : w < W.1 := by have : w < W.1 + 1 := hw; omega
      rw [en w 0 e] at hkw2
      exact c4 w hw2 hkw2
  · have hw2 : W.1 + 1 ≤ w := hw
    show uf (uf (uf (uf (uf (uf W.2.1 W.1 0 5) W.1 1 t) W.1 7 1) W.1 2 c) W.1 4 u) W.1 3 d w 4 = 0
    rw [en w 4 (by omega)]
    exact wz w (by omega)
theorem HH_ask (h : HH D W U T) : HH D W (0, U.2.1, U.2.2.1, U.2.2.2.1, 0, U.2.2.2.2.2) T := by
  obtain ⟨⟨a, b, c, d⟩, c4, z, dz, wz, uz⟩ := h
  exact ⟨⟨a, b, ⟨Nat.zero_le _, Nat.zero_le _, fun p hp => absurd hp (Nat.not_lt_zero _), fun j hj => absurd hj (Nat.not_lt_zero _)⟩, d⟩, c4, z, dz, wz, uz⟩
theorem HH_prt {t : Nat} (ht : t < 4) (hp : U.1 < 3) (h : HH D W U T) : HH D W (prtU U t) T := by
  obtain ⟨⟨a, b, ⟨c1, c2, c3, c5⟩, d⟩, c4, z, dz, wz, uz⟩ := h
  have hz : ∀ p c, (prtU U t).2.2.1 p c < 2 := fun p c => by
    show (if p = U.1 ∧ c < 6 then 0 else U.2.2.1 p c) < 2
    split
    · decide
    · exact uz p c
  refine ⟨⟨a, b, ⟨by show U.1 + 1 ≤ 3; omega, c2, fun p hp2 => ⟨?_, hz p⟩, fun j hj => ?_⟩, d⟩, c4, z, dz, wz, hz⟩
  · show (if p = U.1 then t else U.2.1 p) < 4
    split
    · exact ht
    · have : p < U.1 + 1 := hp2
      exact (c3 p (by omega)).1
  · obtain ⟨x0, x1, x2, x3⟩ := c5 j hj
    exact ⟨by show U.2.2.2.2.2 j 0 < U.1 + 1; omega, x1, by show U.2.2.2.2.2 j 2 < U.1 + 1; omega, x3⟩
theorem HH_tel {r c : Nat} {v : Int64} (h : HH D W U T) : HH D W (U.1, U.2.1, uf U.2.2.1 r c 1, uf U.2.2.2.1 r c v, U.2.2.2.2) T := by
  obtain ⟨⟨a, b, ⟨c1, c2, c3, c5⟩, d⟩, c4, z, dz, wz, uz⟩ := h
  have hz : ∀ p i, uf U.2.2.1 r c 1 p i < 2 := fun p i => by
    unfold uf
    split
    · decide
    · exact uz p i
  exact ⟨⟨a, b, ⟨c1, c2, fun p hp => ⟨(c3 p hp).1, hz p⟩, c5⟩, d⟩, c4, z, dz, wz, hz⟩
theorem HH_joi {p c q d : Nat} (hp : p < U.1) (hq : q < U.1) (hc : c < 6) (hd : d < 6) (hj : U.2.2.2.2.1 < 6) (h : HH D W U T) : HH D W (U.1, U.2.1, U.2.2.1, U.2.2.2.1, U.2.2.2.2.1 + 1, uf (uf (uf (uf U.2.2.2.2.2 U.2.2.2.2.1 0 p) U.2.2.2.2.1 1 c) U.2.2.2.2.1 2 q) U.2.2.2.2.1 3 d) T := by
  obtain ⟨⟨a, b, ⟨c1, c2, c3, c5⟩, dd⟩, c4, z, dz, wz, uz⟩ := h
  refine ⟨⟨a, b, ⟨c1, by show U.2.2.2.2.1 + 1 ≤ 6; omega, c3, fun j hj2 => ?_⟩, dd⟩, c4, z, dz, wz, uz⟩
  dsimp only
  by_cases e : j = U.2.2.2.2.1
  · subst e
    refine ⟨?_, ?_, ?_, ?_⟩
    · rw [uf_ne _ _ (Or.inr (by decide)), uf_ne _ _ (Or.inr (by decide)), uf_ne _ _ (Or.inr (by decide)), uf_self]; exact hp
    · rw [uf_ne _ _ (Or.inr (by decide)), uf_ne _ _ (Or.inr (by decide)), uf_self]; exact hc
    · rw [uf_ne _ _ (Or.inr (by decide)), uf_self]; exact hq
    · rw [uf_self]; exact hd
  · have : j < U.2.2.2.2.1 + 1 := hj2
    rw [uf_ne _ _ (Or.inl e), uf_ne _ _ (Or.inl e), uf_ne _ _ (Or.inl e), uf_ne _ _ (Or.inl e), uf_ne _ _ (Or.inl e), uf_ne _ _ (Or.inl e), uf_ne _ _ (Or.inl e), uf_ne _ _ (Or.inl e), uf_ne _ _ (Or.inl e), uf_ne _ _ (Or.inl e), uf_ne _ _ (Or.inl e), uf_ne _ _ (Or.inl e), uf_ne _ _ (Or.inl e), uf_ne _ _ (Or.inl e), uf_ne _ _ (Or.inl e), uf_ne _ _ (Or.inl e)]
    exact c5 j (by omega)
theorem HH_stl {t x y : Nat} (h : HH D W U T) : HH (setlD D t x y) W U T := by
  obtain ⟨⟨a, b⟩, c4, z, dz, e⟩ := h
  refine ⟨⟨a, b⟩, c4, fun r hr c h0 => ?_, dz, e⟩
  have h1 : D.2.2.1 r c = 0 := h0
  show (if c = y ∧ r < D.1 then becV D t x y r else D.2.2.2 r c) = 0
  split
  · next hc =>
    rw [becV_f, ← hc.1, z r hr c h1]
    cases hb : (thD D t x y).testBit r
    · rfl
    · exact absurd (hc.1 ▸ h1) (th_tb.mp hb).2.2.2.2
  · exact z r hr c h1
end HHX

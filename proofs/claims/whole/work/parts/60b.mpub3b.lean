-- settle, both sides (pure)
theorem th_f1 {D : DB} {W : LB} {w i : Nat} (h : ofB D W w i (keptD D) = false) : (thD D (W.2.1 w 1) (W.2.1 w 2) (W.2.1 w 3)).testBit i = false := by
  cases hb : (thD D (W.2.1 w 1) (W.2.1 w 2) (W.2.1 w 3)).testBit i
  · rfl
  · have := th_tb.mp hb
    rw [ofB_iff.mpr ⟨this.2.1, this.2.2.1⟩] at h
    cases h
theorem th_f2 {D : DB} {t x y i : Nat} (h : D.2.2.1 i x = 0) : (thD D t x y).testBit i = false := by
  cases hb : (thD D t x y).testBit i
  · rfl
  · exact absurd h (th_tb.mp hb).2.2.2.1
theorem th_f3 {D : DB} {t x y i : Nat} (h : D.2.2.1 i y = 0) : (thD D t x y).testBit i = false := by
  cases hb : (thD D t x y).testBit i
  · rfl
  · exact absurd h (th_tb.mp hb).2.2.2.2
theorem th_t {D : DB} {W : LB} {w i : Nat} (hi : i < D.1) (h : ofB D W w i (keptD D) = true) (hx : D.2.2.1 i (W.2.1 w 2) ≠ 0) (hy : D.2.2.1 i (W.2.1 w 3) ≠ 0) : (thD D (W.2.1 w 1) (W.2.1 w 2) (W.2.1 w 3)).testBit i = true :=
  th_tb.mpr ⟨hi, (ofB_iff.mp h).1, (ofB_iff.mp h).2, hx, hy⟩
def cPs (D : DB) (t x y q : Nat) : Bool := (thD D t x y).testBit q && D.2.2.2 q y != newV D t x y (thD D t x y) q
theorem cP_1 {D : DB} {t x y i : Nat} (h : becV D t x y i ≠ D.2.2.2 i y) : cPs D t x y i = true := by
  unfold cPs
  cases hb : (thD D t x y).testBit i
  · exact absurd (becV_f hb) h
  · rw [becV_t hb] at h
    rw [Bool.true_and, bne_iff_ne]
    exact Ne.symm h
theorem cP_0 {D : DB} {t x y i : Nat} (h : becV D t x y i = D.2.2.2 i y) : cPs D t x y i = false := by
  unfold cPs
  cases hb : (thD D t x y).testBit i
  · rfl
  · rw [becV_t hb] at h
    rw [Bool.true_and, bne_eq_false_iff_eq]
    exact h.symm
theorem cP_all (D : DB) (t x y : Nat) : cntN (cPs D t x y) D.1 = cSall D t x y (thD D t x y) := rfl
theorem mv_stl {f : Nat → Nat → Nat} {l : Nat → Nat → Int64} {D : DB} {W : LB} {U : QB} {T : TB} {N : Nat} (t x : Nat) {y : Nat} (hy : y < 6) (h : MV f l D W U T N) : MV f (stW (bcW l D t x y D.1) D t x y D.1) (setlD D t x y) W U T N := by
  refine h.stl (fun k j h1 h2 => (stW_ne _ _ _ _ _ _ (Or.inl h1)).trans (bcW_ne _ _ _ _ _ _ h2)) rfl rfl rfl (fun r hr c hc => ?_)
  show stW (bcW l D t x y D.1) D t x y D.1 93 (6 * r + c) = if c = y ∧ r < D.1 then becV D t x y r else D.2.2.2 r c
  by_cases e : c = y ∧ r < D.1
  · rw [if_pos e, e.1, stW_at hy e.2]
  · rw [if_neg e, stW_ne _ _ _ _ _ _ (by omega), bcW_ne _ _ _ _ _ _ (by decide)]
    exact h.num r hr c hc
theorem ci_stl {f : Nat → Nat → Nat} {l : Nat → Nat → Int64} {D : DB} {W : LB} {U : QB} {T : TB} {N : Nat} (hD : DW D) (t x y : Nat) (h : CI f l D W U T N) : CI f (sall D t x y (thD D t x y) l D.1) (setlD D t x y) W U T N := by
  obtain ⟨⟨v1, v2, v3, v4⟩, ⟨l1, l2, l3⟩, ⟨u1, u2, u3, u4, u5, u6⟩, ht, n5, sb⟩ := h
  have hT := thD_TH D t x y
  have hne : ∀ k j, 43 ≤ k → sall D t x y (thD D t x y) l D.1 k j = l k j := fun k j hk => sall_ne hT l D.1 (Or.inr (fun r hr => by
    have := (hT r hr).1
    have := hD.1
    omega))
  refine ⟨⟨v1, v2, v3, fun r hr c => ?_⟩, ⟨l1, l2, fun w hw j => (hne _ _ (by omega)).trans (l3 w hw j)⟩, ⟨u1, u2, u3, fun p hp c => (hne _ _ (by omega)).trans (u4 p hp c), u5, u6⟩, ht, n5, sb⟩
  show sall D t x y (thD D t x y) l D.1 (5 + 3 * r) c = if c = y ∧ r < D.1 then becV D t x y r else D.2.2.2 r c
  by_cases e : c = y ∧ r < D.1
  · rw [if_pos e]
    cases hb : (thD D t x y).testBit r
    · rw [becV_f hb, sall_ne hT l D.1 (Or.inr (fun q hq => ?_)), v4 r hr c, e.1]
      intro hqr
      have : q = r := by omega
      rw [this, hb] at hq
      cases hq
    · rw [becV_t hb, e.1]
      exact (sall_at hT l hb D.1).1 ⟨r, e.2, hb, rfl⟩
  · rw [if_neg e]
    by_cases e2 : c = y
    · rw [sall_ne hT l D.1 (Or.inr (fun q hq => ?_)), v4 r hr c]
      have := (hT q hq).1
      omega
    · rw [sall_ne hT l D.1 (Or.inl e2), v4 r hr c]
theorem Pm.cl {G : GG} {own : String} {cc : ByteArray} {nL : Nat} {K : KK} {pc : Nat} {ls : List (Option Value)} {st : List Value} {f : Nat → Nat → Nat} {l l' : Nat → Nat → Int64} (e : l = l') (h : Pm G own cc nL K pc ls st f l') : Pm G own cc nL K pc ls st f l := e ▸ h
def stiD (D : DB) (t x y n : Nat) : DB := setD D (fun r c => if c = y ∧ r < n then becV D t x y r else D.2.2.2 r c)
theorem mv_sti {f : Nat → Nat → Nat} {l : Nat → Nat → Int64} {D : DB} {W : LB} {U : QB} {T : TB} {N : Nat} (t x : Nat) {y : Nat} (hy : y < 6) (n : Nat) (h : MV f l D W U T N) : MV f (stW (bcW l D t x y D.1) D t x y n) (stiD D t x y n) W U T N := by
  refine h.stl (fun k j h1 h2 => (stW_ne _ _ _ _ _ _ (Or.inl h1)).trans (bcW_ne _ _ _ _ _ _ h2)) rfl rfl rfl (fun r hr c hc => ?_)
  show stW (bcW l D t x y D.1) D t x y n 93 (6 * r + c) = if c = y ∧ r < n then becV D t x y r else D.2.2.2 r c
  by_cases e : c = y ∧ r < n
  · rw [if_pos e, e.1, stW_at hy e.2]
  · rw [if_neg e, stW_ne _ _ _ _ _ _ (by omega), bcW_ne _ _ _ _ _ _ (by decide)]
    exact h.num r hr c hc
theorem BW_sti {D : DB} {W : LB} {U : QB} {T : TB} (t x y n : Nat) (h : BW D W U T) : BW (stiD D t x y n) W U T := h
theorem t_isOf_sti {G : GG} {f : Nat → Nat → Nat} {l : Nat → Nat → Int64} {D : DB} {W : LB} {U : QB} {T : TB} {N : Nat} (t x y n : Nat) (hM : MV f l (stiD D t x y n) W U T N) (hBW : BW D W U T) {w r S : Nat} (hw : w < W.1) (hr : r < 12) (hS : S < 2147483648) : Spec G mX10_isOf [.ref (ad G 86), .int (nI w), .int (nI r), .int (nI S)] 114 (f, l, refT) (some (.int (bI (ofB D W w r S)))) 114 (f, l, refT) :=
  t_isOf hM (BW_sti t x y n hBW) hw hr hS

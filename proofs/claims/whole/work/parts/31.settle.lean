-- settling: what it makes of the rows (pure)
def mtP (D : DB) (t y g : Nat) (n : Nat) : Nat × Int64 := fo (fun r a => if g.testBit r = true ∧ (a.1 < trustD D (withN D t y (D.2.2.2 r y) g) ∨ (trustD D (withN D t y (D.2.2.2 r y) g) = a.1 ∧ D.2.2.2 r y < a.2)) then (trustD D (withN D t y (D.2.2.2 r y) g), D.2.2.2 r y) else a) n (0, 0)
theorem mtP_s (D : DB) (t y g n : Nat) : mtP D t y g (n + 1) = if g.testBit n = true ∧ ((mtP D t y g n).1 < trustD D (withN D t y (D.2.2.2 n y) g) ∨ (trustD D (withN D t y (D.2.2.2 n y) g) = (mtP D t y g n).1 ∧ D.2.2.2 n y < (mtP D t y g n).2)) then (trustD D (withN D t y (D.2.2.2 n y) g), D.2.2.2 n y) else mtP D t y g n := rfl
theorem mtP_out {D : DB} {t y g n : Nat} (h : g.testBit n = false) : mtP D t y g (n + 1) = mtP D t y g n := by
  rw [mtP_s, if_neg (by rw [h]; exact fun x => Bool.noConfusion x.1)]
theorem mtP_gt {D : DB} {t y g n : Nat} (h : g.testBit n = true) (h1 : (mtP D t y g n).1 < trustD D (withN D t y (D.2.2.2 n y) g)) : mtP D t y g (n + 1) = (trustD D (withN D t y (D.2.2.2 n y) g), D.2.2.2 n y) := by
  rw [mtP_s, if_pos ⟨h, Or.inl h1⟩]
theorem mtP_eq {D : DB} {t y g n : Nat} (h : g.testBit n = true) (h1 : trustD D (withN D t y (D.2.2.2 n y) g) = (mtP D t y g n).1) (h2 : D.2.2.2 n y < (mtP D t y g n).2) : mtP D t y g (n + 1) = (trustD D (withN D t y (D.2.2.2 n y) g), D.2.2.2 n y) := by
  rw [mtP_s, if_pos ⟨h, Or.inr ⟨h1, h2⟩⟩]
theorem mtP_lt {D : DB} {t y g n : Nat} (h0 : trustD D (withN D t y (D.2.2.2 n y) g) ≤ (mtP D t y g n).1) (h1 : trustD D (withN D t y (D.2.2.2 n y) g) ≠ (mtP D t y g n).1) : mtP D t y g (n + 1) = mtP D t y g n := by
  rw [mtP_s, if_neg (fun x => x.2.elim (fun z => by omega) (fun z => h1 z.1))]
theorem mtP_ge {D : DB} {t y g n : Nat} (h0 : trustD D (withN D t y (D.2.2.2 n y) g) ≤ (mtP D t y g n).1) (h2 : (mtP D t y g n).2 ≤ D.2.2.2 n y) : mtP D t y g (n + 1) = mtP D t y g n := by
  rw [mtP_s, if_neg (fun x => x.2.elim (fun z => by omega) (fun z => absurd z.2 (Int64.not_lt.mpr h2)))]
theorem mtP_le {D : DB} (h : DW D) (t y g n : Nat) : (mtP D t y g n).1 ≤ 1200 := by
  induction n with
  | zero => exact Nat.zero_le _
  | succ n ih =>
    rw [mtP_s]
    split
    · exact trustD_le h _
    · exact ih
/-- the numbers of a group made one -/
def sgl (l : Nat → Nat → Int64) (g y : Nat) (v : Int64) (n : Nat) : Nat → Nat → Int64 := fo (fun r h => if g.testBit r = true then uf h (5 + 3 * r) y v else h) n l
theorem sgl_s (l : Nat → Nat → Int64) (g y : Nat) (v : Int64) (n : Nat) : sgl l g y v (n + 1) = if g.testBit n = true then uf (sgl l g y v n) (5 + 3 * n) y v else sgl l g y v n := rfl
theorem sgl_ne (l : Nat → Nat → Int64) (g y : Nat) (v : Int64) (n : Nat) {a b : Nat} (h : b ≠ y ∨ ∀ r, r < n → g.testBit r = true → a ≠ 5 + 3 * r) : sgl l g y v n a b = l a b := by
  induction n with
  | zero => rfl
  | succ n ih =>
    have ih := ih (h.imp id (fun h r hr => h r (by omega)))
    rw [sgl_s]
    split
    · next c =>
      rw [uf_ne, ih]
      exact h.symm.imp (fun h => h n (by omega) c) id
    · exact ih
theorem sgl_at (l : Nat → Nat → Int64) (g y : Nat) (v : Int64) {r : Nat} (hg : g.testBit r = true) : ∀ n, r < n → sgl l g y v n (5 + 3 * r) y = v := by
  intro n
  induction n with
  | zero => intro h; omega
  | succ n ih =>
    intro h
    rw [sgl_s]
    by_cases e : r = n
    · subst e
      rw [if_pos hg]; exact uf_self _ _ _ _
    · split
      · rw [uf_ne _ _ (Or.inl (by omega))]; exact ih (by omega)
      · exact ih (by omega)
theorem sgl_in {l : Nat → Nat → Int64} {g y : Nat} {v : Int64} {n : Nat} (h : g.testBit n = true) : sgl l g y v (n + 1) = uf (sgl l g y v n) (5 + 3 * n) y v := by rw [sgl_s, if_pos h]
theorem sgl_out {l : Nat → Nat → Int64} {g y : Nat} {v : Int64} {n : Nat} (h : g.testBit n = false) : sgl l g y v (n + 1) = sgl l g y v n := by rw [sgl_s, if_neg (by rw [h]; exact Bool.noConfusion)]
theorem sgl_same {l : Nat → Nat → Int64} {g y : Nat} {v : Int64} {n : Nat} (h : l (5 + 3 * n) y = v) : sgl l g y v (n + 1) = sgl l g y v n := by
  have h1 : sgl l g y v n (5 + 3 * n) y = v := by rw [sgl_ne l g y v n (Or.inr (fun r hr _ => by omega)), h]
  rw [sgl_s]
  split
  · funext a b
    by_cases e : a = 5 + 3 * n ∧ b = y
    · rw [e.1, e.2, uf_self, h1]
    · rw [uf_ne]
      by_cases e1 : a = 5 + 3 * n
      · exact Or.inr (fun e2 => e ⟨e1, e2⟩)
      · exact Or.inl e1
  · rfl
def setD (D : DB) (w : Nat → Nat → Int64) : DB := (D.1, D.2.1, D.2.2.1, w)
theorem setD_W {D : DB} (h : DW D) (w : Nat → Nat → Int64) : DW (setD D w) := h
theorem setD_RV {f : Nat → Nat → Nat} {l l1 : Nat → Nat → Int64} {D : DB} {w : Nat → Nat → Int64} (h : RV f l D) (hw : ∀ r, r < 12 → ∀ c, l1 (5 + 3 * r) c = w r c) : RV f l1 (setD D w) := ⟨h.1, h.2.1, h.2.2.1, hw⟩

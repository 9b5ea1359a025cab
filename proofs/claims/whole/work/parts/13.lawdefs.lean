-- the laws: (how many, (law, slot: 0 kind, 1 table, 2 first, 3 second, 4 other, 7 in force), (law, slot: 5 c, 6 d))
abbrev LB : Type := Nat × (Nat → Nat → Nat) × (Nat → Nat → Int64)
def LV (f : Nat → Nat → Nat) (l : Nat → Nat → Int64) (W : LB) : Prop :=
  f 40 2 = W.1 ∧ (∀ w, w < 10 → ∀ j, f (43 + w) j = W.2.1 w j) ∧ ∀ w, w < 10 → ∀ j, l (43 + w) j = W.2.2 w j
def LOK (W : LB) (w : Nat) : Prop := W.2.1 w 0 < 6 ∧ W.2.1 w 1 < 4 ∧ W.2.1 w 2 < 6 ∧ W.2.1 w 3 < 6 ∧ W.2.1 w 4 < 4 ∧ W.2.1 w 7 < 2
def LW (W : LB) : Prop := W.1 ≤ 10 ∧ ∀ w, w < W.1 → LOK W w
def alone (D : DB) (W : LB) (w r : Nat) : Bool :=
  if W.2.1 w 0 = 3 then D.2.2.1 r (W.2.1 w 2) == 0
  else D.2.2.1 r (W.2.1 w 2) != 0 && (decide (D.2.2.2 r (W.2.1 w 2) < W.2.2 w 5) || decide (W.2.2 w 6 < D.2.2.2 r (W.2.1 w 2)))
def dist (v w : Int64) : Int64 := if w < v then v - w else w - v
def near (v w c : Int64) : Bool := decide (0 ≤ dist v w) && decide (dist v w < c)
def together (D : DB) (W : LB) (w r q : Nat) : Bool :=
  D.2.2.2 r (W.2.1 w 2) == D.2.2.2 q (W.2.1 w 2) && (if W.2.1 w 0 = 0 then D.2.2.2 r (W.2.1 w 3) != D.2.2.2 q (W.2.1 w 3) else near (D.2.2.2 r (W.2.1 w 3)) (D.2.2.2 q (W.2.1 w 3)) (W.2.2 w 5))
/-- the walk of isLeastSum: whether it goes on, what is free, the smallest -/
def lsS (g : Nat → Int64) (c s0 : Int64) (o : Nat) (n : Nat) : Bool × Int64 × Int64 :=
  fo (fun r p => if p.1 && o.testBit r then
      (if p.2.1 < (if p.2.2 < g r then g r else p.2.2) then (false, p.2.1, p.2.2) else (true, p.2.1 - (if p.2.2 < g r then g r else p.2.2), if p.2.2 < g r then p.2.2 else g r)) else p) n (true, c, s0)
theorem lsS_s (g : Nat → Int64) (c s0 : Int64) (o n : Nat) : lsS g c s0 o (n + 1) = if (lsS g c s0 o n).1 && o.testBit n then
      (if (lsS g c s0 o n).2.1 < (if (lsS g c s0 o n).2.2 < g n then g n else (lsS g c s0 o n).2.2) then (false, (lsS g c s0 o n).2.1, (lsS g c s0 o n).2.2) else (true, (lsS g c s0 o n).2.1 - (if (lsS g c s0 o n).2.2 < g n then g n else (lsS g c s0 o n).2.2), if (lsS g c s0 o n).2.2 < g n then (lsS g c s0 o n).2.2 else g n)) else lsS g c s0 o n := rfl
theorem lsS_f {g : Nat → Int64} {c s0 : Int64} {o i : Nat} (h : (lsS g c s0 o i).1 = false) : ∀ n, i ≤ n → (lsS g c s0 o n).1 = false := by
  intro n hn
  induction n with
  | zero => rwa [show i = 0 by omega] at h
  | succ n ih =>
    by_cases hi : i = n + 1
    · rwa [hi] at h
    · rw [lsS_s, ih (by omega)]
      simp [ih (by omega)]
def lsD (D : DB) (W : LB) (w hi o n : Nat) : Bool × Int64 × Int64 := lsS (fun r => D.2.2.2 r (W.2.1 w 3)) (W.2.2 w 5) (D.2.2.2 hi (W.2.1 w 3)) o n
theorem lsD_s (D : DB) (W : LB) (w hi o n : Nat) : lsD D W w hi o (n + 1) = if (lsD D W w hi o n).1 && o.testBit n then
      (if (lsD D W w hi o n).2.1 < (if (lsD D W w hi o n).2.2 < D.2.2.2 n (W.2.1 w 3) then D.2.2.2 n (W.2.1 w 3) else (lsD D W w hi o n).2.2) then (false, (lsD D W w hi o n).2.1, (lsD D W w hi o n).2.2) else (true, (lsD D W w hi o n).2.1 - (if (lsD D W w hi o n).2.2 < D.2.2.2 n (W.2.1 w 3) then D.2.2.2 n (W.2.1 w 3) else (lsD D W w hi o n).2.2), if (lsD D W w hi o n).2.2 < D.2.2.2 n (W.2.1 w 3) then (lsD D W w hi o n).2.2 else D.2.2.2 n (W.2.1 w 3))) else lsD D W w hi o n := rfl
def leastS (D : DB) (W : LB) (w hi o : Nat) : Bool := (lsD D W w hi o hi).1 && decide ((lsD D W w hi o hi).2.1 < (lsD D W w hi o hi).2.2)
theorem leastS_f {D : DB} {W : LB} {w hi o i : Nat} (h : (lsD D W w hi o i).1 = false) (hi1 : i ≤ hi) : leastS D W w hi o = false := by
  unfold leastS
  rw [show (lsD D W w hi o hi).1 = false from lsS_f h hi hi1]
  rfl
/-- the world with the quarrels L in found -/
def wrL (f : Nat → Nat → Nat) (L : List Nat) : Nat → Nat → Nat := fun k j => if k = 42 ∧ j < L.length then L.getD j 0 else if k = 40 ∧ j = 4 then L.length else f k j
theorem wrL_ne (f : Nat → Nat → Nat) (L : List Nat) {k j : Nat} (h1 : k ≠ 42) (h2 : k ≠ 40 ∨ j ≠ 4) : wrL f L k j = f k j := by
  simp only [wrL]
  rw [if_neg (fun h => h1 h.1), if_neg (by omega)]
theorem wrL_len (f : Nat → Nat → Nat) (L : List Nat) : wrL f L 40 4 = L.length := by simp [wrL]
theorem wrL_at (f : Nat → Nat → Nat) {L : List Nat} {j : Nat} (h : j < L.length) : wrL f L 42 j = L.getD j 0 := if_pos ⟨rfl, h⟩
theorem wrL_0 (f : Nat → Nat → Nat) : uf f 40 4 0 = wrL f [] := by
  funext k j
  simp only [uf, wrL, List.length_nil]
  by_cases h : k = 40 ∧ j = 4
  · rw [if_pos h, if_neg (by omega)]
  · rw [if_neg h, if_neg (by omega)]
theorem wrL_app (f : Nat → Nat → Nat) (L : List Nat) (s : Nat) : uf (uf (wrL f L) 42 L.length s) 40 4 (L.length + 1) = wrL f (L ++ [s]) := by
  funext k j
  simp only [uf, wrL, List.length_append, List.length_cons, List.length_nil]
  by_cases h : k = 40 ∧ j = 4
  · rw [if_pos h, if_neg (by omega), if_pos h]
  · rw [if_neg h]
    by_cases h2 : k = 42 ∧ j = L.length
    · obtain ⟨rfl, rfl⟩ := h2
      simp
    · rw [if_neg h2]
      by_cases h3 : k = 42 ∧ j < L.length
      · rw [if_pos h3, if_pos (by omega)]
        simp [List.getD_eq_getElem?_getD, List.getElem?_append_left h3.2]
      · rw [if_neg h3, if_neg h, if_neg (by omega), if_neg h]
theorem wrL_wrL (f : Nat → Nat → Nat) (L : List Nat) : uf (wrL f L) 40 4 0 = wrL (wrL f L) [] := wrL_0 _
theorem RV_wrL {f : Nat → Nat → Nat} {l : Nat → Nat → Int64} {D : DB} (h : RV f l D) (L : List Nat) : RV (wrL f L) l D :=
  ⟨(wrL_ne f L (by omega) (by omega)).trans h.1, fun r hr j => (wrL_ne f L (by omega) (by omega)).trans (h.2.1 r hr j), fun r hr c => (wrL_ne f L (by omega) (by omega)).trans (h.2.2.1 r hr c), h.2.2.2⟩
theorem LV_wrL {f : Nat → Nat → Nat} {l : Nat → Nat → Int64} {W : LB} (h : LV f l W) (L : List Nat) : LV (wrL f L) l W :=
  ⟨(wrL_ne f L (by omega) (by omega)).trans h.1, fun w hw j => (wrL_ne f L (by omega) (by omega)).trans (h.2.1 w hw j), h.2.2⟩
/-- a list out of a predicate -/
def fl (p : Nat → Bool) (g : Nat → Nat) (n : Nat) (L : List Nat) : List Nat := fo (fun i L => if p i = true then L ++ [g i] else L) n L
theorem fl_s (p : Nat → Bool) (g : Nat → Nat) (n : Nat) (L : List Nat) : fl p g (n + 1) L = if p n = true then fl p g n L ++ [g n] else fl p g n L := rfl
theorem fl_len (p : Nat → Bool) (g : Nat → Nat) (n : Nat) (L : List Nat) : (fl p g n L).length ≤ L.length + n := by
  induction n with
  | zero => exact Nat.le_refl _
  | succ n ih =>
    rw [fl_s]
    split
    · rw [List.length_append]; simp; omega
    · omega
def singL (D : DB) (W : LB) (w S n : Nat) : List Nat := fl (fun r => S.testBit r && D.2.1 r 2 == W.2.1 w 1 && alone D W w r) (fun r => 2 ^ r) n []
theorem singL_len (D : DB) (W : LB) (w S n : Nat) : (singL D W w S n).length ≤ n := by
  have := fl_len (fun r => S.testBit r && D.2.1 r 2 == W.2.1 w 1 && alone D W w r) (fun r => 2 ^ r) n []
  rw [List.length_nil, Nat.zero_add] at this
  exact this
def unhL (D : DB) (W : LB) (w S n : Nat) : List Nat := fl (fun r => (withC D (W.2.1 w 1) (W.2.1 w 2) S).testBit r && withN D (W.2.1 w 4) (W.2.1 w 3) (D.2.2.2 r (W.2.1 w 2)) S == 0) (fun r => 2 ^ r) n []
theorem unhL_len (D : DB) (W : LB) (w S n : Nat) : (unhL D W w S n).length ≤ n := by
  have := fl_len (fun r => (withC D (W.2.1 w 1) (W.2.1 w 2) S).testBit r && withN D (W.2.1 w 4) (W.2.1 w 3) (D.2.2.2 r (W.2.1 w 2)) S == 0) (fun r => 2 ^ r) n []
  rw [List.length_nil, Nat.zero_add] at this
  exact this
/-- the rows that a pair, a sum is made of -/
def those2 (D : DB) (W : LB) (w S : Nat) : Nat := withC D (W.2.1 w 1) (W.2.1 w 2) S &&& withC D (W.2.1 w 1) (W.2.1 w 3) S
def pairI (D : DB) (W : LB) (w S hi n : Nat) (L : List Nat) : List Nat := fl (fun lo => (those2 D W w S).testBit hi && (those2 D W w S).testBit lo && together D W w lo hi) (fun lo => 2 ^ hi ||| 2 ^ lo) n L
def pairL (D : DB) (W : LB) (w S n : Nat) : List Nat := fo (fun hi L => pairI D W w S hi hi L) n []
theorem pairL_s (D : DB) (W : LB) (w S n : Nat) : pairL D W w S (n + 1) = pairI D W w S n n (pairL D W w S n) := rfl
theorem pairL_len (D : DB) (W : LB) (w S n : Nat) : (pairL D W w S n).length ≤ n * n := by
  induction n with
  | zero => exact Nat.le_refl _
  | succ n ih =>
    rw [pairL_s]
    have := fl_len (fun lo => (those2 D W w S).testBit n && (those2 D W w S).testBit lo && together D W w lo n) (fun lo => 2 ^ n ||| 2 ^ lo) n (pairL D W w S n)
    have e : (n + 1) * (n + 1) = n * n + n + n + 1 := by rw [Nat.mul_add, Nat.add_mul]; omega
    simp only [pairI]
    omega
def those4 (D : DB) (W : LB) (w S : Nat) : Nat := abvZ D (W.2.1 w 3) (those2 D W w S)
def lowS (D : DB) (W : LB) (w S hi : Nat) : Nat := withN D (W.2.1 w 1) (W.2.1 w 2) (D.2.2.2 hi (W.2.1 w 2)) (those4 D W w S) &&& (2 ^ hi - 1)
def sumI (D : DB) (W : LB) (w S hi n : Nat) (L : List Nat) : List Nat := fl (fun o => sd o (lowS D W w S hi) == 0 && leastS D W w hi o) (fun o => 2 ^ hi ||| o) n L
def sumQ (D : DB) (W : LB) (w S n : Nat) : List Nat := fo (fun hi L => if (those4 D W w S).testBit hi = true then sumI D W w S hi (lowS D W w S hi + 1) L else L) n []
theorem sumQ_s (D : DB) (W : LB) (w S n : Nat) : sumQ D W w S (n + 1) = if (those4 D W w S).testBit n = true then sumI D W w S n (lowS D W w S n + 1) (sumQ D W w S n) else sumQ D W w S n := rfl
theorem lowS_lt (D : DB) (W : LB) (w S hi : Nat) : lowS D W w S hi < 2 ^ hi := by
  have h : lowS D W w S hi ≤ 2 ^ hi - 1 := Nat.and_le_right
  have := Nat.one_le_two_pow (n := hi)
  omega
theorem sumI_len (D : DB) (W : LB) (w S hi n : Nat) (L : List Nat) : (sumI D W w S hi n L).length ≤ L.length + n := fl_len _ _ _ _
theorem sumQ_len (D : DB) (W : LB) (w S n : Nat) : (sumQ D W w S n).length + 1 ≤ 2 ^ n := by
  induction n with
  | zero => exact Nat.le_refl _
  | succ n ih =>
    rw [sumQ_s]
    have h1 := sumI_len D W w S n (lowS D W w S n + 1) (sumQ D W w S n)
    have h2 := lowS_lt D W w S n
    rw [Nat.pow_succ]
    split <;> omega
theorem those2_lt {D : DB} (h : DW D) (W : LB) (w S : Nat) : those2 D W w S < 4096 := Nat.lt_of_le_of_lt Nat.and_le_left (withC_lt h _ _ _)
theorem those4_lt {D : DB} (h : DW D) (W : LB) (w S : Nat) : those4 D W w S < 4096 := abvZ_lt h _ _
def cQ (D : DB) (W : LB) (w S : Nat) : List Nat :=
  if W.2.1 w 0 = 0 ∨ W.2.1 w 0 = 2 then pairL D W w S D.1
  else if W.2.1 w 0 = 4 then sumQ D W w S D.1
  else if W.2.1 w 0 = 5 then unhL D W w S D.1
  else singL D W w S D.1
theorem pairL_max (D : DB) (W : LB) (w S n : Nat) : pairL D W w S (max 1 n) = pairL D W w S n := by
  cases n with
  | zero => rfl
  | succ n => rw [Nat.max_eq_right (by omega)]
theorem sd_le (a b : Nat) : sd a b ≤ a := by
  apply Nat.le_of_testBit
  intro i h
  rw [sd_tb] at h
  simp at h
  exact h.1
/-- the class's scratch: what a call leaves there no later call reads -/
def scr (k j : Nat) : Bool := k == 42 || (k == 40 && j == 4) || (k == 53 && (j == 3 || j == 4)) || k == 54 || k == 55 || k == 56 || k == 60 || k == 61 || k == 62
/-- the marks are 0 or 1 -/
def SB (f : Nat → Nat → Nat) : Prop := ∀ b, f 55 b < 2 ∧ f 56 b < 2 ∧ f 62 b < 2
def Fra (f g : Nat → Nat → Nat) : Prop := (∀ k j, scr k j = false → g k j = f k j) ∧ (SB f → SB g)
theorem Fra.rf (f : Nat → Nat → Nat) : Fra f f := ⟨fun _ _ _ => rfl, id⟩
theorem Fra.tr {f g h : Nat → Nat → Nat} (a : Fra f g) (b : Fra g h) : Fra f h := ⟨fun k j e => (b.1 k j e).trans (a.1 k j e), fun h => b.2 (a.2 h)⟩
theorem Fra.wrL (f : Nat → Nat → Nat) (L : List Nat) : Fra f (wrL f L) := by
  refine ⟨fun k j h => ?_, fun h b => ?_⟩
  · simp only [scr, Bool.or_eq_false_iff, Bool.and_eq_false_iff, beq_eq_false_iff_ne, ne_eq] at h
    exact wrL_ne f L (by omega) (by omega)
  · rw [wrL_ne f L (by decide) (Or.inl (by decide)), wrL_ne f L (by decide) (Or.inl (by decide)), wrL_ne f L (by decide) (Or.inl (by decide))]
    exact h b
theorem Fra.put {f g : Nat → Nat → Nat} (h : Fra f g) {k j v : Nat} (hs : scr k j = true) (hb : v < 2 ∨ (k ≠ 55 ∧ k ≠ 56 ∧ k ≠ 62)) : Fra f (uf g k j v) := by
  refine ⟨fun a b e => ?_, fun q b => ?_⟩
  · rw [uf_ne]
    · exact h.1 a b e
    · by_cases hk : a = k
      · right
        rintro rfl
        rw [hk] at e
        rw [e] at hs
        cases hs
      · exact Or.inl hk
  · have h0 := h.2 q b
    have e : ∀ a, uf g k j v a b = if a = k ∧ b = j then v else g a b := fun _ => rfl
    rw [e, e, e]
    refine ⟨?_, ?_, ?_⟩ <;> split <;> omega
theorem scr_row {r j : Nat} (h : r < 12) : scr (4 + 3 * r) j = false := by simp [scr]; omega
theorem scr_the {r j : Nat} (h : r < 12) : scr (6 + 3 * r) j = false := by simp [scr]; omega
theorem scr_law {r j : Nat} (h : r < 10) : scr (43 + r) j = false := by simp [scr]; omega
theorem Fra.RV {f g : Nat → Nat → Nat} {l : Nat → Nat → Int64} {D : DB} (h : Fra f g) (hV : RV f l D) : RV g l D :=
  ⟨(h.1 2 1 rfl).trans hV.1, fun r hr j => (h.1 _ _ (scr_row hr)).trans (hV.2.1 r hr j), fun r hr c => (h.1 _ _ (scr_the hr)).trans (hV.2.2.1 r hr c), hV.2.2.2⟩
theorem Fra.LV {f g : Nat → Nat → Nat} {l : Nat → Nat → Int64} {W : LB} (h : Fra f g) (hL : LV f l W) : LV g l W :=
  ⟨(h.1 40 2 rfl).trans hL.1, fun w hw j => (h.1 _ _ (scr_law hw)).trans (hL.2.1 w hw j), hL.2.2⟩
theorem Pm.cf {G : GG} {own : String} {cc : ByteArray} {nL : Nat} {K : KK} {pc : Nat} {ls : List (Option Value)} {st : List Value} {f f' : Nat → Nat → Nat} {l : Nat → Nat → Int64} (e : f = f') (h : Pm G own cc nL K pc ls st f' l) : Pm G own cc nL K pc ls st f l := e ▸ h
def fstP (p : Nat → Bool) (n : Nat) : Option Nat := (List.range n).find? p
theorem fstP_some {p : Nat → Bool} {n i : Nat} (hi : i < n) (h : p i = true) (hb : ∀ j, j < i → p j = false) : fstP p n = some i := by
  unfold fstP
  rw [List.find?_range_eq_some]
  exact ⟨h, List.mem_range.mpr hi, fun j hj => by rw [hb j hj]; rfl⟩
theorem fstP_none {p : Nat → Bool} {n : Nat} (hb : ∀ j, j < n → p j = false) : fstP p n = none := by
  unfold fstP
  rw [List.find?_eq_none]
  intro x hx
  rw [hb x (List.mem_range.mp hx)]
  decide
def ans9 : Option Nat → Int32
  | some i => nI i
  | none => -9
theorem lt_snoc {p : Nat → Bool} {i : Nat} (h : ∀ j, j < i → p j = false) (hi : p i = false) : ∀ j, j < i + 1 → p j = false := by
  intro j hj
  by_cases e : j = i
  · rw [e]; exact hi
  · exact h j (by omega)
theorem cQ_len {D : DB} (h : DW D) (W : LB) (w S : Nat) : (cQ D W w S).length < 4096 := by
  have hR := h.1
  have h1 := pairL_len D W w S D.1
  have h2 := sumQ_len D W w S D.1
  have h3 := unhL_len D W w S D.1
  have h4 := singL_len D W w S D.1
  have h5 : D.1 * D.1 ≤ 12 * 12 := Nat.mul_le_mul hR hR
  have h6 := pow12 hR
  unfold cQ
  split
  · omega
  · split
    · omega
    · split <;> omega
/-- whether law w, as it is in force, has a quarrel among S: the class's way -/
def cBrk (D : DB) (W : LB) (S w : Nat) : Bool := W.2.1 w 7 != 0 && (cQ D W w S).length != 0
theorem cBrk_t {D : DB} {W : LB} {S w : Nat} (h7 : W.2.1 w 7 ≠ 0) (h : 0 < (cQ D W w S).length) : cBrk D W S w = true := by
  unfold cBrk
  rw [Bool.and_eq_true]
  exact ⟨bne_iff_ne.mpr h7, bne_iff_ne.mpr (by omega)⟩
theorem cBrk_f1 {D : DB} {W : LB} {S w : Nat} (h7 : W.2.1 w 7 = 0) : cBrk D W S w = false := by
  unfold cBrk
  rw [h7]
  rfl
theorem cBrk_f2 {D : DB} {W : LB} {S w : Nat} (h : (cQ D W w S).length = 0) : cBrk D W S w = false := by
  unfold cBrk
  rw [h]
  exact Bool.and_false _

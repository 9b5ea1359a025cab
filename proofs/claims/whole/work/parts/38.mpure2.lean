-- the model's tests of laws (pure)
def br2 (D : DB) (W : LB) (w r q : Nat) : Bool :=
  likeB D r (W.2.1 w 2) q (W.2.1 w 2) && D.2.2.1 r (W.2.1 w 3) != 0 && D.2.2.1 q (W.2.1 w 3) != 0 &&
    (if W.2.1 w 0 = 0 then D.2.2.2 r (W.2.1 w 3) != D.2.2.2 q (W.2.1 w 3) else near (D.2.2.2 r (W.2.1 w 3)) (D.2.2.2 q (W.2.1 w 3)) (W.2.2 w 5))
def helpB (D : DB) (W : LB) (w r S q : Nat) : Bool := S.testBit q && D.2.1 q 2 == W.2.1 w 4 && likeB D r (W.2.1 w 2) q (W.2.1 w 3)
def br1 (D : DB) (W : LB) (w r S : Nat) : Bool :=
  if W.2.1 w 0 = 1 then D.2.2.1 r (W.2.1 w 2) != 0 && !(decide (W.2.2 w 5 ≤ D.2.2.2 r (W.2.1 w 2)) && decide (D.2.2.2 r (W.2.1 w 2) ≤ W.2.2 w 6))
  else if W.2.1 w 0 = 3 then D.2.2.1 r (W.2.1 w 2) == 0
  else if W.2.1 w 0 = 5 then D.2.2.1 r (W.2.1 w 2) != 0 && !anyN (helpB D W w r S) D.1
  else false
def morL (p : Nat → Bool) (g : Nat → Int64) (c : Int64) (n : Nat) : Int64 := fo (fun r a => if p r = true then a - g r else a) n c
theorem morL_t {p : Nat → Bool} {g : Nat → Int64} {c : Int64} {n : Nat} (h : p n = true) : morL p g c (n + 1) = morL p g c n - g n := if_pos h
theorem morL_f {p : Nat → Bool} {g : Nat → Int64} {c : Int64} {n : Nat} (h : p n = false) : morL p g c (n + 1) = morL p g c n := if_neg (by rw [h]; exact Bool.noConfusion)
def morB (p : Nat → Bool) (g : Nat → Int64) (c : Int64) (r : Nat) : Bool := p r && decide (morL p g c r < g r)
def mor (p : Nat → Bool) (g : Nat → Int64) (c : Int64) (n : Nat) : Bool := anyN (morB p g c) n
def mp (D : DB) (W : LB) (w first S r : Nat) : Bool := ofB D W w r S && cntB D W w r && likeB D r (W.2.1 w 2) first (W.2.1 w 2)
def mpb (D : DB) (W : LB) (w first S b r : Nat) : Bool := r != b && mp D W w first S r
def mg (D : DB) (W : LB) (w r : Nat) : Int64 := D.2.2.2 r (W.2.1 w 3)
theorem bN_2 {a : Nat} (h : a < 2) (p : Nat → Bool) : a = bN (a != 0 && !anyN p 0) := by
  show a = bN (a != 0 && !false)
  have : a = 0 ∨ a = 1 := by omega
  rcases this with rfl | rfl <;> rfl
theorem am1 {a : Bool} {p : Nat → Bool} {i : Nat} (h : bN (a && !anyN p i) ≠ 0) (hp : p i = false) : bN (a && !anyN p (i + 1)) = 1 := by
  have h1 := bN_nz.mp h
  rw [anyN_s, hp, Bool.or_false, h1]; rfl
theorem am0 {a : Bool} {p : Nat → Bool} {i : Nat} (hp : p i = true) : bN (a && !anyN p (i + 1)) = 0 := by
  rw [anyN_s, hp, Bool.or_true]; cases a <;> rfl
theorem amz {a : Bool} {p : Nat → Bool} {i n : Nat} (h : bN (a && !anyN p i) = 0) (hi : i ≤ n) : (a && !anyN p n) = false := by
  have h1 := bN_z.mp h
  cases a
  · rfl
  · rw [Bool.true_and] at h1 ⊢
    rw [Bool.not_eq_false'] at h1 ⊢
    obtain ⟨j, j1, j2⟩ := anyN_t.mp h1
    exact anyN_t.mpr ⟨j, by omega, j2⟩
def brT (D : DB) (W : LB) (w S r q : Nat) : Bool := ofB D W w q S && br2 D W w r q
def brR (D : DB) (W : LB) (w S r : Nat) : Bool := ofB D W w r S &&
  ((W.2.1 w 0 == 4 && cntB D W w r && mor (mp D W w r S) (mg D W w) (W.2.2 w 5) D.1) || br1 D W w r S || ((W.2.1 w 0 == 0 || W.2.1 w 0 == 2) && anyN (brT D W w S r) r))
def brL (D : DB) (W : LB) (w S : Nat) : Bool := anyN (brR D W w S) D.1
def fB (D : DB) (W : LB) (S w : Nat) : Bool := W.2.1 w 7 != 0 && brL D W w S

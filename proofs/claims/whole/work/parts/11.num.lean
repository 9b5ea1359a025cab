-- numbers as the walks need them, loops
theorem ic_0 : Int32.ofInt 0 = nI 0 := rfl
theorem ic_1 : Int32.ofInt 1 = nI 1 := rfl
theorem ic_2 : Int32.ofInt 2 = nI 2 := rfl
theorem ic_3 : Int32.ofInt 3 = nI 3 := rfl
theorem ic_4 : Int32.ofInt 4 = nI 4 := rfl
theorem ic_5 : Int32.ofInt 5 = nI 5 := rfl
theorem inc1 (a : Nat) : nI a + Int32.ofInt 1 = nI (a + 1) := nI_1 a
theorem zN {a : Nat} (h : a < 2147483648) : (nI a).toInt = (a : Int) := nI_toInt h
theorem nI_ofZ {x : Int32} {n : Nat} (h0 : 0 ≤ x.toInt) (h1 : x.toInt < n) : ∃ j : Nat, j < n ∧ x = nI j := by
  refine ⟨x.toInt.toNat, by omega, ?_⟩
  apply Int32.toInt_inj.mp
  rw [zN (by have := Int32.toInt_lt x; omega)]
  omega
theorem loop_up {M : Nat → Prop} {lo N : Nat} (h : lo ≤ N) (hs : ∀ i, lo ≤ i → i < N → M (i + 1) → M i) (he : M N) : M lo := by
  have key : ∀ d, ∀ i, lo ≤ i → i + d = N → M i := by
    intro d
    induction d with
    | zero => intro i _ hi; rw [show i = N by omega]; exact he
    | succ d ih => intro i h0 hi; exact hs i h0 (by omega) (ih (i + 1) (by omega) (by omega))
  exact key (N - lo) lo (Nat.le_refl _) (by omega)
def fo {α : Type} (g : Nat → α → α) : Nat → α → α
  | 0, a => a
  | n + 1, a => g n (fo g n a)
theorem fo_0 {α : Type} (g : Nat → α → α) (a : α) : fo g 0 a = a := rfl
theorem fo_s {α : Type} (g : Nat → α → α) (n : Nat) (a : α) : fo g (n + 1) a = g n (fo g n a) := rfl
theorem fo_congr {α : Type} {g h : Nat → α → α} {n : Nat} (e : ∀ i, i < n → ∀ a, g i a = h i a) (a : α) : fo g n a = fo h n a := by
  induction n with
  | zero => rfl
  | succ n ih => rw [fo_s, fo_s, ih (fun i hi => e i (by omega)), e n (by omega)]
theorem tn {n : Nat} : (nI n).toBitVec = BitVec.ofNat 32 n := rfl
theorem i32_ext {x y : Int32} (h : x.toBitVec = y.toBitVec) : x = y := Int32.toBitVec_inj.mp h
theorem n_or (a b : Nat) : nI a ||| nI b = nI (a ||| b) := by
  apply i32_ext
  rw [Int32.toBitVec_or, tn, tn, tn]
  apply BitVec.eq_of_toNat_eq
  rw [BitVec.toNat_or]
  simp only [BitVec.toNat_ofNat]
  exact (Nat.or_mod_two_pow (n := 32)).symm
theorem n_and (a b : Nat) : nI a &&& nI b = nI (a &&& b) := by
  apply i32_ext
  rw [Int32.toBitVec_and, tn, tn, tn]
  apply BitVec.eq_of_toNat_eq
  rw [BitVec.toNat_and]
  simp only [BitVec.toNat_ofNat]
  exact (Nat.and_mod_two_pow (n := 32)).symm
theorem n_xor (a b : Nat) : nI a ^^^ nI b = nI (a ^^^ b) := by
  apply i32_ext
  rw [Int32.toBitVec_xor, tn, tn, tn]
  apply BitVec.eq_of_toNat_eq
  rw [BitVec.toNat_xor]
  simp only [BitVec.toNat_ofNat]
  exact (Nat.xor_mod_two_pow (n := 32)).symm
theorem n_sh : ∀ i, i < 32 → ((nI i &&& 31).toBitVec.smod 32).toNat = i := by decide +kernel
theorem n_shl (a : Nat) {i : Nat} (hi : i < 31) (h : a * 2 ^ i < 2147483648) : nI a <<< (nI i &&& 31) = nI (a * 2 ^ i) := pk_shlN _ i (n_sh i (by omega)) (by omega)
theorem n_bit {i : Nat} (hi : i < 31) : nI 1 <<< (nI i &&& 31) = nI (2 ^ i) := by
  have h : 1 * 2 ^ i < 2147483648 := by
    have := Nat.pow_lt_pow_right (a := 2) (by decide) hi
    omega
  rw [n_shl 1 hi h, Nat.one_mul]
theorem n_shr {a i : Nat} (ha : a < 2147483648) (hi : i < 32) : nI a >>> (nI i &&& 31) = nI (a / 2 ^ i) := pk_shrN ha _ i (n_sh i hi)
/-- the bit i of the set s -/
def bt (s i : Nat) : Nat := s / 2 ^ i % 2
theorem bt_lt (s i : Nat) : bt s i < 2 := Nat.mod_lt _ (by decide)
theorem n_and1 (a : Nat) : nI a &&& nI 1 = nI (a % 2) := by rw [n_and, Nat.and_one_is_mod]
theorem bt_tb (s i : Nat) : bt s i = (s.testBit i).toNat := by
  rw [Nat.testBit_eq_decide_div_mod_eq]
  have h := bt_lt s i
  simp only [bt] at h ⊢
  by_cases hb : s / 2 ^ i % 2 = 1
  · simp [hb]
  · simp [hb]; omega
/-- what is in the set a and not in b -/
def sd (a b : Nat) : Nat := a ^^^ (a &&& b)
theorem sd_tb (a b i : Nat) : (sd a b).testBit i = (a.testBit i && !b.testBit i) := by
  simp only [sd, Nat.testBit_xor, Nat.testBit_and]
  cases a.testBit i <;> cases b.testBit i <;> rfl
theorem n_not (a b : Nat) : nI a &&& (nI b ^^^ (-1)) = nI (sd a b) := by
  apply i32_ext
  apply BitVec.eq_of_getLsbD_eq
  intro i hi
  simp only [sd, Int32.toBitVec_and, Int32.toBitVec_xor, tn, BitVec.getLsbD_and, BitVec.getLsbD_xor, BitVec.getLsbD_ofNat, Nat.testBit_xor, Nat.testBit_and, hi, decide_true, Bool.true_and]
  have h1 : (-1 : Int32).toBitVec.getLsbD i = true := by
    rw [show (-1 : Int32).toBitVec = BitVec.allOnes 32 by decide, BitVec.getLsbD_allOnes]
    exact decide_eq_true hi
  rw [h1]
  cases a.testBit i <;> cases b.testBit i <;> rfl
section PZ
variable {G : GG} {own : String} {cc : ByteArray} {nL : Nat} {K : KK} {pc : Nat} {ls : List (Option Value)} {st : List Value} {n : Nat} {σ : SS} {x y : Int32} {a b off : Int} {tgt : Nat}
theorem P.icmp_eq_z (hd : decode cc pc = .ok (.if_icmp .eq off, 3)) (ht : (pc : Int) + off = (tgt : Int)) (ha : x.toInt = a) (hb : y.toInt = b) (kt : a = b → P G own cc nL K tgt ls st n σ) (kf : a ≠ b → P G own cc nL K (pc + 3) ls st n σ) : P G own cc nL K pc ls (.int y :: .int x :: st) n σ := by
  subst ha hb
  refine P.icmp_eq hd ht (fun hc => kt ?_) (fun hc => kf ?_) <;> simp only [gt_iff_lt, ge_iff_le, Int32.lt_iff_toInt_lt, Int32.le_iff_toInt_le, ← Int32.toInt_inj] at hc <;> first | exact hc | omega
theorem P.icmp_ne_z (hd : decode cc pc = .ok (.if_icmp .ne off, 3)) (ht : (pc : Int) + off = (tgt : Int)) (ha : x.toInt = a) (hb : y.toInt = b) (kt : a ≠ b → P G own cc nL K tgt ls st n σ) (kf : a = b → P G own cc nL K (pc + 3) ls st n σ) : P G own cc nL K pc ls (.int y :: .int x :: st) n σ := by
  subst ha hb
  refine P.icmp_ne hd ht (fun hc => kt ?_) (fun hc => kf ?_) <;> simp only [gt_iff_lt, ge_iff_le, Int32.lt_iff_toInt_lt, Int32.le_iff_toInt_le, ← Int32.toInt_inj] at hc <;> first | exact hc | omega
theorem P.icmp_lt_z (hd : decode cc pc = .ok (.if_icmp .lt off, 3)) (ht : (pc : Int) + off = (tgt : Int)) (ha : x.toInt = a) (hb : y.toInt = b) (kt : a < b → P G own cc nL K tgt ls st n σ) (kf : b ≤ a → P G own cc nL K (pc + 3) ls st n σ) : P G own cc nL K pc ls (.int y :: .int x :: st) n σ := by
  subst ha hb
  refine P.icmp_lt hd ht (fun hc => kt ?_) (fun hc => kf ?_) <;> simp only [gt_iff_lt, ge_iff_le, Int32.lt_iff_toInt_lt, Int32.le_iff_toInt_le, ← Int32.toInt_inj] at hc <;> first | exact hc | omega
theorem P.icmp_ge_z (hd : decode cc pc = .ok (.if_icmp .ge off, 3)) (ht : (pc : Int) + off = (tgt : Int)) (ha : x.toInt = a) (hb : y.toInt = b) (kt : b ≤ a → P G own cc nL K tgt ls st n σ) (kf : a < b → P G own cc nL K (pc + 3) ls st n σ) : P G own cc nL K pc ls (.int y :: .int x :: st) n σ := by
  subst ha hb
  refine P.icmp_ge hd ht (fun hc => kt ?_) (fun hc => kf ?_) <;> simp only [gt_iff_lt, ge_iff_le, Int32.lt_iff_toInt_lt, Int32.le_iff_toInt_le, ← Int32.toInt_inj] at hc <;> first | exact hc | omega
theorem P.icmp_gt_z (hd : decode cc pc = .ok (.if_icmp .gt off, 3)) (ht : (pc : Int) + off = (tgt : Int)) (ha : x.toInt = a) (hb : y.toInt = b) (kt : b < a → P G own cc nL K tgt ls st n σ) (kf : a ≤ b → P G own cc nL K (pc + 3) ls st n σ) : P G own cc nL K pc ls (.int y :: .int x :: st) n σ := by
  subst ha hb
  refine P.icmp_gt hd ht (fun hc => kt ?_) (fun hc => kf ?_) <;> simp only [gt_iff_lt, ge_iff_le, Int32.lt_iff_toInt_lt, Int32.le_iff_toInt_le, ← Int32.toInt_inj] at hc <;> first | exact hc | omega
theorem P.icmp_le_z (hd : decode cc pc = .ok (.if_icmp .le off, 3)) (ht : (pc : Int) + off = (tgt : Int)) (ha : x.toInt = a) (hb : y.toInt = b) (kt : a ≤ b → P G own cc nL K tgt ls st n σ) (kf : b < a → P G own cc nL K (pc + 3) ls st n σ) : P G own cc nL K pc ls (.int y :: .int x :: st) n σ := by
  subst ha hb
  refine P.icmp_le hd ht (fun hc => kt ?_) (fun hc => kf ?_) <;> simp only [gt_iff_lt, ge_iff_le, Int32.lt_iff_toInt_lt, Int32.le_iff_toInt_le, ← Int32.toInt_inj] at hc <;> first | exact hc | omega
theorem P.if_eq_z (hd : decode cc pc = .ok (.ifCond .eq off, 3)) (ht : (pc : Int) + off = (tgt : Int)) (ha : x.toInt = a) (kt : a = 0 → P G own cc nL K tgt ls st n σ) (kf : a ≠ 0 → P G own cc nL K (pc + 3) ls st n σ) : P G own cc nL K pc ls (.int x :: st) n σ := by
  subst ha
  have h0 : (0 : Int32).toInt = 0 := rfl
  refine P.if_eq hd ht (fun hc => kt ?_) (fun hc => kf ?_) <;> simp only [gt_iff_lt, ge_iff_le, Int32.lt_iff_toInt_lt, Int32.le_iff_toInt_le, ← Int32.toInt_inj, h0] at hc <;> first | exact hc | omega
theorem P.if_ne_z (hd : decode cc pc = .ok (.ifCond .ne off, 3)) (ht : (pc : Int) + off = (tgt : Int)) (ha : x.toInt = a) (kt : a ≠ 0 → P G own cc nL K tgt ls st n σ) (kf : a = 0 → P G own cc nL K (pc + 3) ls st n σ) : P G own cc nL K pc ls (.int x :: st) n σ := by
  subst ha
  have h0 : (0 : Int32).toInt = 0 := rfl
  refine P.if_ne hd ht (fun hc => kt ?_) (fun hc => kf ?_) <;> simp only [gt_iff_lt, ge_iff_le, Int32.lt_iff_toInt_lt, Int32.le_iff_toInt_le, ← Int32.toInt_inj, h0] at hc <;> first | exact hc | omega
theorem P.if_lt_z (hd : decode cc pc = .ok (.ifCond .lt off, 3)) (ht : (pc : Int) + off = (tgt : Int)) (ha : x.toInt = a) (kt : a < 0 → P G own cc nL K tgt ls st n σ) (kf : 0 ≤ a → P G own cc nL K (pc + 3) ls st n σ) : P G own cc nL K pc ls (.int x :: st) n σ := by
  subst ha
  have h0 : (0 : Int32).toInt = 0 := rfl
  refine P.if_lt hd ht (fun hc => kt ?_) (fun hc => kf ?_) <;> simp only [gt_iff_lt, ge_iff_le, Int32.lt_iff_toInt_lt, Int32.le_iff_toInt_le, ← Int32.toInt_inj, h0] at hc <;> first | exact hc | omega
theorem P.if_ge_z (hd : decode cc pc = .ok (.ifCond .ge off, 3)) (ht : (pc : Int) + off = (tgt : Int)) (ha : x.toInt = a) (kt : 0 ≤ a → P G own cc nL K tgt ls st n σ) (kf : a < 0 → P G own cc nL K (pc + 3) ls st n σ) : P G own cc nL K pc ls (.int x :: st) n σ := by
  subst ha
  have h0 : (0 : Int32).toInt = 0 := rfl
  refine P.if_ge hd ht (fun hc => kt ?_) (fun hc => kf ?_) <;> simp only [gt_iff_lt, ge_iff_le, Int32.lt_iff_toInt_lt, Int32.le_iff_toInt_le, ← Int32.toInt_inj, h0] at hc <;> first | exact hc | omega
theorem P.if_gt_z (hd : decode cc pc = .ok (.ifCond .gt off, 3)) (ht : (pc : Int) + off = (tgt : Int)) (ha : x.toInt = a) (kt : 0 < a → P G own cc nL K tgt ls st n σ) (kf : a ≤ 0 → P G own cc nL K (pc + 3) ls st n σ) : P G own cc nL K pc ls (.int x :: st) n σ := by
  subst ha
  have h0 : (0 : Int32).toInt = 0 := rfl
  refine P.if_gt hd ht (fun hc => kt ?_) (fun hc => kf ?_) <;> simp only [gt_iff_lt, ge_iff_le, Int32.lt_iff_toInt_lt, Int32.le_iff_toInt_le, ← Int32.toInt_inj, h0] at hc <;> first | exact hc | omega
theorem P.if_le_z (hd : decode cc pc = .ok (.ifCond .le off, 3)) (ht : (pc : Int) + off = (tgt : Int)) (ha : x.toInt = a) (kt : a ≤ 0 → P G own cc nL K tgt ls st n σ) (kf : 0 < a → P G own cc nL K (pc + 3) ls st n σ) : P G own cc nL K pc ls (.int x :: st) n σ := by
  subst ha
  have h0 : (0 : Int32).toInt = 0 := rfl
  refine P.if_le hd ht (fun hc => kt ?_) (fun hc => kf ?_) <;> simp only [gt_iff_lt, ge_iff_le, Int32.lt_iff_toInt_lt, Int32.le_iff_toInt_le, ← Int32.toInt_inj, h0] at hc <;> first | exact hc | omega
end PZ
theorem Pm.eq {G : GG} {own : String} {cc : ByteArray} {nL : Nat} {K : KK} {pc : Nat} {ls ls' : List (Option Value)} {st st' : List Value} {f f' : Nat → Nat → Nat} {l l' : Nat → Nat → Int64} (h : Pm G own cc nL K pc ls st f l) (h1 : ls = ls') (h2 : st = st') (h3 : f = f') (h4 : l = l') : Pm G own cc nL K pc ls' st' f' l' := by
  subst h1 h2 h3 h4
  exact h
def bN (b : Bool) : Nat := if b = true then 1 else 0
theorem bN_t : bN true = 1 := rfl
theorem bN_f : bN false = 0 := rfl
theorem bN_lt (b : Bool) : bN b < 2 := by cases b <;> decide
theorem bI_n (b : Bool) : bI b = nI (bN b) := by cases b <;> rfl
theorem n_addb (a : Nat) (b : Bool) : nI a + bI b = nI (a + bN b) := by rw [bI_n, nI_add]
theorem tb_t {s i : Nat} (h : bt s i ≠ 0) : s.testBit i = true := by
  rw [bt_tb] at h
  cases hb : s.testBit i
  · rw [hb] at h; exact absurd rfl h
  · rfl
theorem tb_f {s i : Nat} (h : bt s i = 0) : s.testBit i = false := by
  rw [bt_tb] at h
  cases hb : s.testBit i
  · rfl
  · rw [hb] at h; exact absurd h (by decide)
/-- a set out of a predicate -/
def setN (p : Nat → Bool) (n : Nat) : Nat := fo (fun i a => if p i = true then a ||| 2 ^ i else a) n 0
theorem setN_s (p : Nat → Bool) (n : Nat) : setN p (n + 1) = if p n = true then setN p n ||| 2 ^ n else setN p n := rfl
theorem setN_tb (p : Nat → Bool) (n i : Nat) : (setN p n).testBit i = (decide (i < n) && p i) := by
  induction n with
  | zero => simp [setN, fo]
  | succ n ih =>
    rw [setN_s]
    by_cases h : p n = true
    · rw [if_pos h, Nat.testBit_or, ih, Nat.testBit_two_pow]
      by_cases hi : n = i
      · subst hi; simp [h]
      · simp only [hi, decide_false, Bool.or_false]
        congr 1
        simp only [decide_eq_decide]
        omega
    · rw [if_neg h, ih]
      by_cases hi : n = i
      · subst hi; simp [h]
      · congr 1
        simp only [decide_eq_decide]
        omega
theorem setN_lt (p : Nat → Bool) (n : Nat) : setN p n < 2 ^ n := by
  apply Nat.lt_pow_two_of_testBit
  intro i hi
  rw [setN_tb]
  simp; omega
theorem pow12 {n : Nat} (h : n ≤ 12) : 2 ^ n ≤ 4096 := Nat.pow_le_pow_right (by decide) h
theorem setN_4096 (p : Nat → Bool) {n : Nat} (h : n ≤ 12) : setN p n < 4096 := Nat.lt_of_lt_of_le (setN_lt p n) (pow12 h)
/-- how many, and sums of small numbers -/
def cntN (p : Nat → Bool) (n : Nat) : Nat := fo (fun i a => a + bN (p i)) n 0
theorem cntN_s (p : Nat → Bool) (n : Nat) : cntN p (n + 1) = cntN p n + bN (p n) := rfl
theorem cntN_le (p : Nat → Bool) (n : Nat) : cntN p n ≤ n := by
  induction n with
  | zero => exact Nat.le_refl _
  | succ n ih => rw [cntN_s]; have := bN_lt (p n); omega
def sumN (p : Nat → Bool) (g : Nat → Nat) (n : Nat) : Nat := fo (fun i a => if p i = true then a + g i else a) n 0
theorem sumN_s (p : Nat → Bool) (g : Nat → Nat) (n : Nat) : sumN p g (n + 1) = if p n = true then sumN p g n + g n else sumN p g n := rfl
theorem sumN_le (p : Nat → Bool) (g : Nat → Nat) {m : Nat} (n : Nat) (h : ∀ i, i < n → g i ≤ m) : sumN p g n ≤ m * n := by
  induction n with
  | zero => exact Nat.le_refl _
  | succ n ih =>
    rw [sumN_s, Nat.mul_succ]
    have h1 := ih (fun i hi => h i (by omega))
    have h2 := h n (by omega)
    split <;> omega
def sumL (p : Nat → Bool) (g : Nat → Int64) (n : Nat) : Int64 := fo (fun i a => if p i = true then a + g i else a) n 0
theorem sumL_s (p : Nat → Bool) (g : Nat → Int64) (n : Nat) : sumL p g (n + 1) = if p n = true then sumL p g n + g n else sumL p g n := rfl
/-- fewer known locals -/
def lle : List (Option Value) → List (Option Value) → Prop
  | [], _ => True
  | none :: r, [] => lle r []
  | none :: r, _ :: r' => lle r r'
  | some _ :: _, [] => False
  | some _ :: _, none :: _ => False
  | some v :: r, some w :: r' => v = w ∧ lle r r'
theorem lle_get : ∀ (a b : List (Option Value)), lle a b → ∀ k v, lget a k = some v → lget b k = some v
  | [], _, _, k, v, hk => by simp [lget] at hk
  | none :: r, [], h, 0, v, hk => by simp [lget] at hk
  | none :: r, [], h, k + 1, v, hk => by
    have := lle_get r [] h k v (by simpa [lget] using hk)
    simp [lget] at this
  | none :: r, x :: r', h, 0, v, hk => by simp [lget] at hk
  | none :: r, x :: r', h, k + 1, v, hk => by
    have := lle_get r r' h k v (by simpa [lget] using hk)
    simpa [lget] using this
  | some a :: r, [], h, k, v, hk => h.elim
  | some a :: r, none :: r', h, k, v, hk => h.elim
  | some a :: r, some b :: r', h, 0, v, hk => by
    obtain ⟨rfl, -⟩ := h
    exact hk
  | some a :: r, some b :: r', h, k + 1, v, hk => by
    have := lle_get r r' h.2 k v (by simpa [lget] using hk)
    simpa [lget] using this
theorem P.to {G : GG} {own : String} {cc : ByteArray} {nL : Nat} {K : KK} {pc : Nat} {ls ls' : List (Option Value)} {st : List Value} {n : Nat} {σ : SS} (h : P G own cc nL K pc ls st n σ) (h1 : lle ls ls') : P G own cc nL K pc ls' st n σ := by
  intro p e s m args below meth c hM hX H locs lsA hH hS hl ha hb
  refine h p e s m args below meth c hM hX H locs lsA hH hS ⟨hl.1, hl.2.1, fun q hq => ?_⟩ ha hb
  obtain ⟨k, e1, e2⟩ := lvl_inv _ _ _ hq
  rw [Nat.zero_add] at e1
  obtain ⟨q1, q2⟩ := q
  dsimp only at e1 e2
  subst e1
  exact lv_loc hl (lle_get _ _ h1 _ _ e2)
theorem Pm.to {G : GG} {own : String} {cc : ByteArray} {nL : Nat} {K : KK} {pc : Nat} {ls ls' : List (Option Value)} {st st' : List Value} {f f' : Nat → Nat → Nat} {l l' : Nat → Nat → Int64} (h : Pm G own cc nL K pc ls st f l) (h1 : lle ls ls') (h2 : st = st') (h3 : f = f') (h4 : l = l') : Pm G own cc nL K pc ls' st' f' l' := by
  subst h2 h3 h4
  exact P.to h h1

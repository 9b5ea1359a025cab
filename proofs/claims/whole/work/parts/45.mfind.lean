-- the model's quarrels (pure); MV of a world that differs where MV does not look: by program (wip/whole/gen45.py)
theorem MV.of {f : Nat → Nat → Nat} {l : Nat → Nat → Int64} {D : DB} {W : LB} {U : QB} {T : TB} {N : Nat} {g : Nat → Nat → Nat} (e : ∀ k j, 86 ≤ k → k < 109 → (k ≠ 86 ∨ (0 < j ∧ j < 28)) → g k j = f k j) (h : MV f l D W U T N) : MV g l D W U T N :=
  ⟨(e _ _ (by decide) (by decide) (by first | decide | exact Or.inl (by decide))).trans (h.R),
   fun r hr => (e _ _ (by decide) (by decide) (by first | decide | exact Or.inl (by decide))).trans (h.tab r hr),
   fun r hr => (e _ _ (by decide) (by decide) (by first | decide | exact Or.inl (by decide))).trans (h.tru r hr),
   fun r hr => (e _ _ (by decide) (by decide) (by first | decide | exact Or.inl (by decide))).trans (h.kep r hr),
   fun r hr c hc => (e _ _ (by decide) (by decide) (by first | decide | exact Or.inl (by decide))).trans (h.the r hr c hc),
   fun r hr c hc => h.num r hr c hc,
   (e _ _ (by decide) (by decide) (by first | decide | exact Or.inl (by decide))).trans (h.W),
   fun r hr => (e _ _ (by decide) (by decide) (by first | decide | exact Or.inl (by decide))).trans (h.knd r hr),
   fun r hr => (e _ _ (by decide) (by decide) (by first | decide | exact Or.inl (by decide))).trans (h.ltb r hr),
   fun r hr => (e _ _ (by decide) (by decide) (by first | decide | exact Or.inl (by decide))).trans (h.fst r hr),
   fun r hr k0 k1 => (e _ _ (by decide) (by decide) (by first | decide | exact Or.inl (by decide))).trans (h.snd r hr k0 k1),
   fun r hr k0 => (e _ _ (by decide) (by decide) (by first | decide | exact Or.inl (by decide))).trans (h.oth r hr k0),
   fun r hr k0 => h.lc r hr k0,
   fun r hr k0 => h.ld r hr k0,
   fun r hr => (e _ _ (by decide) (by decide) (by first | decide | exact Or.inl (by decide))).trans (h.frc r hr),
   (e _ _ (by decide) (by decide) (by first | decide | exact Or.inl (by decide))).trans (h.N),
   (e _ _ (by decide) (by decide) (by first | decide | exact Or.inl (by decide))).trans (h.np),
   fun r hr => (e _ _ (by decide) (by decide) (by first | decide | exact Or.inl (by decide))).trans (h.pt r hr),
   fun r hr c hc => (e _ _ (by decide) (by decide) (by first | decide | exact Or.inl (by decide))).trans (h.tld r hr c hc),
   fun r hr c hc => h.tel r hr c hc,
   (e _ _ (by decide) (by decide) (by first | decide | exact Or.inl (by decide))).trans (h.nj),
   fun r hr => (e _ _ (by decide) (by decide) (by first | decide | exact Or.inl (by decide))).trans (h.jp r hr),
   fun r hr => (e _ _ (by decide) (by decide) (by first | decide | exact Or.inl (by decide))).trans (h.jc r hr),
   fun r hr => (e _ _ (by decide) (by decide) (by first | decide | exact Or.inl (by decide))).trans (h.jq r hr),
   fun r hr => (e _ _ (by decide) (by decide) (by first | decide | exact Or.inl (by decide))).trans (h.jd r hr),
   fun r hr => (e _ _ (by decide) (by decide) (by first | decide | exact Or.inl (by decide))).trans (h.col r hr),
   fun r hr c hc => (e _ _ (by decide) (by decide) (by first | decide | exact Or.inl (by decide))).trans (h.lan r hr c hc)⟩
def wrM (f : Nat → Nat → Nat) (L : List Nat) : Nat → Nat → Nat := fun k j => if k = 111 ∧ j < L.length then L.getD j 0 else if k = 86 ∧ j = 32 then L.length else f k j
theorem wrM_ne (f : Nat → Nat → Nat) (L : List Nat) {k j : Nat} (h1 : k ≠ 111) (h2 : k ≠ 86 ∨ j ≠ 32) : wrM f L k j = f k j := by
  simp only [wrM]
  rw [if_neg (fun h => h1 h.1), if_neg (by omega)]
theorem wrM_len (f : Nat → Nat → Nat) (L : List Nat) : wrM f L 86 32 = L.length := by simp [wrM]
theorem wrM_at (f : Nat → Nat → Nat) {L : List Nat} {j : Nat} (h : j < L.length) : wrM f L 111 j = L.getD j 0 := if_pos ⟨rfl, h⟩
theorem wrM_0 (f : Nat → Nat → Nat) : uf f 86 32 0 = wrM f [] := by
  funext k j
  simp only [uf, wrM, List.length_nil]
  by_cases h : k = 86 ∧ j = 32
  · rw [if_pos h, if_neg (by omega)]
  · rw [if_neg h, if_neg (by omega)]
theorem wrM_app (f : Nat → Nat → Nat) (L : List Nat) (s : Nat) : uf (uf (wrM f L) 111 L.length s) 86 32 (L.length + 1) = wrM f (L ++ [s]) := by
  funext k j
  simp only [uf, wrM, List.length_append, List.length_cons, List.length_nil]
  by_cases h : k = 86 ∧ j = 32
  · rw [if_pos h, if_neg (by omega), if_pos h]
  · rw [if_neg h]
    by_cases h2 : k = 111 ∧ j = L.length
    · obtain ⟨rfl, rfl⟩ := h2
      simp
    · rw [if_neg h2]
      by_cases h3 : k = 111 ∧ j < L.length
      · rw [if_pos h3, if_pos (by omega)]
        simp [List.getD_eq_getElem?_getD, List.getElem?_append_left h3.2]
      · rw [if_neg h3, if_neg h, if_neg (by omega), if_neg h]
theorem MV.wrM {f : Nat → Nat → Nat} {l : Nat → Nat → Int64} {D : DB} {W : LB} {U : QB} {T : TB} {N : Nat} (h : MV f l D W U T N) (L : List Nat) : MV (wrM f L) l D W U T N :=
  h.of (fun k j h1 h2 h3 => wrM_ne f L (by omega) (by omega))
theorem CF.wrM (f : Nat → Nat → Nat) (l : Nat → Nat → Int64) (L : List Nat) : CF f l (wrM f L) l := fun k hk => ⟨fun j => wrM_ne f L (by omega) (by omega), fun _ => rfl⟩
def mqB (D : DB) (W : LB) (w s : Nat) : Bool := s != 0 && (sd s (keptD D) == 0 && (if W.2.1 w 0 = 4 then lsM D W w s else if W.2.1 w 0 = 0 ∨ W.2.1 w 0 = 2 then bitsF s 12 == 2 && brL D W w s else bitsF s 12 == 1 && ofB D W w (lowB s) s && br1 D W w (lowB s) (keptD D)))
def mQn (D : DB) (W : LB) (w n : Nat) : List Nat := fl (mqB D W w) (fun s => s) n []
theorem mQn_t {D : DB} {W : LB} {w n : Nat} (h : mqB D W w n = true) : mQn D W w (n + 1) = mQn D W w n ++ [n] := if_pos h
theorem mQn_f {D : DB} {W : LB} {w n : Nat} (h : mqB D W w n = false) : mQn D W w (n + 1) = mQn D W w n := if_neg (by rw [h]; exact Bool.noConfusion)
theorem mQn_len (D : DB) (W : LB) (w n : Nat) : (mQn D W w n).length ≤ n := by
  have := fl_len (mqB D W w) (fun s => s) n []
  rw [List.length_nil, Nat.zero_add] at this
  exact this
theorem lowB_lt {S n : Nat} (h0 : S ≠ 0) (h : S < 4096) (hn : S < 2 ^ n) : lowB S < n := by
  apply Nat.lt_of_not_le
  intro hc
  have h1 := (lowB_t h0 h).1
  rw [Nat.testBit_lt_two_pow (Nat.lt_of_lt_of_le hn (Nat.pow_le_pow_right (by decide) hc))] at h1
  exact Bool.noConfusion h1


-- the class's worlds behind law, among, mend, part, settle (pure)
theorem i32_nat (x : Int32) : x = nI x.toBitVec.toNat := by
  apply i32_ext
  rw [tn]
  simp
theorem fstP_lt {p : Nat → Bool} {n i : Nat} (h : fstP p n = some i) : i < n := by
  unfold fstP at h
  exact List.mem_range.mp (List.mem_of_find?_eq_some h)
section CIW
variable {f : Nat → Nat → Nat} {l : Nat → Nat → Int64} {D : DB} {W : LB} {U : QB} {T : TB} {N : Nat}
theorem ci_w7 {k t a b : Nat} {c d : Int64} (hC : CI f l D W U T N) (h10 : W.1 < 10) : CI (uf (uf (uf (uf (uf (uf f (43 + W.1) 0 k) (43 + W.1) 1 t) (43 + W.1) 7 1) 40 2 (W.1 + 1)) (43 + W.1) 2 a) (43 + W.1) 3 b) (uf (uf l (43 + W.1) 5 c) (43 + W.1) 6 d) D (W.1 + 1, (uf (uf (uf (uf (uf W.2.1 W.1 0 k) W.1 1 t) W.1 7 1) W.1 2 a) W.1 3 b), uf (uf W.2.2 W.1 5 c) W.1 6 d) U T N :=
  ci_lawl (w := W.1) h10 (ci_lawl (w := W.1) h10 (ci_law (w := W.1) h10 (ci_law (w := W.1) h10 (ci_W (ci_law (w := W.1) h10 (ci_law (w := W.1) h10 (ci_law (w := W.1) h10 hC)))))))
theorem ci_w8 {t c u d : Nat} (hC : CI f l D W U T N) (h10 : W.1 < 10) : CI (uf (uf (uf (uf (uf (uf (uf f (43 + W.1) 0 5) (43 + W.1) 1 t) (43 + W.1) 7 1) 40 2 (W.1 + 1)) (43 + W.1) 2 c) (43 + W.1) 4 u) (43 + W.1) 3 d) l D (W.1 + 1, (uf (uf (uf (uf (uf (uf W.2.1 W.1 0 5) W.1 1 t) W.1 7 1) W.1 2 c) W.1 4 u) W.1 3 d), W.2.2) U T N :=
  ci_law (w := W.1) h10 (ci_law (w := W.1) h10 (ci_law (w := W.1) h10 (ci_W (ci_law (w := W.1) h10 (ci_law (w := W.1) h10 (ci_law (w := W.1) h10 hC))))))
theorem drp_at2 {g : Nat → Nat → Nat} {S r : Nat} : ∀ n, drp g S n (4 + 3 * r) 4 = if r < n ∧ S.testBit r = true then 0 else g (4 + 3 * r) 4 := by
  intro n
  induction n with
  | zero => rw [if_neg (fun z => absurd z.1 (Nat.not_lt_zero _))]; rfl
  | succ n ih =>
    rw [drp_s]
    by_cases h : S.testBit n = true
    · rw [if_pos h]
      by_cases e : r = n
      · subst e
        rw [uf_self, if_pos ⟨by omega, h⟩]
      · rw [uf_ne _ _ (Or.inl (by omega)), ih]
        by_cases h2 : r < n ∧ S.testBit r = true
        · rw [if_pos h2, if_pos ⟨by omega, h2.2⟩]
        · rw [if_neg h2, if_neg]
          rintro ⟨a, b⟩
          exact h2 ⟨by omega, b⟩
    · rw [if_neg h, ih]
      by_cases h2 : r < n ∧ S.testBit r = true
      · rw [if_pos h2, if_pos ⟨by omega, h2.2⟩]
      · rw [if_neg h2, if_neg]
        rintro ⟨a, b⟩
        refine h2 ⟨?_, b⟩
        by_cases e : r = n
        · subst e; exact absurd b h
        · omega
theorem ci_dr {g : Nat → Nat → Nat} {S : Nat} (hD : DW D) (hC : CI g l D W U T N) : CI (drp g S D.1) l (drD D S) W U T N := by
  obtain ⟨⟨v1, v2, v3, v4⟩, ⟨l1, l2, l3⟩, ⟨u1, u2, u3, u4, u5, u6⟩, ⟨t1, t2⟩, n5, sb⟩ := hC
  have hR := hD.1
  have hn : ∀ k j, (∀ r, r < 12 → k ≠ 4 + 3 * r) → drp g S D.1 k j = g k j := fun k j h => drp_ne g S D.1 (Or.inr (fun r hr => h r (by omega)))
  refine ⟨⟨(hn _ _ (fun r hr => by omega)).trans v1, fun r hr j => ?_, fun r hr c => (hn _ _ (fun q hq => by omega)).trans (v3 r hr c), v4⟩, ⟨(hn _ _ (fun q hq => by omega)).trans l1, fun w hw j => (hn _ _ (fun q hq => by omega)).trans (l2 w hw j), l3⟩, ⟨(hn _ _ (fun q hq => by omega)).trans u1, fun p hp => (hn _ _ (fun q hq => by omega)).trans (u2 p hp), fun p hp c => (hn _ _ (fun q hq => by omega)).trans (u3 p hp c), u4, (hn _ _ (fun q hq => by omega)).trans u5, fun j hj i => (hn _ _ (fun q hq => by omega)).trans (u6 j hj i)⟩, ⟨fun t ht => (hn _ _ (fun q hq => by omega)).trans (t1 t ht), fun t ht c => (hn _ _ (fun q hq => by omega)).trans (t2 t ht c)⟩, (hn _ _ (fun q hq => by omega)).trans n5, fun b => ⟨?_, ?_, ?_⟩⟩
  · show drp g S D.1 (4 + 3 * r) j = if j = 4 ∧ r < D.1 ∧ S.testBit r = true then 0 else D.2.1 r j
    by_cases e : j = 4
    · subst e
      rw [drp_at2, v2 r hr 4]
      by_cases h2 : r < D.1 ∧ S.testBit r = true
      · rw [if_pos h2, if_pos ⟨rfl, h2⟩]
      · rw [if_neg h2, if_neg (fun z => h2 z.2)]
    · rw [drp_ne g S D.1 (Or.inl e), if_neg (fun z => e z.1), v2 r hr j]
  · rw [hn _ _ (fun q hq => by omega)]; exact (sb b).1
  · rw [hn _ _ (fun q hq => by omega)]; exact (sb b).2.1
  · rw [hn _ _ (fun q hq => by omega)]; exact (sb b).2.2
theorem mf_dr (hD : DW D) (g : Nat → Nat → Nat) (l : Nat → Nat → Int64) (S : Nat) : MF g l (drp g S D.1) l := fun k hk => ⟨fun j => drp_ne g S D.1 (Or.inr (fun r hr => by have := hD.1; omega)), fun _ => rfl⟩
theorem ci_prt {t : Nat} (hp : U.1 < 3) (hC : CI f l D W U T N) : CI (uf (unm (uf f (63 + 3 * U.1) 2 t) (64 + 3 * U.1) 6) 57 2 (U.1 + 1)) l D W (prtU U t) T N := by
  obtain ⟨⟨v1, v2, v3, v4⟩, ⟨l1, l2, l3⟩, ⟨u1, u2, u3, u4, u5, u6⟩, ⟨t1, t2⟩, n5, sb⟩ := hC
  have hn : ∀ k j, k ≠ 63 + 3 * U.1 → k ≠ 64 + 3 * U.1 → k ≠ 57 → uf (unm (uf f (63 + 3 * U.1) 2 t) (64 + 3 * U.1) 6) 57 2 (U.1 + 1) k j = f k j := fun k j h1 h2 h3 => by
    rw [uf_ne _ _ (Or.inl h3), unm_ne _ _ _ h2, uf_ne _ _ (Or.inl h1)]
  refine ⟨⟨(hn _ _ (by omega) (by omega) (by omega)).trans v1, fun r hr j => (hn _ _ (by omega) (by omega) (by omega)).trans (v2 r hr j), fun r hr c => (hn _ _ (by omega) (by omega) (by omega)).trans (v3 r hr c), v4⟩, ⟨(hn _ _ (by omega) (by omega) (by omega)).trans l1, fun w hw j => (hn _ _ (by omega) (by omega) (by omega)).trans (l2 w hw j), l3⟩, ⟨uf_self _ _ _ _, fun p hp2 => ?_, fun p hp2 c => ?_, u4, ?_, fun j hj i => (hn _ _ (by omega) (by omega) (by omega)).trans (u6 j hj i)⟩, ⟨fun t ht => (hn _ _ (by omega) (by omega) (by omega)).trans (t1 t ht), fun t ht c => (hn _ _ (by omega) (by omega) (by omega)).trans (t2 t ht c)⟩, (hn _ _ (by omega) (by omega) (by omega)).trans n5, fun b => ⟨?_, ?_, ?_⟩⟩
  · show _ = if p = U.1 then t else U.2.1 p
    rw [uf_ne _ _ (Or.inl (by omega)), unm_ne _ _ _ (by omega)]
    by_cases e : p = U.1
    · subst e; rw [uf_self, if_pos rfl]
    · rw [uf_ne _ _ (Or.inl (by omega)), if_neg e, u2 p hp2]
  · show _ = if p = U.1 ∧ c < 6 then 0 else U.2.2.1 p c
    rw [uf_ne _ _ (Or.inl (by omega))]
    by_cases e : p = U.1
    · subst e
      unfold unm
      by_cases hc : c < 6
      · rw [if_pos ⟨rfl, hc⟩, if_pos ⟨rfl, hc⟩]
      · rw [if_neg (fun z => hc z.2), if_neg (fun z => hc z.2), uf_ne _ _ (Or.inl (by omega)), u3 _ hp2 c]
    · rw [unm_ne _ _ _ (by omega), if_neg (fun z => e z.1), uf_ne _ _ (Or.inl (by omega)), u3 p hp2 c]
  · show _ = U.2.2.2.2.1
    rw [uf_ne _ _ (Or.inr (by decide)), unm_ne _ _ _ (by omega), uf_ne _ _ (Or.inl (by omega))]
    exact u5
  · rw [hn _ _ (by omega) (by omega) (by omega)]; exact (sb b).1
  · rw [hn _ _ (by omega) (by omega) (by omega)]; exact (sb b).2.1
  · rw [hn _ _ (by omega) (by omega) (by omega)]; exact (sb b).2.2
theorem mf_prt (hp : U.1 < 3) (f : Nat → Nat → Nat) (l : Nat → Nat → Int64) (t : Nat) : MF f l (uf (unm (uf f (63 + 3 * U.1) 2 t) (64 + 3 * U.1) 6) 57 2 (U.1 + 1)) l := fun k hk => ⟨fun j => by rw [uf_ne _ _ (Or.inl (by omega)), unm_ne _ _ _ (by omega), uf_ne _ _ (Or.inl (by omega))], fun _ => rfl⟩
theorem mf_stl (hD : DW D) (t x y : Nat) (f : Nat → Nat → Nat) (l : Nat → Nat → Int64) : MF f l f (sall D t x y (thD D t x y) l D.1) := fun k hk => ⟨fun _ => rfl, fun j => sall_ne (thD_TH D t x y) l D.1 (Or.inr (fun r hr => by
  have := (thD_TH D t x y r hr).1
  have := hD.1
  omega))⟩
end CIW

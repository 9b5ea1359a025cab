-- marks: by program (wip/whole/spec17.py)
set_option maxRecDepth 20000 in
theorem s_unmark {G : GG} {f : Nat → Nat → Nat} {l : Nat → Nat → Int64} {k n : Nat} (hk : lay k = (13, 4096)) (hk4 : k < 114) (hn : n ≤ 12)  : Spec G mX9_unmark [.ref (ad G k), .int (nI n)] 114 (f, l, refT) none 114 (unm f k (2 ^ n), l, refT) := by
  have hp := pow12 hn
  refine Spec.of ok_X9_unmark.1 ⟨Nat.le_refl _, Nat.le_refl _⟩ (Nat.le_of_ble_eq_true rfl) ?_
  show Pm G RX9 cX9_unmark 4 (KM G mX9_unmark 114 114 none (unm f k (2 ^ n), l, refT)) 0 [some (.ref (ad G k)), some (.int (nI n)), none, none] [] f l
  refine P.iconst dX9_unmark_0 ic_1 ?_
  refine P.iload_n dX9_unmark_1 rfl rfl ?_
  refine P.ishl dX9_unmark_2 (n_bit (by omega)) ?_
  refine P.istore_n dX9_unmark_3 rfl (by decide) ?_
  refine P.iconst dX9_unmark_4 ic_0 ?_
  refine P.istore_n dX9_unmark_5 rfl (by decide) ?_
  refine Pm.cf (unm_0 f k).symm ?_
  refine loop_up (M := fun (i : Nat) => Pm G _ _ _ _ 6 [some (.ref (ad G k)), some (.int (nI n)), some (.int (nI (2 ^ n))), some (.int (nI i))] [] (unm f k i) l) (lo := 0) (N := (2 ^ n)) (by first | exact Nat.zero_le _ | omega) (fun i hi0 hi1 ihi => ?_) ?_
  · show Pm G _ _ _ _ 6 [some (.ref (ad G k)), some (.int (nI n)), some (.int (nI (2 ^ n))), some (.int (nI i))] [] (unm f k i) l
    refine P.iload_n dX9_unmark_6 rfl rfl ?_
    refine P.iload_n dX9_unmark_7 rfl rfl ?_
    refine P.icmp_ge_n (tgt := 21) dX9_unmark_8 (by decide) (by omega) (by omega) (fun c_8 => ?_) (fun c_8 => ?_)
    · exfalso; omega
    refine P.aload_n dX9_unmark_11 rfl rfl ?_
    refine P.iload_n dX9_unmark_12 rfl rfl ?_
    refine P.iconst dX9_unmark_13 ic_0 ?_
    refine s_za (a := 0) hk hk4 (by omega) (by decide) dX9_unmark_14 rfl (by omega) ?_
    refine P.iinc dX9_unmark_15 rfl (inc1 _) (by decide) ?_
    refine P.goto (tgt := 6) dX9_unmark_18 (by decide) ?_
    show Pm G _ _ _ _ 6 [some (.ref (ad G k)), some (.int (nI n)), some (.int (nI (2 ^ n))), some (.int (nI (i + 1)))] [] (uf (unm f k i) k i 0) l
    exact Pm.to (ihi) (by simp [lle]) rfl (by rw [unm_s]) rfl
  · show Pm G _ _ _ _ 6 [some (.ref (ad G k)), some (.int (nI n)), some (.int (nI (2 ^ n))), some (.int (nI (2 ^ n)))] [] (unm f k (2 ^ n)) l
    refine P.iload_n dX9_unmark_6 rfl rfl ?_
    refine P.iload_n dX9_unmark_7 rfl rfl ?_
    refine P.icmp_ge_n (tgt := 21) dX9_unmark_8 (by decide) (by omega) (by omega) (fun c_8 => ?_) (fun c_8 => ?_)
    · exact P.vret rfl dX9_unmark_21 rfl
    · exfalso; omega

set_option maxRecDepth 20000 in
theorem s_markWholes {G : GG} {f : Nat → Nat → Nat} {l : Nat → Nat → Int64} {k n : Nat} (hk : lay k = (13, 4096)) (hk4 : k < 114) (hn : n ≤ 12) (h2 : ∀ b, f k b < 2) : Spec G mX9_markWholes [.ref (ad G k), .int (nI n)] 114 (f, l, refT) none 114 (mwR f k n n, l, refT) := by
  have hp := pow12 hn
  refine Spec.of ok_X9_markWholes.1 ⟨Nat.le_refl _, Nat.le_refl _⟩ (Nat.le_of_ble_eq_true rfl) ?_
  show Pm G RX9 cX9_markWholes 5 (KM G mX9_markWholes 114 114 none (mwR f k n n, l, refT)) 0 [some (.ref (ad G k)), some (.int (nI n)), none, none, none] [] f l
  refine P.iconst dX9_markWholes_0 ic_1 ?_
  refine P.iload_n dX9_markWholes_1 rfl rfl ?_
  refine P.ishl dX9_markWholes_2 (n_bit (by omega)) ?_
  refine P.istore_n dX9_markWholes_3 rfl (by decide) ?_
  refine P.iconst dX9_markWholes_4 ic_0 ?_
  refine P.istore_n dX9_markWholes_5 rfl (by decide) ?_
  refine loop_up (M := fun (i : Nat) => Pm G _ _ _ _ 6 [some (.ref (ad G k)), some (.int (nI n)), some (.int (nI (2 ^ n))), some (.int (nI i)), none] [] (mwR f k n i) l) (lo := 0) (N := n) (by first | exact Nat.zero_le _ | omega) (fun i hi0 hi1 ihi => ?_) ?_
  · show Pm G _ _ _ _ 6 [some (.ref (ad G k)), some (.int (nI n)), some (.int (nI (2 ^ n))), some (.int (nI i)), none] [] (mwR f k n i) l
    refine P.iload_n dX9_markWholes_6 rfl rfl ?_
    refine P.iload_n dX9_markWholes_7 rfl rfl ?_
    refine P.icmp_ge_n (tgt := 48) dX9_markWholes_8 (by decide) (by omega) (by omega) (fun c_8 => ?_) (fun c_8 => ?_)
    · exfalso; omega
    refine P.iconst dX9_markWholes_11 ic_0 ?_
    refine P.istore dX9_markWholes_12 (by decide) ?_
    refine Pm.cf (mwI_0 (mwR f k n i) k i).symm ?_
    refine loop_up (M := fun (j : Nat) => Pm G _ _ _ _ 14 [some (.ref (ad G k)), some (.int (nI n)), some (.int (nI (2 ^ n))), some (.int (nI i)), some (.int (nI j))] [] (mwI (mwR f k n i) k i j) l) (lo := 0) (N := (2 ^ n)) (by first | exact Nat.zero_le _ | omega) (fun j hj0 hj1 ihj => ?_) ?_
    · show Pm G _ _ _ _ 14 [some (.ref (ad G k)), some (.int (nI n)), some (.int (nI (2 ^ n))), some (.int (nI i)), some (.int (nI j))] [] (mwI (mwR f k n i) k i j) l
      refine P.iload dX9_markWholes_14 rfl ?_
      refine P.iload_n dX9_markWholes_16 rfl rfl ?_
      refine P.icmp_ge_n (tgt := 42) dX9_markWholes_17 (by decide) (by omega) (by omega) (fun c_17 => ?_) (fun c_17 => ?_)
      · exfalso; omega
      refine P.aload_n dX9_markWholes_20 rfl rfl ?_
      refine P.iload dX9_markWholes_21 rfl ?_
      refine a_za hk hk4 (by omega) (by decide) dX9_markWholes_23 ?_
      refine P.if_eq_n (tgt := 36) dX9_markWholes_24 (by decide) (Nat.lt_trans (mwI_lt (mwR_lt h2 n i) i j j) (by decide)) (fun c_24 => ?_) (fun c_24 => ?_)
      · refine P.iinc dX9_markWholes_36 rfl (inc1 _) (by decide) ?_
        refine P.goto (tgt := 14) dX9_markWholes_39 (by decide) ?_
        show Pm G _ _ _ _ 14 [some (.ref (ad G k)), some (.int (nI n)), some (.int (nI (2 ^ n))), some (.int (nI i)), some (.int (nI (j + 1)))] [] (mwI (mwR f k n i) k i j) l
        exact Pm.to (ihj) (by simp [lle]) rfl (by rw [mwI_not c_24]) rfl
      refine P.aload_n dX9_markWholes_27 rfl rfl ?_
      refine P.iload dX9_markWholes_28 rfl ?_
      refine P.iconst dX9_markWholes_30 ic_1 ?_
      refine P.iload_n dX9_markWholes_31 rfl rfl ?_
      refine P.ishl dX9_markWholes_32 (n_bit (by omega)) ?_
      refine P.ior_n dX9_markWholes_33 (n_or _ _) ?_
      refine P.iconst dX9_markWholes_34 ic_1 ?_
      refine s_za (a := 1) hk hk4 (by have := lt_two_pow_or (s := j) (i := i) (n := n) (by omega) (by omega); omega) (by decide) dX9_markWholes_35 rfl (by omega) ?_
      refine P.iinc dX9_markWholes_36 rfl (inc1 _) (by decide) ?_
      refine P.goto (tgt := 14) dX9_markWholes_39 (by decide) ?_
      show Pm G _ _ _ _ 14 [some (.ref (ad G k)), some (.int (nI n)), some (.int (nI (2 ^ n))), some (.int (nI i)), some (.int (nI (j + 1)))] [] (uf (mwI (mwR f k n i) k i j) k (j ||| (2 ^ i)) 1) l
      exact Pm.to (ihj) (by simp [lle]) rfl (by rw [← mwI_set (mwI_lt (mwR_lt h2 n i) i j j) c_24]) rfl
    · show Pm G _ _ _ _ 14 [some (.ref (ad G k)), some (.int (nI n)), some (.int (nI (2 ^ n))), some (.int (nI i)), some (.int (nI (2 ^ n)))] [] (mwI (mwR f k n i) k i (2 ^ n)) l
      refine P.iload dX9_markWholes_14 rfl ?_
      refine P.iload_n dX9_markWholes_16 rfl rfl ?_
      refine P.icmp_ge_n (tgt := 42) dX9_markWholes_17 (by decide) (by omega) (by omega) (fun c_17 => ?_) (fun c_17 => ?_)
      · refine P.iinc dX9_markWholes_42 rfl (inc1 _) (by decide) ?_
        refine P.goto (tgt := 6) dX9_markWholes_45 (by decide) ?_
        show Pm G _ _ _ _ 6 [some (.ref (ad G k)), some (.int (nI n)), some (.int (nI (2 ^ n))), some (.int (nI (i + 1))), some (.int (nI (2 ^ n)))] [] (mwI (mwR f k n i) k i (2 ^ n)) l
        exact Pm.to (ihi) (by simp [lle]) rfl (by rfl) rfl
      · exfalso; omega
  · show Pm G _ _ _ _ 6 [some (.ref (ad G k)), some (.int (nI n)), some (.int (nI (2 ^ n))), some (.int (nI n)), none] [] (mwR f k n n) l
    refine P.iload_n dX9_markWholes_6 rfl rfl ?_
    refine P.iload_n dX9_markWholes_7 rfl rfl ?_
    refine P.icmp_ge_n (tgt := 48) dX9_markWholes_8 (by decide) (by omega) (by omega) (fun c_8 => ?_) (fun c_8 => ?_)
    · exact P.vret rfl dX9_markWholes_48 rfl
    · exfalso; omega


-- the model's firstBroken: by program (wip/whole/spec42.py)
set_option maxRecDepth 20000 in
theorem t_firstBroken {G : GG} {f : Nat → Nat → Nat} {l : Nat → Nat → Int64} {D : DB} {W : LB} {U : QB} {T : TB} {N : Nat} (hM : MV f l D W U T N) (hBW : BW D W U T) {S : Nat} (hS : S < 2147483648) : Spec G mX10_firstBroken [.ref (ad G 86), .int (nI S)] 114 (f, l, refT) (some (.int (ans9 (fstP (fB D W S) W.1)))) 114 (f, l, refT) := by
  obtain ⟨hD, hLW, hUW, hTW⟩ := id hBW
  have hR := hD.1
  have hW1 := hLW.1
  have hU1 := hUW.1
  have hJ1 := hUW.2.1
  refine Spec.of ok_X10_firstBroken.1 ⟨Nat.le_refl _, Nat.le_refl _⟩ (Nat.le_of_ble_eq_true rfl) ?_
  show Pm G RX10 cX10_firstBroken 3 (KM G mX10_firstBroken 114 114 (some (.int (ans9 (fstP (fB D W S) W.1)))) (f, l, refT)) 0 [some (.ref (ad G 86)), some (.int (nI S)), none] [] f l
  refine P.iconst dX10_firstBroken_0 ic_0 ?_
  refine P.istore_n dX10_firstBroken_1 rfl (by decide) ?_
  refine loop_up (M := fun (i : Nat) => (∀ j, j < i → fB D W S j = false) → Pm G _ _ _ _ 2 [some (.ref (ad G 86)), some (.int (nI S)), some (.int (nI i))] [] f l) (lo := 0) (N := W.1) (by first | exact Nat.zero_le _ | omega) (fun i hi0 hi1 ihi => ?_) ?_ ?_
  · intro invi
    have hw7 := (hLW.2 i hi1).2.2.2.2.2
    show Pm G _ _ _ _ 2 [some (.ref (ad G 86)), some (.int (nI S)), some (.int (nI i))] [] f l
    refine P.iload_n dX10_firstBroken_2 rfl rfl ?_
    refine P.aload_n dX10_firstBroken_3 rfl rfl ?_
    refine g_X10_laws ly_86 (by decide) fl_X10_109 dX10_firstBroken_4 ?_
    refine Pm.topn (b := W.1) (hM.W) ?_
    refine P.icmp_ge_n (tgt := 36) dX10_firstBroken_7 (by decide) (by omega) (by omega) (fun c_7 => ?_) (fun c_7 => ?_)
    · exfalso; omega
    refine P.aload_n dX10_firstBroken_10 rfl rfl ?_
    refine g_X10_isInForce (q := 101) ly_86 (by decide) (by decide) fl_X10_54 dX10_firstBroken_11 ?_
    refine P.iload_n dX10_firstBroken_14 rfl rfl ?_
    refine a_za ly_101 (by decide) (by omega) (by decide) dX10_firstBroken_15 ?_
    refine Pm.topn (b := W.2.1 i 7) ((hM.frc i (by omega))) ?_
    refine P.if_eq_n (tgt := 30) dX10_firstBroken_16 (by decide) (by omega) (fun c_16 => ?_) (fun c_16 => ?_)
    · refine P.iinc dX10_firstBroken_30 rfl (inc1 _) (by decide) ?_
      refine P.goto (tgt := 2) dX10_firstBroken_33 (by decide) ?_
      show Pm G _ _ _ _ 2 [some (.ref (ad G 86)), some (.int (nI S)), some (.int (nI (i + 1)))] [] f l
      exact Pm.to (ihi (by exact lt_snoc invi (by simp [fB, c_16]))) (by simp [lle]) rfl rfl rfl
    refine P.aload_n dX10_firstBroken_19 rfl rfl ?_
    refine P.iload_n dX10_firstBroken_20 rfl rfl ?_
    refine P.iload_n dX10_firstBroken_21 rfl rfl ?_
    refine P.callV (As := [.int (nI i), .int (nI S)]) (rest := []) (t_breaksLaw (w := i) (S := S) hM hBW (by omega) hS) ok_X10_breaksLaw ⟨Nat.le_of_ble_eq_true rfl, Nat.le_of_ble_eq_true rfl, Nat.le_refl _, Nat.le_refl _⟩ rfl ml_X10_183 ly_86 (by decide) (by decide) rfl rfl (Nat.le_of_ble_eq_true rfl) dX10_firstBroken_22 ?_
    refine P.if_eq_b (tgt := 30) dX10_firstBroken_25 (by decide) (fun c_25 => ?_) (fun c_25 => ?_)
    · refine P.iinc dX10_firstBroken_30 rfl (inc1 _) (by decide) ?_
      refine P.goto (tgt := 2) dX10_firstBroken_33 (by decide) ?_
      show Pm G _ _ _ _ 2 [some (.ref (ad G 86)), some (.int (nI S)), some (.int (nI (i + 1)))] [] f l
      exact Pm.to (ihi (by exact lt_snoc invi (by simp [fB, c_16, c_25]))) (by simp [lle]) rfl rfl rfl
    refine P.iload_n dX10_firstBroken_28 rfl rfl ?_
    exact P.iret rfl dX10_firstBroken_29 (by rw [fstP_some hi1 (show fB D W S i = true from by simp [fB, c_16, c_25]) invi]; rfl) rfl
  · intro invi
    show Pm G _ _ _ _ 2 [some (.ref (ad G 86)), some (.int (nI S)), some (.int (nI W.1))] [] f l
    refine P.iload_n dX10_firstBroken_2 rfl rfl ?_
    refine P.aload_n dX10_firstBroken_3 rfl rfl ?_
    refine g_X10_laws ly_86 (by decide) fl_X10_109 dX10_firstBroken_4 ?_
    refine Pm.topn (b := W.1) (hM.W) ?_
    refine P.icmp_ge_n (tgt := 36) dX10_firstBroken_7 (by decide) (by omega) (by omega) (fun c_7 => ?_) (fun c_7 => ?_)
    · refine P.bipush (v := -9) dX10_firstBroken_36 rfl ?_
      exact P.iret rfl dX10_firstBroken_38 (by rw [fstP_none invi]; rfl) rfl
    · exfalso; omega
  · exact fun j hj => absurd hj (by omega)


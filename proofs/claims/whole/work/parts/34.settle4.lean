-- settle, the face: by program (wip/whole/spec34.py)
set_option maxRecDepth 20000 in
theorem s_settleAll {G : GG} {f : Nat → Nat → Nat} {l : Nat → Nat → Int64} {D : DB} (hV : RV f l D) (hD : DW D) {t x y : Nat} (ht : t < 4) (hx : x < 6) (hy : y < 6) (hxy : x ≠ y)  : Spec G mX7_settleAll [.ref (ad G 2), .int (nI t), .int (nI x), .int (nI y)] 114 (f, l, refT) (some (.int (nI (cSall D t x y (thD D t x y))))) 114 (f, sall D t x y (thD D t x y) l D.1, refT) := by
  have hR := hD.1
  refine Spec.of ok_X7_settleAll.1 ⟨Nat.le_refl _, Nat.le_refl _⟩ (Nat.le_of_ble_eq_true rfl) ?_
  show Pm G RX7 cX7_settleAll 8 (KM G mX7_settleAll 114 114 (some (.int (nI (cSall D t x y (thD D t x y))))) (f, sall D t x y (thD D t x y) l D.1, refT)) 0 [some (.ref (ad G 2)), some (.int (nI t)), some (.int (nI x)), some (.int (nI y)), none, none, none, none] [] f l
  refine P.aload_n dX7_settleAll_0 rfl rfl ?_
  refine P.callV (As := []) (rest := []) (s_kept hV hD) ok_X7_kept ⟨Nat.le_of_ble_eq_true rfl, Nat.le_of_ble_eq_true rfl, Nat.le_refl _, Nat.le_refl _⟩ rfl ml_X7_52 ly_2 (by decide) (by decide) rfl rfl (Nat.le_of_ble_eq_true rfl) dX7_settleAll_1 ?_
  refine P.istore dX7_settleAll_4 (by decide) ?_
  refine P.aload_n dX7_settleAll_6 rfl rfl ?_
  refine P.iload_n dX7_settleAll_7 rfl rfl ?_
  refine P.iload_n dX7_settleAll_8 rfl rfl ?_
  refine P.iload dX7_settleAll_9 rfl ?_
  refine P.callV (As := [.int (nI t), .int (nI x), .int (nI (keptD D))]) (rest := []) (s_withCell hV hD (by omega) (by omega) (keptD_lt hD)) ok_X7_withCell ⟨Nat.le_of_ble_eq_true rfl, Nat.le_of_ble_eq_true rfl, Nat.le_refl _, Nat.le_refl _⟩ rfl ml_X7_48 ly_2 (by decide) (by decide) rfl rfl (Nat.le_of_ble_eq_true rfl) dX7_settleAll_11 ?_
  refine P.aload_n dX7_settleAll_14 rfl rfl ?_
  refine P.iload_n dX7_settleAll_15 rfl rfl ?_
  refine P.iload_n dX7_settleAll_16 rfl rfl ?_
  refine P.iload dX7_settleAll_17 rfl ?_
  refine P.callV (As := [.int (nI t), .int (nI y), .int (nI (keptD D))]) (rest := [.int (nI (withC D t x (keptD D)))]) (s_withCell hV hD (by omega) (by omega) (keptD_lt hD)) ok_X7_withCell ⟨Nat.le_of_ble_eq_true rfl, Nat.le_of_ble_eq_true rfl, Nat.le_refl _, Nat.le_refl _⟩ rfl ml_X7_48 ly_2 (by decide) (by decide) rfl rfl (Nat.le_of_ble_eq_true rfl) dX7_settleAll_19 ?_
  refine P.iand_n dX7_settleAll_22 (n_and _ _) ?_
  refine P.istore dX7_settleAll_23 (by decide) ?_
  refine P.iconst dX7_settleAll_25 ic_0 ?_
  refine P.istore dX7_settleAll_26 (by decide) ?_
  refine P.iconst dX7_settleAll_28 ic_0 ?_
  refine P.istore dX7_settleAll_29 (by decide) ?_
  refine loop_up (M := fun (i : Nat) => Pm G _ _ _ _ 31 [some (.ref (ad G 2)), some (.int (nI t)), some (.int (nI x)), some (.int (nI y)), some (.int (nI (keptD D))), some (.int (nI (thD D t x y))), some (.int (nI (cT D t x y (thD D t x y) i))), some (.int (nI i))] [] f (sall D t x y (thD D t x y) l i)) (lo := 0) (N := D.1) (by first | exact Nat.zero_le _ | omega) (fun i hi0 hi1 ihi => ?_) ?_
  · show Pm G _ _ _ _ 31 [some (.ref (ad G 2)), some (.int (nI t)), some (.int (nI x)), some (.int (nI y)), some (.int (nI (keptD D))), some (.int (nI (thD D t x y))), some (.int (nI (cT D t x y (thD D t x y) i))), some (.int (nI i))] [] f (sall D t x y (thD D t x y) l i)
    refine P.iload dX7_settleAll_31 rfl ?_
    refine P.aload_n dX7_settleAll_33 rfl rfl ?_
    refine g_X7_many ly_2 (by decide) fl_X7_18 dX7_settleAll_34 ?_
    refine Pm.topn (b := D.1) (hV.1) ?_
    refine P.icmp_ge_n (tgt := 87) dX7_settleAll_37 (by decide) (by omega) (by omega) (fun c_37 => ?_) (fun c_37 => ?_)
    · exfalso; omega
    refine P.iload dX7_settleAll_40 rfl ?_
    refine P.iload dX7_settleAll_42 rfl ?_
    refine P.callSN (As := [.int (nI (thD D t x y)), .int (nI i)]) (rest := []) (s_isIn (s := (thD D t x y)) (r := i) (by have := thD_lt hD t x y; omega) (by omega)) ok_X9_isIn ⟨Nat.le_of_ble_eq_true rfl, Nat.le_of_ble_eq_true rfl, Nat.le_refl _, Nat.le_refl _⟩ rfl mn_X7_32 rfl (Nat.le_of_ble_eq_true rfl) dX7_settleAll_44 ?_
    refine P.if_eq_b (tgt := 81) dX7_settleAll_47 (by decide) (fun c_47 => ?_) (fun c_47 => ?_)
    · refine P.iinc dX7_settleAll_81 rfl (inc1 _) (by decide) ?_
      refine P.goto (tgt := 31) dX7_settleAll_84 (by decide) ?_
      show Pm G _ _ _ _ 31 [some (.ref (ad G 2)), some (.int (nI t)), some (.int (nI x)), some (.int (nI y)), some (.int (nI (keptD D))), some (.int (nI (thD D t x y))), some (.int (nI (cT D t x y (thD D t x y) i))), some (.int (nI (i + 1)))] [] f (sall D t x y (thD D t x y) l i)
      exact Pm.to (ihi) (by rw [cT_S, cT_S, cS_skip c_47]; simp [lle]) rfl rfl (by first | exact (by rw [sall_s, if_neg (by rw [c_47]; exact Bool.noConfusion)]) | exact (by rw [sall_s, if_neg (by rw [c_47]; exact Bool.noConfusion)]).symm)
    refine P.iload dX7_settleAll_50 rfl ?_
    refine P.aload_n dX7_settleAll_52 rfl rfl ?_
    refine P.iload_n dX7_settleAll_53 rfl rfl ?_
    refine P.iload_n dX7_settleAll_54 rfl rfl ?_
    refine P.aload_n dX7_settleAll_55 rfl rfl ?_
    refine P.iload_n dX7_settleAll_56 rfl rfl ?_
    refine P.iload_n dX7_settleAll_57 rfl rfl ?_
    refine P.aload_n dX7_settleAll_58 rfl rfl ?_
    refine g_X7_list (q := 3) ly_2 (by decide) (by decide) fl_X7_11 dX7_settleAll_59 ?_
    refine P.iload dX7_settleAll_62 rfl ?_
    refine a_r6 (q := 4 + 3 * i) ly_3 (by decide) (by omega) (by decide) (rt_row (r := i) (by omega)) dX7_settleAll_64 ?_
    refine g_X6_numbers (q := 5 + 3 * i) (ly_row (r := i) (by omega)) (by omega) (rt_num (r := i) (by omega)) fl_X7_44 dX7_settleAll_65 ?_
    refine P.iload_n dX7_settleAll_68 rfl rfl ?_
    refine a_la (ly_num (r := i) (by omega)) (by omega) (by omega) (by decide) dX7_settleAll_69 ?_
    refine Pm.topl (b := D.2.2.2 i x) (((sall_ne (thD_TH D t x y) l i (Or.inl hxy)).trans (hV.2.2.2 i (by omega) x))) ?_
    refine P.iload dX7_settleAll_70 rfl ?_
    refine P.callV (As := [.int (nI t), .int (nI x), .long (D.2.2.2 i x), .int (nI (thD D t x y))]) (rest := [.int (nI y), .int (nI t), .ref (ad G 2), .int (nI (cT D t x y (thD D t x y) i))]) (s_wnS hV hD (n := i) (thD_TH D t x y) ht hx hxy (thD_lt hD t x y)) ok_X7_withNumber ⟨Nat.le_of_ble_eq_true rfl, Nat.le_of_ble_eq_true rfl, Nat.le_refl _, Nat.le_refl _⟩ rfl ml_X7_55 ly_2 (by decide) (by decide) rfl rfl (Nat.le_of_ble_eq_true rfl) dX7_settleAll_72 ?_
    refine P.callV (As := [.int (nI t), .int (nI y), .int (nI (grpD D t x (thD D t x y) i))]) (rest := [.int (nI (cT D t x y (thD D t x y) i))]) (s_sgS hV hD (n := i) (thD_TH D t x y) ht hy c_47) ok_X7_settleGroup ⟨Nat.le_of_ble_eq_true rfl, Nat.le_of_ble_eq_true rfl, Nat.le_refl _, Nat.le_refl _⟩ rfl ml_X7_59 ly_2 (by decide) (by decide) rfl rfl (Nat.le_of_ble_eq_true rfl) dX7_settleAll_75 ?_
    refine P.iadd_n dX7_settleAll_78 (nI_add _ _) ?_
    refine P.istore dX7_settleAll_79 (by decide) ?_
    refine P.iinc dX7_settleAll_81 rfl (inc1 _) (by decide) ?_
    refine P.goto (tgt := 31) dX7_settleAll_84 (by decide) ?_
    show Pm G _ _ _ _ 31 [some (.ref (ad G 2)), some (.int (nI t)), some (.int (nI x)), some (.int (nI y)), some (.int (nI (keptD D))), some (.int (nI (thD D t x y))), some (.int (nI ((cT D t x y (thD D t x y) i) + (cntN (fun r => (grpD D t x (thD D t x y) i).testBit r && sall D t x y (thD D t x y) l i (5 + 3 * r) y != newV D t x y (thD D t x y) i) D.1)))), some (.int (nI (i + 1)))] [] f (sall D t x y (thD D t x y) l (i + 1))
    exact Pm.to (ihi) (by rw [cT_S, cT_S, cS_step hV hD (thD_TH D t x y) c_47]; simp [lle]) rfl rfl (by rfl)
  · show Pm G _ _ _ _ 31 [some (.ref (ad G 2)), some (.int (nI t)), some (.int (nI x)), some (.int (nI y)), some (.int (nI (keptD D))), some (.int (nI (thD D t x y))), some (.int (nI (cT D t x y (thD D t x y) D.1))), some (.int (nI D.1))] [] f (sall D t x y (thD D t x y) l D.1)
    refine P.iload dX7_settleAll_31 rfl ?_
    refine P.aload_n dX7_settleAll_33 rfl rfl ?_
    refine g_X7_many ly_2 (by decide) fl_X7_18 dX7_settleAll_34 ?_
    refine Pm.topn (b := D.1) (hV.1) ?_
    refine P.icmp_ge_n (tgt := 87) dX7_settleAll_37 (by decide) (by omega) (by omega) (fun c_37 => ?_) (fun c_37 => ?_)
    · refine P.iload dX7_settleAll_87 rfl ?_
      exact P.iret rfl dX7_settleAll_89 (by rw [cT_S, cS_all (thD_TH D t x y)]) rfl
    · exfalso; omega

set_option maxRecDepth 20000 in
theorem k_settle_a {G : GG} {f : Nat → Nat → Nat} {l : Nat → Nat → Int64} {D : DB} {W : LB} {U : QB} {T : TB} {N : Nat} (hC : CI f l D W U T N) (hBW : BW D W U T) {x : Int32} (hx : inR x W.1 = false)  : Spec G mX9_settle [.ref (ad G 0), .int x] 114 (f, l, refT) (some (.int (-1))) 114 (f, l, refT) := by
  obtain ⟨hV, hL, hU, hT, hN, hSB⟩ := id hC
  obtain ⟨hD, hLW, hUW, hTW⟩ := id hBW
  have hR := hD.1
  have hW1 := hLW.1
  have hU1 := hUW.1
  have hJ1 := hUW.2.1
  refine Spec.of ok_X9_settle.1 ⟨Nat.le_refl _, Nat.le_refl _⟩ (Nat.le_of_ble_eq_true rfl) ?_
  show Pm G RX9 cX9_settle 3 (KM G mX9_settle 114 114 (some (.int (-1))) (f, l, refT)) 0 [some (.ref (ad G 0)), some (.int x), none] [] f l
  refine P.aload_n dX9_settle_0 rfl rfl ?_
  refine P.iload_n dX9_settle_1 rfl rfl ?_
  refine P.callV (As := [.int x]) (rest := []) (s_isLaw_f hL hLW hx) ok_X9_isLaw ⟨Nat.le_of_ble_eq_true rfl, Nat.le_of_ble_eq_true rfl, Nat.le_refl _, Nat.le_refl _⟩ rfl ml_X9_154 ly_0 (by decide) (by decide) rfl rfl (Nat.le_of_ble_eq_true rfl) dX9_settle_2 ?_
  refine P.if_ne_b (tgt := 10) dX9_settle_5 (by decide) (fun c_5 => ?_) (fun c_5 => ?_)
  · exfalso; revert c_5; decide
  refine P.iconst (v := -1) dX9_settle_8 rfl ?_
  exact P.iret rfl dX9_settle_9 rfl rfl

set_option maxRecDepth 20000 in
theorem k_settle_b {G : GG} {f : Nat → Nat → Nat} {l : Nat → Nat → Int64} {D : DB} {W : LB} {U : QB} {T : TB} {N : Nat} (hC : CI f l D W U T N) (hBW : BW D W U T) {r : Nat} (hr : r < W.1) (hk : W.2.1 r 0 ≠ 0) : Spec G mX9_settle [.ref (ad G 0), .int (nI r)] 114 (f, l, refT) (some (.int (-13))) 114 (uf f 0 5 (N + 1), l, refT) := by
  obtain ⟨hV, hL, hU, hT, hN, hSB⟩ := id hC
  obtain ⟨hD, hLW, hUW, hTW⟩ := id hBW
  have hR := hD.1
  have hW1 := hLW.1
  have hU1 := hUW.1
  have hJ1 := hUW.2.1
  obtain ⟨hw0, hw1, hw2, hw3, -⟩ := hLW.2 r hr
  refine Spec.of ok_X9_settle.1 ⟨Nat.le_refl _, Nat.le_refl _⟩ (Nat.le_of_ble_eq_true rfl) ?_
  show Pm G RX9 cX9_settle 3 (KM G mX9_settle 114 114 (some (.int (-13))) (uf f 0 5 (N + 1), l, refT)) 0 [some (.ref (ad G 0)), some (.int (nI r)), none] [] f l
  refine P.aload_n dX9_settle_0 rfl rfl ?_
  refine P.iload_n dX9_settle_1 rfl rfl ?_
  refine P.callV (As := [.int (nI r)]) (rest := []) (s_isLaw_t hL hLW hr) ok_X9_isLaw ⟨Nat.le_of_ble_eq_true rfl, Nat.le_of_ble_eq_true rfl, Nat.le_refl _, Nat.le_refl _⟩ rfl ml_X9_154 ly_0 (by decide) (by decide) rfl rfl (Nat.le_of_ble_eq_true rfl) dX9_settle_2 ?_
  refine P.if_ne_b (tgt := 10) dX9_settle_5 (by decide) (fun c_5 => ?_) (fun c_5 => ?_)
  · refine P.aload_n dX9_settle_10 rfl rfl ?_
    refine g_X9_laws (q := 40) ly_0 (by decide) (by decide) fl_X9_27 dX9_settle_11 ?_
    refine g_X2_list (q := 41) ly_40 (by decide) (by decide) fl_X9_157 dX9_settle_14 ?_
    refine P.iload_n dX9_settle_17 rfl rfl ?_
    refine a_r1 (q := 43 + r) ly_41 (by decide) (by omega) (by decide) (rt_law (r := r) (by omega)) dX9_settle_18 ?_
    refine P.astore_n dX9_settle_19 rfl (by decide) ?_
    refine P.aload_n dX9_settle_20 rfl rfl ?_
    refine g_X1_kind (ly_law (r := r) (by omega)) (by omega) fl_X9_165 dX9_settle_21 ?_
    refine Pm.topn (b := W.2.1 r 0) ((hL.2.1 r (by omega) 0)) ?_
    refine P.if_eq_n (tgt := 34) dX9_settle_24 (by decide) (by omega) (fun c_24 => ?_) (fun c_24 => ?_)
    · exfalso; omega
    refine P.aload_n dX9_settle_27 rfl rfl ?_
    refine P.bipush (v := -13) dX9_settle_28 rfl ?_
    refine P.callV (As := [.int (-13)]) (rest := []) (s_found hN) ok_X9_found ⟨Nat.le_of_ble_eq_true rfl, Nat.le_of_ble_eq_true rfl, Nat.le_refl _, Nat.le_refl _⟩ rfl ml_X9_48 ly_0 (by decide) (by decide) rfl rfl (Nat.le_of_ble_eq_true rfl) dX9_settle_30 ?_
    exact P.iret rfl dX9_settle_33 rfl rfl
  · exfalso; revert c_5; decide

set_option maxRecDepth 20000 in
theorem k_settle_c {G : GG} {f : Nat → Nat → Nat} {l : Nat → Nat → Int64} {D : DB} {W : LB} {U : QB} {T : TB} {N : Nat} (hC : CI f l D W U T N) (hBW : BW D W U T) {r : Nat} (hr : r < W.1) (hk : W.2.1 r 0 = 0) (hne : W.2.1 r 2 = W.2.1 r 3) : Spec G mX9_settle [.ref (ad G 0), .int (nI r)] 114 (f, l, refT) (some (.int (-3))) 114 (f, l, refT) := by
  obtain ⟨hV, hL, hU, hT, hN, hSB⟩ := id hC
  obtain ⟨hD, hLW, hUW, hTW⟩ := id hBW
  have hR := hD.1
  have hW1 := hLW.1
  have hU1 := hUW.1
  have hJ1 := hUW.2.1
  obtain ⟨hw0, hw1, hw2, hw3, -⟩ := hLW.2 r hr
  refine Spec.of ok_X9_settle.1 ⟨Nat.le_refl _, Nat.le_refl _⟩ (Nat.le_of_ble_eq_true rfl) ?_
  show Pm G RX9 cX9_settle 3 (KM G mX9_settle 114 114 (some (.int (-3))) (f, l, refT)) 0 [some (.ref (ad G 0)), some (.int (nI r)), none] [] f l
  refine P.aload_n dX9_settle_0 rfl rfl ?_
  refine P.iload_n dX9_settle_1 rfl rfl ?_
  refine P.callV (As := [.int (nI r)]) (rest := []) (s_isLaw_t hL hLW hr) ok_X9_isLaw ⟨Nat.le_of_ble_eq_true rfl, Nat.le_of_ble_eq_true rfl, Nat.le_refl _, Nat.le_refl _⟩ rfl ml_X9_154 ly_0 (by decide) (by decide) rfl rfl (Nat.le_of_ble_eq_true rfl) dX9_settle_2 ?_
  refine P.if_ne_b (tgt := 10) dX9_settle_5 (by decide) (fun c_5 => ?_) (fun c_5 => ?_)
  · refine P.aload_n dX9_settle_10 rfl rfl ?_
    refine g_X9_laws (q := 40) ly_0 (by decide) (by decide) fl_X9_27 dX9_settle_11 ?_
    refine g_X2_list (q := 41) ly_40 (by decide) (by decide) fl_X9_157 dX9_settle_14 ?_
    refine P.iload_n dX9_settle_17 rfl rfl ?_
    refine a_r1 (q := 43 + r) ly_41 (by decide) (by omega) (by decide) (rt_law (r := r) (by omega)) dX9_settle_18 ?_
    refine P.astore_n dX9_settle_19 rfl (by decide) ?_
    refine P.aload_n dX9_settle_20 rfl rfl ?_
    refine g_X1_kind (ly_law (r := r) (by omega)) (by omega) fl_X9_165 dX9_settle_21 ?_
    refine Pm.topn (b := W.2.1 r 0) ((hL.2.1 r (by omega) 0)) ?_
    refine P.if_eq_n (tgt := 34) dX9_settle_24 (by decide) (by omega) (fun c_24 => ?_) (fun c_24 => ?_)
    · refine P.aload_n dX9_settle_34 rfl rfl ?_
      refine g_X1_first (ly_law (r := r) (by omega)) (by omega) fl_X9_136 dX9_settle_35 ?_
      refine Pm.topn (b := W.2.1 r 2) ((hL.2.1 r (by omega) 2)) ?_
      refine P.aload_n dX9_settle_38 rfl rfl ?_
      refine g_X1_second (ly_law (r := r) (by omega)) (by omega) fl_X9_141 dX9_settle_39 ?_
      refine Pm.topn (b := W.2.1 r 3) ((hL.2.1 r (by omega) 3)) ?_
      refine P.icmp_ne_n (tgt := 48) dX9_settle_42 (by decide) (by omega) (by omega) (fun c_42 => ?_) (fun c_42 => ?_)
      · exfalso; omega
      refine P.bipush (v := -3) dX9_settle_45 rfl ?_
      exact P.iret rfl dX9_settle_47 rfl rfl
    · exfalso; omega
  · exfalso; revert c_5; decide

set_option maxRecDepth 20000 in
theorem k_settle_d {G : GG} {f : Nat → Nat → Nat} {l : Nat → Nat → Int64} {D : DB} {W : LB} {U : QB} {T : TB} {N : Nat} (hC : CI f l D W U T N) (hBW : BW D W U T) {r : Nat} (hr : r < W.1) (hk : W.2.1 r 0 = 0) (hne : W.2.1 r 2 ≠ W.2.1 r 3) : Spec G mX9_settle [.ref (ad G 0), .int (nI r)] 114 (f, l, refT) (some (.int (nI (cSall D (W.2.1 r 1) (W.2.1 r 2) (W.2.1 r 3) (thD D (W.2.1 r 1) (W.2.1 r 2) (W.2.1 r 3)))))) 114 (f, sall D (W.2.1 r 1) (W.2.1 r 2) (W.2.1 r 3) (thD D (W.2.1 r 1) (W.2.1 r 2) (W.2.1 r 3)) l D.1, refT) := by
  obtain ⟨hV, hL, hU, hT, hN, hSB⟩ := id hC
  obtain ⟨hD, hLW, hUW, hTW⟩ := id hBW
  have hR := hD.1
  have hW1 := hLW.1
  have hU1 := hUW.1
  have hJ1 := hUW.2.1
  obtain ⟨hw0, hw1, hw2, hw3, -⟩ := hLW.2 r hr
  refine Spec.of ok_X9_settle.1 ⟨Nat.le_refl _, Nat.le_refl _⟩ (Nat.le_of_ble_eq_true rfl) ?_
  show Pm G RX9 cX9_settle 3 (KM G mX9_settle 114 114 (some (.int (nI (cSall D (W.2.1 r 1) (W.2.1 r 2) (W.2.1 r 3) (thD D (W.2.1 r 1) (W.2.1 r 2) (W.2.1 r 3)))))) (f, sall D (W.2.1 r 1) (W.2.1 r 2) (W.2.1 r 3) (thD D (W.2.1 r 1) (W.2.1 r 2) (W.2.1 r 3)) l D.1, refT)) 0 [some (.ref (ad G 0)), some (.int (nI r)), none] [] f l
  refine P.aload_n dX9_settle_0 rfl rfl ?_
  refine P.iload_n dX9_settle_1 rfl rfl ?_
  refine P.callV (As := [.int (nI r)]) (rest := []) (s_isLaw_t hL hLW hr) ok_X9_isLaw ⟨Nat.le_of_ble_eq_true rfl, Nat.le_of_ble_eq_true rfl, Nat.le_refl _, Nat.le_refl _⟩ rfl ml_X9_154 ly_0 (by decide) (by decide) rfl rfl (Nat.le_of_ble_eq_true rfl) dX9_settle_2 ?_
  refine P.if_ne_b (tgt := 10) dX9_settle_5 (by decide) (fun c_5 => ?_) (fun c_5 => ?_)
  · refine P.aload_n dX9_settle_10 rfl rfl ?_
    refine g_X9_laws (q := 40) ly_0 (by decide) (by decide) fl_X9_27 dX9_settle_11 ?_
    refine g_X2_list (q := 41) ly_40 (by decide) (by decide) fl_X9_157 dX9_settle_14 ?_
    refine P.iload_n dX9_settle_17 rfl rfl ?_
    refine a_r1 (q := 43 + r) ly_41 (by decide) (by omega) (by decide) (rt_law (r := r) (by omega)) dX9_settle_18 ?_
    refine P.astore_n dX9_settle_19 rfl (by decide) ?_
    refine P.aload_n dX9_settle_20 rfl rfl ?_
    refine g_X1_kind (ly_law (r := r) (by omega)) (by omega) fl_X9_165 dX9_settle_21 ?_
    refine Pm.topn (b := W.2.1 r 0) ((hL.2.1 r (by omega) 0)) ?_
    refine P.if_eq_n (tgt := 34) dX9_settle_24 (by decide) (by omega) (fun c_24 => ?_) (fun c_24 => ?_)
    · refine P.aload_n dX9_settle_34 rfl rfl ?_
      refine g_X1_first (ly_law (r := r) (by omega)) (by omega) fl_X9_136 dX9_settle_35 ?_
      refine Pm.topn (b := W.2.1 r 2) ((hL.2.1 r (by omega) 2)) ?_
      refine P.aload_n dX9_settle_38 rfl rfl ?_
      refine g_X1_second (ly_law (r := r) (by omega)) (by omega) fl_X9_141 dX9_settle_39 ?_
      refine Pm.topn (b := W.2.1 r 3) ((hL.2.1 r (by omega) 3)) ?_
      refine P.icmp_ne_n (tgt := 48) dX9_settle_42 (by decide) (by omega) (by omega) (fun c_42 => ?_) (fun c_42 => ?_)
      · refine P.aload_n dX9_settle_48 rfl rfl ?_
        refine g_X9_rows (q := 2) ly_0 (by decide) (by decide) fl_X9_18 dX9_settle_49 ?_
        refine P.aload_n dX9_settle_52 rfl rfl ?_
        refine g_X1_table (ly_law (r := r) (by omega)) (by omega) fl_X9_214 dX9_settle_53 ?_
        refine Pm.topn (b := W.2.1 r 1) ((hL.2.1 r (by omega) 1)) ?_
        refine P.aload_n dX9_settle_56 rfl rfl ?_
        refine g_X1_first (ly_law (r := r) (by omega)) (by omega) fl_X9_136 dX9_settle_57 ?_
        refine Pm.topn (b := W.2.1 r 2) ((hL.2.1 r (by omega) 2)) ?_
        refine P.aload_n dX9_settle_60 rfl rfl ?_
        refine g_X1_second (ly_law (r := r) (by omega)) (by omega) fl_X9_141 dX9_settle_61 ?_
        refine Pm.topn (b := W.2.1 r 3) ((hL.2.1 r (by omega) 3)) ?_
        refine P.callV (As := [.int (nI (W.2.1 r 1)), .int (nI (W.2.1 r 2)), .int (nI (W.2.1 r 3))]) (rest := []) (s_settleAll hV hD hw1 hw2 hw3 hne) ok_X7_settleAll ⟨Nat.le_of_ble_eq_true rfl, Nat.le_of_ble_eq_true rfl, Nat.le_refl _, Nat.le_refl _⟩ rfl ml_X9_215 ly_2 (by decide) (by decide) rfl rfl (Nat.le_of_ble_eq_true rfl) dX9_settle_64 ?_
        exact P.iret rfl dX9_settle_67 rfl rfl
      · exfalso; omega
    · exfalso; omega
  · exfalso; revert c_5; decide


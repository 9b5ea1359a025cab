-- the bench's face: quarrels, mendings: by program (wip/whole/spec30.py)
set_option maxRecDepth 20000 in
theorem k_quarrels_a {G : GG} {f : Nat → Nat → Nat} {l : Nat → Nat → Int64} {D : DB} {W : LB} {U : QB} {T : TB} {N : Nat} (hC : CI f l D W U T N) (hBW : BW D W U T) {x : Int32} (hx : inR x W.1 = false)  : Spec G mX9_quarrels [.ref (ad G 0), .int x] 114 (f, l, refT) (some (.int (-1))) 114 (f, l, refT) := by
  obtain ⟨hV, hL, hU, hT, hN, hSB⟩ := id hC
  obtain ⟨hD, hLW, hUW, hTW⟩ := id hBW
  have hR := hD.1
  have hW1 := hLW.1
  have hU1 := hUW.1
  have hJ1 := hUW.2.1
  refine Spec.of ok_X9_quarrels.1 ⟨Nat.le_refl _, Nat.le_refl _⟩ (Nat.le_of_ble_eq_true rfl) ?_
  show Pm G RX9 cX9_quarrels 2 (KM G mX9_quarrels 114 114 (some (.int (-1))) (f, l, refT)) 0 [some (.ref (ad G 0)), some (.int x)] [] f l
  refine P.aload_n dX9_quarrels_0 rfl rfl ?_
  refine P.iload_n dX9_quarrels_1 rfl rfl ?_
  refine P.callV (As := [.int x]) (rest := []) (s_isLaw_f hL hLW hx) ok_X9_isLaw ⟨Nat.le_of_ble_eq_true rfl, Nat.le_of_ble_eq_true rfl, Nat.le_refl _, Nat.le_refl _⟩ rfl ml_X9_154 ly_0 (by decide) (by decide) rfl rfl (Nat.le_of_ble_eq_true rfl) dX9_quarrels_2 ?_
  refine P.if_ne_b (tgt := 10) dX9_quarrels_5 (by decide) (fun c_5 => ?_) (fun c_5 => ?_)
  · exfalso; revert c_5; decide
  refine P.iconst (v := -1) dX9_quarrels_8 rfl ?_
  exact P.iret rfl dX9_quarrels_9 rfl rfl

set_option maxRecDepth 20000 in
theorem k_quarrels_b {G : GG} {f : Nat → Nat → Nat} {l : Nat → Nat → Int64} {D : DB} {W : LB} {U : QB} {T : TB} {N : Nat} (hC : CI f l D W U T N) (hBW : BW D W U T) {r : Nat} (hr : r < W.1)  : Spec G mX9_quarrels [.ref (ad G 0), .int (nI r)] 114 (f, l, refT) (some (.int (nI ((cQ D W r (keptD D)).length)))) 114 (wrL f (cQ D W r (keptD D)), l, refT) := by
  obtain ⟨hV, hL, hU, hT, hN, hSB⟩ := id hC
  obtain ⟨hD, hLW, hUW, hTW⟩ := id hBW
  have hR := hD.1
  have hW1 := hLW.1
  have hU1 := hUW.1
  have hJ1 := hUW.2.1
  have hK4 := keptD_lt hD
  refine Spec.of ok_X9_quarrels.1 ⟨Nat.le_refl _, Nat.le_refl _⟩ (Nat.le_of_ble_eq_true rfl) ?_
  show Pm G RX9 cX9_quarrels 2 (KM G mX9_quarrels 114 114 (some (.int (nI ((cQ D W r (keptD D)).length)))) (wrL f (cQ D W r (keptD D)), l, refT)) 0 [some (.ref (ad G 0)), some (.int (nI r))] [] f l
  refine P.aload_n dX9_quarrels_0 rfl rfl ?_
  refine P.iload_n dX9_quarrels_1 rfl rfl ?_
  refine P.callV (As := [.int (nI r)]) (rest := []) (s_isLaw_t hL hLW hr) ok_X9_isLaw ⟨Nat.le_of_ble_eq_true rfl, Nat.le_of_ble_eq_true rfl, Nat.le_refl _, Nat.le_refl _⟩ rfl ml_X9_154 ly_0 (by decide) (by decide) rfl rfl (Nat.le_of_ble_eq_true rfl) dX9_quarrels_2 ?_
  refine P.if_ne_b (tgt := 10) dX9_quarrels_5 (by decide) (fun c_5 => ?_) (fun c_5 => ?_)
  · refine P.aload_n dX9_quarrels_10 rfl rfl ?_
    refine g_X9_laws (q := 40) ly_0 (by decide) (by decide) fl_X9_27 dX9_quarrels_11 ?_
    refine P.aload_n dX9_quarrels_14 rfl rfl ?_
    refine g_X9_laws (q := 40) ly_0 (by decide) (by decide) fl_X9_27 dX9_quarrels_15 ?_
    refine g_X2_list (q := 41) ly_40 (by decide) (by decide) fl_X9_157 dX9_quarrels_18 ?_
    refine P.iload_n dX9_quarrels_21 rfl rfl ?_
    refine a_r1 (q := 43 + r) ly_41 (by decide) (by omega) (by decide) (rt_law (r := r) (by omega)) dX9_quarrels_22 ?_
    refine P.aload_n dX9_quarrels_23 rfl rfl ?_
    refine g_X9_rows (q := 2) ly_0 (by decide) (by decide) fl_X9_18 dX9_quarrels_24 ?_
    refine P.callV (As := []) (rest := [.ref (ad G (43 + r)), .ref (ad G 40)]) (s_kept hV hD) ok_X7_kept ⟨Nat.le_of_ble_eq_true rfl, Nat.le_of_ble_eq_true rfl, Nat.le_refl _, Nat.le_refl _⟩ rfl ml_X9_168 ly_2 (by decide) (by decide) rfl rfl (Nat.le_of_ble_eq_true rfl) dX9_quarrels_27 ?_
    refine P.callV (As := [.ref (ad G (43 + r)), .int (nI (keptD D))]) (rest := []) (s_find hV hD hL (by omega) (hLW.2 r hr) hK4) ok_X2_find ⟨Nat.le_of_ble_eq_true rfl, Nat.le_of_ble_eq_true rfl, Nat.le_refl _, Nat.le_refl _⟩ rfl ml_X9_171 ly_40 (by decide) (by decide) rfl rfl (Nat.le_of_ble_eq_true rfl) dX9_quarrels_30 ?_
    refine P.aload_n dX9_quarrels_33 rfl rfl ?_
    refine g_X9_laws (q := 40) ly_0 (by decide) (by decide) fl_X9_27 dX9_quarrels_34 ?_
    refine g_X2_manyFound ly_40 (by decide) fl_X9_175 dX9_quarrels_37 ?_
    refine Pm.topn (b := (cQ D W r (keptD D)).length) ((wrL_len _ _)) ?_
    exact P.iret rfl dX9_quarrels_40 rfl rfl
  · exfalso; revert c_5; decide

set_option maxRecDepth 20000 in
theorem k_quarrel_a {G : GG} {f : Nat → Nat → Nat} {l : Nat → Nat → Int64} {D : DB} {W : LB} {U : QB} {T : TB} {N : Nat} (hC : CI f l D W U T N) (hBW : BW D W U T) {x : Int32} (hx : inR x W.1 = false) {y : Int32} : Spec G mX9_quarrel [.ref (ad G 0), .int x, .int y] 114 (f, l, refT) (some (.int (-1))) 114 (f, l, refT) := by
  obtain ⟨hV, hL, hU, hT, hN, hSB⟩ := id hC
  obtain ⟨hD, hLW, hUW, hTW⟩ := id hBW
  have hR := hD.1
  have hW1 := hLW.1
  have hU1 := hUW.1
  have hJ1 := hUW.2.1
  refine Spec.of ok_X9_quarrel.1 ⟨Nat.le_refl _, Nat.le_refl _⟩ (Nat.le_of_ble_eq_true rfl) ?_
  show Pm G RX9 cX9_quarrel 3 (KM G mX9_quarrel 114 114 (some (.int (-1))) (f, l, refT)) 0 [some (.ref (ad G 0)), some (.int x), some (.int y)] [] f l
  refine P.aload_n dX9_quarrel_0 rfl rfl ?_
  refine P.iload_n dX9_quarrel_1 rfl rfl ?_
  refine P.callV (As := [.int x]) (rest := []) (s_isLaw_f hL hLW hx) ok_X9_isLaw ⟨Nat.le_of_ble_eq_true rfl, Nat.le_of_ble_eq_true rfl, Nat.le_refl _, Nat.le_refl _⟩ rfl ml_X9_154 ly_0 (by decide) (by decide) rfl rfl (Nat.le_of_ble_eq_true rfl) dX9_quarrel_2 ?_
  refine P.if_ne_b (tgt := 10) dX9_quarrel_5 (by decide) (fun c_5 => ?_) (fun c_5 => ?_)
  · exfalso; revert c_5; decide
  refine P.iconst (v := -1) dX9_quarrel_8 rfl ?_
  exact P.iret rfl dX9_quarrel_9 rfl rfl

set_option maxRecDepth 20000 in
theorem k_quarrel_b {G : GG} {f : Nat → Nat → Nat} {l : Nat → Nat → Int64} {D : DB} {W : LB} {U : QB} {T : TB} {N : Nat} (hC : CI f l D W U T N) (hBW : BW D W U T) {r : Nat} (hr : r < W.1) {y : Int32} (hy : inR y (cQ D W r (keptD D)).length = false) : Spec G mX9_quarrel [.ref (ad G 0), .int (nI r), .int y] 114 (f, l, refT) (some (.int (-9))) 114 (wrL f (cQ D W r (keptD D)), l, refT) := by
  obtain ⟨hV, hL, hU, hT, hN, hSB⟩ := id hC
  obtain ⟨hD, hLW, hUW, hTW⟩ := id hBW
  have hR := hD.1
  have hW1 := hLW.1
  have hU1 := hUW.1
  have hJ1 := hUW.2.1
  have hK4 := keptD_lt hD
  have hy2 := inR_f.mp hy
  have hlq := cQ_len hD W r (keptD D)
  refine Spec.of ok_X9_quarrel.1 ⟨Nat.le_refl _, Nat.le_refl _⟩ (Nat.le_of_ble_eq_true rfl) ?_
  show Pm G RX9 cX9_quarrel 3 (KM G mX9_quarrel 114 114 (some (.int (-9))) (wrL f (cQ D W r (keptD D)), l, refT)) 0 [some (.ref (ad G 0)), some (.int (nI r)), some (.int y)] [] f l
  refine P.aload_n dX9_quarrel_0 rfl rfl ?_
  refine P.iload_n dX9_quarrel_1 rfl rfl ?_
  refine P.callV (As := [.int (nI r)]) (rest := []) (s_isLaw_t hL hLW hr) ok_X9_isLaw ⟨Nat.le_of_ble_eq_true rfl, Nat.le_of_ble_eq_true rfl, Nat.le_refl _, Nat.le_refl _⟩ rfl ml_X9_154 ly_0 (by decide) (by decide) rfl rfl (Nat.le_of_ble_eq_true rfl) dX9_quarrel_2 ?_
  refine P.if_ne_b (tgt := 10) dX9_quarrel_5 (by decide) (fun c_5 => ?_) (fun c_5 => ?_)
  · refine P.aload_n dX9_quarrel_10 rfl rfl ?_
    refine g_X9_laws (q := 40) ly_0 (by decide) (by decide) fl_X9_27 dX9_quarrel_11 ?_
    refine P.aload_n dX9_quarrel_14 rfl rfl ?_
    refine g_X9_laws (q := 40) ly_0 (by decide) (by decide) fl_X9_27 dX9_quarrel_15 ?_
    refine g_X2_list (q := 41) ly_40 (by decide) (by decide) fl_X9_157 dX9_quarrel_18 ?_
    refine P.iload_n dX9_quarrel_21 rfl rfl ?_
    refine a_r1 (q := 43 + r) ly_41 (by decide) (by omega) (by decide) (rt_law (r := r) (by omega)) dX9_quarrel_22 ?_
    refine P.aload_n dX9_quarrel_23 rfl rfl ?_
    refine g_X9_rows (q := 2) ly_0 (by decide) (by decide) fl_X9_18 dX9_quarrel_24 ?_
    refine P.callV (As := []) (rest := [.ref (ad G (43 + r)), .ref (ad G 40)]) (s_kept hV hD) ok_X7_kept ⟨Nat.le_of_ble_eq_true rfl, Nat.le_of_ble_eq_true rfl, Nat.le_refl _, Nat.le_refl _⟩ rfl ml_X9_168 ly_2 (by decide) (by decide) rfl rfl (Nat.le_of_ble_eq_true rfl) dX9_quarrel_27 ?_
    refine P.callV (As := [.ref (ad G (43 + r)), .int (nI (keptD D))]) (rest := []) (s_find hV hD hL (by omega) (hLW.2 r hr) hK4) ok_X2_find ⟨Nat.le_of_ble_eq_true rfl, Nat.le_of_ble_eq_true rfl, Nat.le_refl _, Nat.le_refl _⟩ rfl ml_X9_171 ly_40 (by decide) (by decide) rfl rfl (Nat.le_of_ble_eq_true rfl) dX9_quarrel_30 ?_
    refine P.iload_n dX9_quarrel_33 rfl rfl ?_
    refine P.if_lt_z (tgt := 48) dX9_quarrel_34 (by decide) rfl (fun c_34 => ?_) (fun c_34 => ?_)
    · refine P.bipush (v := -9) dX9_quarrel_48 rfl ?_
      exact P.iret rfl dX9_quarrel_50 rfl rfl
    refine P.iload_n dX9_quarrel_37 rfl rfl ?_
    refine P.aload_n dX9_quarrel_38 rfl rfl ?_
    refine g_X9_laws (q := 40) ly_0 (by decide) (by decide) fl_X9_27 dX9_quarrel_39 ?_
    refine g_X2_manyFound ly_40 (by decide) fl_X9_175 dX9_quarrel_42 ?_
    refine Pm.topn (b := (cQ D W r (keptD D)).length) ((wrL_len _ _)) ?_
    refine P.icmp_lt_z (tgt := 51) dX9_quarrel_45 (by decide) rfl (zN (by omega)) (fun c_45 => ?_) (fun c_45 => ?_)
    · exfalso; omega
    refine P.bipush (v := -9) dX9_quarrel_48 rfl ?_
    exact P.iret rfl dX9_quarrel_50 rfl rfl
  · exfalso; revert c_5; decide

set_option maxRecDepth 20000 in
theorem k_quarrel_c {G : GG} {f : Nat → Nat → Nat} {l : Nat → Nat → Int64} {D : DB} {W : LB} {U : QB} {T : TB} {N : Nat} (hC : CI f l D W U T N) (hBW : BW D W U T) {r : Nat} (hr : r < W.1) {i : Nat} (hi : i < (cQ D W r (keptD D)).length) : Spec G mX9_quarrel [.ref (ad G 0), .int (nI r), .int (nI i)] 114 (f, l, refT) (some (.int (nI ((cQ D W r (keptD D)).getD i 0)))) 114 (wrL f (cQ D W r (keptD D)), l, refT) := by
  obtain ⟨hV, hL, hU, hT, hN, hSB⟩ := id hC
  obtain ⟨hD, hLW, hUW, hTW⟩ := id hBW
  have hR := hD.1
  have hW1 := hLW.1
  have hU1 := hUW.1
  have hJ1 := hUW.2.1
  have hK4 := keptD_lt hD
  have hlq := cQ_len hD W r (keptD D)
  refine Spec.of ok_X9_quarrel.1 ⟨Nat.le_refl _, Nat.le_refl _⟩ (Nat.le_of_ble_eq_true rfl) ?_
  show Pm G RX9 cX9_quarrel 3 (KM G mX9_quarrel 114 114 (some (.int (nI ((cQ D W r (keptD D)).getD i 0)))) (wrL f (cQ D W r (keptD D)), l, refT)) 0 [some (.ref (ad G 0)), some (.int (nI r)), some (.int (nI i))] [] f l
  refine P.aload_n dX9_quarrel_0 rfl rfl ?_
  refine P.iload_n dX9_quarrel_1 rfl rfl ?_
  refine P.callV (As := [.int (nI r)]) (rest := []) (s_isLaw_t hL hLW hr) ok_X9_isLaw ⟨Nat.le_of_ble_eq_true rfl, Nat.le_of_ble_eq_true rfl, Nat.le_refl _, Nat.le_refl _⟩ rfl ml_X9_154 ly_0 (by decide) (by decide) rfl rfl (Nat.le_of_ble_eq_true rfl) dX9_quarrel_2 ?_
  refine P.if_ne_b (tgt := 10) dX9_quarrel_5 (by decide) (fun c_5 => ?_) (fun c_5 => ?_)
  · refine P.aload_n dX9_quarrel_10 rfl rfl ?_
    refine g_X9_laws (q := 40) ly_0 (by decide) (by decide) fl_X9_27 dX9_quarrel_11 ?_
    refine P.aload_n dX9_quarrel_14 rfl rfl ?_
    refine g_X9_laws (q := 40) ly_0 (by decide) (by decide) fl_X9_27 dX9_quarrel_15 ?_
    refine g_X2_list (q := 41) ly_40 (by decide) (by decide) fl_X9_157 dX9_quarrel_18 ?_
    refine P.iload_n dX9_quarrel_21 rfl rfl ?_
    refine a_r1 (q := 43 + r) ly_41 (by decide) (by omega) (by decide) (rt_law (r := r) (by omega)) dX9_quarrel_22 ?_
    refine P.aload_n dX9_quarrel_23 rfl rfl ?_
    refine g_X9_rows (q := 2) ly_0 (by decide) (by decide) fl_X9_18 dX9_quarrel_24 ?_
    refine P.callV (As := []) (rest := [.ref (ad G (43 + r)), .ref (ad G 40)]) (s_kept hV hD) ok_X7_kept ⟨Nat.le_of_ble_eq_true rfl, Nat.le_of_ble_eq_true rfl, Nat.le_refl _, Nat.le_refl _⟩ rfl ml_X9_168 ly_2 (by decide) (by decide) rfl rfl (Nat.le_of_ble_eq_true rfl) dX9_quarrel_27 ?_
    refine P.callV (As := [.ref (ad G (43 + r)), .int (nI (keptD D))]) (rest := []) (s_find hV hD hL (by omega) (hLW.2 r hr) hK4) ok_X2_find ⟨Nat.le_of_ble_eq_true rfl, Nat.le_of_ble_eq_true rfl, Nat.le_refl _, Nat.le_refl _⟩ rfl ml_X9_171 ly_40 (by decide) (by decide) rfl rfl (Nat.le_of_ble_eq_true rfl) dX9_quarrel_30 ?_
    refine P.iload_n dX9_quarrel_33 rfl rfl ?_
    refine P.if_lt_z (tgt := 48) dX9_quarrel_34 (by decide) (zN (by omega)) (fun c_34 => ?_) (fun c_34 => ?_)
    · exfalso; omega
    refine P.iload_n dX9_quarrel_37 rfl rfl ?_
    refine P.aload_n dX9_quarrel_38 rfl rfl ?_
    refine g_X9_laws (q := 40) ly_0 (by decide) (by decide) fl_X9_27 dX9_quarrel_39 ?_
    refine g_X2_manyFound ly_40 (by decide) fl_X9_175 dX9_quarrel_42 ?_
    refine Pm.topn (b := (cQ D W r (keptD D)).length) ((wrL_len _ _)) ?_
    refine P.icmp_lt_n (tgt := 51) dX9_quarrel_45 (by decide) (by omega) (by omega) (fun c_45 => ?_) (fun c_45 => ?_)
    · refine P.aload_n dX9_quarrel_51 rfl rfl ?_
      refine g_X9_laws (q := 40) ly_0 (by decide) (by decide) fl_X9_27 dX9_quarrel_52 ?_
      refine g_X2_found (q := 42) ly_40 (by decide) (by decide) fl_X9_178 dX9_quarrel_55 ?_
      refine P.iload_n dX9_quarrel_58 rfl rfl ?_
      refine a_ia ly_42 (by decide) (by omega) (by decide) dX9_quarrel_59 ?_
      refine Pm.topn (b := (cQ D W r (keptD D)).getD i 0) ((wrL_at _ (by omega))) ?_
      exact P.iret rfl dX9_quarrel_60 rfl rfl
    · exfalso; omega
  · exfalso; revert c_5; decide

set_option maxRecDepth 20000 in
theorem k_clean_a {G : GG} {f : Nat → Nat → Nat} {l : Nat → Nat → Int64} {D : DB} {W : LB} {U : QB} {T : TB} {N : Nat} (hC : CI f l D W U T N) (hBW : BW D W U T) (hb : fstP (cBrk D W (keptD D)) W.1 = none) : SpX G mX9_clean [.ref (ad G 0)] f l (fun rv f1 l1 => rv = some (.int (nI 1)) ∧ Fra f f1 ∧ l = l1) := by
  obtain ⟨hV, hL, hU, hT, hN, hSB⟩ := id hC
  obtain ⟨hD, hLW, hUW, hTW⟩ := id hBW
  have hR := hD.1
  have hW1 := hLW.1
  have hU1 := hUW.1
  have hJ1 := hUW.2.1
  have hK4 := keptD_lt hD
  refine SpX.of ok_X9_clean.1 (Nat.le_of_ble_eq_true rfl) ?_
  show Pm G RX9 cX9_clean 1 (KX G mX9_clean (fun rv f1 l1 => rv = some (.int (nI 1)) ∧ Fra f f1 ∧ l = l1)) 0 [some (.ref (ad G 0))] [] f l
  refine P.aload_n dX9_clean_0 rfl rfl ?_
  refine g_X9_laws (q := 40) ly_0 (by decide) (by decide) fl_X9_27 dX9_clean_1 ?_
  refine P.aload_n dX9_clean_4 rfl rfl ?_
  refine g_X9_rows (q := 2) ly_0 (by decide) (by decide) fl_X9_18 dX9_clean_5 ?_
  refine P.callV (As := []) (rest := [.ref (ad G 40)]) (s_kept hV hD) ok_X7_kept (fitX (Nat.le_of_ble_eq_true rfl)) rfl ml_X9_168 ly_2 (by decide) (by decide) rfl rfl (Nat.le_of_ble_eq_true rfl) dX9_clean_8 ?_
  refine P.callVX (As := [.int (nI (keptD D))]) (rest := []) (s_leastBroken hV hD hL hLW (S := keptD D) hK4) ok_X2_leastBroken (fitX (Nat.le_of_ble_eq_true rfl)) rfl ml_X9_180 ly_40 (by decide) (by decide) rfl rfl (Nat.le_of_ble_eq_true rfl) dX9_clean_11 (fun r f1 l1 hp => ?_)
  obtain ⟨rfl, hF1, e⟩ := hp
  subst e
  rw [hb]
  refine P.bipush (v := -9) dX9_clean_14 rfl ?_
  refine P.icmp_ne_z (tgt := 23) dX9_clean_16 (by decide) (show (-9 : Int32).toInt = -9 from rfl) (show (-9 : Int32).toInt = -9 from rfl) (fun c_16 => ?_) (fun c_16 => ?_)
  · exfalso; exact c_16 rfl
  refine P.iconst dX9_clean_19 ic_1 ?_
  refine P.goto (tgt := 24) dX9_clean_20 (by decide) ?_
  refine P.callS (As := [.int (nI 1)]) (rest := []) (s_oneIf (by decide)) ok_X9_oneIf (fitX (Nat.le_of_ble_eq_true rfl)) rfl ml_X9_106 rfl (Nat.le_of_ble_eq_true rfl) dX9_clean_24 ?_
  exact P.iretX rfl dX9_clean_27 ⟨rfl, hF1, rfl⟩

set_option maxRecDepth 20000 in
theorem k_clean_b {G : GG} {f : Nat → Nat → Nat} {l : Nat → Nat → Int64} {D : DB} {W : LB} {U : QB} {T : TB} {N : Nat} (hC : CI f l D W U T N) (hBW : BW D W U T) {i : Nat} (hb : fstP (cBrk D W (keptD D)) W.1 = some i) (hi : i < W.1) : SpX G mX9_clean [.ref (ad G 0)] f l (fun rv f1 l1 => rv = some (.int (nI 0)) ∧ Fra f f1 ∧ l = l1) := by
  obtain ⟨hV, hL, hU, hT, hN, hSB⟩ := id hC
  obtain ⟨hD, hLW, hUW, hTW⟩ := id hBW
  have hR := hD.1
  have hW1 := hLW.1
  have hU1 := hUW.1
  have hJ1 := hUW.2.1
  have hK4 := keptD_lt hD
  refine SpX.of ok_X9_clean.1 (Nat.le_of_ble_eq_true rfl) ?_
  show Pm G RX9 cX9_clean 1 (KX G mX9_clean (fun rv f1 l1 => rv = some (.int (nI 0)) ∧ Fra f f1 ∧ l = l1)) 0 [some (.ref (ad G 0))] [] f l
  refine P.aload_n dX9_clean_0 rfl rfl ?_
  refine g_X9_laws (q := 40) ly_0 (by decide) (by decide) fl_X9_27 dX9_clean_1 ?_
  refine P.aload_n dX9_clean_4 rfl rfl ?_
  refine g_X9_rows (q := 2) ly_0 (by decide) (by decide) fl_X9_18 dX9_clean_5 ?_
  refine P.callV (As := []) (rest := [.ref (ad G 40)]) (s_kept hV hD) ok_X7_kept (fitX (Nat.le_of_ble_eq_true rfl)) rfl ml_X9_168 ly_2 (by decide) (by decide) rfl rfl (Nat.le_of_ble_eq_true rfl) dX9_clean_8 ?_
  refine P.callVX (As := [.int (nI (keptD D))]) (rest := []) (s_leastBroken hV hD hL hLW (S := keptD D) hK4) ok_X2_leastBroken (fitX (Nat.le_of_ble_eq_true rfl)) rfl ml_X9_180 ly_40 (by decide) (by decide) rfl rfl (Nat.le_of_ble_eq_true rfl) dX9_clean_11 (fun r f1 l1 hp => ?_)
  obtain ⟨rfl, hF1, e⟩ := hp
  subst e
  rw [hb]
  show Pm G _ _ _ _ 14 _ [.int (nI i)] f1 l
  refine P.bipush (v := -9) dX9_clean_14 rfl ?_
  refine P.icmp_ne_z (tgt := 23) dX9_clean_16 (by decide) (zN (by omega)) (show (-9 : Int32).toInt = -9 from rfl) (fun c_16 => ?_) (fun c_16 => ?_)
  · refine P.iconst dX9_clean_23 ic_0 ?_
    refine P.callS (As := [.int (nI 0)]) (rest := []) (s_oneIf (by decide)) ok_X9_oneIf (fitX (Nat.le_of_ble_eq_true rfl)) rfl ml_X9_106 rfl (Nat.le_of_ble_eq_true rfl) dX9_clean_24 ?_
    exact P.iretX rfl dX9_clean_27 ⟨rfl, hF1, rfl⟩
  · exfalso; omega

set_option maxRecDepth 20000 in
theorem k_breaks_a {G : GG} {f : Nat → Nat → Nat} {l : Nat → Nat → Int64} {D : DB} {W : LB} {U : QB} {T : TB} {N : Nat} (hC : CI f l D W U T N) (hBW : BW D W U T) {x : Int32} (hx : ¬ (x &&& (nI (keptD D) ^^^ (-1))) = 0) : Spec G mX9_breaks [.ref (ad G 0), .int x] 114 (f, l, refT) (some (.int (-2))) 114 (f, l, refT) := by
  obtain ⟨hV, hL, hU, hT, hN, hSB⟩ := id hC
  obtain ⟨hD, hLW, hUW, hTW⟩ := id hBW
  have hR := hD.1
  have hW1 := hLW.1
  have hU1 := hUW.1
  have hJ1 := hUW.2.1
  refine Spec.of ok_X9_breaks.1 ⟨Nat.le_refl _, Nat.le_refl _⟩ (Nat.le_of_ble_eq_true rfl) ?_
  show Pm G RX9 cX9_breaks 2 (KM G mX9_breaks 114 114 (some (.int (-2))) (f, l, refT)) 0 [some (.ref (ad G 0)), some (.int x)] [] f l
  refine P.iload_n dX9_breaks_0 rfl rfl ?_
  refine P.aload_n dX9_breaks_1 rfl rfl ?_
  refine g_X9_rows (q := 2) ly_0 (by decide) (by decide) fl_X9_18 dX9_breaks_2 ?_
  refine P.callV (As := []) (rest := [.int x]) (s_kept hV hD) ok_X7_kept ⟨Nat.le_of_ble_eq_true rfl, Nat.le_of_ble_eq_true rfl, Nat.le_refl _, Nat.le_refl _⟩ rfl ml_X9_168 ly_2 (by decide) (by decide) rfl rfl (Nat.le_of_ble_eq_true rfl) dX9_breaks_5 ?_
  refine P.iconst (v := -1) dX9_breaks_8 rfl ?_
  refine P.ixor dX9_breaks_9 ?_
  refine P.iand dX9_breaks_10 ?_
  refine P.if_eq (tgt := 17) dX9_breaks_11 (by decide) (fun c_11 => ?_) (fun c_11 => ?_)
  · exact absurd c_11 hx
  refine P.bipush (v := -2) dX9_breaks_14 rfl ?_
  exact P.iret rfl dX9_breaks_16 rfl rfl

set_option maxRecDepth 20000 in
theorem k_breaks_b {G : GG} {f : Nat → Nat → Nat} {l : Nat → Nat → Int64} {D : DB} {W : LB} {U : QB} {T : TB} {N : Nat} (hC : CI f l D W U T N) (hBW : BW D W U T) {S : Nat} (hS : subN S (keptD D)) : SpX G mX9_breaks [.ref (ad G 0), .int (nI S)] f l (fun rv f1 l1 => rv = some (.int (ans9 (fstP (cBrk D W S) W.1))) ∧ Fra f f1 ∧ l = l1) := by
  obtain ⟨hV, hL, hU, hT, hN, hSB⟩ := id hC
  obtain ⟨hD, hLW, hUW, hTW⟩ := id hBW
  have hR := hD.1
  have hW1 := hLW.1
  have hU1 := hUW.1
  have hJ1 := hUW.2.1
  have hK4 := keptD_lt hD
  have hS4 : S < 4096 := by have := hS.le; omega
  refine SpX.of ok_X9_breaks.1 (Nat.le_of_ble_eq_true rfl) ?_
  show Pm G RX9 cX9_breaks 2 (KX G mX9_breaks (fun rv f1 l1 => rv = some (.int (ans9 (fstP (cBrk D W S) W.1))) ∧ Fra f f1 ∧ l = l1)) 0 [some (.ref (ad G 0)), some (.int (nI S))] [] f l
  refine P.iload_n dX9_breaks_0 rfl rfl ?_
  refine P.aload_n dX9_breaks_1 rfl rfl ?_
  refine g_X9_rows (q := 2) ly_0 (by decide) (by decide) fl_X9_18 dX9_breaks_2 ?_
  refine P.callV (As := []) (rest := [.int (nI S)]) (s_kept hV hD) ok_X7_kept (fitX (Nat.le_of_ble_eq_true rfl)) rfl ml_X9_168 ly_2 (by decide) (by decide) rfl rfl (Nat.le_of_ble_eq_true rfl) dX9_breaks_5 ?_
  refine P.iconst (v := -1) dX9_breaks_8 rfl ?_
  refine P.ixor dX9_breaks_9 ?_
  refine P.iand_n dX9_breaks_10 (n_not _ _) ?_
  refine P.if_eq_n (tgt := 17) dX9_breaks_11 (by decide) (by have := sd_le S (keptD D); omega) (fun c_11 => ?_) (fun c_11 => ?_)
  · refine P.aload_n dX9_breaks_17 rfl rfl ?_
    refine g_X9_laws (q := 40) ly_0 (by decide) (by decide) fl_X9_27 dX9_breaks_18 ?_
    refine P.iload_n dX9_breaks_21 rfl rfl ?_
    refine P.callVX (As := [.int (nI S)]) (rest := []) (s_leastBroken hV hD hL hLW (S := S) hS4) ok_X2_leastBroken (fitX (Nat.le_of_ble_eq_true rfl)) rfl ml_X9_180 ly_40 (by decide) (by decide) rfl rfl (Nat.le_of_ble_eq_true rfl) dX9_breaks_22 (fun r f1 l1 hp => ?_)
    obtain ⟨rfl, hF1, e⟩ := hp
    subst e
    exact P.iretX rfl dX9_breaks_25 ⟨rfl, hF1, rfl⟩
  · exact absurd (sd_0.mpr hS) c_11

set_option maxRecDepth 20000 in
theorem k_mends {G : GG} {f : Nat → Nat → Nat} {l : Nat → Nat → Int64} {D : DB} {W : LB} {U : QB} {T : TB} {N : Nat} (hC : CI f l D W U T N) (hBW : BW D W U T)  : SpX G mX9_mends [.ref (ad G 0)] f l (fun rv f1 l1 => rv = (some (.int (nI ((MLs D W).length)))) ∧ Fra f f1 ∧ l = l1) := by
  obtain ⟨hV, hL, hU, hT, hN, hSB⟩ := id hC
  obtain ⟨hD, hLW, hUW, hTW⟩ := id hBW
  have hR := hD.1
  have hW1 := hLW.1
  have hU1 := hUW.1
  have hJ1 := hUW.2.1
  have hK4 := keptD_lt hD
  have hlen := MLs_len hD W
  have hpos := MLs_pos D W
  refine SpX.of ok_X9_mends.1 (Nat.le_of_ble_eq_true rfl) ?_
  show Pm G RX9 cX9_mends 1 (KX G mX9_mends (fun rv f1 l1 => rv = (some (.int (nI ((MLs D W).length)))) ∧ Fra f f1 ∧ l = l1)) 0 [some (.ref (ad G 0))] [] f l
  refine P.aload_n dX9_mends_0 rfl rfl ?_
  refine g_X9_mendings (q := 53) ly_0 (by decide) (by decide) fl_X9_36 dX9_mends_1 ?_
  refine P.callVX (As := []) (rest := []) (s_mfind hV hD hL hLW hSB) ok_X3_find (fitX (Nat.le_of_ble_eq_true rfl)) rfl ml_X9_183 ly_53 (by decide) (by decide) rfl rfl (Nat.le_of_ble_eq_true rfl) dX9_mends_4 (fun r f1 l1 hp => ?_)
  obtain ⟨rfl, hFM, e⟩ := hp
  subst e
  have hV1 := hFM.1.RV hV
  have hU1x := hFM.1.UV hU
  refine P.aload_n dX9_mends_7 rfl rfl ?_
  refine g_X9_mendings (q := 53) ly_0 (by decide) (by decide) fl_X9_36 dX9_mends_8 ?_
  refine g_X3_many ly_53 (by decide) fl_X9_185 dX9_mends_11 ?_
  refine Pm.topn (b := (MLs D W).length) (hFM.2.2.1) ?_
  exact P.iretX rfl dX9_mends_14 ⟨rfl, hFM.1, rfl⟩

set_option maxRecDepth 20000 in
theorem k_mending_a {G : GG} {f : Nat → Nat → Nat} {l : Nat → Nat → Int64} {D : DB} {W : LB} {U : QB} {T : TB} {N : Nat} (hC : CI f l D W U T N) (hBW : BW D W U T) {y : Int32} (hy : inR y (MLs D W).length = false) : SpX G mX9_mending [.ref (ad G 0), .int y] f l (fun rv f1 l1 => rv = (some (.int (-9))) ∧ Fra f f1 ∧ l = l1) := by
  obtain ⟨hV, hL, hU, hT, hN, hSB⟩ := id hC
  obtain ⟨hD, hLW, hUW, hTW⟩ := id hBW
  have hR := hD.1
  have hW1 := hLW.1
  have hU1 := hUW.1
  have hJ1 := hUW.2.1
  have hK4 := keptD_lt hD
  have hlen := MLs_len hD W
  have hpos := MLs_pos D W
  have hy2 := inR_f.mp hy
  refine SpX.of ok_X9_mending.1 (Nat.le_of_ble_eq_true rfl) ?_
  show Pm G RX9 cX9_mending 2 (KX G mX9_mending (fun rv f1 l1 => rv = (some (.int (-9))) ∧ Fra f f1 ∧ l = l1)) 0 [some (.ref (ad G 0)), some (.int y)] [] f l
  refine P.aload_n dX9_mending_0 rfl rfl ?_
  refine g_X9_mendings (q := 53) ly_0 (by decide) (by decide) fl_X9_36 dX9_mending_1 ?_
  refine P.callVX (As := []) (rest := []) (s_mfind hV hD hL hLW hSB) ok_X3_find (fitX (Nat.le_of_ble_eq_true rfl)) rfl ml_X9_183 ly_53 (by decide) (by decide) rfl rfl (Nat.le_of_ble_eq_true rfl) dX9_mending_4 (fun r f1 l1 hp => ?_)
  obtain ⟨rfl, hFM, e⟩ := hp
  subst e
  have hV1 := hFM.1.RV hV
  have hU1x := hFM.1.UV hU
  refine P.iload_n dX9_mending_7 rfl rfl ?_
  refine P.if_lt_z (tgt := 22) dX9_mending_8 (by decide) rfl (fun c_8 => ?_) (fun c_8 => ?_)
  · refine P.bipush (v := -9) dX9_mending_22 rfl ?_
    exact P.iretX rfl dX9_mending_24 ⟨rfl, hFM.1, rfl⟩
  refine P.iload_n dX9_mending_11 rfl rfl ?_
  refine P.aload_n dX9_mending_12 rfl rfl ?_
  refine g_X9_mendings (q := 53) ly_0 (by decide) (by decide) fl_X9_36 dX9_mending_13 ?_
  refine g_X3_many ly_53 (by decide) fl_X9_185 dX9_mending_16 ?_
  refine Pm.topn (b := (MLs D W).length) (hFM.2.2.1) ?_
  refine P.icmp_lt_z (tgt := 25) dX9_mending_19 (by decide) rfl (zN (by omega)) (fun c_19 => ?_) (fun c_19 => ?_)
  · exfalso; omega
  refine P.bipush (v := -9) dX9_mending_22 rfl ?_
  exact P.iretX rfl dX9_mending_24 ⟨rfl, hFM.1, rfl⟩

set_option maxRecDepth 20000 in
theorem k_mending_b {G : GG} {f : Nat → Nat → Nat} {l : Nat → Nat → Int64} {D : DB} {W : LB} {U : QB} {T : TB} {N : Nat} (hC : CI f l D W U T N) (hBW : BW D W U T) {i : Nat} (hi : i < (MLs D W).length) : SpX G mX9_mending [.ref (ad G 0), .int (nI i)] f l (fun rv f1 l1 => rv = (some (.int (nI ((MLs D W).getD i 0)))) ∧ Fra f f1 ∧ l = l1) := by
  obtain ⟨hV, hL, hU, hT, hN, hSB⟩ := id hC
  obtain ⟨hD, hLW, hUW, hTW⟩ := id hBW
  have hR := hD.1
  have hW1 := hLW.1
  have hU1 := hUW.1
  have hJ1 := hUW.2.1
  have hK4 := keptD_lt hD
  have hlen := MLs_len hD W
  have hpos := MLs_pos D W
  refine SpX.of ok_X9_mending.1 (Nat.le_of_ble_eq_true rfl) ?_
  show Pm G RX9 cX9_mending 2 (KX G mX9_mending (fun rv f1 l1 => rv = (some (.int (nI ((MLs D W).getD i 0)))) ∧ Fra f f1 ∧ l = l1)) 0 [some (.ref (ad G 0)), some (.int (nI i))] [] f l
  refine P.aload_n dX9_mending_0 rfl rfl ?_
  refine g_X9_mendings (q := 53) ly_0 (by decide) (by decide) fl_X9_36 dX9_mending_1 ?_
  refine P.callVX (As := []) (rest := []) (s_mfind hV hD hL hLW hSB) ok_X3_find (fitX (Nat.le_of_ble_eq_true rfl)) rfl ml_X9_183 ly_53 (by decide) (by decide) rfl rfl (Nat.le_of_ble_eq_true rfl) dX9_mending_4 (fun r f1 l1 hp => ?_)
  obtain ⟨rfl, hFM, e⟩ := hp
  subst e
  have hV1 := hFM.1.RV hV
  have hU1x := hFM.1.UV hU
  refine P.iload_n dX9_mending_7 rfl rfl ?_
  refine P.if_lt_z (tgt := 22) dX9_mending_8 (by decide) (zN (by omega)) (fun c_8 => ?_) (fun c_8 => ?_)
  · exfalso; omega
  refine P.iload_n dX9_mending_11 rfl rfl ?_
  refine P.aload_n dX9_mending_12 rfl rfl ?_
  refine g_X9_mendings (q := 53) ly_0 (by decide) (by decide) fl_X9_36 dX9_mending_13 ?_
  refine g_X3_many ly_53 (by decide) fl_X9_185 dX9_mending_16 ?_
  refine Pm.topn (b := (MLs D W).length) (hFM.2.2.1) ?_
  refine P.icmp_lt_n (tgt := 25) dX9_mending_19 (by decide) (by omega) (by omega) (fun c_19 => ?_) (fun c_19 => ?_)
  · refine P.aload_n dX9_mending_25 rfl rfl ?_
    refine g_X9_mendings (q := 53) ly_0 (by decide) (by decide) fl_X9_36 dX9_mending_26 ?_
    refine g_X3_least (q := 54) ly_53 (by decide) (by decide) fl_X9_186 dX9_mending_29 ?_
    refine P.iload_n dX9_mending_32 rfl rfl ?_
    refine a_ia ly_54 (by decide) (by omega) (by decide) dX9_mending_33 ?_
    refine Pm.topn (b := (MLs D W).getD i 0) ((hFM.2.2.2 i (show i < (MLs D W).length by omega))) ?_
    exact P.iretX rfl dX9_mending_34 ⟨rfl, hFM.1, rfl⟩
  · exfalso; omega

set_option maxRecDepth 20000 in
theorem k_price {G : GG} {f : Nat → Nat → Nat} {l : Nat → Nat → Int64} {D : DB} {W : LB} {U : QB} {T : TB} {N : Nat} (hC : CI f l D W U T N) (hBW : BW D W U T)  : SpX G mX9_price [.ref (ad G 0)] f l (fun rv f1 l1 => rv = (some (.int (nI (trustD D (best D W))))) ∧ Fra f f1 ∧ l = l1) := by
  obtain ⟨hV, hL, hU, hT, hN, hSB⟩ := id hC
  obtain ⟨hD, hLW, hUW, hTW⟩ := id hBW
  have hR := hD.1
  have hW1 := hLW.1
  have hU1 := hUW.1
  have hJ1 := hUW.2.1
  have hK4 := keptD_lt hD
  have hlen := MLs_len hD W
  have hpos := MLs_pos D W
  refine SpX.of ok_X9_price.1 (Nat.le_of_ble_eq_true rfl) ?_
  show Pm G RX9 cX9_price 1 (KX G mX9_price (fun rv f1 l1 => rv = (some (.int (nI (trustD D (best D W))))) ∧ Fra f f1 ∧ l = l1)) 0 [some (.ref (ad G 0))] [] f l
  refine P.aload_n dX9_price_0 rfl rfl ?_
  refine g_X9_mendings (q := 53) ly_0 (by decide) (by decide) fl_X9_36 dX9_price_1 ?_
  refine P.callVX (As := []) (rest := []) (s_mfind hV hD hL hLW hSB) ok_X3_find (fitX (Nat.le_of_ble_eq_true rfl)) rfl ml_X9_183 ly_53 (by decide) (by decide) rfl rfl (Nat.le_of_ble_eq_true rfl) dX9_price_4 (fun r f1 l1 hp => ?_)
  obtain ⟨rfl, hFM, e⟩ := hp
  subst e
  have hV1 := hFM.1.RV hV
  have hU1x := hFM.1.UV hU
  refine P.aload_n dX9_price_7 rfl rfl ?_
  refine g_X9_rows (q := 2) ly_0 (by decide) (by decide) fl_X9_18 dX9_price_8 ?_
  refine P.aload_n dX9_price_11 rfl rfl ?_
  refine g_X9_mendings (q := 53) ly_0 (by decide) (by decide) fl_X9_36 dX9_price_12 ?_
  refine P.callV (As := []) (rest := [.ref (ad G 2)]) (s_cheapest hV1 hD hFM.2.2.1 hFM.2.2.2 (fun j hj => MLs_lt hD hj) hpos hlen) ok_X3_cheapest (fitX (Nat.le_of_ble_eq_true rfl)) rfl ml_X9_189 ly_53 (by decide) (by decide) rfl rfl (Nat.le_of_ble_eq_true rfl) dX9_price_15 ?_
  refine P.callV (As := [.int (nI (best D W))]) (rest := []) (s_trustOf hV1 hD (best_lt hD W)) ok_X7_trustOf (fitX (Nat.le_of_ble_eq_true rfl)) rfl ml_X9_192 ly_2 (by decide) (by decide) rfl rfl (Nat.le_of_ble_eq_true rfl) dX9_price_18 ?_
  exact P.iretX rfl dX9_price_21 ⟨rfl, hFM.1, rfl⟩

set_option maxRecDepth 20000 in
theorem k_best {G : GG} {f : Nat → Nat → Nat} {l : Nat → Nat → Int64} {D : DB} {W : LB} {U : QB} {T : TB} {N : Nat} (hC : CI f l D W U T N) (hBW : BW D W U T)  : SpX G mX9_best [.ref (ad G 0)] f l (fun rv f1 l1 => rv = (some (.int (nI (best D W)))) ∧ Fra f f1 ∧ l = l1) := by
  obtain ⟨hV, hL, hU, hT, hN, hSB⟩ := id hC
  obtain ⟨hD, hLW, hUW, hTW⟩ := id hBW
  have hR := hD.1
  have hW1 := hLW.1
  have hU1 := hUW.1
  have hJ1 := hUW.2.1
  have hK4 := keptD_lt hD
  have hlen := MLs_len hD W
  have hpos := MLs_pos D W
  refine SpX.of ok_X9_best.1 (Nat.le_of_ble_eq_true rfl) ?_
  show Pm G RX9 cX9_best 1 (KX G mX9_best (fun rv f1 l1 => rv = (some (.int (nI (best D W)))) ∧ Fra f f1 ∧ l = l1)) 0 [some (.ref (ad G 0))] [] f l
  refine P.aload_n dX9_best_0 rfl rfl ?_
  refine g_X9_mendings (q := 53) ly_0 (by decide) (by decide) fl_X9_36 dX9_best_1 ?_
  refine P.callVX (As := []) (rest := []) (s_mfind hV hD hL hLW hSB) ok_X3_find (fitX (Nat.le_of_ble_eq_true rfl)) rfl ml_X9_183 ly_53 (by decide) (by decide) rfl rfl (Nat.le_of_ble_eq_true rfl) dX9_best_4 (fun r f1 l1 hp => ?_)
  obtain ⟨rfl, hFM, e⟩ := hp
  subst e
  have hV1 := hFM.1.RV hV
  have hU1x := hFM.1.UV hU
  refine P.aload_n dX9_best_7 rfl rfl ?_
  refine g_X9_mendings (q := 53) ly_0 (by decide) (by decide) fl_X9_36 dX9_best_8 ?_
  refine P.callV (As := []) (rest := []) (s_cheapest hV1 hD hFM.2.2.1 hFM.2.2.2 (fun j hj => MLs_lt hD hj) hpos hlen) ok_X3_cheapest (fitX (Nat.le_of_ble_eq_true rfl)) rfl ml_X9_189 ly_53 (by decide) (by decide) rfl rfl (Nat.le_of_ble_eq_true rfl) dX9_best_11 ?_
  exact P.iretX rfl dX9_best_14 ⟨rfl, hFM.1, rfl⟩

set_option maxRecDepth 20000 in
theorem k_mend {G : GG} {f : Nat → Nat → Nat} {l : Nat → Nat → Int64} {D : DB} {W : LB} {U : QB} {T : TB} {N : Nat} (hC : CI f l D W U T N) (hBW : BW D W U T)  : SpX G mX9_mend [.ref (ad G 0)] f l (fun rv f1 l1 => rv = (some (.int (nI (bitsN (best D W))))) ∧ (∃ g, FM f D W g ∧ f1 = drp g (best D W) D.1) ∧ l = l1) := by
  obtain ⟨hV, hL, hU, hT, hN, hSB⟩ := id hC
  obtain ⟨hD, hLW, hUW, hTW⟩ := id hBW
  have hR := hD.1
  have hW1 := hLW.1
  have hU1 := hUW.1
  have hJ1 := hUW.2.1
  have hK4 := keptD_lt hD
  have hlen := MLs_len hD W
  have hpos := MLs_pos D W
  refine SpX.of ok_X9_mend.1 (Nat.le_of_ble_eq_true rfl) ?_
  show Pm G RX9 cX9_mend 2 (KX G mX9_mend (fun rv f1 l1 => rv = (some (.int (nI (bitsN (best D W))))) ∧ (∃ g, FM f D W g ∧ f1 = drp g (best D W) D.1) ∧ l = l1)) 0 [some (.ref (ad G 0)), none] [] f l
  refine P.aload_n dX9_mend_0 rfl rfl ?_
  refine g_X9_mendings (q := 53) ly_0 (by decide) (by decide) fl_X9_36 dX9_mend_1 ?_
  refine P.callVX (As := []) (rest := []) (s_mfind hV hD hL hLW hSB) ok_X3_find (fitX (Nat.le_of_ble_eq_true rfl)) rfl ml_X9_183 ly_53 (by decide) (by decide) rfl rfl (Nat.le_of_ble_eq_true rfl) dX9_mend_4 (fun r f1 l1 hp => ?_)
  obtain ⟨rfl, hFM, e⟩ := hp
  subst e
  have hV1 := hFM.1.RV hV
  have hU1x := hFM.1.UV hU
  refine P.aload_n dX9_mend_7 rfl rfl ?_
  refine g_X9_mendings (q := 53) ly_0 (by decide) (by decide) fl_X9_36 dX9_mend_8 ?_
  refine P.callV (As := []) (rest := []) (s_cheapest hV1 hD hFM.2.2.1 hFM.2.2.2 (fun j hj => MLs_lt hD hj) hpos hlen) ok_X3_cheapest (fitX (Nat.le_of_ble_eq_true rfl)) rfl ml_X9_189 ly_53 (by decide) (by decide) rfl rfl (Nat.le_of_ble_eq_true rfl) dX9_mend_11 ?_
  refine P.istore_n dX9_mend_14 rfl (by decide) ?_
  refine P.aload_n dX9_mend_15 rfl rfl ?_
  refine g_X9_rows (q := 2) ly_0 (by decide) (by decide) fl_X9_18 dX9_mend_16 ?_
  refine P.iload_n dX9_mend_19 rfl rfl ?_
  refine P.callV (As := [.int (nI (best D W))]) (rest := []) (s_drop hV1 hD (best_lt hD W)) ok_X7_drop (fitX (Nat.le_of_ble_eq_true rfl)) rfl ml_X9_205 ly_2 (by decide) (by decide) rfl rfl (Nat.le_of_ble_eq_true rfl) dX9_mend_20 ?_
  refine P.iload_n dX9_mend_23 rfl rfl ?_
  refine P.callS (As := [.int (nI (best D W))]) (rest := []) (s_bitCount (best_lt hD W)) ok_J6_bitCount_0f7a4 (fitX (Nat.le_of_ble_eq_true rfl)) rfl ml_X9_209 rfl (Nat.le_of_ble_eq_true rfl) dX9_mend_24 ?_
  exact P.iretX rfl dX9_mend_27 ⟨rfl, ⟨f1, hFM, rfl⟩, rfl⟩

set_option maxRecDepth 20000 in
theorem k_blame_a {G : GG} {f : Nat → Nat → Nat} {l : Nat → Nat → Int64} {D : DB} {W : LB} {U : QB} {T : TB} {N : Nat} (hC : CI f l D W U T N) (hBW : BW D W U T) {x : Int32} (hx : inR x D.1 = false)  : Spec G mX9_blame [.ref (ad G 0), .int x] 114 (f, l, refT) (some (.int (-1))) 114 (f, l, refT) := by
  obtain ⟨hV, hL, hU, hT, hN, hSB⟩ := id hC
  obtain ⟨hD, hLW, hUW, hTW⟩ := id hBW
  have hR := hD.1
  have hW1 := hLW.1
  have hU1 := hUW.1
  have hJ1 := hUW.2.1
  refine Spec.of ok_X9_blame.1 ⟨Nat.le_refl _, Nat.le_refl _⟩ (Nat.le_of_ble_eq_true rfl) ?_
  show Pm G RX9 cX9_blame 4 (KM G mX9_blame 114 114 (some (.int (-1))) (f, l, refT)) 0 [some (.ref (ad G 0)), some (.int x), none, none] [] f l
  refine P.aload_n dX9_blame_0 rfl rfl ?_
  refine P.iload_n dX9_blame_1 rfl rfl ?_
  refine P.callV (As := [.int x]) (rest := []) (s_isRow_f hV hD hx) ok_X9_isRow ⟨Nat.le_of_ble_eq_true rfl, Nat.le_of_ble_eq_true rfl, Nat.le_refl _, Nat.le_refl _⟩ rfl ml_X9_116 ly_0 (by decide) (by decide) rfl rfl (Nat.le_of_ble_eq_true rfl) dX9_blame_2 ?_
  refine P.if_ne_b (tgt := 10) dX9_blame_5 (by decide) (fun c_5 => ?_) (fun c_5 => ?_)
  · exfalso; revert c_5; decide
  refine P.iconst (v := -1) dX9_blame_8 rfl ?_
  exact P.iret rfl dX9_blame_9 rfl rfl

set_option maxRecDepth 20000 in
theorem k_blame_b {G : GG} {f : Nat → Nat → Nat} {l : Nat → Nat → Int64} {D : DB} {W : LB} {U : QB} {T : TB} {N : Nat} (hC : CI f l D W U T N) (hBW : BW D W U T) {r : Nat} (hr : r < D.1)  : SpX G mX9_blame [.ref (ad G 0), .int (nI r)] f l (fun rv f1 l1 => rv = (some (.int (nI (cntN (fun i => ((MLs D W).getD i 0).testBit r) (MLs D W).length)))) ∧ Fra f f1 ∧ l = l1) := by
  obtain ⟨hV, hL, hU, hT, hN, hSB⟩ := id hC
  obtain ⟨hD, hLW, hUW, hTW⟩ := id hBW
  have hR := hD.1
  have hW1 := hLW.1
  have hU1 := hUW.1
  have hJ1 := hUW.2.1
  have hK4 := keptD_lt hD
  have hlen := MLs_len hD W
  have hpos := MLs_pos D W
  refine SpX.of ok_X9_blame.1 (Nat.le_of_ble_eq_true rfl) ?_
  show Pm G RX9 cX9_blame 4 (KX G mX9_blame (fun rv f1 l1 => rv = (some (.int (nI (cntN (fun i => ((MLs D W).getD i 0).testBit r) (MLs D W).length)))) ∧ Fra f f1 ∧ l = l1)) 0 [some (.ref (ad G 0)), some (.int (nI r)), none, none] [] f l
  refine P.aload_n dX9_blame_0 rfl rfl ?_
  refine P.iload_n dX9_blame_1 rfl rfl ?_
  refine P.callV (As := [.int (nI r)]) (rest := []) (s_isRow_t hV hD hr) ok_X9_isRow (fitX (Nat.le_of_ble_eq_true rfl)) rfl ml_X9_116 ly_0 (by decide) (by decide) rfl rfl (Nat.le_of_ble_eq_true rfl) dX9_blame_2 ?_
  refine P.if_ne_b (tgt := 10) dX9_blame_5 (by decide) (fun c_5 => ?_) (fun c_5 => ?_)
  · refine P.aload_n dX9_blame_10 rfl rfl ?_
    refine g_X9_mendings (q := 53) ly_0 (by decide) (by decide) fl_X9_36 dX9_blame_11 ?_
    refine P.callVX (As := []) (rest := []) (s_mfind hV hD hL hLW hSB) ok_X3_find (fitX (Nat.le_of_ble_eq_true rfl)) rfl ml_X9_183 ly_53 (by decide) (by decide) rfl rfl (Nat.le_of_ble_eq_true rfl) dX9_blame_14 (fun r f1 l1 hp => ?_)
    obtain ⟨rfl, hFM, e⟩ := hp
    subst e
    have hV1 := hFM.1.RV hV
    have hU1x := hFM.1.UV hU
    refine P.iconst dX9_blame_17 ic_0 ?_
    refine P.istore_n dX9_blame_18 rfl (by decide) ?_
    refine P.iconst dX9_blame_19 ic_0 ?_
    refine P.istore_n dX9_blame_20 rfl (by decide) ?_
    refine loop_up (M := fun (i : Nat) => Pm G _ _ _ _ 21 [some (.ref (ad G 0)), some (.int (nI r)), some (.int (nI (cntN (fun i => ((MLs D W).getD i 0).testBit r) i))), some (.int (nI i))] [] f1 l) (lo := 0) (N := (MLs D W).length) (by first | exact Nat.zero_le _ | omega) (fun i hi0 hi1 ihi => ?_) ?_
    · show Pm G _ _ _ _ 21 [some (.ref (ad G 0)), some (.int (nI r)), some (.int (nI (cntN (fun i => ((MLs D W).getD i 0).testBit r) i))), some (.int (nI i))] [] f1 l
      refine P.iload_n dX9_blame_21 rfl rfl ?_
      refine P.aload_n dX9_blame_22 rfl rfl ?_
      refine g_X9_mendings (q := 53) ly_0 (by decide) (by decide) fl_X9_36 dX9_blame_23 ?_
      refine g_X3_many ly_53 (by decide) fl_X9_185 dX9_blame_26 ?_
      refine Pm.topn (b := (MLs D W).length) (hFM.2.2.1) ?_
      refine P.icmp_ge_n (tgt := 57) dX9_blame_29 (by decide) (by omega) (by omega) (fun c_29 => ?_) (fun c_29 => ?_)
      · exfalso; omega
      refine P.iload_n dX9_blame_32 rfl rfl ?_
      refine P.aload_n dX9_blame_33 rfl rfl ?_
      refine g_X9_mendings (q := 53) ly_0 (by decide) (by decide) fl_X9_36 dX9_blame_34 ?_
      refine g_X3_least (q := 54) ly_53 (by decide) (by decide) fl_X9_186 dX9_blame_37 ?_
      refine P.iload_n dX9_blame_40 rfl rfl ?_
      refine a_ia ly_54 (by decide) (by omega) (by decide) dX9_blame_41 ?_
      refine Pm.topn (b := (MLs D W).getD i 0) ((hFM.2.2.2 i (show i < (MLs D W).length by omega))) ?_
      refine P.iload_n dX9_blame_42 rfl rfl ?_
      refine P.callS (As := [.int (nI ((MLs D W).getD i 0)), .int (nI r)]) (rest := [.int (nI (cntN (fun i => ((MLs D W).getD i 0).testBit r) i))]) (s_isIn (s := (MLs D W).getD i 0) (r := r) (by have := MLs_lt hD hi1; omega) (by omega)) ok_X9_isIn (fitX (Nat.le_of_ble_eq_true rfl)) rfl ml_X9_195 rfl (Nat.le_of_ble_eq_true rfl) dX9_blame_43 ?_
      refine P.callS (As := [.int (bI (((MLs D W).getD i 0).testBit r))]) (rest := [.int (nI (cntN (fun i => ((MLs D W).getD i 0).testBit r) i))]) (s_oneIfb) ok_X9_oneIf (fitX (Nat.le_of_ble_eq_true rfl)) rfl ml_X9_106 rfl (Nat.le_of_ble_eq_true rfl) dX9_blame_46 ?_
      refine P.iadd_n dX9_blame_49 (n_addb _ _) ?_
      refine P.istore_n dX9_blame_50 rfl (by decide) ?_
      refine P.iinc dX9_blame_51 rfl (inc1 _) (by decide) ?_
      refine P.goto (tgt := 21) dX9_blame_54 (by decide) ?_
      show Pm G _ _ _ _ 21 [some (.ref (ad G 0)), some (.int (nI r)), some (.int (nI ((cntN (fun i => ((MLs D W).getD i 0).testBit r) i) + bN (((MLs D W).getD i 0).testBit r)))), some (.int (nI (i + 1)))] [] f1 l
      exact Pm.to (ihi) (by simp [lle, cntN_s]) rfl rfl rfl
    · show Pm G _ _ _ _ 21 [some (.ref (ad G 0)), some (.int (nI r)), some (.int (nI (cntN (fun i => ((MLs D W).getD i 0).testBit r) ((MLs D W).length)))), some (.int (nI ((MLs D W).length)))] [] f1 l
      refine P.iload_n dX9_blame_21 rfl rfl ?_
      refine P.aload_n dX9_blame_22 rfl rfl ?_
      refine g_X9_mendings (q := 53) ly_0 (by decide) (by decide) fl_X9_36 dX9_blame_23 ?_
      refine g_X3_many ly_53 (by decide) fl_X9_185 dX9_blame_26 ?_
      refine Pm.topn (b := (MLs D W).length) (hFM.2.2.1) ?_
      refine P.icmp_ge_n (tgt := 57) dX9_blame_29 (by decide) (by omega) (by omega) (fun c_29 => ?_) (fun c_29 => ?_)
      · refine P.iload_n dX9_blame_57 rfl rfl ?_
        exact P.iretX rfl dX9_blame_58 ⟨rfl, hFM.1, rfl⟩
      · exfalso; omega
  · exfalso; revert c_5; decide

set_option maxRecDepth 20000 in
theorem k_sum_a {G : GG} {f : Nat → Nat → Nat} {l : Nat → Nat → Int64} {D : DB} {W : LB} {U : QB} {T : TB} {N : Nat} (hC : CI f l D W U T N) (hBW : BW D W U T) {x : Int32} (hx : inR x 4 = false) {y : Int32} {g : Nat} (hg2 : g < 2)  : Spec G mX9_sum [.ref (ad G 0), .int x, .int y, .int (nI g)] 114 (f, l, refT) (some (.long (-12))) 114 (uf f 0 5 (N + 1), l, refT) := by
  obtain ⟨hV, hL, hU, hT, hN, hSB⟩ := id hC
  obtain ⟨hD, hLW, hUW, hTW⟩ := id hBW
  have hR := hD.1
  have hW1 := hLW.1
  have hU1 := hUW.1
  have hJ1 := hUW.2.1
  refine Spec.of ok_X9_sum.1 ⟨Nat.le_refl _, Nat.le_refl _⟩ (Nat.le_of_ble_eq_true rfl) ?_
  show Pm G RX9 cX9_sum 10 (KM G mX9_sum 114 114 (some (.long (-12))) (uf f 0 5 (N + 1), l, refT)) 0 [some (.ref (ad G 0)), some (.int x), some (.int y), some (.int (nI g)), none, none, none, none, none, none] [] f l
  refine P.aload_n dX9_sum_0 rfl rfl ?_
  refine P.iload_n dX9_sum_1 rfl rfl ?_
  refine P.iload_n dX9_sum_2 rfl rfl ?_
  refine P.callV (As := [.int x, .int y]) (rest := []) (s_fCin_out hN hx) ok_X9_faultOfColumnIn ⟨Nat.le_of_ble_eq_true rfl, Nat.le_of_ble_eq_true rfl, Nat.le_refl _, Nat.le_refl _⟩ rfl ml_X9_127 ly_0 (by decide) (by decide) rfl rfl (Nat.le_of_ble_eq_true rfl) dX9_sum_3 ?_
  refine P.istore dX9_sum_6 (by decide) ?_
  refine P.iload dX9_sum_8 rfl ?_
  refine P.if_eq_z (tgt := 17) dX9_sum_10 (by decide) (show (-12 : Int32).toInt = -12 from rfl) (fun c_10 => ?_) (fun c_10 => ?_)
  · exfalso; revert c_10; decide
  refine P.iload dX9_sum_13 rfl ?_
  refine P.i2l dX9_sum_15 rfl ?_
  exact P.lret rfl dX9_sum_16 rfl rfl

set_option maxRecDepth 20000 in
theorem k_sum_b {G : GG} {f : Nat → Nat → Nat} {l : Nat → Nat → Int64} {D : DB} {W : LB} {U : QB} {T : TB} {N : Nat} (hC : CI f l D W U T N) (hBW : BW D W U T) {t : Nat} (ht : t < 4) (h0 : T.1 t = 0) {y : Int32} {g : Nat} (hg2 : g < 2)  : Spec G mX9_sum [.ref (ad G 0), .int (nI t), .int y, .int (nI g)] 114 (f, l, refT) (some (.long (-11))) 114 (uf f 0 5 (N + 1), l, refT) := by
  obtain ⟨hV, hL, hU, hT, hN, hSB⟩ := id hC
  obtain ⟨hD, hLW, hUW, hTW⟩ := id hBW
  have hR := hD.1
  have hW1 := hLW.1
  have hU1 := hUW.1
  have hJ1 := hUW.2.1
  refine Spec.of ok_X9_sum.1 ⟨Nat.le_refl _, Nat.le_refl _⟩ (Nat.le_of_ble_eq_true rfl) ?_
  show Pm G RX9 cX9_sum 10 (KM G mX9_sum 114 114 (some (.long (-11))) (uf f 0 5 (N + 1), l, refT)) 0 [some (.ref (ad G 0)), some (.int (nI t)), some (.int y), some (.int (nI g)), none, none, none, none, none, none] [] f l
  refine P.aload_n dX9_sum_0 rfl rfl ?_
  refine P.iload_n dX9_sum_1 rfl rfl ?_
  refine P.iload_n dX9_sum_2 rfl rfl ?_
  refine P.callV (As := [.int (nI t), .int y]) (rest := []) (s_fCin_null hT hTW hN ht h0) ok_X9_faultOfColumnIn ⟨Nat.le_of_ble_eq_true rfl, Nat.le_of_ble_eq_true rfl, Nat.le_refl _, Nat.le_refl _⟩ rfl ml_X9_127 ly_0 (by decide) (by decide) rfl rfl (Nat.le_of_ble_eq_true rfl) dX9_sum_3 ?_
  refine P.istore dX9_sum_6 (by decide) ?_
  refine P.iload dX9_sum_8 rfl ?_
  refine P.if_eq_z (tgt := 17) dX9_sum_10 (by decide) (show (-11 : Int32).toInt = -11 from rfl) (fun c_10 => ?_) (fun c_10 => ?_)
  · exfalso; revert c_10; decide
  refine P.iload dX9_sum_13 rfl ?_
  refine P.i2l dX9_sum_15 rfl ?_
  exact P.lret rfl dX9_sum_16 rfl rfl

set_option maxRecDepth 20000 in
theorem k_sum_c {G : GG} {f : Nat → Nat → Nat} {l : Nat → Nat → Int64} {D : DB} {W : LB} {U : QB} {T : TB} {N : Nat} (hC : CI f l D W U T N) (hBW : BW D W U T) {t : Nat} (ht : t < 4) (h0 : T.1 t ≠ 0) {y : Int32} (hy : inR y (T.1 t) = false) {g : Nat} (hg2 : g < 2)  : Spec G mX9_sum [.ref (ad G 0), .int (nI t), .int y, .int (nI g)] 114 (f, l, refT) (some (.long (-12))) 114 (uf f 0 5 (N + 1), l, refT) := by
  obtain ⟨hV, hL, hU, hT, hN, hSB⟩ := id hC
  obtain ⟨hD, hLW, hUW, hTW⟩ := id hBW
  have hR := hD.1
  have hW1 := hLW.1
  have hU1 := hUW.1
  have hJ1 := hUW.2.1
  refine Spec.of ok_X9_sum.1 ⟨Nat.le_refl _, Nat.le_refl _⟩ (Nat.le_of_ble_eq_true rfl) ?_
  show Pm G RX9 cX9_sum 10 (KM G mX9_sum 114 114 (some (.long (-12))) (uf f 0 5 (N + 1), l, refT)) 0 [some (.ref (ad G 0)), some (.int (nI t)), some (.int y), some (.int (nI g)), none, none, none, none, none, none] [] f l
  refine P.aload_n dX9_sum_0 rfl rfl ?_
  refine P.iload_n dX9_sum_1 rfl rfl ?_
  refine P.iload_n dX9_sum_2 rfl rfl ?_
  refine P.callV (As := [.int (nI t), .int y]) (rest := []) (s_fCin_col hT hTW hN ht h0 hy) ok_X9_faultOfColumnIn ⟨Nat.le_of_ble_eq_true rfl, Nat.le_of_ble_eq_true rfl, Nat.le_refl _, Nat.le_refl _⟩ rfl ml_X9_127 ly_0 (by decide) (by decide) rfl rfl (Nat.le_of_ble_eq_true rfl) dX9_sum_3 ?_
  refine P.istore dX9_sum_6 (by decide) ?_
  refine P.iload dX9_sum_8 rfl ?_
  refine P.if_eq_z (tgt := 17) dX9_sum_10 (by decide) (show (-12 : Int32).toInt = -12 from rfl) (fun c_10 => ?_) (fun c_10 => ?_)
  · exfalso; revert c_10; decide
  refine P.iload dX9_sum_13 rfl ?_
  refine P.i2l dX9_sum_15 rfl ?_
  exact P.lret rfl dX9_sum_16 rfl rfl

set_option maxRecDepth 20000 in
theorem k_sum_d {G : GG} {f : Nat → Nat → Nat} {l : Nat → Nat → Int64} {D : DB} {W : LB} {U : QB} {T : TB} {N : Nat} (hC : CI f l D W U T N) (hBW : BW D W U T) {t : Nat} (ht : t < 4) (h0 : T.1 t ≠ 0) {c : Nat} (hc : c < T.1 t) {g : Nat} (hg2 : g < 2)  : SpX G mX9_sum [.ref (ad G 0), .int (nI t), .int (nI c), .int (nI g)] f l (fun rv f1 l1 => rv = (some (.long (pick g (fun i => addD D t c (keptD D ^^^ (MLs D W).getD i 0)) (MLs D W).length))) ∧ Fra f f1 ∧ l = l1) := by
  obtain ⟨hV, hL, hU, hT, hN, hSB⟩ := id hC
  obtain ⟨hD, hLW, hUW, hTW⟩ := id hBW
  have hR := hD.1
  have hW1 := hLW.1
  have hU1 := hUW.1
  have hJ1 := hUW.2.1
  have hK4 := keptD_lt hD
  have hlen := MLs_len hD W
  have hpos := MLs_pos D W
  have htc := hTW.1 t ht
  refine SpX.of ok_X9_sum.1 (Nat.le_of_ble_eq_true rfl) ?_
  show Pm G RX9 cX9_sum 10 (KX G mX9_sum (fun rv f1 l1 => rv = (some (.long (pick g (fun i => addD D t c (keptD D ^^^ (MLs D W).getD i 0)) (MLs D W).length))) ∧ Fra f f1 ∧ l = l1)) 0 [some (.ref (ad G 0)), some (.int (nI t)), some (.int (nI c)), some (.int (nI g)), none, none, none, none, none, none] [] f l
  refine P.aload_n dX9_sum_0 rfl rfl ?_
  refine P.iload_n dX9_sum_1 rfl rfl ?_
  refine P.iload_n dX9_sum_2 rfl rfl ?_
  refine P.callV (As := [.int (nI t), .int (nI c)]) (rest := []) (s_fCin_ok hT hTW ht h0 hc) ok_X9_faultOfColumnIn (fitX (Nat.le_of_ble_eq_true rfl)) rfl ml_X9_127 ly_0 (by decide) (by decide) rfl rfl (Nat.le_of_ble_eq_true rfl) dX9_sum_3 ?_
  refine P.istore dX9_sum_6 (by decide) ?_
  refine P.iload dX9_sum_8 rfl ?_
  refine P.if_eq_n (tgt := 17) dX9_sum_10 (by decide) (by omega) (fun c_10 => ?_) (fun c_10 => ?_)
  · refine P.aload_n dX9_sum_17 rfl rfl ?_
    refine g_X9_mendings (q := 53) ly_0 (by decide) (by decide) fl_X9_36 dX9_sum_18 ?_
    refine P.callVX (As := []) (rest := []) (s_mfind hV hD hL hLW hSB) ok_X3_find (fitX (Nat.le_of_ble_eq_true rfl)) rfl ml_X9_183 ly_53 (by decide) (by decide) rfl rfl (Nat.le_of_ble_eq_true rfl) dX9_sum_21 (fun r f1 l1 hp => ?_)
    obtain ⟨rfl, hFM, e⟩ := hp
    subst e
    have hV1 := hFM.1.RV hV
    have hU1x := hFM.1.UV hU
    refine P.lconst (v := 0) dX9_sum_24 rfl ?_
    refine P.lstore dX9_sum_25 (by decide) (Nat.le_of_ble_eq_true rfl) ?_
    refine P.iconst dX9_sum_27 ic_0 ?_
    refine P.istore dX9_sum_28 (by decide) ?_
    refine loop_up (M := fun (i : Nat) => Pm G _ _ _ _ 30 [some (.ref (ad G 0)), some (.int (nI t)), some (.int (nI c)), some (.int (nI g)), some (.int (nI 0)), some (.long (pick g (fun i => addD D t c (keptD D ^^^ (MLs D W).getD i 0)) i)), none, some (.int (nI i)), none, none] [] f1 l) (lo := 0) (N := (MLs D W).length) (by first | exact Nat.zero_le _ | omega) (fun i hi0 hi1 ihi => ?_) ?_
    · show Pm G _ _ _ _ 30 [some (.ref (ad G 0)), some (.int (nI t)), some (.int (nI c)), some (.int (nI g)), some (.int (nI 0)), some (.long (pick g (fun i => addD D t c (keptD D ^^^ (MLs D W).getD i 0)) i)), none, some (.int (nI i)), none, none] [] f1 l
      refine P.iload dX9_sum_30 rfl ?_
      refine P.aload_n dX9_sum_32 rfl rfl ?_
      refine g_X9_mendings (q := 53) ly_0 (by decide) (by decide) fl_X9_36 dX9_sum_33 ?_
      refine g_X3_many ly_53 (by decide) fl_X9_185 dX9_sum_36 ?_
      refine Pm.topn (b := (MLs D W).length) (hFM.2.2.1) ?_
      refine P.icmp_ge_n (tgt := 100) dX9_sum_39 (by decide) (by omega) (by omega) (fun c_39 => ?_) (fun c_39 => ?_)
      · exfalso; omega
      refine P.aload_n dX9_sum_42 rfl rfl ?_
      refine g_X9_rows (q := 2) ly_0 (by decide) (by decide) fl_X9_18 dX9_sum_43 ?_
      refine P.iload_n dX9_sum_46 rfl rfl ?_
      refine P.iload_n dX9_sum_47 rfl rfl ?_
      refine P.aload_n dX9_sum_48 rfl rfl ?_
      refine g_X9_mendings (q := 53) ly_0 (by decide) (by decide) fl_X9_36 dX9_sum_49 ?_
      refine P.iload dX9_sum_52 rfl ?_
      refine P.callV (As := [.int (nI i)]) (rest := [.int (nI c), .int (nI t), .ref (ad G 2)]) (s_leftBy hFM.2.2.1 hFM.2.2.2 (fun j hj => MLs_lt hD hj) hFM.2.1 hi1 hlen) ok_X3_leftBy (fitX (Nat.le_of_ble_eq_true rfl)) rfl ml_X9_198 ly_53 (by decide) (by decide) rfl rfl (Nat.le_of_ble_eq_true rfl) dX9_sum_54 ?_
      refine P.callV (As := [.int (nI t), .int (nI c), .int (nI (keptD D ^^^ (MLs D W).getD i 0))]) (rest := []) (s_added hV1 hD ht (by omega) (by have := xorK_le (MLs_sub (W := W) hi1); omega)) ok_X7_added (fitX (Nat.le_of_ble_eq_true rfl)) rfl ml_X9_201 ly_2 (by decide) (by decide) rfl rfl (Nat.le_of_ble_eq_true rfl) dX9_sum_57 ?_
      refine P.lstore dX9_sum_60 (by decide) (Nat.le_of_ble_eq_true rfl) ?_
      refine P.iload dX9_sum_62 rfl ?_
      refine P.if_eq_n (tgt := 90) dX9_sum_64 (by decide) (by omega) (fun c_64 => ?_) (fun c_64 => ?_)
      · refine P.lload dX9_sum_90 rfl ?_
        refine P.lstore dX9_sum_92 (by decide) (Nat.le_of_ble_eq_true rfl) ?_
        refine P.iinc dX9_sum_94 rfl (inc1 _) (by decide) ?_
        refine P.goto (tgt := 30) dX9_sum_97 (by decide) ?_
        show Pm G _ _ _ _ 30 [some (.ref (ad G 0)), some (.int (nI t)), some (.int (nI c)), some (.int (nI g)), some (.int (nI 0)), some (.long (addD D t c (keptD D ^^^ (MLs D W).getD i 0))), none, some (.int (nI (i + 1))), some (.long (addD D t c (keptD D ^^^ (MLs D W).getD i 0))), none] [] f1 l
        exact Pm.to (ihi) (by rw [pick_z (by omega)]; simp [lle]) rfl rfl rfl
      refine P.iload_n dX9_sum_67 rfl rfl ?_
      refine P.if_eq_n (tgt := 82) dX9_sum_68 (by decide) (by omega) (fun c_68 => ?_) (fun c_68 => ?_)
      · refine P.lload dX9_sum_82 rfl ?_
        refine P.lload dX9_sum_84 rfl ?_
        refine P.lc_ge (tgt := 94) dX9_sum_86 dX9_sum_87 (by decide) (fun c_86 => ?_) (fun c_86 => ?_)
        · refine P.iinc dX9_sum_94 rfl (inc1 _) (by decide) ?_
          refine P.goto (tgt := 30) dX9_sum_97 (by decide) ?_
          show Pm G _ _ _ _ 30 [some (.ref (ad G 0)), some (.int (nI t)), some (.int (nI c)), some (.int (nI g)), some (.int (nI 0)), some (.long (pick g (fun i => addD D t c (keptD D ^^^ (MLs D W).getD i 0)) i)), none, some (.int (nI (i + 1))), some (.long (addD D t c (keptD D ^^^ (MLs D W).getD i 0))), none] [] f1 l
          exact Pm.to (ihi) (by rw [pick_lk c_64 c_68 c_86]; simp [lle]) rfl rfl rfl
        refine P.lload dX9_sum_90 rfl ?_
        refine P.lstore dX9_sum_92 (by decide) (Nat.le_of_ble_eq_true rfl) ?_
        refine P.iinc dX9_sum_94 rfl (inc1 _) (by decide) ?_
        refine P.goto (tgt := 30) dX9_sum_97 (by decide) ?_
        show Pm G _ _ _ _ 30 [some (.ref (ad G 0)), some (.int (nI t)), some (.int (nI c)), some (.int (nI g)), some (.int (nI 0)), some (.long (addD D t c (keptD D ^^^ (MLs D W).getD i 0))), none, some (.int (nI (i + 1))), some (.long (addD D t c (keptD D ^^^ (MLs D W).getD i 0))), none] [] f1 l
        exact Pm.to (ihi) (by rw [pick_ln c_64 c_68 c_86]; simp [lle]) rfl rfl rfl
      refine P.lload dX9_sum_71 rfl ?_
      refine P.lload dX9_sum_73 rfl ?_
      refine P.lc_le (tgt := 94) dX9_sum_75 dX9_sum_76 (by decide) (fun c_75 => ?_) (fun c_75 => ?_)
      · refine P.iinc dX9_sum_94 rfl (inc1 _) (by decide) ?_
        refine P.goto (tgt := 30) dX9_sum_97 (by decide) ?_
        show Pm G _ _ _ _ 30 [some (.ref (ad G 0)), some (.int (nI t)), some (.int (nI c)), some (.int (nI g)), some (.int (nI 0)), some (.long (pick g (fun i => addD D t c (keptD D ^^^ (MLs D W).getD i 0)) i)), none, some (.int (nI (i + 1))), some (.long (addD D t c (keptD D ^^^ (MLs D W).getD i 0))), none] [] f1 l
        exact Pm.to (ihi) (by rw [pick_mk c_64 c_68 c_75]; simp [lle]) rfl rfl rfl
      refine P.goto (tgt := 90) dX9_sum_79 (by decide) ?_
      refine P.lload dX9_sum_90 rfl ?_
      refine P.lstore dX9_sum_92 (by decide) (Nat.le_of_ble_eq_true rfl) ?_
      refine P.iinc dX9_sum_94 rfl (inc1 _) (by decide) ?_
      refine P.goto (tgt := 30) dX9_sum_97 (by decide) ?_
      show Pm G _ _ _ _ 30 [some (.ref (ad G 0)), some (.int (nI t)), some (.int (nI c)), some (.int (nI g)), some (.int (nI 0)), some (.long (addD D t c (keptD D ^^^ (MLs D W).getD i 0))), none, some (.int (nI (i + 1))), some (.long (addD D t c (keptD D ^^^ (MLs D W).getD i 0))), none] [] f1 l
      exact Pm.to (ihi) (by rw [pick_mn c_64 c_68 c_75]; simp [lle]) rfl rfl rfl
    · show Pm G _ _ _ _ 30 [some (.ref (ad G 0)), some (.int (nI t)), some (.int (nI c)), some (.int (nI g)), some (.int (nI 0)), some (.long (pick g (fun i => addD D t c (keptD D ^^^ (MLs D W).getD i 0)) ((MLs D W).length))), none, some (.int (nI ((MLs D W).length))), none, none] [] f1 l
      refine P.iload dX9_sum_30 rfl ?_
      refine P.aload_n dX9_sum_32 rfl rfl ?_
      refine g_X9_mendings (q := 53) ly_0 (by decide) (by decide) fl_X9_36 dX9_sum_33 ?_
      refine g_X3_many ly_53 (by decide) fl_X9_185 dX9_sum_36 ?_
      refine Pm.topn (b := (MLs D W).length) (hFM.2.2.1) ?_
      refine P.icmp_ge_n (tgt := 100) dX9_sum_39 (by decide) (by omega) (by omega) (fun c_39 => ?_) (fun c_39 => ?_)
      · refine P.lload dX9_sum_100 rfl ?_
        exact P.lretX rfl dX9_sum_102 ⟨rfl, hFM.1, rfl⟩
      · exfalso; omega
  · exfalso; omega

set_option maxRecDepth 20000 in
theorem k_stands {G : GG} {f : Nat → Nat → Nat} {l : Nat → Nat → Int64} {D : DB} {W : LB} {U : QB} {T : TB} {N : Nat} (hC : CI f l D W U T N) (hBW : BW D W U T)  : SpX G mX9_stands [.ref (ad G 0)] f l (fun rv f1 l1 => rv = some (.int (bI (standsB D U (keptD D)))) ∧ Fra f f1 ∧ l = l1) := by
  obtain ⟨hV, hL, hU, hT, hN, hSB⟩ := id hC
  obtain ⟨hD, hLW, hUW, hTW⟩ := id hBW
  have hR := hD.1
  have hW1 := hLW.1
  have hU1 := hUW.1
  have hJ1 := hUW.2.1
  have hK4 := keptD_lt hD
  refine SpX.of ok_X9_stands.1 (Nat.le_of_ble_eq_true rfl) ?_
  show Pm G RX9 cX9_stands 1 (KX G mX9_stands (fun rv f1 l1 => rv = some (.int (bI (standsB D U (keptD D)))) ∧ Fra f f1 ∧ l = l1)) 0 [some (.ref (ad G 0))] [] f l
  refine P.aload_n dX9_stands_0 rfl rfl ?_
  refine g_X9_question (q := 57) ly_0 (by decide) (by decide) fl_X9_43 dX9_stands_1 ?_
  refine P.aload_n dX9_stands_4 rfl rfl ?_
  refine g_X9_rows (q := 2) ly_0 (by decide) (by decide) fl_X9_18 dX9_stands_5 ?_
  refine P.callV (As := []) (rest := [.ref (ad G 57)]) (s_kept hV hD) ok_X7_kept (fitX (Nat.le_of_ble_eq_true rfl)) rfl ml_X9_168 ly_2 (by decide) (by decide) rfl rfl (Nat.le_of_ble_eq_true rfl) dX9_stands_8 ?_
  refine P.callVX (As := [.int (nI (keptD D))]) (rest := []) (s_standsIn hV hD hU hUW hK4) ok_X5_standsIn (fitX (Nat.le_of_ble_eq_true rfl)) rfl ml_X9_251 ly_57 (by decide) (by decide) rfl rfl (Nat.le_of_ble_eq_true rfl) dX9_stands_11 (fun r f1 l1 hp => ?_)
  obtain ⟨rfl, hF1, e⟩ := hp
  subst e
  refine P.callS (As := [.int (bI (standsB D U (keptD D)))]) (rest := []) (s_oneIfb) ok_X9_oneIf (fitX (Nat.le_of_ble_eq_true rfl)) rfl ml_X9_106 rfl (Nat.le_of_ble_eq_true rfl) dX9_stands_14 ?_
  exact P.iretX rfl dX9_stands_17 ⟨rfl, hF1, rfl⟩

set_option maxRecDepth 20000 in
theorem s_times {G : GG} {f : Nat → Nat → Nat} {l : Nat → Nat → Int64} {f0 : Nat → Nat → Nat} {D : DB} {W : LB} {U : QB} {T : TB} {N : Nat} (hC : CI f0 l D W U T N) (hBW : BW D W U T) (hFM : FM f0 D W f) : SpX G mX9_timesStanding [.ref (ad G 0)] f l (fun rv f1 l1 => rv = some (.int (nI (oftN D W U))) ∧ Fra f f1 ∧ Q3 f f1 ∧ l = l1) := by
  obtain ⟨hV, hL, hU, hT, hN, hSB⟩ := id hC
  obtain ⟨hD, hLW, hUW, hTW⟩ := id hBW
  have hR := hD.1
  have hW1 := hLW.1
  have hU1 := hUW.1
  have hJ1 := hUW.2.1
  have hK4 := keptD_lt hD
  have hlen := MLs_len hD W
  have hpos := MLs_pos D W
  have hV1 := hFM.1.RV hV
  have hU1x := hFM.1.UV hU
  have hSBx := hFM.1.2 hSB
  refine SpX.of ok_X9_timesStanding.1 (Nat.le_of_ble_eq_true rfl) ?_
  show Pm G RX9 cX9_timesStanding 3 (KX G mX9_timesStanding (fun rv f1 l1 => rv = some (.int (nI (oftN D W U))) ∧ Fra f f1 ∧ Q3 f f1 ∧ l = l1)) 0 [some (.ref (ad G 0)), none, none] [] f l
  refine P.aload_n dX9_timesStanding_0 rfl rfl ?_
  refine g_X9_question (q := 57) ly_0 (by decide) (by decide) fl_X9_43 dX9_timesStanding_1 ?_
  refine P.aload_n dX9_timesStanding_4 rfl rfl ?_
  refine g_X9_mendings (q := 53) ly_0 (by decide) (by decide) fl_X9_36 dX9_timesStanding_5 ?_
  refine g_X3_kept ly_53 (by decide) fl_X9_257 dX9_timesStanding_8 ?_
  refine Pm.topn (b := keptD D) (hFM.2.1) ?_
  refine P.callVX (As := [.int (nI (keptD D))]) (rest := []) (s_findStanding hV1 hD hU1x hUW hSBx hK4) ok_X5_findStanding (fitX (Nat.le_of_ble_eq_true rfl)) rfl ml_X9_259 ly_57 (by decide) (by decide) rfl rfl (Nat.le_of_ble_eq_true rfl) dX9_timesStanding_11 (fun r f2 l2 hp => ?_)
  obtain ⟨rfl, hF2, hst, hq3, e⟩ := hp
  subst e
  refine P.iconst dX9_timesStanding_14 ic_0 ?_
  refine P.istore_n dX9_timesStanding_15 rfl (by decide) ?_
  refine P.iconst dX9_timesStanding_16 ic_0 ?_
  refine P.istore_n dX9_timesStanding_17 rfl (by decide) ?_
  refine loop_up (M := fun (i : Nat) => Pm G _ _ _ _ 18 [some (.ref (ad G 0)), some (.int (nI (cntN (fun i => stdB D U (keptD D ^^^ (MLs D W).getD i 0)) i))), some (.int (nI i))] [] f2 l) (lo := 0) (N := (MLs D W).length) (by first | exact Nat.zero_le _ | omega) (fun i hi0 hi1 ihi => ?_) ?_
  · show Pm G _ _ _ _ 18 [some (.ref (ad G 0)), some (.int (nI (cntN (fun i => stdB D U (keptD D ^^^ (MLs D W).getD i 0)) i))), some (.int (nI i))] [] f2 l
    refine P.iload_n dX9_timesStanding_18 rfl rfl ?_
    refine P.aload_n dX9_timesStanding_19 rfl rfl ?_
    refine g_X9_mendings (q := 53) ly_0 (by decide) (by decide) fl_X9_36 dX9_timesStanding_20 ?_
    refine g_X3_many ly_53 (by decide) fl_X9_185 dX9_timesStanding_23 ?_
    refine Pm.topn (b := (MLs D W).length) (((hq3 _ _ (by decide) (by decide) (by decide)).trans hFM.2.2.1)) ?_
    refine P.icmp_ge_n (tgt := 57) dX9_timesStanding_26 (by decide) (by omega) (by omega) (fun c_26 => ?_) (fun c_26 => ?_)
    · exfalso; omega
    refine P.iload_n dX9_timesStanding_29 rfl rfl ?_
    refine P.aload_n dX9_timesStanding_30 rfl rfl ?_
    refine g_X9_question (q := 57) ly_0 (by decide) (by decide) fl_X9_43 dX9_timesStanding_31 ?_
    refine g_X5_standing (q := 62) ly_57 (by decide) (by decide) fl_X9_262 dX9_timesStanding_34 ?_
    refine P.aload_n dX9_timesStanding_37 rfl rfl ?_
    refine g_X9_mendings (q := 53) ly_0 (by decide) (by decide) fl_X9_36 dX9_timesStanding_38 ?_
    refine P.iload_n dX9_timesStanding_41 rfl rfl ?_
    refine P.callV (As := [.int (nI i)]) (rest := [.ref (ad G 62), .int (nI (cntN (fun i => stdB D U (keptD D ^^^ (MLs D W).getD i 0)) i))]) (s_leftBy ((hq3 53 3 (by decide) (by decide) (by decide)).trans hFM.2.2.1) (fun j hj => (hq3 54 j (by decide) (by decide) (by decide)).trans (hFM.2.2.2 j hj)) (fun j hj => MLs_lt hD hj) ((hq3 53 4 (by decide) (by decide) (by decide)).trans hFM.2.1) hi1 hlen) ok_X3_leftBy (fitX (Nat.le_of_ble_eq_true rfl)) rfl ml_X9_198 ly_53 (by decide) (by decide) rfl rfl (Nat.le_of_ble_eq_true rfl) dX9_timesStanding_42 ?_
    refine a_za ly_62 (by decide) (Nat.lt_of_lt_of_le (kx_lt hi1) (pow12 hR)) (by decide) dX9_timesStanding_45 ?_
    refine Pm.topn (b := bN (stdB D U (keptD D ^^^ (MLs D W).getD i 0))) ((std_val (hF2.2 hSBx _).2.2 (hst _ (kx_lt hi1)))) ?_
    refine P.callS (As := [.int (nI (bN (stdB D U (keptD D ^^^ (MLs D W).getD i 0))))]) (rest := [.int (nI (cntN (fun i => stdB D U (keptD D ^^^ (MLs D W).getD i 0)) i))]) (s_oneIf (bN_lt _)) ok_X9_oneIf (fitX (Nat.le_of_ble_eq_true rfl)) rfl ml_X9_106 rfl (Nat.le_of_ble_eq_true rfl) dX9_timesStanding_46 ?_
    refine P.iadd_n dX9_timesStanding_49 (nI_add _ _) ?_
    refine P.istore_n dX9_timesStanding_50 rfl (by decide) ?_
    refine P.iinc dX9_timesStanding_51 rfl (inc1 _) (by decide) ?_
    refine P.goto (tgt := 18) dX9_timesStanding_54 (by decide) ?_
    show Pm G _ _ _ _ 18 [some (.ref (ad G 0)), some (.int (nI ((cntN (fun i => stdB D U (keptD D ^^^ (MLs D W).getD i 0)) i) + (bN (stdB D U (keptD D ^^^ (MLs D W).getD i 0)))))), some (.int (nI (i + 1)))] [] f2 l
    exact Pm.to (ihi) (by simp [lle, cntN_s]) rfl rfl rfl
  · show Pm G _ _ _ _ 18 [some (.ref (ad G 0)), some (.int (nI (cntN (fun i => stdB D U (keptD D ^^^ (MLs D W).getD i 0)) ((MLs D W).length)))), some (.int (nI ((MLs D W).length)))] [] f2 l
    refine P.iload_n dX9_timesStanding_18 rfl rfl ?_
    refine P.aload_n dX9_timesStanding_19 rfl rfl ?_
    refine g_X9_mendings (q := 53) ly_0 (by decide) (by decide) fl_X9_36 dX9_timesStanding_20 ?_
    refine g_X3_many ly_53 (by decide) fl_X9_185 dX9_timesStanding_23 ?_
    refine Pm.topn (b := (MLs D W).length) (((hq3 _ _ (by decide) (by decide) (by decide)).trans hFM.2.2.1)) ?_
    refine P.icmp_ge_n (tgt := 57) dX9_timesStanding_26 (by decide) (by omega) (by omega) (fun c_26 => ?_) (fun c_26 => ?_)
    · refine P.iload_n dX9_timesStanding_57 rfl rfl ?_
      exact P.iretX rfl dX9_timesStanding_58 ⟨rfl, hF2, hq3, rfl⟩
    · exfalso; omega

set_option maxRecDepth 20000 in
theorem k_often {G : GG} {f : Nat → Nat → Nat} {l : Nat → Nat → Int64} {D : DB} {W : LB} {U : QB} {T : TB} {N : Nat} (hC : CI f l D W U T N) (hBW : BW D W U T)  : SpX G mX9_often [.ref (ad G 0)] f l (fun rv f1 l1 => rv = (some (.int (nI (oftN D W U)))) ∧ Fra f f1 ∧ l = l1) := by
  obtain ⟨hV, hL, hU, hT, hN, hSB⟩ := id hC
  obtain ⟨hD, hLW, hUW, hTW⟩ := id hBW
  have hR := hD.1
  have hW1 := hLW.1
  have hU1 := hUW.1
  have hJ1 := hUW.2.1
  have hK4 := keptD_lt hD
  have hlen := MLs_len hD W
  have hpos := MLs_pos D W
  refine SpX.of ok_X9_often.1 (Nat.le_of_ble_eq_true rfl) ?_
  show Pm G RX9 cX9_often 1 (KX G mX9_often (fun rv f1 l1 => rv = (some (.int (nI (oftN D W U)))) ∧ Fra f f1 ∧ l = l1)) 0 [some (.ref (ad G 0))] [] f l
  refine P.aload_n dX9_often_0 rfl rfl ?_
  refine g_X9_mendings (q := 53) ly_0 (by decide) (by decide) fl_X9_36 dX9_often_1 ?_
  refine P.callVX (As := []) (rest := []) (s_mfind hV hD hL hLW hSB) ok_X3_find (fitX (Nat.le_of_ble_eq_true rfl)) rfl ml_X9_183 ly_53 (by decide) (by decide) rfl rfl (Nat.le_of_ble_eq_true rfl) dX9_often_4 (fun r f1 l1 hp => ?_)
  obtain ⟨rfl, hFM, e⟩ := hp
  subst e
  have hV1 := hFM.1.RV hV
  have hU1x := hFM.1.UV hU
  refine P.aload_n dX9_often_7 rfl rfl ?_
  refine P.callVX (As := []) (rest := []) (s_times hC hBW hFM) ok_X9_timesStanding (fitX (Nat.le_of_ble_eq_true rfl)) rfl ml_X9_254 ly_0 (by decide) (by decide) rfl rfl (Nat.le_of_ble_eq_true rfl) dX9_often_8 (fun r f2 l2 hp => ?_)
  obtain ⟨rfl, hF2, hq3, e⟩ := hp
  subst e
  exact P.iretX rfl dX9_often_11 ⟨rfl, hFM.1.tr hF2, rfl⟩

set_option maxRecDepth 20000 in
theorem k_sure {G : GG} {f : Nat → Nat → Nat} {l : Nat → Nat → Int64} {D : DB} {W : LB} {U : QB} {T : TB} {N : Nat} (hC : CI f l D W U T N) (hBW : BW D W U T)  : SpX G mX9_sure [.ref (ad G 0)] f l (fun rv f1 l1 => rv = (some (.int (nI (sureN D W U)))) ∧ Fra f f1 ∧ l = l1) := by
  obtain ⟨hV, hL, hU, hT, hN, hSB⟩ := id hC
  obtain ⟨hD, hLW, hUW, hTW⟩ := id hBW
  have hR := hD.1
  have hW1 := hLW.1
  have hU1 := hUW.1
  have hJ1 := hUW.2.1
  have hK4 := keptD_lt hD
  have hlen := MLs_len hD W
  have hpos := MLs_pos D W
  refine SpX.of ok_X9_sure.1 (Nat.le_of_ble_eq_true rfl) ?_
  show Pm G RX9 cX9_sure 2 (KX G mX9_sure (fun rv f1 l1 => rv = (some (.int (nI (sureN D W U)))) ∧ Fra f f1 ∧ l = l1)) 0 [some (.ref (ad G 0)), none] [] f l
  refine P.aload_n dX9_sure_0 rfl rfl ?_
  refine g_X9_mendings (q := 53) ly_0 (by decide) (by decide) fl_X9_36 dX9_sure_1 ?_
  refine P.callVX (As := []) (rest := []) (s_mfind hV hD hL hLW hSB) ok_X3_find (fitX (Nat.le_of_ble_eq_true rfl)) rfl ml_X9_183 ly_53 (by decide) (by decide) rfl rfl (Nat.le_of_ble_eq_true rfl) dX9_sure_4 (fun r f1 l1 hp => ?_)
  obtain ⟨rfl, hFM, e⟩ := hp
  subst e
  have hV1 := hFM.1.RV hV
  have hU1x := hFM.1.UV hU
  refine P.aload_n dX9_sure_7 rfl rfl ?_
  refine P.callVX (As := []) (rest := []) (s_times hC hBW hFM) ok_X9_timesStanding (fitX (Nat.le_of_ble_eq_true rfl)) rfl ml_X9_254 ly_0 (by decide) (by decide) rfl rfl (Nat.le_of_ble_eq_true rfl) dX9_sure_8 (fun r f2 l2 hp => ?_)
  obtain ⟨rfl, hF2, hq3, e⟩ := hp
  subst e
  refine P.istore_n dX9_sure_11 rfl (by decide) ?_
  refine P.iload_n dX9_sure_12 rfl rfl ?_
  refine P.if_ne_n (tgt := 18) dX9_sure_13 (by decide) (by have := oftN_le D W U; omega) (fun c_13 => ?_) (fun c_13 => ?_)
  · refine P.iload_n dX9_sure_18 rfl rfl ?_
    refine P.aload_n dX9_sure_19 rfl rfl ?_
    refine g_X9_mendings (q := 53) ly_0 (by decide) (by decide) fl_X9_36 dX9_sure_20 ?_
    refine g_X3_many ly_53 (by decide) fl_X9_185 dX9_sure_23 ?_
    refine Pm.topn (b := (MLs D W).length) (((hq3 _ _ (by decide) (by decide) (by decide)).trans hFM.2.2.1)) ?_
    refine P.icmp_ne_n (tgt := 33) dX9_sure_26 (by decide) (by have := oftN_le D W U; omega) (by omega) (fun c_26 => ?_) (fun c_26 => ?_)
    · refine P.iconst dX9_sure_33 ic_1 ?_
      exact P.iretX rfl dX9_sure_34 ⟨by rw [show sureN D W U = 1 from by simp [sureN, List.ne_nil_of_length_pos hpos, c_13, c_26]], hFM.1.tr hF2, rfl⟩
    refine P.iconst dX9_sure_29 ic_2 ?_
    refine P.goto (tgt := 34) dX9_sure_30 (by decide) ?_
    exact P.iretX rfl dX9_sure_34 ⟨by rw [show sureN D W U = 2 from by simp [sureN, List.ne_nil_of_length_pos hpos, c_13, c_26]], hFM.1.tr hF2, rfl⟩
  refine P.iconst dX9_sure_16 ic_0 ?_
  exact P.iretX rfl dX9_sure_17 ⟨by rw [show sureN D W U = 0 from by simp [sureN, List.ne_nil_of_length_pos hpos, c_13]], hFM.1.tr hF2, rfl⟩

set_option maxRecDepth 20000 in
theorem k_against {G : GG} {f : Nat → Nat → Nat} {l : Nat → Nat → Int64} {D : DB} {W : LB} {U : QB} {T : TB} {N : Nat} (hC : CI f l D W U T N) (hBW : BW D W U T)  : SpX G mX9_against [.ref (ad G 0)] f l (fun rv f1 l1 => rv = some (.int (agR D W U)) ∧ Fra f f1 ∧ l = l1) := by
  obtain ⟨hV, hL, hU, hT, hN, hSB⟩ := id hC
  obtain ⟨hD, hLW, hUW, hTW⟩ := id hBW
  have hR := hD.1
  have hW1 := hLW.1
  have hU1 := hUW.1
  have hJ1 := hUW.2.1
  have hK4 := keptD_lt hD
  have hlen := MLs_len hD W
  have hpos := MLs_pos D W
  refine SpX.of ok_X9_against.1 (Nat.le_of_ble_eq_true rfl) ?_
  show Pm G RX9 cX9_against 2 (KX G mX9_against (fun rv f1 l1 => rv = some (.int (agR D W U)) ∧ Fra f f1 ∧ l = l1)) 0 [some (.ref (ad G 0)), none] [] f l
  refine P.aload_n dX9_against_0 rfl rfl ?_
  refine g_X9_mendings (q := 53) ly_0 (by decide) (by decide) fl_X9_36 dX9_against_1 ?_
  refine P.callVX (As := []) (rest := []) (s_mfind hV hD hL hLW hSB) ok_X3_find (fitX (Nat.le_of_ble_eq_true rfl)) rfl ml_X9_183 ly_53 (by decide) (by decide) rfl rfl (Nat.le_of_ble_eq_true rfl) dX9_against_4 (fun r f1 l1 hp => ?_)
  obtain ⟨rfl, hFM, e⟩ := hp
  subst e
  have hV1 := hFM.1.RV hV
  have hU1x := hFM.1.UV hU
  refine P.aload_n dX9_against_7 rfl rfl ?_
  refine g_X9_question (q := 57) ly_0 (by decide) (by decide) fl_X9_43 dX9_against_8 ?_
  refine P.aload_n dX9_against_11 rfl rfl ?_
  refine g_X9_mendings (q := 53) ly_0 (by decide) (by decide) fl_X9_36 dX9_against_12 ?_
  refine g_X3_kept ly_53 (by decide) fl_X9_257 dX9_against_15 ?_
  refine Pm.topn (b := keptD D) (hFM.2.1) ?_
  have hSBx := hFM.1.2 hSB
  refine P.callVX (As := [.int (nI (keptD D))]) (rest := []) (s_findStanding hV1 hD hU1x hUW hSBx hK4) ok_X5_findStanding (fitX (Nat.le_of_ble_eq_true rfl)) rfl ml_X9_259 ly_57 (by decide) (by decide) rfl rfl (Nat.le_of_ble_eq_true rfl) dX9_against_18 (fun r f2 l2 hp => ?_)
  obtain ⟨rfl, hF2, hst, hq3, e⟩ := hp
  subst e
  refine P.iconst dX9_against_21 ic_0 ?_
  refine P.istore_n dX9_against_22 rfl (by decide) ?_
  refine loop_up (M := fun (i : Nat) => (∀ j, j < i → agB D W U j = false) → Pm G _ _ _ _ 23 [some (.ref (ad G 0)), some (.int (nI i))] [] f2 l) (lo := 0) (N := (MLs D W).length) (by first | exact Nat.zero_le _ | omega) (fun i hi0 hi1 ihi => ?_) ?_ ?_
  · intro invi
    show Pm G _ _ _ _ 23 [some (.ref (ad G 0)), some (.int (nI i))] [] f2 l
    refine P.iload_n dX9_against_23 rfl rfl ?_
    refine P.aload_n dX9_against_24 rfl rfl ?_
    refine g_X9_mendings (q := 53) ly_0 (by decide) (by decide) fl_X9_36 dX9_against_25 ?_
    refine g_X3_many ly_53 (by decide) fl_X9_185 dX9_against_28 ?_
    refine Pm.topn (b := (MLs D W).length) (((hq3 _ _ (by decide) (by decide) (by decide)).trans hFM.2.2.1)) ?_
    refine P.icmp_ge_n (tgt := 69) dX9_against_31 (by decide) (by omega) (by omega) (fun c_31 => ?_) (fun c_31 => ?_)
    · exfalso; omega
    refine P.aload_n dX9_against_34 rfl rfl ?_
    refine g_X9_question (q := 57) ly_0 (by decide) (by decide) fl_X9_43 dX9_against_35 ?_
    refine g_X5_standing (q := 62) ly_57 (by decide) (by decide) fl_X9_262 dX9_against_38 ?_
    refine P.aload_n dX9_against_41 rfl rfl ?_
    refine g_X9_mendings (q := 53) ly_0 (by decide) (by decide) fl_X9_36 dX9_against_42 ?_
    refine P.iload_n dX9_against_45 rfl rfl ?_
    refine P.callV (As := [.int (nI i)]) (rest := [.ref (ad G 62)]) (s_leftBy ((hq3 53 3 (by decide) (by decide) (by decide)).trans hFM.2.2.1) (fun j hj => (hq3 54 j (by decide) (by decide) (by decide)).trans (hFM.2.2.2 j hj)) (fun j hj => MLs_lt hD hj) ((hq3 53 4 (by decide) (by decide) (by decide)).trans hFM.2.1) hi1 hlen) ok_X3_leftBy (fitX (Nat.le_of_ble_eq_true rfl)) rfl ml_X9_198 ly_53 (by decide) (by decide) rfl rfl (Nat.le_of_ble_eq_true rfl) dX9_against_46 ?_
    refine a_za ly_62 (by decide) (Nat.lt_of_lt_of_le (kx_lt hi1) (pow12 hR)) (by decide) dX9_against_49 ?_
    refine Pm.topn (b := bN (stdB D U (keptD D ^^^ (MLs D W).getD i 0))) ((std_val (hF2.2 hSBx _).2.2 (hst _ (kx_lt hi1)))) ?_
    refine P.if_ne_n (tgt := 63) dX9_against_50 (by decide) (Nat.lt_trans (bN_lt _) (by decide)) (fun c_50 => ?_) (fun c_50 => ?_)
    · refine P.iinc dX9_against_63 rfl (inc1 _) (by decide) ?_
      refine P.goto (tgt := 23) dX9_against_66 (by decide) ?_
      show Pm G _ _ _ _ 23 [some (.ref (ad G 0)), some (.int (nI (i + 1)))] [] f2 l
      exact Pm.to (ihi (by exact lt_snoc invi (by rw [agB, bN_nz.mp c_50]; rfl))) (by simp [lle]) rfl rfl rfl
    refine P.aload_n dX9_against_53 rfl rfl ?_
    refine g_X9_mendings (q := 53) ly_0 (by decide) (by decide) fl_X9_36 dX9_against_54 ?_
    refine g_X3_least (q := 54) ly_53 (by decide) (by decide) fl_X9_186 dX9_against_57 ?_
    refine P.iload_n dX9_against_60 rfl rfl ?_
    refine a_ia ly_54 (by decide) (by omega) (by decide) dX9_against_61 ?_
    refine Pm.topn (b := (MLs D W).getD i 0) (((hq3 _ _ (by decide) (by decide) (by decide)).trans (hFM.2.2.2 i (show i < (MLs D W).length by omega)))) ?_
    exact P.iretX rfl dX9_against_62 ⟨by rw [agR_some hi1 (by rw [agB, bN_z.mp c_50]; rfl) invi], hFM.1.tr hF2, rfl⟩
  · intro invi
    show Pm G _ _ _ _ 23 [some (.ref (ad G 0)), some (.int (nI ((MLs D W).length)))] [] f2 l
    refine P.iload_n dX9_against_23 rfl rfl ?_
    refine P.aload_n dX9_against_24 rfl rfl ?_
    refine g_X9_mendings (q := 53) ly_0 (by decide) (by decide) fl_X9_36 dX9_against_25 ?_
    refine g_X3_many ly_53 (by decide) fl_X9_185 dX9_against_28 ?_
    refine Pm.topn (b := (MLs D W).length) (((hq3 _ _ (by decide) (by decide) (by decide)).trans hFM.2.2.1)) ?_
    refine P.icmp_ge_n (tgt := 69) dX9_against_31 (by decide) (by omega) (by omega) (fun c_31 => ?_) (fun c_31 => ?_)
    · refine P.bipush (v := -9) dX9_against_69 rfl ?_
      exact P.iretX rfl dX9_against_71 ⟨by rw [agR_none invi], hFM.1.tr hF2, rfl⟩
    · exfalso; omega
  · exact fun j hj => absurd hj (by omega)


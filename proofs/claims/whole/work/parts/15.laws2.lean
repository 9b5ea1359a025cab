-- Laws, on: by program (wip/whole/spec15.py)
set_option maxRecDepth 20000 in
theorem s_findPairs {G : GG} {f : Nat → Nat → Nat} {l : Nat → Nat → Int64} {D : DB} (hV : RV f l D) (hD : DW D) {W : LB} (hL : LV f l W) {w S : Nat} (hw : w < 10) (hW : LOK W w) (hS : S < 4096) : Spec G mX2_findPairs [.ref (ad G 40), .ref (ad G (43 + w)), .int (nI S)] 114 (wrL f ([]), l, refT) none 114 (wrL f (pairL D W w S D.1), l, refT) := by
  have hR := hD.1
  have hW0 := hW
  obtain ⟨hk, ht, ha, hb, hu, hf⟩ := hW
  have h2 := those2_lt hD W w S
  refine Spec.of ok_X2_findPairs.1 ⟨Nat.le_refl _, Nat.le_refl _⟩ (Nat.le_of_ble_eq_true rfl) ?_
  show Pm G RX2 cX2_findPairs 6 (KM G mX2_findPairs 114 114 none (wrL f (pairL D W w S D.1), l, refT)) 0 [some (.ref (ad G 40)), some (.ref (ad G (43 + w))), some (.int (nI S)), none, none, none] [] (wrL f ([])) l
  refine P.aload_n dX2_findPairs_0 rfl rfl ?_
  refine g_X2_rows (q := 2) ly_40 (by decide) (by decide) fl_X2_21 dX2_findPairs_1 ?_
  refine P.aload_n dX2_findPairs_4 rfl rfl ?_
  refine g_X1_table (ly_law (r := w) (by omega)) (by omega) fl_X2_33 dX2_findPairs_5 ?_
  refine Pm.topn (b := W.2.1 w 1) (((wrL_ne _ _ (by omega) (by omega)).trans (hL.2.1 w (by omega) 1))) ?_
  refine P.aload_n dX2_findPairs_8 rfl rfl ?_
  refine g_X1_first (ly_law (r := w) (by omega)) (by omega) fl_X2_84 dX2_findPairs_9 ?_
  refine Pm.topn (b := W.2.1 w 2) (((wrL_ne _ _ (by omega) (by omega)).trans (hL.2.1 w (by omega) 2))) ?_
  refine P.iload_n dX2_findPairs_12 rfl rfl ?_
  refine P.callV (As := [.int (nI (W.2.1 w 1)), .int (nI (W.2.1 w 2)), .int (nI S)]) (rest := []) (s_withCell (RV_wrL hV _) hD (by omega) (by omega) (by omega)) ok_X7_withCell ⟨Nat.le_of_ble_eq_true rfl, Nat.le_of_ble_eq_true rfl, Nat.le_refl _, Nat.le_refl _⟩ rfl ml_X2_98 ly_2 (by decide) (by decide) rfl rfl (Nat.le_of_ble_eq_true rfl) dX2_findPairs_13 ?_
  refine P.aload_n dX2_findPairs_16 rfl rfl ?_
  refine g_X2_rows (q := 2) ly_40 (by decide) (by decide) fl_X2_21 dX2_findPairs_17 ?_
  refine P.aload_n dX2_findPairs_20 rfl rfl ?_
  refine g_X1_table (ly_law (r := w) (by omega)) (by omega) fl_X2_33 dX2_findPairs_21 ?_
  refine Pm.topn (b := W.2.1 w 1) (((wrL_ne _ _ (by omega) (by omega)).trans (hL.2.1 w (by omega) 1))) ?_
  refine P.aload_n dX2_findPairs_24 rfl rfl ?_
  refine g_X1_second (ly_law (r := w) (by omega)) (by omega) fl_X2_105 dX2_findPairs_25 ?_
  refine Pm.topn (b := W.2.1 w 3) (((wrL_ne _ _ (by omega) (by omega)).trans (hL.2.1 w (by omega) 3))) ?_
  refine P.iload_n dX2_findPairs_28 rfl rfl ?_
  refine P.callV (As := [.int (nI (W.2.1 w 1)), .int (nI (W.2.1 w 3)), .int (nI S)]) (rest := [.int (nI (withC D (W.2.1 w 1) (W.2.1 w 2) S))]) (s_withCell (RV_wrL hV _) hD (by omega) (by omega) (by omega)) ok_X7_withCell ⟨Nat.le_of_ble_eq_true rfl, Nat.le_of_ble_eq_true rfl, Nat.le_refl _, Nat.le_refl _⟩ rfl ml_X2_98 ly_2 (by decide) (by decide) rfl rfl (Nat.le_of_ble_eq_true rfl) dX2_findPairs_29 ?_
  refine P.iand_n dX2_findPairs_32 (v := nI (those2 D W w S)) (n_and _ _) ?_
  refine P.istore_n dX2_findPairs_33 rfl (by decide) ?_
  refine P.iconst dX2_findPairs_34 ic_1 ?_
  refine P.istore dX2_findPairs_35 (by decide) ?_
  refine loop_up (M := fun (i : Nat) => Pm G _ _ _ _ 37 [some (.ref (ad G 40)), some (.ref (ad G (43 + w))), some (.int (nI S)), some (.int (nI (those2 D W w S))), some (.int (nI i)), none] [] (wrL f (pairL D W w S i)) l) (lo := 1) (N := (max 1 D.1)) (by omega) (fun i hi0 hi1 ihi => ?_) ?_
  · show Pm G _ _ _ _ 37 [some (.ref (ad G 40)), some (.ref (ad G (43 + w))), some (.int (nI S)), some (.int (nI (those2 D W w S))), some (.int (nI i)), none] [] (wrL f (pairL D W w S i)) l
    refine P.iload dX2_findPairs_37 rfl ?_
    refine P.aload_n dX2_findPairs_39 rfl rfl ?_
    refine g_X2_rows (q := 2) ly_40 (by decide) (by decide) fl_X2_21 dX2_findPairs_40 ?_
    refine g_X7_many ly_2 (by decide) fl_X2_59 dX2_findPairs_43 ?_
    refine Pm.topn (b := D.1) (((wrL_ne _ _ (by omega) (by omega)).trans hV.1)) ?_
    refine P.icmp_ge_n (tgt := 130) dX2_findPairs_46 (by decide) (by omega) (by omega) (fun c_46 => ?_) (fun c_46 => ?_)
    · exfalso; omega
    refine P.iconst dX2_findPairs_49 ic_0 ?_
    refine P.istore dX2_findPairs_50 (by decide) ?_
    refine loop_up (M := fun (j : Nat) => Pm G _ _ _ _ 52 [some (.ref (ad G 40)), some (.ref (ad G (43 + w))), some (.int (nI S)), some (.int (nI (those2 D W w S))), some (.int (nI i)), some (.int (nI j))] [] (wrL f (pairI D W w S i j (pairL D W w S i))) l) (lo := 0) (N := i) (by first | exact Nat.zero_le _ | omega) (fun j hj0 hj1 ihj => ?_) ?_
    · have hln := pairL_len D W w S i
      have hln2 := fl_len (fun lo => (those2 D W w S).testBit i && (those2 D W w S).testBit lo && together D W w lo i) (fun lo => 2 ^ i ||| 2 ^ lo) j (pairL D W w S i)
      have hln3 : (pairI D W w S i j (pairL D W w S i)).length ≤ (pairL D W w S i).length + j := hln2
      have hln4 : i * i ≤ 11 * 11 := Nat.mul_le_mul (by omega) (by omega)
      show Pm G _ _ _ _ 52 [some (.ref (ad G 40)), some (.ref (ad G (43 + w))), some (.int (nI S)), some (.int (nI (those2 D W w S))), some (.int (nI i)), some (.int (nI j))] [] (wrL f (pairI D W w S i j (pairL D W w S i))) l
      refine P.iload dX2_findPairs_52 rfl ?_
      refine P.iload dX2_findPairs_54 rfl ?_
      refine P.icmp_ge_n (tgt := 124) dX2_findPairs_56 (by decide) (by omega) (by omega) (fun c_56 => ?_) (fun c_56 => ?_)
      · exfalso; omega
      refine P.iload_n dX2_findPairs_59 rfl rfl ?_
      refine P.iload dX2_findPairs_60 rfl ?_
      refine P.callSN (As := [.int (nI (those2 D W w S)), .int (nI i)]) (rest := []) (s_isIn (s := (those2 D W w S)) (r := i) (by omega) (by omega)) ok_X9_isIn ⟨Nat.le_of_ble_eq_true rfl, Nat.le_of_ble_eq_true rfl, Nat.le_refl _, Nat.le_refl _⟩ rfl mn_X2_62 rfl (Nat.le_of_ble_eq_true rfl) dX2_findPairs_62 ?_
      refine P.if_eq_b (tgt := 118) dX2_findPairs_65 (by decide) (fun c_65 => ?_) (fun c_65 => ?_)
      · refine P.iinc dX2_findPairs_118 rfl (inc1 _) (by decide) ?_
        refine P.goto (tgt := 52) dX2_findPairs_121 (by decide) ?_
        show Pm G _ _ _ _ 52 [some (.ref (ad G 40)), some (.ref (ad G (43 + w))), some (.int (nI S)), some (.int (nI (those2 D W w S))), some (.int (nI i)), some (.int (nI (j + 1)))] [] (wrL f (pairI D W w S i j (pairL D W w S i))) l
        exact Pm.to (ihj) (by simp [lle]) rfl (by simp [pairI, fl_s, c_46, c_56, c_65]) rfl
      refine P.iload_n dX2_findPairs_68 rfl rfl ?_
      refine P.iload dX2_findPairs_69 rfl ?_
      refine P.callSN (As := [.int (nI (those2 D W w S)), .int (nI j)]) (rest := []) (s_isIn (s := (those2 D W w S)) (r := j) (by omega) (by omega)) ok_X9_isIn ⟨Nat.le_of_ble_eq_true rfl, Nat.le_of_ble_eq_true rfl, Nat.le_refl _, Nat.le_refl _⟩ rfl mn_X2_62 rfl (Nat.le_of_ble_eq_true rfl) dX2_findPairs_71 ?_
      refine P.if_eq_b (tgt := 118) dX2_findPairs_74 (by decide) (fun c_74 => ?_) (fun c_74 => ?_)
      · refine P.iinc dX2_findPairs_118 rfl (inc1 _) (by decide) ?_
        refine P.goto (tgt := 52) dX2_findPairs_121 (by decide) ?_
        show Pm G _ _ _ _ 52 [some (.ref (ad G 40)), some (.ref (ad G (43 + w))), some (.int (nI S)), some (.int (nI (those2 D W w S))), some (.int (nI i)), some (.int (nI (j + 1)))] [] (wrL f (pairI D W w S i j (pairL D W w S i))) l
        exact Pm.to (ihj) (by simp [lle]) rfl (by simp [pairI, fl_s, c_46, c_56, c_65, c_74]) rfl
      refine P.aload_n dX2_findPairs_77 rfl rfl ?_
      refine P.aload_n dX2_findPairs_78 rfl rfl ?_
      refine P.aload_n dX2_findPairs_79 rfl rfl ?_
      refine g_X2_rows (q := 2) ly_40 (by decide) (by decide) fl_X2_21 dX2_findPairs_80 ?_
      refine g_X7_list (q := 3) ly_2 (by decide) (by decide) fl_X2_66 dX2_findPairs_83 ?_
      refine P.iload dX2_findPairs_86 rfl ?_
      refine a_r6 (q := 4 + 3 * j) ly_3 (by decide) (by omega) (by decide) (rt_row (r := j) (by omega)) dX2_findPairs_88 ?_
      refine P.aload_n dX2_findPairs_89 rfl rfl ?_
      refine g_X2_rows (q := 2) ly_40 (by decide) (by decide) fl_X2_21 dX2_findPairs_90 ?_
      refine g_X7_list (q := 3) ly_2 (by decide) (by decide) fl_X2_66 dX2_findPairs_93 ?_
      refine P.iload dX2_findPairs_96 rfl ?_
      refine a_r6 (q := 4 + 3 * i) ly_3 (by decide) (by omega) (by decide) (rt_row (r := i) (by omega)) dX2_findPairs_98 ?_
      refine P.callV (As := [.ref (ad G (43 + w)), .ref (ad G (4 + 3 * j)), .ref (ad G (4 + 3 * i))]) (rest := []) (s_together (RV_wrL hV _) hD (LV_wrL hL _) hw hW0 (by omega) (by omega)) ok_X2_quarrelTogether ⟨Nat.le_of_ble_eq_true rfl, Nat.le_of_ble_eq_true rfl, Nat.le_refl _, Nat.le_refl _⟩ rfl ml_X2_112 ly_40 (by decide) (by decide) rfl rfl (Nat.le_of_ble_eq_true rfl) dX2_findPairs_99 ?_
      refine P.if_eq_b (tgt := 118) dX2_findPairs_102 (by decide) (fun c_102 => ?_) (fun c_102 => ?_)
      · refine P.iinc dX2_findPairs_118 rfl (inc1 _) (by decide) ?_
        refine P.goto (tgt := 52) dX2_findPairs_121 (by decide) ?_
        show Pm G _ _ _ _ 52 [some (.ref (ad G 40)), some (.ref (ad G (43 + w))), some (.int (nI S)), some (.int (nI (those2 D W w S))), some (.int (nI i)), some (.int (nI (j + 1)))] [] (wrL f (pairI D W w S i j (pairL D W w S i))) l
        exact Pm.to (ihj) (by simp [lle]) rfl (by simp [pairI, fl_s, c_46, c_56, c_65, c_74, c_102]) rfl
      refine P.aload_n dX2_findPairs_105 rfl rfl ?_
      refine P.iconst dX2_findPairs_106 ic_1 ?_
      refine P.iload dX2_findPairs_107 rfl ?_
      refine P.ishl dX2_findPairs_109 (n_bit (by omega)) ?_
      refine P.iconst dX2_findPairs_110 ic_1 ?_
      refine P.iload dX2_findPairs_111 rfl ?_
      refine P.ishl dX2_findPairs_113 (n_bit (by omega)) ?_
      refine P.ior_n dX2_findPairs_114 (n_or _ _) ?_
      refine P.callV (As := [.int (nI ((2 ^ i) ||| (2 ^ j)))]) (rest := []) (s_addFound (L := (pairI D W w S i j (pairL D W w S i))) (s := ((2 ^ i) ||| (2 ^ j))) (by omega)) ok_X2_addFound ⟨Nat.le_of_ble_eq_true rfl, Nat.le_of_ble_eq_true rfl, Nat.le_refl _, Nat.le_refl _⟩ rfl ml_X2_76 ly_40 (by decide) (by decide) rfl rfl (Nat.le_of_ble_eq_true rfl) dX2_findPairs_115 ?_
      refine P.iinc dX2_findPairs_118 rfl (inc1 _) (by decide) ?_
      refine P.goto (tgt := 52) dX2_findPairs_121 (by decide) ?_
      show Pm G _ _ _ _ 52 [some (.ref (ad G 40)), some (.ref (ad G (43 + w))), some (.int (nI S)), some (.int (nI (those2 D W w S))), some (.int (nI i)), some (.int (nI (j + 1)))] [] (wrL f ((pairI D W w S i j (pairL D W w S i)) ++ [((2 ^ i) ||| (2 ^ j))])) l
      exact Pm.to (ihj) (by simp [lle]) rfl (by simp [pairI, fl_s, c_46, c_56, c_65, c_74, c_102]) rfl
    · show Pm G _ _ _ _ 52 [some (.ref (ad G 40)), some (.ref (ad G (43 + w))), some (.int (nI S)), some (.int (nI (those2 D W w S))), some (.int (nI i)), some (.int (nI i))] [] (wrL f (pairI D W w S i i (pairL D W w S i))) l
      refine P.iload dX2_findPairs_52 rfl ?_
      refine P.iload dX2_findPairs_54 rfl ?_
      refine P.icmp_ge_n (tgt := 124) dX2_findPairs_56 (by decide) (by omega) (by omega) (fun c_56 => ?_) (fun c_56 => ?_)
      · refine P.iinc dX2_findPairs_124 rfl (inc1 _) (by decide) ?_
        refine P.goto (tgt := 37) dX2_findPairs_127 (by decide) ?_
        show Pm G _ _ _ _ 37 [some (.ref (ad G 40)), some (.ref (ad G (43 + w))), some (.int (nI S)), some (.int (nI (those2 D W w S))), some (.int (nI (i + 1))), some (.int (nI i))] [] (wrL f (pairI D W w S i i (pairL D W w S i))) l
        exact Pm.to (ihi) (by simp [lle]) rfl rfl rfl
      · exfalso; omega
  · show Pm G _ _ _ _ 37 [some (.ref (ad G 40)), some (.ref (ad G (43 + w))), some (.int (nI S)), some (.int (nI (those2 D W w S))), some (.int (nI (max 1 D.1))), none] [] (wrL f (pairL D W w S (max 1 D.1))) l
    refine P.iload dX2_findPairs_37 rfl ?_
    refine P.aload_n dX2_findPairs_39 rfl rfl ?_
    refine g_X2_rows (q := 2) ly_40 (by decide) (by decide) fl_X2_21 dX2_findPairs_40 ?_
    refine g_X7_many ly_2 (by decide) fl_X2_59 dX2_findPairs_43 ?_
    refine Pm.topn (b := D.1) (((wrL_ne _ _ (by omega) (by omega)).trans hV.1)) ?_
    refine P.icmp_ge_n (tgt := 130) dX2_findPairs_46 (by decide) (by omega) (by omega) (fun c_46 => ?_) (fun c_46 => ?_)
    · exact P.vret rfl dX2_findPairs_130 (by rw [pairL_max])
    · exfalso; omega

set_option maxRecDepth 20000 in
theorem s_findSums {G : GG} {f : Nat → Nat → Nat} {l : Nat → Nat → Int64} {D : DB} (hV : RV f l D) (hD : DW D) {W : LB} (hL : LV f l W) {w S : Nat} (hw : w < 10) (hW : LOK W w) (hS : S < 4096) : Spec G mX2_findSums [.ref (ad G 40), .ref (ad G (43 + w)), .int (nI S)] 114 (wrL f ([]), l, refT) none 114 (wrL f (sumQ D W w S D.1), l, refT) := by
  have hR := hD.1
  have hW0 := hW
  obtain ⟨hk, ht, ha, hb, hu, hf⟩ := hW
  have h2 := those2_lt hD W w S
  have h4 := those4_lt hD W w S
  refine Spec.of ok_X2_findSums.1 ⟨Nat.le_refl _, Nat.le_refl _⟩ (Nat.le_of_ble_eq_true rfl) ?_
  show Pm G RX2 cX2_findSums 9 (KM G mX2_findSums 114 114 none (wrL f (sumQ D W w S D.1), l, refT)) 0 [some (.ref (ad G 40)), some (.ref (ad G (43 + w))), some (.int (nI S)), none, none, none, none, none, none] [] (wrL f ([])) l
  refine P.aload_n dX2_findSums_0 rfl rfl ?_
  refine g_X2_rows (q := 2) ly_40 (by decide) (by decide) fl_X2_21 dX2_findSums_1 ?_
  refine P.aload_n dX2_findSums_4 rfl rfl ?_
  refine g_X1_table (ly_law (r := w) (by omega)) (by omega) fl_X2_33 dX2_findSums_5 ?_
  refine Pm.topn (b := W.2.1 w 1) (((wrL_ne _ _ (by omega) (by omega)).trans (hL.2.1 w (by omega) 1))) ?_
  refine P.aload_n dX2_findSums_8 rfl rfl ?_
  refine g_X1_first (ly_law (r := w) (by omega)) (by omega) fl_X2_84 dX2_findSums_9 ?_
  refine Pm.topn (b := W.2.1 w 2) (((wrL_ne _ _ (by omega) (by omega)).trans (hL.2.1 w (by omega) 2))) ?_
  refine P.iload_n dX2_findSums_12 rfl rfl ?_
  refine P.callV (As := [.int (nI (W.2.1 w 1)), .int (nI (W.2.1 w 2)), .int (nI S)]) (rest := []) (s_withCell (RV_wrL hV _) hD (by omega) (by omega) (by omega)) ok_X7_withCell ⟨Nat.le_of_ble_eq_true rfl, Nat.le_of_ble_eq_true rfl, Nat.le_refl _, Nat.le_refl _⟩ rfl ml_X2_98 ly_2 (by decide) (by decide) rfl rfl (Nat.le_of_ble_eq_true rfl) dX2_findSums_13 ?_
  refine P.aload_n dX2_findSums_16 rfl rfl ?_
  refine g_X2_rows (q := 2) ly_40 (by decide) (by decide) fl_X2_21 dX2_findSums_17 ?_
  refine P.aload_n dX2_findSums_20 rfl rfl ?_
  refine g_X1_table (ly_law (r := w) (by omega)) (by omega) fl_X2_33 dX2_findSums_21 ?_
  refine Pm.topn (b := W.2.1 w 1) (((wrL_ne _ _ (by omega) (by omega)).trans (hL.2.1 w (by omega) 1))) ?_
  refine P.aload_n dX2_findSums_24 rfl rfl ?_
  refine g_X1_second (ly_law (r := w) (by omega)) (by omega) fl_X2_105 dX2_findSums_25 ?_
  refine Pm.topn (b := W.2.1 w 3) (((wrL_ne _ _ (by omega) (by omega)).trans (hL.2.1 w (by omega) 3))) ?_
  refine P.iload_n dX2_findSums_28 rfl rfl ?_
  refine P.callV (As := [.int (nI (W.2.1 w 1)), .int (nI (W.2.1 w 3)), .int (nI S)]) (rest := [.int (nI (withC D (W.2.1 w 1) (W.2.1 w 2) S))]) (s_withCell (RV_wrL hV _) hD (by omega) (by omega) (by omega)) ok_X7_withCell ⟨Nat.le_of_ble_eq_true rfl, Nat.le_of_ble_eq_true rfl, Nat.le_refl _, Nat.le_refl _⟩ rfl ml_X2_98 ly_2 (by decide) (by decide) rfl rfl (Nat.le_of_ble_eq_true rfl) dX2_findSums_29 ?_
  refine P.iand_n dX2_findSums_32 (v := nI (those2 D W w S)) (n_and _ _) ?_
  refine P.istore_n dX2_findSums_33 rfl (by decide) ?_
  refine P.aload_n dX2_findSums_34 rfl rfl ?_
  refine g_X2_rows (q := 2) ly_40 (by decide) (by decide) fl_X2_21 dX2_findSums_35 ?_
  refine P.aload_n dX2_findSums_38 rfl rfl ?_
  refine g_X1_second (ly_law (r := w) (by omega)) (by omega) fl_X2_105 dX2_findSums_39 ?_
  refine Pm.topn (b := W.2.1 w 3) (((wrL_ne _ _ (by omega) (by omega)).trans (hL.2.1 w (by omega) 3))) ?_
  refine P.iload_n dX2_findSums_42 rfl rfl ?_
  refine P.callV (As := [.int (nI (W.2.1 w 3)), .int (nI (those2 D W w S))]) (rest := []) (s_aboveZero (RV_wrL hV _) hD (by omega) (by omega)) ok_X7_aboveZero ⟨Nat.le_of_ble_eq_true rfl, Nat.le_of_ble_eq_true rfl, Nat.le_refl _, Nat.le_refl _⟩ rfl ml_X2_120 ly_2 (by decide) (by decide) rfl rfl (Nat.le_of_ble_eq_true rfl) dX2_findSums_43 ?_
  refine P.istore_n dX2_findSums_46 rfl (by decide) ?_
  refine P.iconst dX2_findSums_47 ic_0 ?_
  refine P.istore dX2_findSums_48 (by decide) ?_
  refine loop_up (M := fun (i : Nat) => Pm G _ _ _ _ 50 [some (.ref (ad G 40)), some (.ref (ad G (43 + w))), some (.int (nI S)), some (.int (nI (those4 D W w S))), some (.int (nI i)), none, none, none, none] [] (wrL f (sumQ D W w S i)) l) (lo := 0) (N := D.1) (by first | exact Nat.zero_le _ | omega) (fun i hi0 hi1 ihi => ?_) ?_
  · have hlo := lowS_lt D W w S i
    have hp : 2 ^ i ≤ 2 ^ 11 := Nat.pow_le_pow_right (by decide) (by omega)
    have hln := sumQ_len D W w S i
    show Pm G _ _ _ _ 50 [some (.ref (ad G 40)), some (.ref (ad G (43 + w))), some (.int (nI S)), some (.int (nI (those4 D W w S))), some (.int (nI i)), none, none, none, none] [] (wrL f (sumQ D W w S i)) l
    refine P.iload dX2_findSums_50 rfl ?_
    refine P.aload_n dX2_findSums_52 rfl rfl ?_
    refine g_X2_rows (q := 2) ly_40 (by decide) (by decide) fl_X2_21 dX2_findSums_53 ?_
    refine g_X7_many ly_2 (by decide) fl_X2_59 dX2_findSums_56 ?_
    refine Pm.topn (b := D.1) (((wrL_ne _ _ (by omega) (by omega)).trans hV.1)) ?_
    refine P.icmp_ge_n (tgt := 173) dX2_findSums_59 (by decide) (by omega) (by omega) (fun c_59 => ?_) (fun c_59 => ?_)
    · exfalso; omega
    refine P.iload_n dX2_findSums_62 rfl rfl ?_
    refine P.iload dX2_findSums_63 rfl ?_
    refine P.callSN (As := [.int (nI (those4 D W w S)), .int (nI i)]) (rest := []) (s_isIn (s := (those4 D W w S)) (r := i) (by omega) (by omega)) ok_X9_isIn ⟨Nat.le_of_ble_eq_true rfl, Nat.le_of_ble_eq_true rfl, Nat.le_refl _, Nat.le_refl _⟩ rfl mn_X2_62 rfl (Nat.le_of_ble_eq_true rfl) dX2_findSums_65 ?_
    refine P.if_eq_b (tgt := 167) dX2_findSums_68 (by decide) (fun c_68 => ?_) (fun c_68 => ?_)
    · refine P.iinc dX2_findSums_167 rfl (inc1 _) (by decide) ?_
      refine P.goto (tgt := 50) dX2_findSums_170 (by decide) ?_
      show Pm G _ _ _ _ 50 [some (.ref (ad G 40)), some (.ref (ad G (43 + w))), some (.int (nI S)), some (.int (nI (those4 D W w S))), some (.int (nI (i + 1))), none, none, none, none] [] (wrL f (sumQ D W w S i)) l
      exact Pm.to (ihi) (by simp [lle]) rfl (by simp [sumQ_s, c_59, c_68]) rfl
    refine P.aload_n dX2_findSums_71 rfl rfl ?_
    refine g_X2_rows (q := 2) ly_40 (by decide) (by decide) fl_X2_21 dX2_findSums_72 ?_
    refine g_X7_list (q := 3) ly_2 (by decide) (by decide) fl_X2_66 dX2_findSums_75 ?_
    refine P.iload dX2_findSums_78 rfl ?_
    refine a_r6 (q := 4 + 3 * i) ly_3 (by decide) (by omega) (by decide) (rt_row (r := i) (by omega)) dX2_findSums_80 ?_
    refine g_X6_numbers (q := 5 + 3 * i) (ly_row (r := i) (by omega)) (by omega) (rt_num (r := i) (by omega)) fl_X2_87 dX2_findSums_81 ?_
    refine P.aload_n dX2_findSums_84 rfl rfl ?_
    refine g_X1_first (ly_law (r := w) (by omega)) (by omega) fl_X2_84 dX2_findSums_85 ?_
    refine Pm.topn (b := W.2.1 w 2) (((wrL_ne _ _ (by omega) (by omega)).trans (hL.2.1 w (by omega) 2))) ?_
    refine a_la (ly_num (r := i) (by omega)) (by omega) (by omega) (by decide) dX2_findSums_88 ?_
    refine Pm.topl (b := D.2.2.2 i (W.2.1 w 2)) ((hV.2.2.2 i (by omega) (W.2.1 w 2))) ?_
    refine P.lstore dX2_findSums_89 (by decide) (Nat.le_of_ble_eq_true rfl) ?_
    refine P.aload_n dX2_findSums_91 rfl rfl ?_
    refine g_X2_rows (q := 2) ly_40 (by decide) (by decide) fl_X2_21 dX2_findSums_92 ?_
    refine P.aload_n dX2_findSums_95 rfl rfl ?_
    refine g_X1_table (ly_law (r := w) (by omega)) (by omega) fl_X2_33 dX2_findSums_96 ?_
    refine Pm.topn (b := W.2.1 w 1) (((wrL_ne _ _ (by omega) (by omega)).trans (hL.2.1 w (by omega) 1))) ?_
    refine P.aload_n dX2_findSums_99 rfl rfl ?_
    refine g_X1_first (ly_law (r := w) (by omega)) (by omega) fl_X2_84 dX2_findSums_100 ?_
    refine Pm.topn (b := W.2.1 w 2) (((wrL_ne _ _ (by omega) (by omega)).trans (hL.2.1 w (by omega) 2))) ?_
    refine P.lload dX2_findSums_103 rfl ?_
    refine P.iload_n dX2_findSums_105 rfl rfl ?_
    refine P.callV (As := [.int (nI (W.2.1 w 1)), .int (nI (W.2.1 w 2)), .long (D.2.2.2 i (W.2.1 w 2)), .int (nI (those4 D W w S))]) (rest := []) (s_withNumber (RV_wrL hV _) hD (by omega) (by omega) (by omega)) ok_X7_withNumber ⟨Nat.le_of_ble_eq_true rfl, Nat.le_of_ble_eq_true rfl, Nat.le_refl _, Nat.le_refl _⟩ rfl ml_X2_108 ly_2 (by decide) (by decide) rfl rfl (Nat.le_of_ble_eq_true rfl) dX2_findSums_106 ?_
    refine P.iconst dX2_findSums_109 ic_1 ?_
    refine P.iload dX2_findSums_110 rfl ?_
    refine P.ishl dX2_findSums_112 (n_bit (by omega)) ?_
    refine P.iconst dX2_findSums_113 ic_1 ?_
    refine P.isub_n dX2_findSums_114 (pk_sub Nat.one_le_two_pow) ?_
    refine P.iand_n dX2_findSums_115 (v := nI (lowS D W w S i)) (n_and _ _) ?_
    refine P.istore dX2_findSums_116 (by decide) ?_
    refine P.iconst dX2_findSums_118 ic_0 ?_
    refine P.istore dX2_findSums_119 (by decide) ?_
    refine loop_up (M := fun (j : Nat) => Pm G _ _ _ _ 121 [some (.ref (ad G 40)), some (.ref (ad G (43 + w))), some (.int (nI S)), some (.int (nI (those4 D W w S))), some (.int (nI i)), some (.long (D.2.2.2 i (W.2.1 w 2))), none, some (.int (nI (lowS D W w S i))), some (.int (nI j))] [] (wrL f (sumI D W w S i j (sumQ D W w S i))) l) (lo := 0) (N := (lowS D W w S i + 1)) (by first | exact Nat.zero_le _ | omega) (fun j hj0 hj1 ihj => ?_) ?_
    · have hln2 := sumI_len D W w S i j (sumQ D W w S i)
      show Pm G _ _ _ _ 121 [some (.ref (ad G 40)), some (.ref (ad G (43 + w))), some (.int (nI S)), some (.int (nI (those4 D W w S))), some (.int (nI i)), some (.long (D.2.2.2 i (W.2.1 w 2))), none, some (.int (nI (lowS D W w S i))), some (.int (nI j))] [] (wrL f (sumI D W w S i j (sumQ D W w S i))) l
      refine P.iload dX2_findSums_121 rfl ?_
      refine P.iload dX2_findSums_123 rfl ?_
      refine P.icmp_gt_n (tgt := 167) dX2_findSums_125 (by decide) (by omega) (by omega) (fun c_125 => ?_) (fun c_125 => ?_)
      · exfalso; omega
      refine P.iload dX2_findSums_128 rfl ?_
      refine P.iload dX2_findSums_130 rfl ?_
      refine P.iconst (v := -1) dX2_findSums_132 rfl ?_
      refine P.ixor dX2_findSums_133 ?_
      refine P.iand_n dX2_findSums_134 (n_not _ _) ?_
      refine P.if_ne_n (tgt := 161) dX2_findSums_135 (by decide) (by have := sd_le j (lowS D W w S i); omega) (fun c_135 => ?_) (fun c_135 => ?_)
      · refine P.iinc dX2_findSums_161 rfl (inc1 _) (by decide) ?_
        refine P.goto (tgt := 121) dX2_findSums_164 (by decide) ?_
        show Pm G _ _ _ _ 121 [some (.ref (ad G 40)), some (.ref (ad G (43 + w))), some (.int (nI S)), some (.int (nI (those4 D W w S))), some (.int (nI i)), some (.long (D.2.2.2 i (W.2.1 w 2))), none, some (.int (nI (lowS D W w S i))), some (.int (nI (j + 1)))] [] (wrL f (sumI D W w S i j (sumQ D W w S i))) l
        exact Pm.to (ihj) (by simp [lle]) rfl (by simp [sumI, fl_s, c_59, c_68, c_125, c_135]) rfl
      refine P.aload_n dX2_findSums_138 rfl rfl ?_
      refine P.aload_n dX2_findSums_139 rfl rfl ?_
      refine P.iload dX2_findSums_140 rfl ?_
      refine P.iload dX2_findSums_142 rfl ?_
      refine P.callV (As := [.ref (ad G (43 + w)), .int (nI i), .int (nI j)]) (rest := []) (s_leastS (RV_wrL hV _) hD (LV_wrL hL _) hw hW0 (by omega) (by omega)) ok_X2_isLeastSum ⟨Nat.le_of_ble_eq_true rfl, Nat.le_of_ble_eq_true rfl, Nat.le_refl _, Nat.le_refl _⟩ rfl ml_X2_124 ly_40 (by decide) (by decide) rfl rfl (Nat.le_of_ble_eq_true rfl) dX2_findSums_144 ?_
      refine P.if_eq_b (tgt := 161) dX2_findSums_147 (by decide) (fun c_147 => ?_) (fun c_147 => ?_)
      · refine P.iinc dX2_findSums_161 rfl (inc1 _) (by decide) ?_
        refine P.goto (tgt := 121) dX2_findSums_164 (by decide) ?_
        show Pm G _ _ _ _ 121 [some (.ref (ad G 40)), some (.ref (ad G (43 + w))), some (.int (nI S)), some (.int (nI (those4 D W w S))), some (.int (nI i)), some (.long (D.2.2.2 i (W.2.1 w 2))), none, some (.int (nI (lowS D W w S i))), some (.int (nI (j + 1)))] [] (wrL f (sumI D W w S i j (sumQ D W w S i))) l
        exact Pm.to (ihj) (by simp [lle]) rfl (by simp [sumI, fl_s, c_59, c_68, c_125, c_135, c_147]) rfl
      refine P.aload_n dX2_findSums_150 rfl rfl ?_
      refine P.iconst dX2_findSums_151 ic_1 ?_
      refine P.iload dX2_findSums_152 rfl ?_
      refine P.ishl dX2_findSums_154 (n_bit (by omega)) ?_
      refine P.iload dX2_findSums_155 rfl ?_
      refine P.ior_n dX2_findSums_157 (n_or _ _) ?_
      refine P.callV (As := [.int (nI ((2 ^ i) ||| j))]) (rest := []) (s_addFound (L := (sumI D W w S i j (sumQ D W w S i))) (s := ((2 ^ i) ||| j)) (by omega)) ok_X2_addFound ⟨Nat.le_of_ble_eq_true rfl, Nat.le_of_ble_eq_true rfl, Nat.le_refl _, Nat.le_refl _⟩ rfl ml_X2_76 ly_40 (by decide) (by decide) rfl rfl (Nat.le_of_ble_eq_true rfl) dX2_findSums_158 ?_
      refine P.iinc dX2_findSums_161 rfl (inc1 _) (by decide) ?_
      refine P.goto (tgt := 121) dX2_findSums_164 (by decide) ?_
      show Pm G _ _ _ _ 121 [some (.ref (ad G 40)), some (.ref (ad G (43 + w))), some (.int (nI S)), some (.int (nI (those4 D W w S))), some (.int (nI i)), some (.long (D.2.2.2 i (W.2.1 w 2))), none, some (.int (nI (lowS D W w S i))), some (.int (nI (j + 1)))] [] (wrL f ((sumI D W w S i j (sumQ D W w S i)) ++ [((2 ^ i) ||| j)])) l
      exact Pm.to (ihj) (by simp [lle]) rfl (by simp [sumI, fl_s, c_59, c_68, c_125, c_135, c_147]) rfl
    · show Pm G _ _ _ _ 121 [some (.ref (ad G 40)), some (.ref (ad G (43 + w))), some (.int (nI S)), some (.int (nI (those4 D W w S))), some (.int (nI i)), some (.long (D.2.2.2 i (W.2.1 w 2))), none, some (.int (nI (lowS D W w S i))), some (.int (nI (lowS D W w S i + 1)))] [] (wrL f (sumI D W w S i (lowS D W w S i + 1) (sumQ D W w S i))) l
      refine P.iload dX2_findSums_121 rfl ?_
      refine P.iload dX2_findSums_123 rfl ?_
      refine P.icmp_gt_n (tgt := 167) dX2_findSums_125 (by decide) (by omega) (by omega) (fun c_125 => ?_) (fun c_125 => ?_)
      · refine P.iinc dX2_findSums_167 rfl (inc1 _) (by decide) ?_
        refine P.goto (tgt := 50) dX2_findSums_170 (by decide) ?_
        show Pm G _ _ _ _ 50 [some (.ref (ad G 40)), some (.ref (ad G (43 + w))), some (.int (nI S)), some (.int (nI (those4 D W w S))), some (.int (nI (i + 1))), some (.long (D.2.2.2 i (W.2.1 w 2))), none, some (.int (nI (lowS D W w S i))), some (.int (nI (lowS D W w S i + 1)))] [] (wrL f (sumI D W w S i (lowS D W w S i + 1) (sumQ D W w S i))) l
        exact Pm.to (ihi) (by simp [lle]) rfl (by simp [sumQ_s, c_59, c_68, c_125]) rfl
      · exfalso; omega
  · show Pm G _ _ _ _ 50 [some (.ref (ad G 40)), some (.ref (ad G (43 + w))), some (.int (nI S)), some (.int (nI (those4 D W w S))), some (.int (nI D.1)), none, none, none, none] [] (wrL f (sumQ D W w S D.1)) l
    refine P.iload dX2_findSums_50 rfl ?_
    refine P.aload_n dX2_findSums_52 rfl rfl ?_
    refine g_X2_rows (q := 2) ly_40 (by decide) (by decide) fl_X2_21 dX2_findSums_53 ?_
    refine g_X7_many ly_2 (by decide) fl_X2_59 dX2_findSums_56 ?_
    refine Pm.topn (b := D.1) (((wrL_ne _ _ (by omega) (by omega)).trans hV.1)) ?_
    refine P.icmp_ge_n (tgt := 173) dX2_findSums_59 (by decide) (by omega) (by omega) (fun c_59 => ?_) (fun c_59 => ?_)
    · exact P.vret rfl dX2_findSums_173 rfl
    · exfalso; omega

set_option maxRecDepth 20000 in
theorem s_find0 {G : GG} {f : Nat → Nat → Nat} {l : Nat → Nat → Int64} {D : DB} (hV : RV f l D) (hD : DW D) {W : LB} (hL : LV f l W) {w S : Nat} (hw : w < 10) (hW : LOK W w) (hS : S < 4096) (hk : W.2.1 w 0 = 0) : Spec G mX2_find [.ref (ad G 40), .ref (ad G (43 + w)), .int (nI S)] 114 (f, l, refT) none 114 (wrL f (cQ D W w S), l, refT) := by
  refine Spec.of ok_X2_find.1 ⟨Nat.le_refl _, Nat.le_refl _⟩ (Nat.le_of_ble_eq_true rfl) ?_
  show Pm G RX2 cX2_find 3 (KM G mX2_find 114 114 none (wrL f (cQ D W w S), l, refT)) 0 [some (.ref (ad G 40)), some (.ref (ad G (43 + w))), some (.int (nI S))] [] f l
  refine P.aload_n dX2_find_0 rfl rfl ?_
  refine P.iconst dX2_find_1 ic_0 ?_
  refine p_X2_manyFound (a := 0) ly_40 (by decide) fl_X2_44 dX2_find_2 rfl ?_
  refine Pm.cf (wrL_0 f) ?_
  refine P.aload_n dX2_find_5 rfl rfl ?_
  refine g_X1_kind (ly_law (r := w) (by omega)) (by omega) fl_X2_30 dX2_find_6 ?_
  refine Pm.topn (b := W.2.1 w 0) (((wrL_ne _ _ (by omega) (by omega)).trans (hL.2.1 w (by omega) 0))) ?_
  refine Pm.topn (b := 0) hk ?_
  refine P.tableIn (off := 39) (tgt := 48) dX2_find_9 (by decide) (by decide) rfl (by decide) ?_
  refine P.aload_n dX2_find_48 rfl rfl ?_
  refine P.aload_n dX2_find_49 rfl rfl ?_
  refine P.iload_n dX2_find_50 rfl rfl ?_
  refine P.callV (As := [.ref (ad G (43 + w)), .int (nI S)]) (rest := []) (s_findPairs hV hD hL hw hW hS) ok_X2_findPairs ⟨Nat.le_of_ble_eq_true rfl, Nat.le_of_ble_eq_true rfl, Nat.le_refl _, Nat.le_refl _⟩ rfl ml_X2_47 ly_40 (by decide) (by decide) rfl rfl (Nat.le_of_ble_eq_true rfl) dX2_find_51 ?_
  refine P.goto (tgt := 81) dX2_find_54 (by decide) ?_
  exact P.vret rfl dX2_find_81 (by rw [show cQ D W w S = pairL D W w S D.1 from by simp [cQ, hk]])

set_option maxRecDepth 20000 in
theorem s_find1 {G : GG} {f : Nat → Nat → Nat} {l : Nat → Nat → Int64} {D : DB} (hV : RV f l D) (hD : DW D) {W : LB} (hL : LV f l W) {w S : Nat} (hw : w < 10) (hW : LOK W w) (hS : S < 4096) (hk : W.2.1 w 0 = 1) : Spec G mX2_find [.ref (ad G 40), .ref (ad G (43 + w)), .int (nI S)] 114 (f, l, refT) none 114 (wrL f (cQ D W w S), l, refT) := by
  refine Spec.of ok_X2_find.1 ⟨Nat.le_refl _, Nat.le_refl _⟩ (Nat.le_of_ble_eq_true rfl) ?_
  show Pm G RX2 cX2_find 3 (KM G mX2_find 114 114 none (wrL f (cQ D W w S), l, refT)) 0 [some (.ref (ad G 40)), some (.ref (ad G (43 + w))), some (.int (nI S))] [] f l
  refine P.aload_n dX2_find_0 rfl rfl ?_
  refine P.iconst dX2_find_1 ic_0 ?_
  refine p_X2_manyFound (a := 0) ly_40 (by decide) fl_X2_44 dX2_find_2 rfl ?_
  refine Pm.cf (wrL_0 f) ?_
  refine P.aload_n dX2_find_5 rfl rfl ?_
  refine g_X1_kind (ly_law (r := w) (by omega)) (by omega) fl_X2_30 dX2_find_6 ?_
  refine Pm.topn (b := W.2.1 w 0) (((wrL_ne _ _ (by omega) (by omega)).trans (hL.2.1 w (by omega) 0))) ?_
  refine Pm.topn (b := 1) hk ?_
  refine P.tableIn (off := 66) (tgt := 75) dX2_find_9 (by decide) (by decide) rfl (by decide) ?_
  refine P.aload_n dX2_find_75 rfl rfl ?_
  refine P.aload_n dX2_find_76 rfl rfl ?_
  refine P.iload_n dX2_find_77 rfl rfl ?_
  refine P.callV (As := [.ref (ad G (43 + w)), .int (nI S)]) (rest := []) (s_findSingles hV hD hL hw hW hS) ok_X2_findSingles ⟨Nat.le_of_ble_eq_true rfl, Nat.le_of_ble_eq_true rfl, Nat.le_refl _, Nat.le_refl _⟩ rfl ml_X2_56 ly_40 (by decide) (by decide) rfl rfl (Nat.le_of_ble_eq_true rfl) dX2_find_78 ?_
  exact P.vret rfl dX2_find_81 (by rw [show cQ D W w S = singL D W w S D.1 from by simp [cQ, hk]])

set_option maxRecDepth 20000 in
theorem s_find2 {G : GG} {f : Nat → Nat → Nat} {l : Nat → Nat → Int64} {D : DB} (hV : RV f l D) (hD : DW D) {W : LB} (hL : LV f l W) {w S : Nat} (hw : w < 10) (hW : LOK W w) (hS : S < 4096) (hk : W.2.1 w 0 = 2) : Spec G mX2_find [.ref (ad G 40), .ref (ad G (43 + w)), .int (nI S)] 114 (f, l, refT) none 114 (wrL f (cQ D W w S), l, refT) := by
  refine Spec.of ok_X2_find.1 ⟨Nat.le_refl _, Nat.le_refl _⟩ (Nat.le_of_ble_eq_true rfl) ?_
  show Pm G RX2 cX2_find 3 (KM G mX2_find 114 114 none (wrL f (cQ D W w S), l, refT)) 0 [some (.ref (ad G 40)), some (.ref (ad G (43 + w))), some (.int (nI S))] [] f l
  refine P.aload_n dX2_find_0 rfl rfl ?_
  refine P.iconst dX2_find_1 ic_0 ?_
  refine p_X2_manyFound (a := 0) ly_40 (by decide) fl_X2_44 dX2_find_2 rfl ?_
  refine Pm.cf (wrL_0 f) ?_
  refine P.aload_n dX2_find_5 rfl rfl ?_
  refine g_X1_kind (ly_law (r := w) (by omega)) (by omega) fl_X2_30 dX2_find_6 ?_
  refine Pm.topn (b := W.2.1 w 0) (((wrL_ne _ _ (by omega) (by omega)).trans (hL.2.1 w (by omega) 0))) ?_
  refine Pm.topn (b := 2) hk ?_
  refine P.tableIn (off := 39) (tgt := 48) dX2_find_9 (by decide) (by decide) rfl (by decide) ?_
  refine P.aload_n dX2_find_48 rfl rfl ?_
  refine P.aload_n dX2_find_49 rfl rfl ?_
  refine P.iload_n dX2_find_50 rfl rfl ?_
  refine P.callV (As := [.ref (ad G (43 + w)), .int (nI S)]) (rest := []) (s_findPairs hV hD hL hw hW hS) ok_X2_findPairs ⟨Nat.le_of_ble_eq_true rfl, Nat.le_of_ble_eq_true rfl, Nat.le_refl _, Nat.le_refl _⟩ rfl ml_X2_47 ly_40 (by decide) (by decide) rfl rfl (Nat.le_of_ble_eq_true rfl) dX2_find_51 ?_
  refine P.goto (tgt := 81) dX2_find_54 (by decide) ?_
  exact P.vret rfl dX2_find_81 (by rw [show cQ D W w S = pairL D W w S D.1 from by simp [cQ, hk]])

set_option maxRecDepth 20000 in
theorem s_find3 {G : GG} {f : Nat → Nat → Nat} {l : Nat → Nat → Int64} {D : DB} (hV : RV f l D) (hD : DW D) {W : LB} (hL : LV f l W) {w S : Nat} (hw : w < 10) (hW : LOK W w) (hS : S < 4096) (hk : W.2.1 w 0 = 3) : Spec G mX2_find [.ref (ad G 40), .ref (ad G (43 + w)), .int (nI S)] 114 (f, l, refT) none 114 (wrL f (cQ D W w S), l, refT) := by
  refine Spec.of ok_X2_find.1 ⟨Nat.le_refl _, Nat.le_refl _⟩ (Nat.le_of_ble_eq_true rfl) ?_
  show Pm G RX2 cX2_find 3 (KM G mX2_find 114 114 none (wrL f (cQ D W w S), l, refT)) 0 [some (.ref (ad G 40)), some (.ref (ad G (43 + w))), some (.int (nI S))] [] f l
  refine P.aload_n dX2_find_0 rfl rfl ?_
  refine P.iconst dX2_find_1 ic_0 ?_
  refine p_X2_manyFound (a := 0) ly_40 (by decide) fl_X2_44 dX2_find_2 rfl ?_
  refine Pm.cf (wrL_0 f) ?_
  refine P.aload_n dX2_find_5 rfl rfl ?_
  refine g_X1_kind (ly_law (r := w) (by omega)) (by omega) fl_X2_30 dX2_find_6 ?_
  refine Pm.topn (b := W.2.1 w 0) (((wrL_ne _ _ (by omega) (by omega)).trans (hL.2.1 w (by omega) 0))) ?_
  refine Pm.topn (b := 3) hk ?_
  refine P.tableIn (off := 66) (tgt := 75) dX2_find_9 (by decide) (by decide) rfl (by decide) ?_
  refine P.aload_n dX2_find_75 rfl rfl ?_
  refine P.aload_n dX2_find_76 rfl rfl ?_
  refine P.iload_n dX2_find_77 rfl rfl ?_
  refine P.callV (As := [.ref (ad G (43 + w)), .int (nI S)]) (rest := []) (s_findSingles hV hD hL hw hW hS) ok_X2_findSingles ⟨Nat.le_of_ble_eq_true rfl, Nat.le_of_ble_eq_true rfl, Nat.le_refl _, Nat.le_refl _⟩ rfl ml_X2_56 ly_40 (by decide) (by decide) rfl rfl (Nat.le_of_ble_eq_true rfl) dX2_find_78 ?_
  exact P.vret rfl dX2_find_81 (by rw [show cQ D W w S = singL D W w S D.1 from by simp [cQ, hk]])

set_option maxRecDepth 20000 in
theorem s_find4 {G : GG} {f : Nat → Nat → Nat} {l : Nat → Nat → Int64} {D : DB} (hV : RV f l D) (hD : DW D) {W : LB} (hL : LV f l W) {w S : Nat} (hw : w < 10) (hW : LOK W w) (hS : S < 4096) (hk : W.2.1 w 0 = 4) : Spec G mX2_find [.ref (ad G 40), .ref (ad G (43 + w)), .int (nI S)] 114 (f, l, refT) none 114 (wrL f (cQ D W w S), l, refT) := by
  refine Spec.of ok_X2_find.1 ⟨Nat.le_refl _, Nat.le_refl _⟩ (Nat.le_of_ble_eq_true rfl) ?_
  show Pm G RX2 cX2_find 3 (KM G mX2_find 114 114 none (wrL f (cQ D W w S), l, refT)) 0 [some (.ref (ad G 40)), some (.ref (ad G (43 + w))), some (.int (nI S))] [] f l
  refine P.aload_n dX2_find_0 rfl rfl ?_
  refine P.iconst dX2_find_1 ic_0 ?_
  refine p_X2_manyFound (a := 0) ly_40 (by decide) fl_X2_44 dX2_find_2 rfl ?_
  refine Pm.cf (wrL_0 f) ?_
  refine P.aload_n dX2_find_5 rfl rfl ?_
  refine g_X1_kind (ly_law (r := w) (by omega)) (by omega) fl_X2_30 dX2_find_6 ?_
  refine Pm.topn (b := W.2.1 w 0) (((wrL_ne _ _ (by omega) (by omega)).trans (hL.2.1 w (by omega) 0))) ?_
  refine Pm.topn (b := 4) hk ?_
  refine P.tableIn (off := 48) (tgt := 57) dX2_find_9 (by decide) (by decide) rfl (by decide) ?_
  refine P.aload_n dX2_find_57 rfl rfl ?_
  refine P.aload_n dX2_find_58 rfl rfl ?_
  refine P.iload_n dX2_find_59 rfl rfl ?_
  refine P.callV (As := [.ref (ad G (43 + w)), .int (nI S)]) (rest := []) (s_findSums hV hD hL hw hW hS) ok_X2_findSums ⟨Nat.le_of_ble_eq_true rfl, Nat.le_of_ble_eq_true rfl, Nat.le_refl _, Nat.le_refl _⟩ rfl ml_X2_50 ly_40 (by decide) (by decide) rfl rfl (Nat.le_of_ble_eq_true rfl) dX2_find_60 ?_
  refine P.goto (tgt := 81) dX2_find_63 (by decide) ?_
  exact P.vret rfl dX2_find_81 (by rw [show cQ D W w S = sumQ D W w S D.1 from by simp [cQ, hk]])

set_option maxRecDepth 20000 in
theorem s_find5 {G : GG} {f : Nat → Nat → Nat} {l : Nat → Nat → Int64} {D : DB} (hV : RV f l D) (hD : DW D) {W : LB} (hL : LV f l W) {w S : Nat} (hw : w < 10) (hW : LOK W w) (hS : S < 4096) (hk : W.2.1 w 0 = 5) : Spec G mX2_find [.ref (ad G 40), .ref (ad G (43 + w)), .int (nI S)] 114 (f, l, refT) none 114 (wrL f (cQ D W w S), l, refT) := by
  refine Spec.of ok_X2_find.1 ⟨Nat.le_refl _, Nat.le_refl _⟩ (Nat.le_of_ble_eq_true rfl) ?_
  show Pm G RX2 cX2_find 3 (KM G mX2_find 114 114 none (wrL f (cQ D W w S), l, refT)) 0 [some (.ref (ad G 40)), some (.ref (ad G (43 + w))), some (.int (nI S))] [] f l
  refine P.aload_n dX2_find_0 rfl rfl ?_
  refine P.iconst dX2_find_1 ic_0 ?_
  refine p_X2_manyFound (a := 0) ly_40 (by decide) fl_X2_44 dX2_find_2 rfl ?_
  refine Pm.cf (wrL_0 f) ?_
  refine P.aload_n dX2_find_5 rfl rfl ?_
  refine g_X1_kind (ly_law (r := w) (by omega)) (by omega) fl_X2_30 dX2_find_6 ?_
  refine Pm.topn (b := W.2.1 w 0) (((wrL_ne _ _ (by omega) (by omega)).trans (hL.2.1 w (by omega) 0))) ?_
  refine Pm.topn (b := 5) hk ?_
  refine P.tableIn (off := 57) (tgt := 66) dX2_find_9 (by decide) (by decide) rfl (by decide) ?_
  refine P.aload_n dX2_find_66 rfl rfl ?_
  refine P.aload_n dX2_find_67 rfl rfl ?_
  refine P.iload_n dX2_find_68 rfl rfl ?_
  refine P.callV (As := [.ref (ad G (43 + w)), .int (nI S)]) (rest := []) (s_findUnhelped hV hD hL hw hW hS) ok_X2_findUnhelped ⟨Nat.le_of_ble_eq_true rfl, Nat.le_of_ble_eq_true rfl, Nat.le_refl _, Nat.le_refl _⟩ rfl ml_X2_53 ly_40 (by decide) (by decide) rfl rfl (Nat.le_of_ble_eq_true rfl) dX2_find_69 ?_
  refine P.goto (tgt := 81) dX2_find_72 (by decide) ?_
  exact P.vret rfl dX2_find_81 (by rw [show cQ D W w S = unhL D W w S D.1 from by simp [cQ, hk]])

/-- find: the quarrels of a law among S -/
theorem s_find {G : GG} {f : Nat → Nat → Nat} {l : Nat → Nat → Int64} {D : DB} (hV : RV f l D) (hD : DW D) {W : LB} (hL : LV f l W) {w S : Nat} (hw : w < 10) (hW : LOK W w) (hS : S < 4096) : Spec G mX2_find [.ref (ad G 40), .ref (ad G (43 + w)), .int (nI S)] 114 (f, l, refT) none 114 (wrL f (cQ D W w S), l, refT) := by
  have hk := hW.1
  rcases (show W.2.1 w 0 = 0 ∨ W.2.1 w 0 = 1 ∨ W.2.1 w 0 = 2 ∨ W.2.1 w 0 = 3 ∨ W.2.1 w 0 = 4 ∨ W.2.1 w 0 = 5 by omega) with h | h | h | h | h | h
  · exact s_find0 hV hD hL hw hW hS h
  · exact s_find1 hV hD hL hw hW hS h
  · exact s_find2 hV hD hL hw hW hS h
  · exact s_find3 hV hD hL hw hW hS h
  · exact s_find4 hV hD hL hw hW hS h
  · exact s_find5 hV hD hL hw hW hS h

set_option maxRecDepth 20000 in
theorem s_lawAdd {G : GG} {f : Nat → Nat → Nat} {l : Nat → Nat → Int64} {D : DB} (hV : RV f l D) (hD : DW D) {W : LB} (hL : LV f l W) {k t : Nat} (h10 : W.1 < 10) (hk : k < 6) (ht : t < 4) : Spec G mX2_add [.ref (ad G 40), .int (nI k), .int (nI t)] 114 (f, l, refT) (some (.ref (ad G (43 + W.1)))) 114 (uf (uf (uf (uf f (43 + W.1) 0 k) (43 + W.1) 1 t) (43 + W.1) 7 1) 40 2 (W.1 + 1), l, refT) := by
  refine Spec.of ok_X2_add.1 ⟨Nat.le_refl _, Nat.le_refl _⟩ (Nat.le_of_ble_eq_true rfl) ?_
  show Pm G RX2 cX2_add 4 (KM G mX2_add 114 114 (some (.ref (ad G (43 + W.1)))) (uf (uf (uf (uf f (43 + W.1) 0 k) (43 + W.1) 1 t) (43 + W.1) 7 1) 40 2 (W.1 + 1), l, refT)) 0 [some (.ref (ad G 40)), some (.int (nI k)), some (.int (nI t)), none] [] f l
  refine P.aload_n dX2_add_0 rfl rfl ?_
  refine g_X2_list (q := 41) ly_40 (by decide) (by decide) fl_X2_11 dX2_add_1 ?_
  refine P.aload_n dX2_add_4 rfl rfl ?_
  refine g_X2_many ly_40 (by decide) fl_X2_26 dX2_add_5 ?_
  refine Pm.topn (b := W.1) (hL.1) ?_
  refine a_r1 (q := 43 + W.1) ly_41 (by decide) (by omega) (by decide) (rt_law (r := W.1) (by omega)) dX2_add_8 ?_
  refine P.astore_n dX2_add_9 rfl (by decide) ?_
  refine P.aload_n dX2_add_10 rfl rfl ?_
  refine P.iload_n dX2_add_11 rfl rfl ?_
  refine p_X1_kind (a := k) (ly_law (r := W.1) (by omega)) (by omega) fl_X2_30 dX2_add_12 rfl ?_
  refine P.aload_n dX2_add_15 rfl rfl ?_
  refine P.iload_n dX2_add_16 rfl rfl ?_
  refine p_X1_table (a := t) (ly_law (r := W.1) (by omega)) (by omega) fl_X2_33 dX2_add_17 rfl ?_
  refine P.aload_n dX2_add_20 rfl rfl ?_
  refine P.iconst dX2_add_21 ic_1 ?_
  refine p_X1_inForce (a := 1) (ly_law (r := W.1) (by omega)) (by omega) fl_X2_36 dX2_add_22 rfl (by omega) ?_
  refine P.aload_n dX2_add_25 rfl rfl ?_
  refine P.dup dX2_add_26 rfl ?_
  refine g_X2_many ly_40 (by decide) fl_X2_26 dX2_add_27 ?_
  refine Pm.topn (b := W.1) ((uf_ne _ _ (Or.inr (by decide))).trans ((uf_ne _ _ (Or.inr (by decide))).trans ((uf_ne _ _ (Or.inr (by decide))).trans (hL.1)))) ?_
  refine P.iconst dX2_add_30 ic_1 ?_
  refine P.iadd_n dX2_add_31 (nI_add _ _) ?_
  refine p_X2_many (a := (W.1 + 1)) ly_40 (by decide) fl_X2_26 dX2_add_32 rfl ?_
  refine P.aload_n dX2_add_35 rfl rfl ?_
  exact P.aret rfl dX2_add_36 rfl rfl

set_option maxRecDepth 20000 in
theorem s_leastBroken {G : GG} {f : Nat → Nat → Nat} {l : Nat → Nat → Int64} {D : DB} (hV : RV f l D) (hD : DW D) {W : LB} (hL : LV f l W) (hW : LW W) {S : Nat} (hS : S < 4096) : SpX G mX2_leastBroken [.ref (ad G 40), .int (nI S)] f l (fun r f1 l1 => r = some (.int (ans9 (fstP (cBrk D W S) W.1))) ∧ Fra f f1 ∧ l = l1) := by
  have hR := hD.1
  have hW1 := hW.1
  have hW := hW.2
  refine SpX.of ok_X2_leastBroken.1 (Nat.le_of_ble_eq_true rfl) ?_
  show Pm G RX2 cX2_leastBroken 3 (KX G mX2_leastBroken (fun r f1 l1 => r = some (.int (ans9 (fstP (cBrk D W S) W.1))) ∧ Fra f f1 ∧ l = l1)) 0 [some (.ref (ad G 40)), some (.int (nI S)), none] [] f l
  refine P.iconst dX2_leastBroken_0 ic_0 ?_
  refine P.istore_n dX2_leastBroken_1 rfl (by decide) ?_
  refine loop_up (M := fun (i : Nat) => ∀ g : Nat → Nat → Nat, (Fra f g ∧ ∀ j, j < i → cBrk D W S j = false) → Pm G _ _ _ _ 2 [some (.ref (ad G 40)), some (.int (nI S)), some (.int (nI i))] [] g l) (lo := 0) (N := W.1) (by first | exact Nat.zero_le _ | omega) (fun i hi0 hi1 ihi => ?_) ?_ _ ?_
  · intro g hg
    obtain ⟨hgF, invB⟩ := hg
    have hVg := hgF.RV hV
    have hLg := hgF.LV hL
    show Pm G _ _ _ _ 2 [some (.ref (ad G 40)), some (.int (nI S)), some (.int (nI i))] [] g l
    refine P.iload_n dX2_leastBroken_2 rfl rfl ?_
    refine P.aload_n dX2_leastBroken_3 rfl rfl ?_
    refine g_X2_many ly_40 (by decide) fl_X2_26 dX2_leastBroken_4 ?_
    refine Pm.topn (b := W.1) (hLg.1) ?_
    refine P.icmp_ge_n (tgt := 48) dX2_leastBroken_7 (by decide) (by omega) (by omega) (fun c_7 => ?_) (fun c_7 => ?_)
    · exfalso; omega
    refine P.aload_n dX2_leastBroken_10 rfl rfl ?_
    refine g_X2_list (q := 41) ly_40 (by decide) (by decide) fl_X2_11 dX2_leastBroken_11 ?_
    refine P.iload_n dX2_leastBroken_14 rfl rfl ?_
    refine a_r1 (q := 43 + i) ly_41 (by decide) (by omega) (by decide) (rt_law (r := i) (by omega)) dX2_leastBroken_15 ?_
    refine g_X1_inForce (ly_law (r := i) (by omega)) (by omega) fl_X2_36 dX2_leastBroken_16 ?_
    refine Pm.topn (b := W.2.1 i 7) ((hLg.2.1 i (by omega) 7)) ?_
    refine P.if_eq_n (tgt := 42) dX2_leastBroken_19 (by decide) (by have := (hW i (by omega)).2.2.2.2.2; omega) (fun c_19 => ?_) (fun c_19 => ?_)
    · refine P.iinc dX2_leastBroken_42 rfl (inc1 _) (by decide) ?_
      refine P.goto (tgt := 2) dX2_leastBroken_45 (by decide) ?_
      show Pm G _ _ _ _ 2 [some (.ref (ad G 40)), some (.int (nI S)), some (.int (nI (i + 1)))] [] g l
      exact Pm.to (ihi _ (⟨hgF, lt_snoc invB (cBrk_f1 c_19)⟩)) (by simp [lle]) rfl rfl rfl
    refine P.aload_n dX2_leastBroken_22 rfl rfl ?_
    refine P.aload_n dX2_leastBroken_23 rfl rfl ?_
    refine g_X2_list (q := 41) ly_40 (by decide) (by decide) fl_X2_11 dX2_leastBroken_24 ?_
    refine P.iload_n dX2_leastBroken_27 rfl rfl ?_
    refine a_r1 (q := 43 + i) ly_41 (by decide) (by omega) (by decide) (rt_law (r := i) (by omega)) dX2_leastBroken_28 ?_
    refine P.iload_n dX2_leastBroken_29 rfl rfl ?_
    refine P.callV (As := [.ref (ad G (43 + i)), .int (nI S)]) (rest := []) (s_find hVg hD hLg (by omega) (hW i (by omega)) hS) ok_X2_find (fitX (Nat.le_of_ble_eq_true rfl)) rfl ml_X2_40 ly_40 (by decide) (by decide) rfl rfl (Nat.le_of_ble_eq_true rfl) dX2_leastBroken_30 ?_
    refine P.aload_n dX2_leastBroken_33 rfl rfl ?_
    refine g_X2_manyFound ly_40 (by decide) fl_X2_44 dX2_leastBroken_34 ?_
    refine Pm.topn (b := (cQ D W i S).length) ((wrL_len _ _)) ?_
    refine P.if_le_z (tgt := 42) dX2_leastBroken_37 (by decide) (zN (by have := cQ_len hD W i S; omega)) (fun c_37 => ?_) (fun c_37 => ?_)
    · refine P.iinc dX2_leastBroken_42 rfl (inc1 _) (by decide) ?_
      refine P.goto (tgt := 2) dX2_leastBroken_45 (by decide) ?_
      show Pm G _ _ _ _ 2 [some (.ref (ad G 40)), some (.int (nI S)), some (.int (nI (i + 1)))] [] (wrL g (cQ D W i S)) l
      exact Pm.to (ihi _ (⟨hgF.tr (Fra.wrL g _), lt_snoc invB (cBrk_f2 (by omega))⟩)) (by simp [lle]) rfl rfl rfl
    refine P.iload_n dX2_leastBroken_40 rfl rfl ?_
    exact P.iretX rfl dX2_leastBroken_41 ⟨by rw [fstP_some hi1 (cBrk_t c_19 (by omega)) invB]; rfl, hgF.tr (Fra.wrL g _), rfl⟩
  · intro g hg
    obtain ⟨hgF, invB⟩ := hg
    have hVg := hgF.RV hV
    have hLg := hgF.LV hL
    show Pm G _ _ _ _ 2 [some (.ref (ad G 40)), some (.int (nI S)), some (.int (nI W.1))] [] g l
    refine P.iload_n dX2_leastBroken_2 rfl rfl ?_
    refine P.aload_n dX2_leastBroken_3 rfl rfl ?_
    refine g_X2_many ly_40 (by decide) fl_X2_26 dX2_leastBroken_4 ?_
    refine Pm.topn (b := W.1) (hLg.1) ?_
    refine P.icmp_ge_n (tgt := 48) dX2_leastBroken_7 (by decide) (by omega) (by omega) (fun c_7 => ?_) (fun c_7 => ?_)
    · refine P.bipush (v := -9) dX2_leastBroken_48 rfl ?_
      exact P.iretX rfl dX2_leastBroken_50 ⟨by rw [fstP_none invB]; rfl, hgF, rfl⟩
    · exfalso; omega
  · exact ⟨Fra.rf f, fun j hj => absurd hj (by omega)⟩


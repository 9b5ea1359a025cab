-- Mendings: by program (wip/whole/spec19.py)
set_option maxRecDepth 20000 in
theorem s_breakWithout {G : GG} {f : Nat → Nat → Nat} {l : Nat → Nat → Int64} {K r h : Nat} (hK : f 53 4 = K) (hK4 : K < 4096) (hr : r < 12) (hh : h < 4096) : Spec G mX3_breakWithout [.ref (ad G 53), .int (nI r), .int (nI h)] 114 (f, l, refT) none 114 (bwo f r h (K + 1), l, refT) := by
  refine Spec.of ok_X3_breakWithout.1 ⟨Nat.le_refl _, Nat.le_refl _⟩ (Nat.le_of_ble_eq_true rfl) ?_
  show Pm G RX3 cX3_breakWithout 4 (KM G mX3_breakWithout 114 114 none (bwo f r h (K + 1), l, refT)) 0 [some (.ref (ad G 53)), some (.int (nI r)), some (.int (nI h)), none] [] f l
  refine P.iconst dX3_breakWithout_0 ic_0 ?_
  refine P.istore_n dX3_breakWithout_1 rfl (by decide) ?_
  refine Pm.cf (bwo_0 f r h).symm ?_
  refine loop_up (M := fun (i : Nat) => Pm G _ _ _ _ 2 [some (.ref (ad G 53)), some (.int (nI r)), some (.int (nI h)), some (.int (nI i))] [] (bwo f r h i) l) (lo := 0) (N := (K + 1)) (by first | exact Nat.zero_le _ | omega) (fun i hi0 hi1 ihi => ?_) ?_
  · show Pm G _ _ _ _ 2 [some (.ref (ad G 53)), some (.int (nI r)), some (.int (nI h)), some (.int (nI i))] [] (bwo f r h i) l
    refine P.iload_n dX3_breakWithout_2 rfl rfl ?_
    refine P.aload_n dX3_breakWithout_3 rfl rfl ?_
    refine g_X3_kept ly_53 (by decide) fl_X3_36 dX3_breakWithout_4 ?_
    refine Pm.topn (b := K) (((bwo_ne _ _ _ _ (by decide)).trans hK)) ?_
    refine P.icmp_gt_n (tgt := 37) dX3_breakWithout_7 (by decide) (by omega) (by omega) (fun c_7 => ?_) (fun c_7 => ?_)
    · exfalso; omega
    refine P.iload_n dX3_breakWithout_10 rfl rfl ?_
    refine P.iload_n dX3_breakWithout_11 rfl rfl ?_
    refine P.callSN (As := [.int (nI i), .int (nI r)]) (rest := []) (s_isIn (s := i) (r := r) (by omega) (by omega)) ok_X9_isIn ⟨Nat.le_of_ble_eq_true rfl, Nat.le_of_ble_eq_true rfl, Nat.le_refl _, Nat.le_refl _⟩ rfl mn_X3_50 rfl (Nat.le_of_ble_eq_true rfl) dX3_breakWithout_12 ?_
    refine P.if_eq_b (tgt := 31) dX3_breakWithout_15 (by decide) (fun c_15 => ?_) (fun c_15 => ?_)
    · refine P.iinc dX3_breakWithout_31 rfl (inc1 _) (by decide) ?_
      refine P.goto (tgt := 2) dX3_breakWithout_34 (by decide) ?_
      show Pm G _ _ _ _ 2 [some (.ref (ad G 53)), some (.int (nI r)), some (.int (nI h)), some (.int (nI (i + 1)))] [] (bwo f r h i) l
      exact Pm.to (ihi) (by simp [lle]) rfl (by exact (bwo_sn (by simp [c_15])).symm) rfl
    refine P.iload_n dX3_breakWithout_18 rfl rfl ?_
    refine P.iload_n dX3_breakWithout_19 rfl rfl ?_
    refine P.iand_n dX3_breakWithout_20 (n_and _ _) ?_
    refine P.if_ne_n (tgt := 31) dX3_breakWithout_21 (by decide) (by have : i &&& h ≤ i := Nat.and_le_left; omega) (fun c_21 => ?_) (fun c_21 => ?_)
    · refine P.iinc dX3_breakWithout_31 rfl (inc1 _) (by decide) ?_
      refine P.goto (tgt := 2) dX3_breakWithout_34 (by decide) ?_
      show Pm G _ _ _ _ 2 [some (.ref (ad G 53)), some (.int (nI r)), some (.int (nI h)), some (.int (nI (i + 1)))] [] (bwo f r h i) l
      exact Pm.to (ihi) (by simp [lle]) rfl (by exact (bwo_sn (by simp [c_15, c_21])).symm) rfl
    refine P.aload_n dX3_breakWithout_24 rfl rfl ?_
    refine g_X3_broken (q := 55) ly_53 (by decide) (by decide) fl_X3_15 dX3_breakWithout_25 ?_
    refine P.iload_n dX3_breakWithout_28 rfl rfl ?_
    refine P.iconst dX3_breakWithout_29 ic_1 ?_
    refine s_za (a := 1) ly_55 (by decide) (by omega) (by decide) dX3_breakWithout_30 rfl (by omega) ?_
    refine P.iinc dX3_breakWithout_31 rfl (inc1 _) (by decide) ?_
    refine P.goto (tgt := 2) dX3_breakWithout_34 (by decide) ?_
    show Pm G _ _ _ _ 2 [some (.ref (ad G 53)), some (.int (nI r)), some (.int (nI h)), some (.int (nI (i + 1)))] [] (uf (bwo f r h i) 55 i 1) l
    exact Pm.to (ihi) (by simp [lle]) rfl (by rw [bwo_st c_15 c_21]) rfl
  · show Pm G _ _ _ _ 2 [some (.ref (ad G 53)), some (.int (nI r)), some (.int (nI h)), some (.int (nI (K + 1)))] [] (bwo f r h (K + 1)) l
    refine P.iload_n dX3_breakWithout_2 rfl rfl ?_
    refine P.aload_n dX3_breakWithout_3 rfl rfl ?_
    refine g_X3_kept ly_53 (by decide) fl_X3_36 dX3_breakWithout_4 ?_
    refine Pm.topn (b := K) (((bwo_ne _ _ _ _ (by decide)).trans hK)) ?_
    refine P.icmp_gt_n (tgt := 37) dX3_breakWithout_7 (by decide) (by omega) (by omega) (fun c_7 => ?_) (fun c_7 => ?_)
    · exact P.vret rfl dX3_breakWithout_37 rfl
    · exfalso; omega

set_option maxRecDepth 20000 in
theorem s_breakAmong {G : GG} {f : Nat → Nat → Nat} {l : Nat → Nat → Int64} {D : DB} (hV : RV f l D) (hD : DW D) {W : LB} (hL : LV f l W) {w : Nat} (hw : w < 10) (hW : LOK W w) {K : Nat} (hK : f 53 4 = K) (hK4 : K < 4096)  : Spec G mX3_breakAmong [.ref (ad G 53), .ref (ad G (43 + w))] 114 (f, l, refT) none 114 (bam f D W w K D.1, l, refT) := by
  have hR := hD.1
  have hW0 := hW
  obtain ⟨hk, ht, ha, hb, hu, hf⟩ := hW
  have hwc := withC_lt hD (W.2.1 w 1) (W.2.1 w 2) K
  refine Spec.of ok_X3_breakAmong.1 ⟨Nat.le_refl _, Nat.le_refl _⟩ (Nat.le_of_ble_eq_true rfl) ?_
  show Pm G RX3 cX3_breakAmong 6 (KM G mX3_breakAmong 114 114 none (bam f D W w K D.1, l, refT)) 0 [some (.ref (ad G 53)), some (.ref (ad G (43 + w))), none, none, none, none] [] f l
  refine P.aload_n dX3_breakAmong_0 rfl rfl ?_
  refine g_X3_rows (q := 2) ly_53 (by decide) (by decide) fl_X3_22 dX3_breakAmong_1 ?_
  refine P.aload_n dX3_breakAmong_4 rfl rfl ?_
  refine g_X1_table (ly_law (r := w) (by omega)) (by omega) fl_X3_91 dX3_breakAmong_5 ?_
  refine Pm.topn (b := W.2.1 w 1) ((hL.2.1 w (by omega) 1)) ?_
  refine P.aload_n dX3_breakAmong_8 rfl rfl ?_
  refine g_X1_first (ly_law (r := w) (by omega)) (by omega) fl_X3_94 dX3_breakAmong_9 ?_
  refine Pm.topn (b := W.2.1 w 2) ((hL.2.1 w (by omega) 2)) ?_
  refine P.aload_n dX3_breakAmong_12 rfl rfl ?_
  refine g_X3_kept ly_53 (by decide) fl_X3_36 dX3_breakAmong_13 ?_
  refine Pm.topn (b := K) (hK) ?_
  refine P.callV (As := [.int (nI (W.2.1 w 1)), .int (nI (W.2.1 w 2)), .int (nI K)]) (rest := []) (s_withCell hV hD (by omega) (by omega) (by omega)) ok_X7_withCell ⟨Nat.le_of_ble_eq_true rfl, Nat.le_of_ble_eq_true rfl, Nat.le_refl _, Nat.le_refl _⟩ rfl ml_X3_97 ly_2 (by decide) (by decide) rfl rfl (Nat.le_of_ble_eq_true rfl) dX3_breakAmong_16 ?_
  refine P.istore_n dX3_breakAmong_19 rfl (by decide) ?_
  refine P.iconst dX3_breakAmong_20 ic_0 ?_
  refine P.istore_n dX3_breakAmong_21 rfl (by decide) ?_
  refine loop_up (M := fun (i : Nat) => Pm G _ _ _ _ 22 [some (.ref (ad G 53)), some (.ref (ad G (43 + w))), some (.int (nI (withC D (W.2.1 w 1) (W.2.1 w 2) K))), some (.int (nI i)), none, none] [] (bam f D W w K i) l) (lo := 0) (N := D.1) (by first | exact Nat.zero_le _ | omega) (fun i hi0 hi1 ihi => ?_) ?_
  · have hVb := ((Fra.rf f).bam D W w K i).RV hV
    have hLb := ((Fra.rf f).bam D W w K i).LV hL
    have hwn := withN_lt hD (W.2.1 w 4) (W.2.1 w 3) (D.2.2.2 i (W.2.1 w 2)) K
    show Pm G _ _ _ _ 22 [some (.ref (ad G 53)), some (.ref (ad G (43 + w))), some (.int (nI (withC D (W.2.1 w 1) (W.2.1 w 2) K))), some (.int (nI i)), none, none] [] (bam f D W w K i) l
    refine P.iload_n dX3_breakAmong_22 rfl rfl ?_
    refine P.aload_n dX3_breakAmong_23 rfl rfl ?_
    refine g_X3_rows (q := 2) ly_53 (by decide) (by decide) fl_X3_22 dX3_breakAmong_24 ?_
    refine g_X7_many ly_2 (by decide) fl_X3_49 dX3_breakAmong_27 ?_
    refine Pm.topn (b := D.1) (hVb.1) ?_
    refine P.icmp_ge_n (tgt := 92) dX3_breakAmong_30 (by decide) (by omega) (by omega) (fun c_30 => ?_) (fun c_30 => ?_)
    · exfalso; omega
    refine P.iload_n dX3_breakAmong_33 rfl rfl ?_
    refine P.iload_n dX3_breakAmong_34 rfl rfl ?_
    refine P.callSN (As := [.int (nI (withC D (W.2.1 w 1) (W.2.1 w 2) K)), .int (nI i)]) (rest := []) (s_isIn (s := (withC D (W.2.1 w 1) (W.2.1 w 2) K)) (r := i) (by omega) (by omega)) ok_X9_isIn ⟨Nat.le_of_ble_eq_true rfl, Nat.le_of_ble_eq_true rfl, Nat.le_refl _, Nat.le_refl _⟩ rfl mn_X3_50 rfl (Nat.le_of_ble_eq_true rfl) dX3_breakAmong_35 ?_
    refine P.if_eq_b (tgt := 86) dX3_breakAmong_38 (by decide) (fun c_38 => ?_) (fun c_38 => ?_)
    · refine P.iinc dX3_breakAmong_86 rfl (inc1 _) (by decide) ?_
      refine P.goto (tgt := 22) dX3_breakAmong_89 (by decide) ?_
      show Pm G _ _ _ _ 22 [some (.ref (ad G 53)), some (.ref (ad G (43 + w))), some (.int (nI (withC D (W.2.1 w 1) (W.2.1 w 2) K))), some (.int (nI (i + 1))), none, none] [] (bam f D W w K i) l
      exact Pm.to (ihi) (by simp [lle]) rfl (by rw [bam_s, if_neg (by simp [c_38])]) rfl
    refine P.aload_n dX3_breakAmong_41 rfl rfl ?_
    refine g_X3_rows (q := 2) ly_53 (by decide) (by decide) fl_X3_22 dX3_breakAmong_42 ?_
    refine g_X7_list (q := 3) ly_2 (by decide) (by decide) fl_X3_101 dX3_breakAmong_45 ?_
    refine P.iload_n dX3_breakAmong_48 rfl rfl ?_
    refine a_r6 (q := 4 + 3 * i) ly_3 (by decide) (by omega) (by decide) (rt_row (r := i) (by omega)) dX3_breakAmong_49 ?_
    refine g_X6_numbers (q := 5 + 3 * i) (ly_row (r := i) (by omega)) (by omega) (rt_num (r := i) (by omega)) fl_X3_104 dX3_breakAmong_50 ?_
    refine P.aload_n dX3_breakAmong_53 rfl rfl ?_
    refine g_X1_first (ly_law (r := w) (by omega)) (by omega) fl_X3_94 dX3_breakAmong_54 ?_
    refine Pm.topn (b := W.2.1 w 2) ((hLb.2.1 w (by omega) 2)) ?_
    refine a_la (ly_num (r := i) (by omega)) (by omega) (by omega) (by decide) dX3_breakAmong_57 ?_
    refine Pm.topl (b := D.2.2.2 i (W.2.1 w 2)) ((hV.2.2.2 i (by omega) (W.2.1 w 2))) ?_
    refine P.lstore dX3_breakAmong_58 (by decide) (Nat.le_of_ble_eq_true rfl) ?_
    refine P.aload_n dX3_breakAmong_60 rfl rfl ?_
    refine P.iload_n dX3_breakAmong_61 rfl rfl ?_
    refine P.aload_n dX3_breakAmong_62 rfl rfl ?_
    refine g_X3_rows (q := 2) ly_53 (by decide) (by decide) fl_X3_22 dX3_breakAmong_63 ?_
    refine P.aload_n dX3_breakAmong_66 rfl rfl ?_
    refine g_X1_other (ly_law (r := w) (by omega)) (by omega) fl_X3_110 dX3_breakAmong_67 ?_
    refine Pm.topn (b := W.2.1 w 4) ((hLb.2.1 w (by omega) 4)) ?_
    refine P.aload_n dX3_breakAmong_70 rfl rfl ?_
    refine g_X1_second (ly_law (r := w) (by omega)) (by omega) fl_X3_113 dX3_breakAmong_71 ?_
    refine Pm.topn (b := W.2.1 w 3) ((hLb.2.1 w (by omega) 3)) ?_
    refine P.lload dX3_breakAmong_74 rfl ?_
    refine P.aload_n dX3_breakAmong_76 rfl rfl ?_
    refine g_X3_kept ly_53 (by decide) fl_X3_36 dX3_breakAmong_77 ?_
    refine Pm.topn (b := K) (((bam_ne _ _ _ _ _ _ (by decide)).trans hK)) ?_
    refine P.callV (As := [.int (nI (W.2.1 w 4)), .int (nI (W.2.1 w 3)), .long (D.2.2.2 i (W.2.1 w 2)), .int (nI K)]) (rest := [.int (nI i), .ref (ad G 53)]) (s_withNumber hVb hD (by omega) (by omega) (by omega)) ok_X7_withNumber ⟨Nat.le_of_ble_eq_true rfl, Nat.le_of_ble_eq_true rfl, Nat.le_refl _, Nat.le_refl _⟩ rfl ml_X3_116 ly_2 (by decide) (by decide) rfl rfl (Nat.le_of_ble_eq_true rfl) dX3_breakAmong_80 ?_
    refine P.callV (As := [.int (nI i), .int (nI (withN D (W.2.1 w 4) (W.2.1 w 3) (D.2.2.2 i (W.2.1 w 2)) K))]) (rest := []) (s_breakWithout (K := K) ((bam_ne _ _ _ _ _ _ (by decide)).trans hK) hK4 (by omega) hwn) ok_X3_breakWithout ⟨Nat.le_of_ble_eq_true rfl, Nat.le_of_ble_eq_true rfl, Nat.le_refl _, Nat.le_refl _⟩ rfl ml_X3_120 ly_53 (by decide) (by decide) rfl rfl (Nat.le_of_ble_eq_true rfl) dX3_breakAmong_83 ?_
    refine P.iinc dX3_breakAmong_86 rfl (inc1 _) (by decide) ?_
    refine P.goto (tgt := 22) dX3_breakAmong_89 (by decide) ?_
    show Pm G _ _ _ _ 22 [some (.ref (ad G 53)), some (.ref (ad G (43 + w))), some (.int (nI (withC D (W.2.1 w 1) (W.2.1 w 2) K))), some (.int (nI (i + 1))), some (.long (D.2.2.2 i (W.2.1 w 2))), none] [] (bwo (bam f D W w K i) i (withN D (W.2.1 w 4) (W.2.1 w 3) (D.2.2.2 i (W.2.1 w 2)) K) (K + 1)) l
    exact Pm.to (ihi) (by simp [lle]) rfl (by rw [bam_s, if_pos (by simp [c_38])]) rfl
  · have hVb := ((Fra.rf f).bam D W w K D.1).RV hV
    show Pm G _ _ _ _ 22 [some (.ref (ad G 53)), some (.ref (ad G (43 + w))), some (.int (nI (withC D (W.2.1 w 1) (W.2.1 w 2) K))), some (.int (nI D.1)), none, none] [] (bam f D W w K D.1) l
    refine P.iload_n dX3_breakAmong_22 rfl rfl ?_
    refine P.aload_n dX3_breakAmong_23 rfl rfl ?_
    refine g_X3_rows (q := 2) ly_53 (by decide) (by decide) fl_X3_22 dX3_breakAmong_24 ?_
    refine g_X7_many ly_2 (by decide) fl_X3_49 dX3_breakAmong_27 ?_
    refine Pm.topn (b := D.1) (hVb.1) ?_
    refine P.icmp_ge_n (tgt := 92) dX3_breakAmong_30 (by decide) (by omega) (by omega) (fun c_30 => ?_) (fun c_30 => ?_)
    · exact P.vret rfl dX3_breakAmong_92 rfl
    · exfalso; omega

set_option maxRecDepth 20000 in
theorem s_more {G : GG} {f : Nat → Nat → Nat} {l : Nat → Nat → Int64} {D : DB} (hV : RV f l D) (hD : DW D) (hSB : SB f) {S : Nat} (hS : S < 4096) : Spec G mX3_isMoreThanOne [.ref (ad G 53), .int (nI S)] 114 (f, l, refT) (some (.int (bI (more D f S)))) 114 (f, l, refT) := by
  have hR := hD.1
  refine Spec.of ok_X3_isMoreThanOne.1 ⟨Nat.le_refl _, Nat.le_refl _⟩ (Nat.le_of_ble_eq_true rfl) ?_
  show Pm G RX3 cX3_isMoreThanOne 3 (KM G mX3_isMoreThanOne 114 114 (some (.int (bI (more D f S)))) (f, l, refT)) 0 [some (.ref (ad G 53)), some (.int (nI S)), none] [] f l
  refine P.iconst dX3_isMoreThanOne_0 ic_0 ?_
  refine P.istore_n dX3_isMoreThanOne_1 rfl (by decide) ?_
  refine loop_up (M := fun (i : Nat) => (∀ j, j < i → (S.testBit j && f 56 (S ^^^ 2 ^ j) != 0) = false) → Pm G _ _ _ _ 2 [some (.ref (ad G 53)), some (.int (nI S)), some (.int (nI i))] [] f l) (lo := 0) (N := D.1) (by first | exact Nat.zero_le _ | omega) (fun i hi0 hi1 ihi => ?_) ?_ ?_
  · intro invi
    show Pm G _ _ _ _ 2 [some (.ref (ad G 53)), some (.int (nI S)), some (.int (nI i))] [] f l
    refine P.iload_n dX3_isMoreThanOne_2 rfl rfl ?_
    refine P.aload_n dX3_isMoreThanOne_3 rfl rfl ?_
    refine g_X3_rows (q := 2) ly_53 (by decide) (by decide) fl_X3_22 dX3_isMoreThanOne_4 ?_
    refine g_X7_many ly_2 (by decide) fl_X3_49 dX3_isMoreThanOne_7 ?_
    refine Pm.topn (b := D.1) (hV.1) ?_
    refine P.icmp_ge_n (tgt := 42) dX3_isMoreThanOne_10 (by decide) (by omega) (by omega) (fun c_10 => ?_) (fun c_10 => ?_)
    · exfalso; omega
    refine P.iload_n dX3_isMoreThanOne_13 rfl rfl ?_
    refine P.iload_n dX3_isMoreThanOne_14 rfl rfl ?_
    refine P.callSN (As := [.int (nI S), .int (nI i)]) (rest := []) (s_isIn (s := S) (r := i) (by omega) (by omega)) ok_X9_isIn ⟨Nat.le_of_ble_eq_true rfl, Nat.le_of_ble_eq_true rfl, Nat.le_refl _, Nat.le_refl _⟩ rfl mn_X3_50 rfl (Nat.le_of_ble_eq_true rfl) dX3_isMoreThanOne_15 ?_
    refine P.if_eq_b (tgt := 36) dX3_isMoreThanOne_18 (by decide) (fun c_18 => ?_) (fun c_18 => ?_)
    · refine P.iinc dX3_isMoreThanOne_36 rfl (inc1 _) (by decide) ?_
      refine P.goto (tgt := 2) dX3_isMoreThanOne_39 (by decide) ?_
      show Pm G _ _ _ _ 2 [some (.ref (ad G 53)), some (.int (nI S)), some (.int (nI (i + 1)))] [] f l
      exact Pm.to (ihi (by exact lt_snoc invi (by simp [c_10, c_18]))) (by simp [lle]) rfl rfl rfl
    refine P.aload_n dX3_isMoreThanOne_21 rfl rfl ?_
    refine g_X3_covers (q := 56) ly_53 (by decide) (by decide) fl_X3_19 dX3_isMoreThanOne_22 ?_
    refine P.iload_n dX3_isMoreThanOne_25 rfl rfl ?_
    refine P.iconst dX3_isMoreThanOne_26 ic_1 ?_
    refine P.iload_n dX3_isMoreThanOne_27 rfl rfl ?_
    refine P.ishl dX3_isMoreThanOne_28 (n_bit (by omega)) ?_
    refine P.ixor_n dX3_isMoreThanOne_29 (n_xor _ _) ?_
    refine a_za ly_56 (by decide) (Nat.xor_lt_two_pow (n := 12) (by omega) (Nat.pow_lt_pow_right (by decide) (by omega))) (by decide) dX3_isMoreThanOne_30 ?_
    refine P.if_eq_n (tgt := 36) dX3_isMoreThanOne_31 (by decide) (Nat.lt_trans (hSB _).2.1 (by decide)) (fun c_31 => ?_) (fun c_31 => ?_)
    · refine P.iinc dX3_isMoreThanOne_36 rfl (inc1 _) (by decide) ?_
      refine P.goto (tgt := 2) dX3_isMoreThanOne_39 (by decide) ?_
      show Pm G _ _ _ _ 2 [some (.ref (ad G 53)), some (.int (nI S)), some (.int (nI (i + 1)))] [] f l
      exact Pm.to (ihi (by exact lt_snoc invi (by simp [c_10, c_18, c_31]))) (by simp [lle]) rfl rfl rfl
    refine P.iconst dX3_isMoreThanOne_34 ic_1 ?_
    exact P.bret rfl dX3_isMoreThanOne_35 (by rw [show more D f S = true from anyN_t.mpr ⟨i, hi1, by simp [c_10, c_18, c_31]⟩]; rfl) rfl
  · intro invi
    show Pm G _ _ _ _ 2 [some (.ref (ad G 53)), some (.int (nI S)), some (.int (nI D.1))] [] f l
    refine P.iload_n dX3_isMoreThanOne_2 rfl rfl ?_
    refine P.aload_n dX3_isMoreThanOne_3 rfl rfl ?_
    refine g_X3_rows (q := 2) ly_53 (by decide) (by decide) fl_X3_22 dX3_isMoreThanOne_4 ?_
    refine g_X7_many ly_2 (by decide) fl_X3_49 dX3_isMoreThanOne_7 ?_
    refine Pm.topn (b := D.1) (hV.1) ?_
    refine P.icmp_ge_n (tgt := 42) dX3_isMoreThanOne_10 (by decide) (by omega) (by omega) (fun c_10 => ?_) (fun c_10 => ?_)
    · refine P.iconst dX3_isMoreThanOne_42 ic_0 ?_
      exact P.bret rfl dX3_isMoreThanOne_43 (by rw [show more D f S = false from anyN_f.mpr invi]; rfl) rfl
    · exfalso; omega
  · exact fun j hj => absurd hj (by omega)

set_option maxRecDepth 20000 in
theorem s_findBroken {G : GG} {f : Nat → Nat → Nat} {l : Nat → Nat → Int64} {D : DB} (hV : RV f l D) (hD : DW D) {W : LB} (hL : LV f l W) (hW : LW W) (hSB : SB f) {K : Nat} (hK : f 53 4 = K) (hK4 : K < 4096) (hKR : K < 2 ^ D.1) : SpX G mX3_findBroken [.ref (ad G 53)] f l (fun r f1 l1 => r = none ∧ IV3 f D W K W.1 f1 ∧ l = l1) := by
  have hR := hD.1
  have hW1 := hW.1
  have hW := hW.2
  have hp := pow12 hR
  refine SpX.of ok_X3_findBroken.1 (Nat.le_of_ble_eq_true rfl) ?_
  show Pm G RX3 cX3_findBroken 3 (KX G mX3_findBroken (fun r f1 l1 => r = none ∧ IV3 f D W K W.1 f1 ∧ l = l1)) 0 [some (.ref (ad G 53)), none, none] [] f l
  refine P.aload_n dX3_findBroken_0 rfl rfl ?_
  refine g_X3_broken (q := 55) ly_53 (by decide) (by decide) fl_X3_15 dX3_findBroken_1 ?_
  refine P.aload_n dX3_findBroken_4 rfl rfl ?_
  refine g_X3_rows (q := 2) ly_53 (by decide) (by decide) fl_X3_22 dX3_findBroken_5 ?_
  refine g_X7_many ly_2 (by decide) fl_X3_49 dX3_findBroken_8 ?_
  refine Pm.topn (b := D.1) (hV.1) ?_
  refine P.callSN (As := [.ref (ad G 55), .int (nI D.1)]) (rest := []) (s_unmark ly_55 (by decide) hR) ok_X9_unmark (fitX (Nat.le_of_ble_eq_true rfl)) rfl mn_X3_54 rfl (Nat.le_of_ble_eq_true rfl) dX3_findBroken_11 ?_
  refine P.iconst dX3_findBroken_14 ic_0 ?_
  refine P.istore_n dX3_findBroken_15 rfl (by decide) ?_
  refine loop_up (M := fun (i : Nat) => ∀ g : Nat → Nat → Nat, IV1 f D W K i g → Pm G _ _ _ _ 16 [some (.ref (ad G 53)), some (.int (nI i)), none] [] g l) (lo := 0) (N := W.1) (by first | exact Nat.zero_le _ | omega) (fun i hi0 hi1 ihi => ?_) ?_ _ ?_
  · intro g hg
    have hVg := hg.1.RV hV
    have hLg := hg.1.LV hL
    show Pm G _ _ _ _ 16 [some (.ref (ad G 53)), some (.int (nI i)), none] [] g l
    refine P.iload_n dX3_findBroken_16 rfl rfl ?_
    refine P.aload_n dX3_findBroken_17 rfl rfl ?_
    refine g_X3_laws (q := 40) ly_53 (by decide) (by decide) fl_X3_26 dX3_findBroken_18 ?_
    refine g_X2_many ly_40 (by decide) fl_X3_58 dX3_findBroken_21 ?_
    refine Pm.topn (b := W.1) (hLg.1) ?_
    refine P.icmp_ge_n (tgt := 118) dX3_findBroken_24 (by decide) (by omega) (by omega) (fun c_24 => ?_) (fun c_24 => ?_)
    · exfalso; omega
    refine P.aload_n dX3_findBroken_27 rfl rfl ?_
    refine g_X3_laws (q := 40) ly_53 (by decide) (by decide) fl_X3_26 dX3_findBroken_28 ?_
    refine g_X2_list (q := 41) ly_40 (by decide) (by decide) fl_X3_61 dX3_findBroken_31 ?_
    refine P.iload_n dX3_findBroken_34 rfl rfl ?_
    refine a_r1 (q := 43 + i) ly_41 (by decide) (by omega) (by decide) (rt_law (r := i) (by omega)) dX3_findBroken_35 ?_
    refine g_X1_inForce (ly_law (r := i) (by omega)) (by omega) fl_X3_65 dX3_findBroken_36 ?_
    refine Pm.topn (b := W.2.1 i 7) ((hLg.2.1 i (by omega) 7)) ?_
    refine P.if_eq_n (tgt := 112) dX3_findBroken_39 (by decide) (by have := (hW i (by omega)).2.2.2.2.2; omega) (fun c_39 => ?_) (fun c_39 => ?_)
    · refine P.iinc dX3_findBroken_112 rfl (inc1 _) (by decide) ?_
      refine P.goto (tgt := 16) dX3_findBroken_115 (by decide) ?_
      show Pm G _ _ _ _ 16 [some (.ref (ad G 53)), some (.int (nI (i + 1))), none] [] g l
      exact Pm.to (ihi _ (IV1_skip hg (by simp [c_39]))) (by simp [lle]) rfl rfl rfl
    refine P.aload_n dX3_findBroken_42 rfl rfl ?_
    refine g_X3_laws (q := 40) ly_53 (by decide) (by decide) fl_X3_26 dX3_findBroken_43 ?_
    refine g_X2_list (q := 41) ly_40 (by decide) (by decide) fl_X3_61 dX3_findBroken_46 ?_
    refine P.iload_n dX3_findBroken_49 rfl rfl ?_
    refine a_r1 (q := 43 + i) ly_41 (by decide) (by omega) (by decide) (rt_law (r := i) (by omega)) dX3_findBroken_50 ?_
    refine g_X1_kind (ly_law (r := i) (by omega)) (by omega) fl_X3_71 dX3_findBroken_51 ?_
    refine Pm.topn (b := W.2.1 i 0) ((hLg.2.1 i (by omega) 0)) ?_
    refine P.iconst dX3_findBroken_54 ic_5 ?_
    refine P.icmp_eq_n (tgt := 112) dX3_findBroken_55 (by decide) (by have := (hW i (by omega)).1; omega) (by omega) (fun c_55 => ?_) (fun c_55 => ?_)
    · refine P.iinc dX3_findBroken_112 rfl (inc1 _) (by decide) ?_
      refine P.goto (tgt := 16) dX3_findBroken_115 (by decide) ?_
      show Pm G _ _ _ _ 16 [some (.ref (ad G 53)), some (.int (nI (i + 1))), none] [] g l
      exact Pm.to (ihi _ (IV1_skip hg (by simp [c_55]))) (by simp [lle]) rfl rfl rfl
    refine P.aload_n dX3_findBroken_58 rfl rfl ?_
    refine g_X3_laws (q := 40) ly_53 (by decide) (by decide) fl_X3_26 dX3_findBroken_59 ?_
    refine P.aload_n dX3_findBroken_62 rfl rfl ?_
    refine g_X3_laws (q := 40) ly_53 (by decide) (by decide) fl_X3_26 dX3_findBroken_63 ?_
    refine g_X2_list (q := 41) ly_40 (by decide) (by decide) fl_X3_61 dX3_findBroken_66 ?_
    refine P.iload_n dX3_findBroken_69 rfl rfl ?_
    refine a_r1 (q := 43 + i) ly_41 (by decide) (by omega) (by decide) (rt_law (r := i) (by omega)) dX3_findBroken_70 ?_
    refine P.aload_n dX3_findBroken_71 rfl rfl ?_
    refine g_X3_kept ly_53 (by decide) fl_X3_36 dX3_findBroken_72 ?_
    refine Pm.topn (b := K) (hg.2.1) ?_
    refine P.callV (As := [.ref (ad G (43 + i)), .int (nI K)]) (rest := []) (s_find hVg hD hLg (by omega) (hW i (by omega)) hK4) ok_X2_find (fitX (Nat.le_of_ble_eq_true rfl)) rfl ml_X3_74 ly_40 (by decide) (by decide) rfl rfl (Nat.le_of_ble_eq_true rfl) dX3_findBroken_75 ?_
    refine P.iconst dX3_findBroken_78 ic_0 ?_
    refine P.istore_n dX3_findBroken_79 rfl (by decide) ?_
    refine Pm.cf (mkL_0 _ (cQ D W i K)).symm ?_
    refine loop_up (M := fun (j : Nat) => Pm G _ _ _ _ 80 [some (.ref (ad G 53)), some (.int (nI i)), some (.int (nI j))] [] (mkL (wrL g (cQ D W i K)) (cQ D W i K) j) l) (lo := 0) (N := (cQ D W i K).length) (by first | exact Nat.zero_le _ | omega) (fun j hj0 hj1 ihj => ?_) ?_
    · show Pm G _ _ _ _ 80 [some (.ref (ad G 53)), some (.int (nI i)), some (.int (nI j))] [] (mkL (wrL g (cQ D W i K)) (cQ D W i K) j) l
      refine P.iload_n dX3_findBroken_80 rfl rfl ?_
      refine P.aload_n dX3_findBroken_81 rfl rfl ?_
      refine g_X3_laws (q := 40) ly_53 (by decide) (by decide) fl_X3_26 dX3_findBroken_82 ?_
      refine g_X2_manyFound ly_40 (by decide) fl_X3_78 dX3_findBroken_85 ?_
      refine Pm.topn (b := (cQ D W i K).length) (((mkL_ne _ _ _ (by decide)).trans (wrL_len _ _))) ?_
      refine P.icmp_ge_n (tgt := 112) dX3_findBroken_88 (by decide) (by have := cQ_len hD W i K; omega) (by have := cQ_len hD W i K; omega) (fun c_88 => ?_) (fun c_88 => ?_)
      · exfalso; omega
      refine P.aload_n dX3_findBroken_91 rfl rfl ?_
      refine g_X3_broken (q := 55) ly_53 (by decide) (by decide) fl_X3_15 dX3_findBroken_92 ?_
      refine P.aload_n dX3_findBroken_95 rfl rfl ?_
      refine g_X3_laws (q := 40) ly_53 (by decide) (by decide) fl_X3_26 dX3_findBroken_96 ?_
      refine g_X2_found (q := 42) ly_40 (by decide) (by decide) fl_X3_81 dX3_findBroken_99 ?_
      refine P.iload_n dX3_findBroken_102 rfl rfl ?_
      refine a_ia ly_42 (by decide) (by have := cQ_len hD W i K; omega) (by decide) dX3_findBroken_103 ?_
      refine Pm.topn (b := (cQ D W i K).getD j 0) (((mkL_ne _ _ _ (by decide)).trans (wrL_at _ (by omega)))) ?_
      refine P.iconst dX3_findBroken_104 ic_1 ?_
      refine s_za (a := 1) ly_55 (by decide) (cQ_lt hD W i K j hj1) (by decide) dX3_findBroken_105 rfl (by omega) ?_
      refine P.iinc dX3_findBroken_106 rfl (inc1 _) (by decide) ?_
      refine P.goto (tgt := 80) dX3_findBroken_109 (by decide) ?_
      show Pm G _ _ _ _ 80 [some (.ref (ad G 53)), some (.int (nI i)), some (.int (nI (j + 1)))] [] (uf (mkL (wrL g (cQ D W i K)) (cQ D W i K) j) 55 ((cQ D W i K).getD j 0) 1) l
      exact Pm.to (ihj) (by simp [lle]) rfl (by rw [mkL_s hj1]) rfl
    · show Pm G _ _ _ _ 80 [some (.ref (ad G 53)), some (.int (nI i)), some (.int (nI ((cQ D W i K).length)))] [] (mkL (wrL g (cQ D W i K)) (cQ D W i K) ((cQ D W i K).length)) l
      refine P.iload_n dX3_findBroken_80 rfl rfl ?_
      refine P.aload_n dX3_findBroken_81 rfl rfl ?_
      refine g_X3_laws (q := 40) ly_53 (by decide) (by decide) fl_X3_26 dX3_findBroken_82 ?_
      refine g_X2_manyFound ly_40 (by decide) fl_X3_78 dX3_findBroken_85 ?_
      refine Pm.topn (b := (cQ D W i K).length) (((mkL_ne _ _ _ (by decide)).trans (wrL_len _ _))) ?_
      refine P.icmp_ge_n (tgt := 112) dX3_findBroken_88 (by decide) (by have := cQ_len hD W i K; omega) (by have := cQ_len hD W i K; omega) (fun c_88 => ?_) (fun c_88 => ?_)
      · refine P.iinc dX3_findBroken_112 rfl (inc1 _) (by decide) ?_
        refine P.goto (tgt := 16) dX3_findBroken_115 (by decide) ?_
        show Pm G _ _ _ _ 16 [some (.ref (ad G 53)), some (.int (nI (i + 1))), some (.int (nI ((cQ D W i K).length)))] [] (mkL (wrL g (cQ D W i K)) (cQ D W i K) ((cQ D W i K).length)) l
        exact Pm.to (ihi _ (IV1_mk hg c_39 c_55)) (by simp [lle]) rfl rfl rfl
      · exfalso; omega
  · intro g hg
    have hVg := hg.1.RV hV
    have hLg := hg.1.LV hL
    show Pm G _ _ _ _ 16 [some (.ref (ad G 53)), some (.int (nI W.1)), none] [] g l
    refine P.iload_n dX3_findBroken_16 rfl rfl ?_
    refine P.aload_n dX3_findBroken_17 rfl rfl ?_
    refine g_X3_laws (q := 40) ly_53 (by decide) (by decide) fl_X3_26 dX3_findBroken_18 ?_
    refine g_X2_many ly_40 (by decide) fl_X3_58 dX3_findBroken_21 ?_
    refine Pm.topn (b := W.1) (hLg.1) ?_
    refine P.icmp_ge_n (tgt := 118) dX3_findBroken_24 (by decide) (by omega) (by omega) (fun c_24 => ?_) (fun c_24 => ?_)
    · refine P.aload_n dX3_findBroken_118 rfl rfl ?_
      refine g_X3_broken (q := 55) ly_53 (by decide) (by decide) fl_X3_15 dX3_findBroken_119 ?_
      refine P.aload_n dX3_findBroken_122 rfl rfl ?_
      refine g_X3_rows (q := 2) ly_53 (by decide) (by decide) fl_X3_22 dX3_findBroken_123 ?_
      refine g_X7_many ly_2 (by decide) fl_X3_49 dX3_findBroken_126 ?_
      refine Pm.topn (b := D.1) (hVg.1) ?_
      refine P.callSN (As := [.ref (ad G 55), .int (nI D.1)]) (rest := []) (s_markWholes ly_55 (by decide) hR hg.2.2.1) ok_X9_markWholes (fitX (Nat.le_of_ble_eq_true rfl)) rfl mn_X3_84 rfl (Nat.le_of_ble_eq_true rfl) dX3_findBroken_129 ?_
      refine P.iconst dX3_findBroken_132 ic_0 ?_
      refine P.istore_n dX3_findBroken_133 rfl (by decide) ?_
      refine loop_up (M := fun (i : Nat) => ∀ g : Nat → Nat → Nat, IV3 f D W K i g → Pm G _ _ _ _ 134 [some (.ref (ad G 53)), some (.int (nI i)), none] [] g l) (lo := 0) (N := W.1) (by first | exact Nat.zero_le _ | omega) (fun i hi0 hi1 ihi => ?_) ?_ _ ?_
      · intro g hg
        have hVg := hg.1.RV hV
        have hLg := hg.1.LV hL
        show Pm G _ _ _ _ 134 [some (.ref (ad G 53)), some (.int (nI i)), none] [] g l
        refine P.iload_n dX3_findBroken_134 rfl rfl ?_
        refine P.aload_n dX3_findBroken_135 rfl rfl ?_
        refine g_X3_laws (q := 40) ly_53 (by decide) (by decide) fl_X3_26 dX3_findBroken_136 ?_
        refine g_X2_many ly_40 (by decide) fl_X3_58 dX3_findBroken_139 ?_
        refine Pm.topn (b := W.1) (hLg.1) ?_
        refine P.icmp_ge_n (tgt := 195) dX3_findBroken_142 (by decide) (by omega) (by omega) (fun c_142 => ?_) (fun c_142 => ?_)
        · exfalso; omega
        refine P.aload_n dX3_findBroken_145 rfl rfl ?_
        refine g_X3_laws (q := 40) ly_53 (by decide) (by decide) fl_X3_26 dX3_findBroken_146 ?_
        refine g_X2_list (q := 41) ly_40 (by decide) (by decide) fl_X3_61 dX3_findBroken_149 ?_
        refine P.iload_n dX3_findBroken_152 rfl rfl ?_
        refine a_r1 (q := 43 + i) ly_41 (by decide) (by omega) (by decide) (rt_law (r := i) (by omega)) dX3_findBroken_153 ?_
        refine g_X1_inForce (ly_law (r := i) (by omega)) (by omega) fl_X3_65 dX3_findBroken_154 ?_
        refine Pm.topn (b := W.2.1 i 7) ((hLg.2.1 i (by omega) 7)) ?_
        refine P.if_eq_n (tgt := 189) dX3_findBroken_157 (by decide) (by have := (hW i (by omega)).2.2.2.2.2; omega) (fun c_157 => ?_) (fun c_157 => ?_)
        · refine P.iinc dX3_findBroken_189 rfl (inc1 _) (by decide) ?_
          refine P.goto (tgt := 134) dX3_findBroken_192 (by decide) ?_
          show Pm G _ _ _ _ 134 [some (.ref (ad G 53)), some (.int (nI (i + 1))), none] [] g l
          exact Pm.to (ihi _ (IV3_skip hg (by simp [c_157]))) (by simp [lle]) rfl rfl rfl
        refine P.aload_n dX3_findBroken_160 rfl rfl ?_
        refine g_X3_laws (q := 40) ly_53 (by decide) (by decide) fl_X3_26 dX3_findBroken_161 ?_
        refine g_X2_list (q := 41) ly_40 (by decide) (by decide) fl_X3_61 dX3_findBroken_164 ?_
        refine P.iload_n dX3_findBroken_167 rfl rfl ?_
        refine a_r1 (q := 43 + i) ly_41 (by decide) (by omega) (by decide) (rt_law (r := i) (by omega)) dX3_findBroken_168 ?_
        refine g_X1_kind (ly_law (r := i) (by omega)) (by omega) fl_X3_71 dX3_findBroken_169 ?_
        refine Pm.topn (b := W.2.1 i 0) ((hLg.2.1 i (by omega) 0)) ?_
        refine P.iconst dX3_findBroken_172 ic_5 ?_
        refine P.icmp_ne_n (tgt := 189) dX3_findBroken_173 (by decide) (by have := (hW i (by omega)).1; omega) (by omega) (fun c_173 => ?_) (fun c_173 => ?_)
        · refine P.iinc dX3_findBroken_189 rfl (inc1 _) (by decide) ?_
          refine P.goto (tgt := 134) dX3_findBroken_192 (by decide) ?_
          show Pm G _ _ _ _ 134 [some (.ref (ad G 53)), some (.int (nI (i + 1))), none] [] g l
          exact Pm.to (ihi _ (IV3_skip hg (by simp [c_173]))) (by simp [lle]) rfl rfl rfl
        refine P.aload_n dX3_findBroken_176 rfl rfl ?_
        refine P.aload_n dX3_findBroken_177 rfl rfl ?_
        refine g_X3_laws (q := 40) ly_53 (by decide) (by decide) fl_X3_26 dX3_findBroken_178 ?_
        refine g_X2_list (q := 41) ly_40 (by decide) (by decide) fl_X3_61 dX3_findBroken_181 ?_
        refine P.iload_n dX3_findBroken_184 rfl rfl ?_
        refine a_r1 (q := 43 + i) ly_41 (by decide) (by omega) (by decide) (rt_law (r := i) (by omega)) dX3_findBroken_185 ?_
        refine P.callV (As := [.ref (ad G (43 + i))]) (rest := []) (s_breakAmong hVg hD hLg (by omega) (hW i (by omega)) hg.2.1 hK4) ok_X3_breakAmong (fitX (Nat.le_of_ble_eq_true rfl)) rfl ml_X3_87 ly_53 (by decide) (by decide) rfl rfl (Nat.le_of_ble_eq_true rfl) dX3_findBroken_186 ?_
        refine P.iinc dX3_findBroken_189 rfl (inc1 _) (by decide) ?_
        refine P.goto (tgt := 134) dX3_findBroken_192 (by decide) ?_
        show Pm G _ _ _ _ 134 [some (.ref (ad G 53)), some (.int (nI (i + 1))), none] [] (bam g D W i K D.1) l
        exact Pm.to (ihi _ (IV3_mk hg c_157 c_173)) (by simp [lle]) rfl rfl rfl
      · intro g hg
        have hVg := hg.1.RV hV
        have hLg := hg.1.LV hL
        show Pm G _ _ _ _ 134 [some (.ref (ad G 53)), some (.int (nI W.1)), none] [] g l
        refine P.iload_n dX3_findBroken_134 rfl rfl ?_
        refine P.aload_n dX3_findBroken_135 rfl rfl ?_
        refine g_X3_laws (q := 40) ly_53 (by decide) (by decide) fl_X3_26 dX3_findBroken_136 ?_
        refine g_X2_many ly_40 (by decide) fl_X3_58 dX3_findBroken_139 ?_
        refine Pm.topn (b := W.1) (hLg.1) ?_
        refine P.icmp_ge_n (tgt := 195) dX3_findBroken_142 (by decide) (by omega) (by omega) (fun c_142 => ?_) (fun c_142 => ?_)
        · exact P.vretX rfl dX3_findBroken_195 ⟨rfl, hg, rfl⟩
        · exfalso; omega
      · exact IV3_0 hg hKR
    · exfalso; omega
  · exact IV1_0 hSB hK

set_option maxRecDepth 20000 in
theorem s_mfind {G : GG} {f : Nat → Nat → Nat} {l : Nat → Nat → Int64} {D : DB} (hV : RV f l D) (hD : DW D) {W : LB} (hL : LV f l W) (hW : LW W) (hSB : SB f)  : SpX G mX3_find [.ref (ad G 53)] f l (fun r f1 l1 => r = none ∧ FM f D W f1 ∧ l = l1) := by
  have hR := hD.1
  have hK4 := keptD_lt hD
  have hKR := keptD_pow D
  have hF0 : Fra f (uf f 53 4 (keptD D)) := (Fra.rf f).put rfl (Or.inr (by decide))
  have hV0 := hF0.RV hV
  have hL0 := hF0.LV hL
  have hSB0 := hF0.2 hSB
  refine SpX.of ok_X3_find.1 (Nat.le_of_ble_eq_true rfl) ?_
  show Pm G RX3 cX3_find 4 (KX G mX3_find (fun r f1 l1 => r = none ∧ FM f D W f1 ∧ l = l1)) 0 [some (.ref (ad G 53)), none, none, none] [] f l
  refine P.aload_n dX3_find_0 rfl rfl ?_
  refine P.aload_n dX3_find_1 rfl rfl ?_
  refine g_X3_rows (q := 2) ly_53 (by decide) (by decide) fl_X3_22 dX3_find_2 ?_
  refine P.callV (As := []) (rest := [.ref (ad G 53)]) (s_kept hV hD) ok_X7_kept (fitX (Nat.le_of_ble_eq_true rfl)) rfl ml_X3_30 ly_2 (by decide) (by decide) rfl rfl (Nat.le_of_ble_eq_true rfl) dX3_find_5 ?_
  refine p_X3_kept (a := (keptD D)) ly_53 (by decide) fl_X3_36 dX3_find_8 rfl ?_
  refine P.aload_n dX3_find_11 rfl rfl ?_
  refine P.callVX (As := []) (rest := []) (s_findBroken hV0 hD hL0 hW hSB0 (uf_self _ _ _ _) hK4 hKR) ok_X3_findBroken (fitX (Nat.le_of_ble_eq_true rfl)) rfl ml_X3_39 ly_53 (by decide) (by decide) rfl rfl (Nat.le_of_ble_eq_true rfl) dX3_find_12 (fun r f1 l1 hp => ?_)
  obtain ⟨rfl, h3, e⟩ := hp
  subst e
  refine P.aload_n dX3_find_15 rfl rfl ?_
  refine P.iconst dX3_find_16 ic_0 ?_
  refine p_X3_many (a := 0) ly_53 (by decide) fl_X3_42 dX3_find_17 rfl ?_
  refine P.iconst dX3_find_20 ic_0 ?_
  refine P.istore_n dX3_find_21 rfl (by decide) ?_
  refine loop_up (M := fun (i : Nat) => ∀ g : Nat → Nat → Nat, IV4 (uf f 53 4 (keptD D)) D W (keptD D) i g → Pm G _ _ _ _ 22 [some (.ref (ad G 53)), some (.int (nI i)), none, none] [] g l) (lo := 0) (N := (keptD D + 1)) (by first | exact Nat.zero_le _ | omega) (fun i hi0 hi1 ihi => ?_) ?_ _ ?_
  · intro g hg
    have hVg := hg.1.RV hV0
    have hSBg := hg.1.2 hSB0
    show Pm G _ _ _ _ 22 [some (.ref (ad G 53)), some (.int (nI i)), none, none] [] g l
    refine P.iload_n dX3_find_22 rfl rfl ?_
    refine P.aload_n dX3_find_23 rfl rfl ?_
    refine g_X3_kept ly_53 (by decide) fl_X3_36 dX3_find_24 ?_
    refine Pm.topn (b := keptD D) (hg.2.1) ?_
    refine P.icmp_gt_n (tgt := 132) dX3_find_27 (by decide) (by omega) (by omega) (fun c_27 => ?_) (fun c_27 => ?_)
    · exfalso; omega
    refine P.iload_n dX3_find_30 rfl rfl ?_
    refine P.aload_n dX3_find_31 rfl rfl ?_
    refine g_X3_kept ly_53 (by decide) fl_X3_36 dX3_find_32 ?_
    refine Pm.topn (b := keptD D) (hg.2.1) ?_
    refine P.iconst (v := -1) dX3_find_35 rfl ?_
    refine P.ixor dX3_find_36 ?_
    refine P.iand_n dX3_find_37 (n_not _ _) ?_
    refine P.if_ne_n (tgt := 126) dX3_find_38 (by decide) (by have := sd_le i (keptD D); omega) (fun c_38 => ?_) (fun c_38 => ?_)
    · refine P.iinc dX3_find_126 rfl (inc1 _) (by decide) ?_
      refine P.goto (tgt := 22) dX3_find_129 (by decide) ?_
      show Pm G _ _ _ _ 22 [some (.ref (ad G 53)), some (.int (nI (i + 1))), none, none] [] g l
      exact Pm.to (ihi _ (IV4_skip hg (fun q => c_38 (sd_0.mpr q)))) (by simp [lle]) rfl rfl rfl
    refine P.aload_n dX3_find_41 rfl rfl ?_
    refine P.iload_n dX3_find_42 rfl rfl ?_
    refine P.callV (As := [.int (nI i)]) (rest := []) (s_more hVg hD hSBg (by omega)) ok_X3_isMoreThanOne (fitX (Nat.le_of_ble_eq_true rfl)) rfl ml_X3_45 ly_53 (by decide) (by decide) rfl rfl (Nat.le_of_ble_eq_true rfl) dX3_find_43 ?_
    refine P.istore_n dX3_find_46 rfl (by decide) ?_
    refine P.aload_n dX3_find_47 rfl rfl ?_
    refine g_X3_broken (q := 55) ly_53 (by decide) (by decide) fl_X3_15 dX3_find_48 ?_
    refine P.aload_n dX3_find_51 rfl rfl ?_
    refine g_X3_kept ly_53 (by decide) fl_X3_36 dX3_find_52 ?_
    refine Pm.topn (b := keptD D) (hg.2.1) ?_
    refine P.iload_n dX3_find_55 rfl rfl ?_
    refine P.ixor_n dX3_find_56 (n_xor _ _) ?_
    refine a_za ly_55 (by decide) (Nat.xor_lt_two_pow (n := 12) (by omega) (by omega)) (by decide) dX3_find_57 ?_
    refine P.if_ne_n (tgt := 65) dX3_find_58 (by decide) (Nat.lt_trans (hSBg _).1 (by decide)) (fun c_58 => ?_) (fun c_58 => ?_)
    · refine P.iconst dX3_find_65 ic_0 ?_
      refine P.istore_n dX3_find_66 rfl (by decide) ?_
      refine P.aload_n dX3_find_67 rfl rfl ?_
      refine g_X3_covers (q := 56) ly_53 (by decide) (by decide) fl_X3_19 dX3_find_68 ?_
      refine P.iload_n dX3_find_71 rfl rfl ?_
      refine P.iload_n dX3_find_72 rfl rfl ?_
      refine P.if_ne_b (tgt := 80) dX3_find_73 (by decide) (fun c_73 => ?_) (fun c_73 => ?_)
      · refine P.iconst dX3_find_80 ic_1 ?_
        refine P.goto (tgt := 85) dX3_find_81 (by decide) ?_
        refine s_za (a := 1) ly_56 (by decide) (by omega) (by decide) dX3_find_85 rfl (by omega) ?_
        refine P.iload_n dX3_find_86 rfl rfl ?_
        refine P.if_eq_n (tgt := 126) dX3_find_87 (by decide) (by omega) (fun c_87 => ?_) (fun c_87 => ?_)
        · refine P.iinc dX3_find_126 rfl (inc1 _) (by decide) ?_
          refine P.goto (tgt := 22) dX3_find_129 (by decide) ?_
          show Pm G _ _ _ _ 22 [some (.ref (ad G 53)), some (.int (nI (i + 1))), some (.int (bI (more D g i))), some (.int (nI 0))] [] (uf g 56 i 1) l
          exact Pm.to (ihi _ (IV4_cov hg (by decide) ⟨fun _ => (find_t hg hKR (sd_0.mp c_38) c_73).1, fun _ => by decide⟩ (find_t hg hKR (sd_0.mp c_38) c_73).2)) (by simp [lle]) rfl rfl rfl
        · exfalso; omega
      refine P.iload_n dX3_find_76 rfl rfl ?_
      refine P.if_eq_n (tgt := 84) dX3_find_77 (by decide) (by omega) (fun c_77 => ?_) (fun c_77 => ?_)
      · refine P.iconst dX3_find_84 ic_0 ?_
        refine s_za (a := 0) ly_56 (by decide) (by omega) (by decide) dX3_find_85 rfl (by omega) ?_
        refine P.iload_n dX3_find_86 rfl rfl ?_
        refine P.if_eq_n (tgt := 126) dX3_find_87 (by decide) (by omega) (fun c_87 => ?_) (fun c_87 => ?_)
        · refine P.iinc dX3_find_126 rfl (inc1 _) (by decide) ?_
          refine P.goto (tgt := 22) dX3_find_129 (by decide) ?_
          show Pm G _ _ _ _ 22 [some (.ref (ad G 53)), some (.int (nI (i + 1))), some (.int (bI (more D g i))), some (.int (nI 0))] [] (uf g 56 i 0) l
          exact Pm.to (ihi _ (IV4_cov hg (by decide) (find_f0 hg hKR (sd_0.mp c_38) c_73 c_58).1 (find_f0 hg hKR (sd_0.mp c_38) c_73 c_58).2)) (by simp [lle]) rfl rfl rfl
        · exfalso; omega
      · exfalso; omega
    refine P.iconst dX3_find_61 ic_1 ?_
    refine P.goto (tgt := 66) dX3_find_62 (by decide) ?_
    refine P.istore_n dX3_find_66 rfl (by decide) ?_
    refine P.aload_n dX3_find_67 rfl rfl ?_
    refine g_X3_covers (q := 56) ly_53 (by decide) (by decide) fl_X3_19 dX3_find_68 ?_
    refine P.iload_n dX3_find_71 rfl rfl ?_
    refine P.iload_n dX3_find_72 rfl rfl ?_
    refine P.if_ne_b (tgt := 80) dX3_find_73 (by decide) (fun c_73 => ?_) (fun c_73 => ?_)
    · refine P.iconst dX3_find_80 ic_1 ?_
      refine P.goto (tgt := 85) dX3_find_81 (by decide) ?_
      refine s_za (a := 1) ly_56 (by decide) (by omega) (by decide) dX3_find_85 rfl (by omega) ?_
      refine P.iload_n dX3_find_86 rfl rfl ?_
      refine P.if_eq_n (tgt := 126) dX3_find_87 (by decide) (by omega) (fun c_87 => ?_) (fun c_87 => ?_)
      · exfalso; omega
      refine P.iload_n dX3_find_90 rfl rfl ?_
      refine P.if_ne_b (tgt := 126) dX3_find_91 (by decide) (fun c_91 => ?_) (fun c_91 => ?_)
      · refine P.iinc dX3_find_126 rfl (inc1 _) (by decide) ?_
        refine P.goto (tgt := 22) dX3_find_129 (by decide) ?_
        show Pm G _ _ _ _ 22 [some (.ref (ad G 53)), some (.int (nI (i + 1))), some (.int (bI (more D g i))), some (.int (nI 1))] [] (uf g 56 i 1) l
        exact Pm.to (ihi _ (IV4_cov hg (by decide) ⟨fun _ => (find_t hg hKR (sd_0.mp c_38) c_73).1, fun _ => by decide⟩ (find_t hg hKR (sd_0.mp c_38) c_73).2)) (by simp [lle]) rfl rfl rfl
      · rw [c_73] at c_91; cases c_91
    refine P.iload_n dX3_find_76 rfl rfl ?_
    refine P.if_eq_n (tgt := 84) dX3_find_77 (by decide) (by omega) (fun c_77 => ?_) (fun c_77 => ?_)
    · exfalso; omega
    refine P.iconst dX3_find_80 ic_1 ?_
    refine P.goto (tgt := 85) dX3_find_81 (by decide) ?_
    refine s_za (a := 1) ly_56 (by decide) (by omega) (by decide) dX3_find_85 rfl (by omega) ?_
    refine P.iload_n dX3_find_86 rfl rfl ?_
    refine P.if_eq_n (tgt := 126) dX3_find_87 (by decide) (by omega) (fun c_87 => ?_) (fun c_87 => ?_)
    · exfalso; omega
    refine P.iload_n dX3_find_90 rfl rfl ?_
    refine P.if_ne_b (tgt := 126) dX3_find_91 (by decide) (fun c_91 => ?_) (fun c_91 => ?_)
    · rw [c_73] at c_91; cases c_91
    refine P.aload_n dX3_find_94 rfl rfl ?_
    refine g_X3_many ly_53 (by decide) fl_X3_42 dX3_find_95 ?_
    refine Pm.topn (b := (ML D W (keptD D) i).length) ((uf_ne _ _ (Or.inl (by omega))).trans (hg.2.2.2.2.1)) ?_
    refine P.aload_n dX3_find_98 rfl rfl ?_
    refine g_X3_least (q := 54) ly_53 (by decide) (by decide) fl_X3_9 dX3_find_99 ?_
    refine n_ia ly_54 (by decide) dX3_find_102 ?_
    refine P.icmp_ge_n (tgt := 126) dX3_find_103 (by decide) (by have := ML_len D W (keptD D) i; omega) (by omega) (fun c_103 => ?_) (fun c_103 => ?_)
    · exfalso; have := ML_len D W (keptD D) i; omega
    refine P.aload_n dX3_find_106 rfl rfl ?_
    refine g_X3_least (q := 54) ly_53 (by decide) (by decide) fl_X3_9 dX3_find_107 ?_
    refine P.aload_n dX3_find_110 rfl rfl ?_
    refine g_X3_many ly_53 (by decide) fl_X3_42 dX3_find_111 ?_
    refine Pm.topn (b := (ML D W (keptD D) i).length) ((uf_ne _ _ (Or.inl (by omega))).trans (hg.2.2.2.2.1)) ?_
    refine P.iload_n dX3_find_114 rfl rfl ?_
    refine s_ia (a := i) ly_54 (by decide) (by have := ML_len D W (keptD D) i; omega) (by decide) dX3_find_115 rfl ?_
    refine P.aload_n dX3_find_116 rfl rfl ?_
    refine P.dup dX3_find_117 rfl ?_
    refine g_X3_many ly_53 (by decide) fl_X3_42 dX3_find_118 ?_
    refine Pm.topn (b := (ML D W (keptD D) i).length) ((uf_ne _ _ (Or.inl (by omega))).trans ((uf_ne _ _ (Or.inl (by omega))).trans (hg.2.2.2.2.1))) ?_
    refine P.iconst dX3_find_121 ic_1 ?_
    refine P.iadd_n dX3_find_122 (nI_add _ _) ?_
    refine p_X3_many (a := (((ML D W (keptD D) i).length) + 1)) ly_53 (by decide) fl_X3_42 dX3_find_123 rfl ?_
    refine P.iinc dX3_find_126 rfl (inc1 _) (by decide) ?_
    refine P.goto (tgt := 22) dX3_find_129 (by decide) ?_
    show Pm G _ _ _ _ 22 [some (.ref (ad G 53)), some (.int (nI (i + 1))), some (.int (bI (more D g i))), some (.int (nI 1))] [] (uf (uf (uf g 56 i 1) 54 ((ML D W (keptD D) i).length) i) 53 3 (((ML D W (keptD D) i).length) + 1)) l
    exact Pm.to (ihi _ (IV4_new hg (find_f1 hg hKR (sd_0.mp c_38) c_91 c_58).1 (find_f1 hg hKR (sd_0.mp c_38) c_91 c_58).2)) (by simp [lle]) rfl rfl rfl
  · intro g hg
    have hVg := hg.1.RV hV0
    have hSBg := hg.1.2 hSB0
    show Pm G _ _ _ _ 22 [some (.ref (ad G 53)), some (.int (nI (keptD D + 1))), none, none] [] g l
    refine P.iload_n dX3_find_22 rfl rfl ?_
    refine P.aload_n dX3_find_23 rfl rfl ?_
    refine g_X3_kept ly_53 (by decide) fl_X3_36 dX3_find_24 ?_
    refine Pm.topn (b := keptD D) (hg.2.1) ?_
    refine P.icmp_gt_n (tgt := 132) dX3_find_27 (by decide) (by omega) (by omega) (fun c_27 => ?_) (fun c_27 => ?_)
    · exact P.vretX rfl dX3_find_132 ⟨rfl, ⟨hF0.tr hg.1, hg.2.1, hg.2.2.2.2.1, hg.2.2.2.2.2⟩, rfl⟩
    · exfalso; omega
  · exact IV4_0 h3

set_option maxRecDepth 20000 in
theorem s_leftBy {G : GG} {f : Nat → Nat → Nat} {l : Nat → Nat → Int64} {Q : List Nat} (h3 : f 53 3 = Q.length) (hl : ∀ j, j < Q.length → f 54 j = Q.getD j 0) (hq : ∀ j, j < Q.length → Q.getD j 0 < 4096) {K i : Nat} (hK : f 53 4 = K) (hi : i < Q.length) (h4 : Q.length ≤ 4096) : Spec G mX3_leftBy [.ref (ad G 53), .int (nI i)] 114 (f, l, refT) (some (.int (nI (K ^^^ Q.getD i 0)))) 114 (f, l, refT) := by
  refine Spec.of ok_X3_leftBy.1 ⟨Nat.le_refl _, Nat.le_refl _⟩ (Nat.le_of_ble_eq_true rfl) ?_
  show Pm G RX3 cX3_leftBy 2 (KM G mX3_leftBy 114 114 (some (.int (nI (K ^^^ Q.getD i 0)))) (f, l, refT)) 0 [some (.ref (ad G 53)), some (.int (nI i))] [] f l
  refine P.aload_n dX3_leftBy_0 rfl rfl ?_
  refine g_X3_kept ly_53 (by decide) fl_X3_36 dX3_leftBy_1 ?_
  refine Pm.topn (b := K) (hK) ?_
  refine P.aload_n dX3_leftBy_4 rfl rfl ?_
  refine g_X3_least (q := 54) ly_53 (by decide) (by decide) fl_X3_9 dX3_leftBy_5 ?_
  refine P.iload_n dX3_leftBy_8 rfl rfl ?_
  refine a_ia ly_54 (by decide) (by omega) (by decide) dX3_leftBy_9 ?_
  refine Pm.topn (b := Q.getD i 0) ((hl i (by omega))) ?_
  refine P.ixor_n dX3_leftBy_10 (n_xor _ _) ?_
  exact P.iret rfl dX3_leftBy_11 rfl rfl

set_option maxRecDepth 20000 in
theorem s_cheapest {G : GG} {f : Nat → Nat → Nat} {l : Nat → Nat → Int64} {D : DB} (hV : RV f l D) (hD : DW D) {Q : List Nat} (h3 : f 53 3 = Q.length) (hl : ∀ j, j < Q.length → f 54 j = Q.getD j 0) (hq : ∀ j, j < Q.length → Q.getD j 0 < 4096) (h0 : 0 < Q.length) (h4 : Q.length ≤ 4096) : Spec G mX3_cheapest [.ref (ad G 53)] 114 (f, l, refT) (some (.int (nI (chp D Q Q.length)))) 114 (f, l, refT) := by
  have hR := hD.1
  refine Spec.of ok_X3_cheapest.1 ⟨Nat.le_refl _, Nat.le_refl _⟩ (Nat.le_of_ble_eq_true rfl) ?_
  show Pm G RX3 cX3_cheapest 5 (KM G mX3_cheapest 114 114 (some (.int (nI (chp D Q Q.length)))) (f, l, refT)) 0 [some (.ref (ad G 53)), none, none, none, none] [] f l
  refine P.aload_n dX3_cheapest_0 rfl rfl ?_
  refine g_X3_least (q := 54) ly_53 (by decide) (by decide) fl_X3_9 dX3_cheapest_1 ?_
  refine P.iconst dX3_cheapest_4 ic_0 ?_
  refine a_ia ly_54 (by decide) (by omega) (by decide) dX3_cheapest_5 ?_
  refine Pm.topn (b := Q.getD 0 0) ((hl 0 (by omega))) ?_
  refine P.istore_n dX3_cheapest_6 rfl (by decide) ?_
  refine P.aload_n dX3_cheapest_7 rfl rfl ?_
  refine g_X3_rows (q := 2) ly_53 (by decide) (by decide) fl_X3_22 dX3_cheapest_8 ?_
  refine P.iload_n dX3_cheapest_11 rfl rfl ?_
  refine P.callV (As := [.int (nI (Q.getD 0 0))]) (rest := []) (s_trustOf hV hD (hq _ (by omega))) ok_X7_trustOf ⟨Nat.le_of_ble_eq_true rfl, Nat.le_of_ble_eq_true rfl, Nat.le_refl _, Nat.le_refl _⟩ rfl ml_X3_124 ly_2 (by decide) (by decide) rfl rfl (Nat.le_of_ble_eq_true rfl) dX3_cheapest_12 ?_
  refine P.istore_n dX3_cheapest_15 rfl (by decide) ?_
  refine P.iconst dX3_cheapest_16 ic_1 ?_
  refine P.istore_n dX3_cheapest_17 rfl (by decide) ?_
  refine loop_up (M := fun (i : Nat) => Pm G _ _ _ _ 18 [some (.ref (ad G 53)), some (.int (nI (chp D Q i))), some (.int (nI (trustD D (chp D Q i)))), some (.int (nI i)), none] [] f l) (lo := 1) (N := Q.length) (by first | exact Nat.zero_le _ | omega) (fun i hi0 hi1 ihi => ?_) ?_
  · show Pm G _ _ _ _ 18 [some (.ref (ad G 53)), some (.int (nI (chp D Q i))), some (.int (nI (trustD D (chp D Q i)))), some (.int (nI i)), none] [] f l
    refine P.iload_n dX3_cheapest_18 rfl rfl ?_
    refine P.aload_n dX3_cheapest_19 rfl rfl ?_
    refine g_X3_many ly_53 (by decide) fl_X3_42 dX3_cheapest_20 ?_
    refine Pm.topn (b := Q.length) (h3) ?_
    refine P.icmp_ge_n (tgt := 63) dX3_cheapest_23 (by decide) (by omega) (by omega) (fun c_23 => ?_) (fun c_23 => ?_)
    · exfalso; omega
    refine P.aload_n dX3_cheapest_26 rfl rfl ?_
    refine g_X3_rows (q := 2) ly_53 (by decide) (by decide) fl_X3_22 dX3_cheapest_27 ?_
    refine P.aload_n dX3_cheapest_30 rfl rfl ?_
    refine g_X3_least (q := 54) ly_53 (by decide) (by decide) fl_X3_9 dX3_cheapest_31 ?_
    refine P.iload_n dX3_cheapest_34 rfl rfl ?_
    refine a_ia ly_54 (by decide) (by omega) (by decide) dX3_cheapest_35 ?_
    refine Pm.topn (b := Q.getD i 0) ((hl i (by omega))) ?_
    refine P.callV (As := [.int (nI (Q.getD i 0))]) (rest := []) (s_trustOf hV hD (hq _ (by omega))) ok_X7_trustOf ⟨Nat.le_of_ble_eq_true rfl, Nat.le_of_ble_eq_true rfl, Nat.le_refl _, Nat.le_refl _⟩ rfl ml_X3_124 ly_2 (by decide) (by decide) rfl rfl (Nat.le_of_ble_eq_true rfl) dX3_cheapest_36 ?_
    refine P.istore dX3_cheapest_39 (by decide) ?_
    refine P.iload dX3_cheapest_41 rfl ?_
    refine P.iload_n dX3_cheapest_43 rfl rfl ?_
    refine P.icmp_ge_n (tgt := 57) dX3_cheapest_44 (by decide) (by have := trustD_le hD (Q.getD i 0); omega) (by have := trustD_le hD (chp D Q i); omega) (fun c_44 => ?_) (fun c_44 => ?_)
    · refine P.iinc dX3_cheapest_57 rfl (inc1 _) (by decide) ?_
      refine P.goto (tgt := 18) dX3_cheapest_60 (by decide) ?_
      show Pm G _ _ _ _ 18 [some (.ref (ad G 53)), some (.int (nI (chp D Q i))), some (.int (nI (trustD D (chp D Q i)))), some (.int (nI (i + 1))), some (.int (nI (trustD D (Q.getD i 0))))] [] f l
      exact Pm.to (ihi) (by rw [chp_s, if_neg (by omega)]; simp [lle]) rfl rfl rfl
    refine P.aload_n dX3_cheapest_47 rfl rfl ?_
    refine g_X3_least (q := 54) ly_53 (by decide) (by decide) fl_X3_9 dX3_cheapest_48 ?_
    refine P.iload_n dX3_cheapest_51 rfl rfl ?_
    refine a_ia ly_54 (by decide) (by omega) (by decide) dX3_cheapest_52 ?_
    refine Pm.topn (b := Q.getD i 0) ((hl i (by omega))) ?_
    refine P.istore_n dX3_cheapest_53 rfl (by decide) ?_
    refine P.iload dX3_cheapest_54 rfl ?_
    refine P.istore_n dX3_cheapest_56 rfl (by decide) ?_
    refine P.iinc dX3_cheapest_57 rfl (inc1 _) (by decide) ?_
    refine P.goto (tgt := 18) dX3_cheapest_60 (by decide) ?_
    show Pm G _ _ _ _ 18 [some (.ref (ad G 53)), some (.int (nI (Q.getD i 0))), some (.int (nI (trustD D (Q.getD i 0)))), some (.int (nI (i + 1))), some (.int (nI (trustD D (Q.getD i 0))))] [] f l
    exact Pm.to (ihi) (by rw [chp_s, if_pos (by omega)]; simp [lle]) rfl rfl rfl
  · show Pm G _ _ _ _ 18 [some (.ref (ad G 53)), some (.int (nI (chp D Q Q.length))), some (.int (nI (trustD D (chp D Q Q.length)))), some (.int (nI Q.length)), none] [] f l
    refine P.iload_n dX3_cheapest_18 rfl rfl ?_
    refine P.aload_n dX3_cheapest_19 rfl rfl ?_
    refine g_X3_many ly_53 (by decide) fl_X3_42 dX3_cheapest_20 ?_
    refine Pm.topn (b := Q.length) (h3) ?_
    refine P.icmp_ge_n (tgt := 63) dX3_cheapest_23 (by decide) (by omega) (by omega) (fun c_23 => ?_) (fun c_23 => ?_)
    · refine P.iload_n dX3_cheapest_63 rfl rfl ?_
      exact P.iret rfl dX3_cheapest_64 rfl rfl
    · exfalso; omega

set_option maxRecDepth 20000 in
theorem s_drop {G : GG} {f : Nat → Nat → Nat} {l : Nat → Nat → Int64} {D : DB} (hV : RV f l D) (hD : DW D) {S : Nat} (hS : S < 4096) : Spec G mX7_drop [.ref (ad G 2), .int (nI S)] 114 (f, l, refT) none 114 (drp f S D.1, l, refT) := by
  have hR := hD.1
  refine Spec.of ok_X7_drop.1 ⟨Nat.le_refl _, Nat.le_refl _⟩ (Nat.le_of_ble_eq_true rfl) ?_
  show Pm G RX7 cX7_drop 3 (KM G mX7_drop 114 114 none (drp f S D.1, l, refT)) 0 [some (.ref (ad G 2)), some (.int (nI S)), none] [] f l
  refine P.iconst dX7_drop_0 ic_0 ?_
  refine P.istore_n dX7_drop_1 rfl (by decide) ?_
  refine loop_up (M := fun (i : Nat) => Pm G _ _ _ _ 2 [some (.ref (ad G 2)), some (.int (nI S)), some (.int (nI i))] [] (drp f S i) l) (lo := 0) (N := D.1) (by first | exact Nat.zero_le _ | omega) (fun i hi0 hi1 ihi => ?_) ?_
  · show Pm G _ _ _ _ 2 [some (.ref (ad G 2)), some (.int (nI S)), some (.int (nI i))] [] (drp f S i) l
    refine P.iload_n dX7_drop_2 rfl rfl ?_
    refine P.aload_n dX7_drop_3 rfl rfl ?_
    refine g_X7_many ly_2 (by decide) fl_X7_18 dX7_drop_4 ?_
    refine Pm.topn (b := D.1) (((drp_ne _ _ _ (Or.inl (by decide))).trans hV.1)) ?_
    refine P.icmp_ge_n (tgt := 34) dX7_drop_7 (by decide) (by omega) (by omega) (fun c_7 => ?_) (fun c_7 => ?_)
    · exfalso; omega
    refine P.iload_n dX7_drop_10 rfl rfl ?_
    refine P.iload_n dX7_drop_11 rfl rfl ?_
    refine P.callSN (As := [.int (nI S), .int (nI i)]) (rest := []) (s_isIn (s := S) (r := i) (by omega) (by omega)) ok_X9_isIn ⟨Nat.le_of_ble_eq_true rfl, Nat.le_of_ble_eq_true rfl, Nat.le_refl _, Nat.le_refl _⟩ rfl mn_X7_32 rfl (Nat.le_of_ble_eq_true rfl) dX7_drop_12 ?_
    refine P.if_eq_b (tgt := 28) dX7_drop_15 (by decide) (fun c_15 => ?_) (fun c_15 => ?_)
    · refine P.iinc dX7_drop_28 rfl (inc1 _) (by decide) ?_
      refine P.goto (tgt := 2) dX7_drop_31 (by decide) ?_
      show Pm G _ _ _ _ 2 [some (.ref (ad G 2)), some (.int (nI S)), some (.int (nI (i + 1)))] [] (drp f S i) l
      exact Pm.to (ihi) (by simp [lle]) rfl (by rw [drp_s, if_neg (by simp [c_15])]) rfl
    refine P.aload_n dX7_drop_18 rfl rfl ?_
    refine g_X7_list (q := 3) ly_2 (by decide) (by decide) fl_X7_11 dX7_drop_19 ?_
    refine P.iload_n dX7_drop_22 rfl rfl ?_
    refine a_r6 (q := 4 + 3 * i) ly_3 (by decide) (by omega) (by decide) (rt_row (r := i) (by omega)) dX7_drop_23 ?_
    refine P.iconst dX7_drop_24 ic_0 ?_
    refine p_X6_kept (a := 0) (ly_row (r := i) (by omega)) (by omega) fl_X7_28 dX7_drop_25 rfl (by omega) ?_
    refine P.iinc dX7_drop_28 rfl (inc1 _) (by decide) ?_
    refine P.goto (tgt := 2) dX7_drop_31 (by decide) ?_
    show Pm G _ _ _ _ 2 [some (.ref (ad G 2)), some (.int (nI S)), some (.int (nI (i + 1)))] [] (uf (drp f S i) (4 + 3 * i) 4 0) l
    exact Pm.to (ihi) (by simp [lle]) rfl (by rw [drp_s, if_pos (by simp [c_15])]) rfl
  · show Pm G _ _ _ _ 2 [some (.ref (ad G 2)), some (.int (nI S)), some (.int (nI D.1))] [] (drp f S D.1) l
    refine P.iload_n dX7_drop_2 rfl rfl ?_
    refine P.aload_n dX7_drop_3 rfl rfl ?_
    refine g_X7_many ly_2 (by decide) fl_X7_18 dX7_drop_4 ?_
    refine Pm.topn (b := D.1) (((drp_ne _ _ _ (Or.inl (by decide))).trans hV.1)) ?_
    refine P.icmp_ge_n (tgt := 34) dX7_drop_7 (by decide) (by omega) (by omega) (fun c_7 => ?_) (fun c_7 => ?_)
    · exact P.vret rfl dX7_drop_34 rfl
    · exfalso; omega


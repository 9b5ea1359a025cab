-- the model's sums and laws: by program (wip/whole/spec40.py)
set_option maxRecDepth 20000 in
theorem t_isMore_none {G : GG} {f : Nat → Nat → Nat} {l : Nat → Nat → Int64} {D : DB} {W : LB} {U : QB} {T : TB} {N : Nat} (hM : MV f l D W U T N) (hBW : BW D W U T) {w F S : Nat} (hw : w < W.1) (hF : F < 12) (hS : S < 2147483648) (h0 : W.2.1 w 0 = 4)  : Spec G mX10_isMore [.ref (ad G 86), .int (nI w), .int (nI F), .int (nI S), .int (-9)] 114 (f, l, refT) (some (.int (bI (mor (mp D W w F S) (mg D W w) (W.2.2 w 5) D.1)))) 114 (f, l, refT) := by
  obtain ⟨hD, hLW, hUW, hTW⟩ := id hBW
  have hR := hD.1
  have hW1 := hLW.1
  have hU1 := hUW.1
  have hJ1 := hUW.2.1
  obtain ⟨hw0, hw1, hw2, hw3, hw4, -⟩ := hLW.2 w hw
  have hk1 : W.2.1 w 0 ≠ 1 := by omega
  have hk3 : W.2.1 w 0 ≠ 3 := by omega
  have hk5 : W.2.1 w 0 ≠ 5 := by omega
  refine Spec.of ok_X10_isMore.1 ⟨Nat.le_refl _, Nat.le_refl _⟩ (Nat.le_of_ble_eq_true rfl) ?_
  show Pm G RX10 cX10_isMore 8 (KM G mX10_isMore 114 114 (some (.int (bI (mor (mp D W w F S) (mg D W w) (W.2.2 w 5) D.1)))) (f, l, refT)) 0 [some (.ref (ad G 86)), some (.int (nI w)), some (.int (nI F)), some (.int (nI S)), some (.int (-9)), none, none, none] [] f l
  refine P.aload_n dX10_isMore_0 rfl rfl ?_
  refine g_X10_numC (q := 99) ly_86 (by decide) (by decide) fl_X10_48 dX10_isMore_1 ?_
  refine P.iload_n dX10_isMore_4 rfl rfl ?_
  refine a_la ly_99 (by decide) (by omega) (by decide) dX10_isMore_5 ?_
  refine Pm.topl (b := W.2.2 w 5) ((hM.lc w (by omega) hk5)) ?_
  refine P.lstore dX10_isMore_6 (by decide) (Nat.le_of_ble_eq_true rfl) ?_
  refine P.iconst dX10_isMore_8 ic_0 ?_
  refine P.istore dX10_isMore_9 (by decide) ?_
  refine loop_up (M := fun (i : Nat) => (∀ j, j < i → morB (mp D W w F S) (mg D W w) (W.2.2 w 5) j = false) → Pm G _ _ _ _ 11 [some (.ref (ad G 86)), some (.int (nI w)), some (.int (nI F)), some (.int (nI S)), some (.int (-9)), some (.long (morL (mp D W w F S) (mg D W w) (W.2.2 w 5) i)), none, some (.int (nI i))] [] f l) (lo := 0) (N := D.1) (by first | exact Nat.zero_le _ | omega) (fun i hi0 hi1 ihi => ?_) ?_ ?_
  · intro invi
    show Pm G _ _ _ _ 11 [some (.ref (ad G 86)), some (.int (nI w)), some (.int (nI F)), some (.int (nI S)), some (.int (-9)), some (.long (morL (mp D W w F S) (mg D W w) (W.2.2 w 5) i)), none, some (.int (nI i))] [] f l
    refine P.iload dX10_isMore_11 rfl ?_
    refine P.aload_n dX10_isMore_13 rfl rfl ?_
    refine g_X10_rows ly_86 (by decide) fl_X10_106 dX10_isMore_14 ?_
    refine Pm.topn (b := D.1) (hM.R) ?_
    refine P.icmp_ge_n (tgt := 123) dX10_isMore_17 (by decide) (by omega) (by omega) (fun c_17 => ?_) (fun c_17 => ?_)
    · exfalso; omega
    refine P.iload dX10_isMore_20 rfl ?_
    refine P.iload dX10_isMore_22 rfl ?_
    refine P.icmp_eq_z (tgt := 117) dX10_isMore_24 (by decide) (zN (by omega)) (show (-9 : Int32).toInt = -9 from rfl) (fun c_24 => ?_) (fun c_24 => ?_)
    · exfalso; omega
    refine P.aload_n dX10_isMore_27 rfl rfl ?_
    refine P.iload_n dX10_isMore_28 rfl rfl ?_
    refine P.iload dX10_isMore_29 rfl ?_
    refine P.iload_n dX10_isMore_31 rfl rfl ?_
    refine P.callV (As := [.int (nI w), .int (nI i), .int (nI S)]) (rest := []) (t_isOf (w := w) (r := i) (S := S) hM hBW hw (by omega) (by omega)) ok_X10_isOf ⟨Nat.le_of_ble_eq_true rfl, Nat.le_of_ble_eq_true rfl, Nat.le_refl _, Nat.le_refl _⟩ rfl ml_X10_154 ly_86 (by decide) (by decide) rfl rfl (Nat.le_of_ble_eq_true rfl) dX10_isMore_32 ?_
    refine P.if_eq_b (tgt := 117) dX10_isMore_35 (by decide) (fun c_35 => ?_) (fun c_35 => ?_)
    · refine P.iinc dX10_isMore_117 rfl (inc1 _) (by decide) ?_
      refine P.goto (tgt := 11) dX10_isMore_120 (by decide) ?_
      show Pm G _ _ _ _ 11 [some (.ref (ad G 86)), some (.int (nI w)), some (.int (nI F)), some (.int (nI S)), some (.int (-9)), some (.long (morL (mp D W w F S) (mg D W w) (W.2.2 w 5) i)), none, some (.int (nI (i + 1)))] [] f l
      exact Pm.to (ihi (by exact lt_snoc invi (by rw [morB, (show mp D W w F S i = false from by simp [mp, c_24, c_35])]; rfl))) (by rw [morL_f (show mp D W w F S i = false from by simp [mp, c_24, c_35])]; simp [lle]) rfl rfl rfl
    refine P.aload_n dX10_isMore_38 rfl rfl ?_
    refine P.iload_n dX10_isMore_39 rfl rfl ?_
    refine P.iload dX10_isMore_40 rfl ?_
    refine P.callV (As := [.int (nI w), .int (nI i)]) (rest := []) (t_counts (w := w) (r := i) hM hBW hw (by omega) hk1 hk3) ok_X10_counts ⟨Nat.le_of_ble_eq_true rfl, Nat.le_of_ble_eq_true rfl, Nat.le_refl _, Nat.le_refl _⟩ rfl ml_X10_158 ly_86 (by decide) (by decide) rfl rfl (Nat.le_of_ble_eq_true rfl) dX10_isMore_42 ?_
    refine P.if_eq_b (tgt := 117) dX10_isMore_45 (by decide) (fun c_45 => ?_) (fun c_45 => ?_)
    · refine P.iinc dX10_isMore_117 rfl (inc1 _) (by decide) ?_
      refine P.goto (tgt := 11) dX10_isMore_120 (by decide) ?_
      show Pm G _ _ _ _ 11 [some (.ref (ad G 86)), some (.int (nI w)), some (.int (nI F)), some (.int (nI S)), some (.int (-9)), some (.long (morL (mp D W w F S) (mg D W w) (W.2.2 w 5) i)), none, some (.int (nI (i + 1)))] [] f l
      exact Pm.to (ihi (by exact lt_snoc invi (by rw [morB, (show mp D W w F S i = false from by simp [mp, c_24, c_35, c_45])]; rfl))) (by rw [morL_f (show mp D W w F S i = false from by simp [mp, c_24, c_35, c_45])]; simp [lle]) rfl rfl rfl
    refine P.aload_n dX10_isMore_48 rfl rfl ?_
    refine P.iload dX10_isMore_49 rfl ?_
    refine P.aload_n dX10_isMore_51 rfl rfl ?_
    refine g_X10_colA (q := 96) ly_86 (by decide) (by decide) fl_X10_39 dX10_isMore_52 ?_
    refine P.iload_n dX10_isMore_55 rfl rfl ?_
    refine a_ia ly_96 (by decide) (by omega) (by decide) dX10_isMore_56 ?_
    refine Pm.topn (b := W.2.1 w 2) ((hM.fst w (by omega))) ?_
    refine P.iload_n dX10_isMore_57 rfl rfl ?_
    refine P.aload_n dX10_isMore_58 rfl rfl ?_
    refine g_X10_colA (q := 96) ly_86 (by decide) (by decide) fl_X10_39 dX10_isMore_59 ?_
    refine P.iload_n dX10_isMore_62 rfl rfl ?_
    refine a_ia ly_96 (by decide) (by omega) (by decide) dX10_isMore_63 ?_
    refine Pm.topn (b := W.2.1 w 2) ((hM.fst w (by omega))) ?_
    refine P.callV (As := [.int (nI i), .int (nI (W.2.1 w 2)), .int (nI F), .int (nI (W.2.1 w 2))]) (rest := []) (t_isLike (r := i) (c := (W.2.1 w 2)) (q := F) (d := (W.2.1 w 2)) hM hBW (by omega) (by omega) (by omega) (by omega)) ok_X10_isLike ⟨Nat.le_of_ble_eq_true rfl, Nat.le_of_ble_eq_true rfl, Nat.le_refl _, Nat.le_refl _⟩ rfl ml_X10_150 ly_86 (by decide) (by decide) rfl rfl (Nat.le_of_ble_eq_true rfl) dX10_isMore_64 ?_
    refine P.if_eq_b (tgt := 117) dX10_isMore_67 (by decide) (fun c_67 => ?_) (fun c_67 => ?_)
    · refine P.iinc dX10_isMore_117 rfl (inc1 _) (by decide) ?_
      refine P.goto (tgt := 11) dX10_isMore_120 (by decide) ?_
      show Pm G _ _ _ _ 11 [some (.ref (ad G 86)), some (.int (nI w)), some (.int (nI F)), some (.int (nI S)), some (.int (-9)), some (.long (morL (mp D W w F S) (mg D W w) (W.2.2 w 5) i)), none, some (.int (nI (i + 1)))] [] f l
      exact Pm.to (ihi (by exact lt_snoc invi (by rw [morB, (show mp D W w F S i = false from by simp [mp, c_24, c_35, c_45, c_67])]; rfl))) (by rw [morL_f (show mp D W w F S i = false from by simp [mp, c_24, c_35, c_45, c_67])]; simp [lle]) rfl rfl rfl
    refine P.aload_n dX10_isMore_70 rfl rfl ?_
    refine g_X10_told (q := 93) ly_86 (by decide) (by decide) fl_X10_29 dX10_isMore_71 ?_
    refine P.bipush (v := nI 6) dX10_isMore_74 rfl ?_
    refine P.iload dX10_isMore_76 rfl ?_
    refine P.imul_n dX10_isMore_78 (pk_mul _ _) ?_
    refine P.aload_n dX10_isMore_79 rfl rfl ?_
    refine g_X10_colB (q := 97) ly_86 (by decide) (by decide) fl_X10_42 dX10_isMore_80 ?_
    refine P.iload_n dX10_isMore_83 rfl rfl ?_
    refine a_ia ly_97 (by decide) (by omega) (by decide) dX10_isMore_84 ?_
    refine Pm.topn (b := W.2.1 w 3) ((hM.snd w (by omega) hk1 hk3)) ?_
    refine P.iadd_n dX10_isMore_85 (nI_add _ _) ?_
    refine a_la ly_93 (by decide) (by omega) (by decide) dX10_isMore_86 ?_
    refine Pm.topl (b := D.2.2.2 i (W.2.1 w 3)) ((hM.num i (by omega) (W.2.1 w 3) (by omega))) ?_
    refine P.lload dX10_isMore_87 rfl ?_
    refine P.lc_le (tgt := 95) dX10_isMore_89 dX10_isMore_90 (by decide) (fun c_89 => ?_) (fun c_89 => ?_)
    · refine P.lload dX10_isMore_95 rfl ?_
      refine P.aload_n dX10_isMore_97 rfl rfl ?_
      refine g_X10_told (q := 93) ly_86 (by decide) (by decide) fl_X10_29 dX10_isMore_98 ?_
      refine P.bipush (v := nI 6) dX10_isMore_101 rfl ?_
      refine P.iload dX10_isMore_103 rfl ?_
      refine P.imul_n dX10_isMore_105 (pk_mul _ _) ?_
      refine P.aload_n dX10_isMore_106 rfl rfl ?_
      refine g_X10_colB (q := 97) ly_86 (by decide) (by decide) fl_X10_42 dX10_isMore_107 ?_
      refine P.iload_n dX10_isMore_110 rfl rfl ?_
      refine a_ia ly_97 (by decide) (by omega) (by decide) dX10_isMore_111 ?_
      refine Pm.topn (b := W.2.1 w 3) ((hM.snd w (by omega) hk1 hk3)) ?_
      refine P.iadd_n dX10_isMore_112 (nI_add _ _) ?_
      refine a_la ly_93 (by decide) (by omega) (by decide) dX10_isMore_113 ?_
      refine Pm.topl (b := D.2.2.2 i (W.2.1 w 3)) ((hM.num i (by omega) (W.2.1 w 3) (by omega))) ?_
      refine P.lsub dX10_isMore_114 ?_
      refine P.lstore dX10_isMore_115 (by decide) (Nat.le_of_ble_eq_true rfl) ?_
      refine P.iinc dX10_isMore_117 rfl (inc1 _) (by decide) ?_
      refine P.goto (tgt := 11) dX10_isMore_120 (by decide) ?_
      show Pm G _ _ _ _ 11 [some (.ref (ad G 86)), some (.int (nI w)), some (.int (nI F)), some (.int (nI S)), some (.int (-9)), some (.long ((morL (mp D W w F S) (mg D W w) (W.2.2 w 5) i) - (D.2.2.2 i (W.2.1 w 3)))), none, some (.int (nI (i + 1)))] [] f l
      exact Pm.to (ihi (by exact lt_snoc invi (by rw [morB, (show mp D W w F S i = true from by simp [mp, c_24, c_35, c_45, c_67])]; exact decide_eq_false (Int64.not_lt.mpr c_89)))) (by rw [morL_t (show mp D W w F S i = true from by simp [mp, c_24, c_35, c_45, c_67])]; simp [lle, mg]) rfl rfl rfl
    refine P.iconst dX10_isMore_93 ic_1 ?_
    exact P.bret rfl dX10_isMore_94 (by rw [show mor (mp D W w F S) (mg D W w) (W.2.2 w 5) D.1 = true from anyN_t.mpr ⟨i, hi1, by rw [morB, (show mp D W w F S i = true from by simp [mp, c_24, c_35, c_45, c_67])]; simp [mg, c_89]⟩]; rfl) rfl
  · intro invi
    show Pm G _ _ _ _ 11 [some (.ref (ad G 86)), some (.int (nI w)), some (.int (nI F)), some (.int (nI S)), some (.int (-9)), some (.long (morL (mp D W w F S) (mg D W w) (W.2.2 w 5) D.1)), none, some (.int (nI D.1))] [] f l
    refine P.iload dX10_isMore_11 rfl ?_
    refine P.aload_n dX10_isMore_13 rfl rfl ?_
    refine g_X10_rows ly_86 (by decide) fl_X10_106 dX10_isMore_14 ?_
    refine Pm.topn (b := D.1) (hM.R) ?_
    refine P.icmp_ge_n (tgt := 123) dX10_isMore_17 (by decide) (by omega) (by omega) (fun c_17 => ?_) (fun c_17 => ?_)
    · refine P.iconst dX10_isMore_123 ic_0 ?_
      exact P.bret rfl dX10_isMore_124 (by rw [show mor (mp D W w F S) (mg D W w) (W.2.2 w 5) D.1 = false from anyN_f.mpr invi]; rfl) rfl
    · exfalso; omega
  · exact fun j hj => absurd hj (by omega)

set_option maxRecDepth 20000 in
theorem t_isMore_but {G : GG} {f : Nat → Nat → Nat} {l : Nat → Nat → Int64} {D : DB} {W : LB} {U : QB} {T : TB} {N : Nat} (hM : MV f l D W U T N) (hBW : BW D W U T) {w F S : Nat} (hw : w < W.1) (hF : F < 12) (hS : S < 2147483648) (h0 : W.2.1 w 0 = 4) {b : Nat} (hb : b < 12) : Spec G mX10_isMore [.ref (ad G 86), .int (nI w), .int (nI F), .int (nI S), .int (nI b)] 114 (f, l, refT) (some (.int (bI (mor (mpb D W w F S b) (mg D W w) (W.2.2 w 5) D.1)))) 114 (f, l, refT) := by
  obtain ⟨hD, hLW, hUW, hTW⟩ := id hBW
  have hR := hD.1
  have hW1 := hLW.1
  have hU1 := hUW.1
  have hJ1 := hUW.2.1
  obtain ⟨hw0, hw1, hw2, hw3, hw4, -⟩ := hLW.2 w hw
  have hk1 : W.2.1 w 0 ≠ 1 := by omega
  have hk3 : W.2.1 w 0 ≠ 3 := by omega
  have hk5 : W.2.1 w 0 ≠ 5 := by omega
  refine Spec.of ok_X10_isMore.1 ⟨Nat.le_refl _, Nat.le_refl _⟩ (Nat.le_of_ble_eq_true rfl) ?_
  show Pm G RX10 cX10_isMore 8 (KM G mX10_isMore 114 114 (some (.int (bI (mor (mpb D W w F S b) (mg D W w) (W.2.2 w 5) D.1)))) (f, l, refT)) 0 [some (.ref (ad G 86)), some (.int (nI w)), some (.int (nI F)), some (.int (nI S)), some (.int (nI b)), none, none, none] [] f l
  refine P.aload_n dX10_isMore_0 rfl rfl ?_
  refine g_X10_numC (q := 99) ly_86 (by decide) (by decide) fl_X10_48 dX10_isMore_1 ?_
  refine P.iload_n dX10_isMore_4 rfl rfl ?_
  refine a_la ly_99 (by decide) (by omega) (by decide) dX10_isMore_5 ?_
  refine Pm.topl (b := W.2.2 w 5) ((hM.lc w (by omega) hk5)) ?_
  refine P.lstore dX10_isMore_6 (by decide) (Nat.le_of_ble_eq_true rfl) ?_
  refine P.iconst dX10_isMore_8 ic_0 ?_
  refine P.istore dX10_isMore_9 (by decide) ?_
  refine loop_up (M := fun (i : Nat) => (∀ j, j < i → morB (mpb D W w F S b) (mg D W w) (W.2.2 w 5) j = false) → Pm G _ _ _ _ 11 [some (.ref (ad G 86)), some (.int (nI w)), some (.int (nI F)), some (.int (nI S)), some (.int (nI b)), some (.long (morL (mpb D W w F S b) (mg D W w) (W.2.2 w 5) i)), none, some (.int (nI i))] [] f l) (lo := 0) (N := D.1) (by first | exact Nat.zero_le _ | omega) (fun i hi0 hi1 ihi => ?_) ?_ ?_
  · intro invi
    show Pm G _ _ _ _ 11 [some (.ref (ad G 86)), some (.int (nI w)), some (.int (nI F)), some (.int (nI S)), some (.int (nI b)), some (.long (morL (mpb D W w F S b) (mg D W w) (W.2.2 w 5) i)), none, some (.int (nI i))] [] f l
    refine P.iload dX10_isMore_11 rfl ?_
    refine P.aload_n dX10_isMore_13 rfl rfl ?_
    refine g_X10_rows ly_86 (by decide) fl_X10_106 dX10_isMore_14 ?_
    refine Pm.topn (b := D.1) (hM.R) ?_
    refine P.icmp_ge_n (tgt := 123) dX10_isMore_17 (by decide) (by omega) (by omega) (fun c_17 => ?_) (fun c_17 => ?_)
    · exfalso; omega
    refine P.iload dX10_isMore_20 rfl ?_
    refine P.iload dX10_isMore_22 rfl ?_
    refine P.icmp_eq_n (tgt := 117) dX10_isMore_24 (by decide) (by omega) (by omega) (fun c_24 => ?_) (fun c_24 => ?_)
    · refine P.iinc dX10_isMore_117 rfl (inc1 _) (by decide) ?_
      refine P.goto (tgt := 11) dX10_isMore_120 (by decide) ?_
      show Pm G _ _ _ _ 11 [some (.ref (ad G 86)), some (.int (nI w)), some (.int (nI F)), some (.int (nI S)), some (.int (nI b)), some (.long (morL (mpb D W w F S b) (mg D W w) (W.2.2 w 5) i)), none, some (.int (nI (i + 1)))] [] f l
      exact Pm.to (ihi (by exact lt_snoc invi (by rw [morB, (show mpb D W w F S b i = false from by simp [mpb, mp, c_24])]; rfl))) (by rw [morL_f (show mpb D W w F S b i = false from by simp [mpb, mp, c_24])]; simp [lle]) rfl rfl rfl
    refine P.aload_n dX10_isMore_27 rfl rfl ?_
    refine P.iload_n dX10_isMore_28 rfl rfl ?_
    refine P.iload dX10_isMore_29 rfl ?_
    refine P.iload_n dX10_isMore_31 rfl rfl ?_
    refine P.callV (As := [.int (nI w), .int (nI i), .int (nI S)]) (rest := []) (t_isOf (w := w) (r := i) (S := S) hM hBW hw (by omega) (by omega)) ok_X10_isOf ⟨Nat.le_of_ble_eq_true rfl, Nat.le_of_ble_eq_true rfl, Nat.le_refl _, Nat.le_refl _⟩ rfl ml_X10_154 ly_86 (by decide) (by decide) rfl rfl (Nat.le_of_ble_eq_true rfl) dX10_isMore_32 ?_
    refine P.if_eq_b (tgt := 117) dX10_isMore_35 (by decide) (fun c_35 => ?_) (fun c_35 => ?_)
    · refine P.iinc dX10_isMore_117 rfl (inc1 _) (by decide) ?_
      refine P.goto (tgt := 11) dX10_isMore_120 (by decide) ?_
      show Pm G _ _ _ _ 11 [some (.ref (ad G 86)), some (.int (nI w)), some (.int (nI F)), some (.int (nI S)), some (.int (nI b)), some (.long (morL (mpb D W w F S b) (mg D W w) (W.2.2 w 5) i)), none, some (.int (nI (i + 1)))] [] f l
      exact Pm.to (ihi (by exact lt_snoc invi (by rw [morB, (show mpb D W w F S b i = false from by simp [mpb, mp, c_24, c_35])]; rfl))) (by rw [morL_f (show mpb D W w F S b i = false from by simp [mpb, mp, c_24, c_35])]; simp [lle]) rfl rfl rfl
    refine P.aload_n dX10_isMore_38 rfl rfl ?_
    refine P.iload_n dX10_isMore_39 rfl rfl ?_
    refine P.iload dX10_isMore_40 rfl ?_
    refine P.callV (As := [.int (nI w), .int (nI i)]) (rest := []) (t_counts (w := w) (r := i) hM hBW hw (by omega) hk1 hk3) ok_X10_counts ⟨Nat.le_of_ble_eq_true rfl, Nat.le_of_ble_eq_true rfl, Nat.le_refl _, Nat.le_refl _⟩ rfl ml_X10_158 ly_86 (by decide) (by decide) rfl rfl (Nat.le_of_ble_eq_true rfl) dX10_isMore_42 ?_
    refine P.if_eq_b (tgt := 117) dX10_isMore_45 (by decide) (fun c_45 => ?_) (fun c_45 => ?_)
    · refine P.iinc dX10_isMore_117 rfl (inc1 _) (by decide) ?_
      refine P.goto (tgt := 11) dX10_isMore_120 (by decide) ?_
      show Pm G _ _ _ _ 11 [some (.ref (ad G 86)), some (.int (nI w)), some (.int (nI F)), some (.int (nI S)), some (.int (nI b)), some (.long (morL (mpb D W w F S b) (mg D W w) (W.2.2 w 5) i)), none, some (.int (nI (i + 1)))] [] f l
      exact Pm.to (ihi (by exact lt_snoc invi (by rw [morB, (show mpb D W w F S b i = false from by simp [mpb, mp, c_24, c_35, c_45])]; rfl))) (by rw [morL_f (show mpb D W w F S b i = false from by simp [mpb, mp, c_24, c_35, c_45])]; simp [lle]) rfl rfl rfl
    refine P.aload_n dX10_isMore_48 rfl rfl ?_
    refine P.iload dX10_isMore_49 rfl ?_
    refine P.aload_n dX10_isMore_51 rfl rfl ?_
    refine g_X10_colA (q := 96) ly_86 (by decide) (by decide) fl_X10_39 dX10_isMore_52 ?_
    refine P.iload_n dX10_isMore_55 rfl rfl ?_
    refine a_ia ly_96 (by decide) (by omega) (by decide) dX10_isMore_56 ?_
    refine Pm.topn (b := W.2.1 w 2) ((hM.fst w (by omega))) ?_
    refine P.iload_n dX10_isMore_57 rfl rfl ?_
    refine P.aload_n dX10_isMore_58 rfl rfl ?_
    refine g_X10_colA (q := 96) ly_86 (by decide) (by decide) fl_X10_39 dX10_isMore_59 ?_
    refine P.iload_n dX10_isMore_62 rfl rfl ?_
    refine a_ia ly_96 (by decide) (by omega) (by decide) dX10_isMore_63 ?_
    refine Pm.topn (b := W.2.1 w 2) ((hM.fst w (by omega))) ?_
    refine P.callV (As := [.int (nI i), .int (nI (W.2.1 w 2)), .int (nI F), .int (nI (W.2.1 w 2))]) (rest := []) (t_isLike (r := i) (c := (W.2.1 w 2)) (q := F) (d := (W.2.1 w 2)) hM hBW (by omega) (by omega) (by omega) (by omega)) ok_X10_isLike ⟨Nat.le_of_ble_eq_true rfl, Nat.le_of_ble_eq_true rfl, Nat.le_refl _, Nat.le_refl _⟩ rfl ml_X10_150 ly_86 (by decide) (by decide) rfl rfl (Nat.le_of_ble_eq_true rfl) dX10_isMore_64 ?_
    refine P.if_eq_b (tgt := 117) dX10_isMore_67 (by decide) (fun c_67 => ?_) (fun c_67 => ?_)
    · refine P.iinc dX10_isMore_117 rfl (inc1 _) (by decide) ?_
      refine P.goto (tgt := 11) dX10_isMore_120 (by decide) ?_
      show Pm G _ _ _ _ 11 [some (.ref (ad G 86)), some (.int (nI w)), some (.int (nI F)), some (.int (nI S)), some (.int (nI b)), some (.long (morL (mpb D W w F S b) (mg D W w) (W.2.2 w 5) i)), none, some (.int (nI (i + 1)))] [] f l
      exact Pm.to (ihi (by exact lt_snoc invi (by rw [morB, (show mpb D W w F S b i = false from by simp [mpb, mp, c_24, c_35, c_45, c_67])]; rfl))) (by rw [morL_f (show mpb D W w F S b i = false from by simp [mpb, mp, c_24, c_35, c_45, c_67])]; simp [lle]) rfl rfl rfl
    refine P.aload_n dX10_isMore_70 rfl rfl ?_
    refine g_X10_told (q := 93) ly_86 (by decide) (by decide) fl_X10_29 dX10_isMore_71 ?_
    refine P.bipush (v := nI 6) dX10_isMore_74 rfl ?_
    refine P.iload dX10_isMore_76 rfl ?_
    refine P.imul_n dX10_isMore_78 (pk_mul _ _) ?_
    refine P.aload_n dX10_isMore_79 rfl rfl ?_
    refine g_X10_colB (q := 97) ly_86 (by decide) (by decide) fl_X10_42 dX10_isMore_80 ?_
    refine P.iload_n dX10_isMore_83 rfl rfl ?_
    refine a_ia ly_97 (by decide) (by omega) (by decide) dX10_isMore_84 ?_
    refine Pm.topn (b := W.2.1 w 3) ((hM.snd w (by omega) hk1 hk3)) ?_
    refine P.iadd_n dX10_isMore_85 (nI_add _ _) ?_
    refine a_la ly_93 (by decide) (by omega) (by decide) dX10_isMore_86 ?_
    refine Pm.topl (b := D.2.2.2 i (W.2.1 w 3)) ((hM.num i (by omega) (W.2.1 w 3) (by omega))) ?_
    refine P.lload dX10_isMore_87 rfl ?_
    refine P.lc_le (tgt := 95) dX10_isMore_89 dX10_isMore_90 (by decide) (fun c_89 => ?_) (fun c_89 => ?_)
    · refine P.lload dX10_isMore_95 rfl ?_
      refine P.aload_n dX10_isMore_97 rfl rfl ?_
      refine g_X10_told (q := 93) ly_86 (by decide) (by decide) fl_X10_29 dX10_isMore_98 ?_
      refine P.bipush (v := nI 6) dX10_isMore_101 rfl ?_
      refine P.iload dX10_isMore_103 rfl ?_
      refine P.imul_n dX10_isMore_105 (pk_mul _ _) ?_
      refine P.aload_n dX10_isMore_106 rfl rfl ?_
      refine g_X10_colB (q := 97) ly_86 (by decide) (by decide) fl_X10_42 dX10_isMore_107 ?_
      refine P.iload_n dX10_isMore_110 rfl rfl ?_
      refine a_ia ly_97 (by decide) (by omega) (by decide) dX10_isMore_111 ?_
      refine Pm.topn (b := W.2.1 w 3) ((hM.snd w (by omega) hk1 hk3)) ?_
      refine P.iadd_n dX10_isMore_112 (nI_add _ _) ?_
      refine a_la ly_93 (by decide) (by omega) (by decide) dX10_isMore_113 ?_
      refine Pm.topl (b := D.2.2.2 i (W.2.1 w 3)) ((hM.num i (by omega) (W.2.1 w 3) (by omega))) ?_
      refine P.lsub dX10_isMore_114 ?_
      refine P.lstore dX10_isMore_115 (by decide) (Nat.le_of_ble_eq_true rfl) ?_
      refine P.iinc dX10_isMore_117 rfl (inc1 _) (by decide) ?_
      refine P.goto (tgt := 11) dX10_isMore_120 (by decide) ?_
      show Pm G _ _ _ _ 11 [some (.ref (ad G 86)), some (.int (nI w)), some (.int (nI F)), some (.int (nI S)), some (.int (nI b)), some (.long ((morL (mpb D W w F S b) (mg D W w) (W.2.2 w 5) i) - (D.2.2.2 i (W.2.1 w 3)))), none, some (.int (nI (i + 1)))] [] f l
      exact Pm.to (ihi (by exact lt_snoc invi (by rw [morB, (show mpb D W w F S b i = true from by simp [mpb, mp, c_24, c_35, c_45, c_67])]; exact decide_eq_false (Int64.not_lt.mpr c_89)))) (by rw [morL_t (show mpb D W w F S b i = true from by simp [mpb, mp, c_24, c_35, c_45, c_67])]; simp [lle, mg]) rfl rfl rfl
    refine P.iconst dX10_isMore_93 ic_1 ?_
    exact P.bret rfl dX10_isMore_94 (by rw [show mor (mpb D W w F S b) (mg D W w) (W.2.2 w 5) D.1 = true from anyN_t.mpr ⟨i, hi1, by rw [morB, (show mpb D W w F S b i = true from by simp [mpb, mp, c_24, c_35, c_45, c_67])]; simp [mg, c_89]⟩]; rfl) rfl
  · intro invi
    show Pm G _ _ _ _ 11 [some (.ref (ad G 86)), some (.int (nI w)), some (.int (nI F)), some (.int (nI S)), some (.int (nI b)), some (.long (morL (mpb D W w F S b) (mg D W w) (W.2.2 w 5) D.1)), none, some (.int (nI D.1))] [] f l
    refine P.iload dX10_isMore_11 rfl ?_
    refine P.aload_n dX10_isMore_13 rfl rfl ?_
    refine g_X10_rows ly_86 (by decide) fl_X10_106 dX10_isMore_14 ?_
    refine Pm.topn (b := D.1) (hM.R) ?_
    refine P.icmp_ge_n (tgt := 123) dX10_isMore_17 (by decide) (by omega) (by omega) (fun c_17 => ?_) (fun c_17 => ?_)
    · refine P.iconst dX10_isMore_123 ic_0 ?_
      exact P.bret rfl dX10_isMore_124 (by rw [show mor (mpb D W w F S b) (mg D W w) (W.2.2 w 5) D.1 = false from anyN_f.mpr invi]; rfl) rfl
    · exfalso; omega
  · exact fun j hj => absurd hj (by omega)

set_option maxRecDepth 20000 in
theorem t_priceOf {G : GG} {f : Nat → Nat → Nat} {l : Nat → Nat → Int64} {D : DB} {W : LB} {U : QB} {T : TB} {N : Nat} (hM : MV f l D W U T N) (hBW : BW D W U T) {S : Nat} (hS : S < 2147483648) : Spec G mX10_priceOf [.ref (ad G 86), .int (nI S)] 114 (f, l, refT) (some (.int (nI (trustD D S)))) 114 (f, l, refT) := by
  obtain ⟨hD, hLW, hUW, hTW⟩ := id hBW
  have hR := hD.1
  have hW1 := hLW.1
  have hU1 := hUW.1
  have hJ1 := hUW.2.1
  have hbS := fun i => bt_lt S i
  refine Spec.of ok_X10_priceOf.1 ⟨Nat.le_refl _, Nat.le_refl _⟩ (Nat.le_of_ble_eq_true rfl) ?_
  show Pm G RX10 cX10_priceOf 4 (KM G mX10_priceOf 114 114 (some (.int (nI (trustD D S)))) (f, l, refT)) 0 [some (.ref (ad G 86)), some (.int (nI S)), none, none] [] f l
  refine P.iconst dX10_priceOf_0 ic_0 ?_
  refine P.istore_n dX10_priceOf_1 rfl (by decide) ?_
  refine P.iconst dX10_priceOf_2 ic_0 ?_
  refine P.istore_n dX10_priceOf_3 rfl (by decide) ?_
  refine loop_up (M := fun (i : Nat) => Pm G _ _ _ _ 4 [some (.ref (ad G 86)), some (.int (nI S)), some (.int (nI (sumN (fun r => S.testBit r) (fun r => D.2.1 r 3) i))), some (.int (nI i))] [] f l) (lo := 0) (N := D.1) (by first | exact Nat.zero_le _ | omega) (fun i hi0 hi1 ihi => ?_) ?_
  · show Pm G _ _ _ _ 4 [some (.ref (ad G 86)), some (.int (nI S)), some (.int (nI (sumN (fun r => S.testBit r) (fun r => D.2.1 r 3) i))), some (.int (nI i))] [] f l
    refine P.iload_n dX10_priceOf_4 rfl rfl ?_
    refine P.aload_n dX10_priceOf_5 rfl rfl ?_
    refine g_X10_rows ly_86 (by decide) fl_X10_106 dX10_priceOf_6 ?_
    refine Pm.topn (b := D.1) (hM.R) ?_
    refine P.icmp_ge_n (tgt := 40) dX10_priceOf_9 (by decide) (by omega) (by omega) (fun c_9 => ?_) (fun c_9 => ?_)
    · exfalso; omega
    refine P.iload_n dX10_priceOf_12 rfl rfl ?_
    refine P.iload_n dX10_priceOf_13 rfl rfl ?_
    refine P.iload_n dX10_priceOf_14 rfl rfl ?_
    refine P.ishr dX10_priceOf_15 (n_shr (by omega) (by omega)) ?_
    refine P.iconst dX10_priceOf_16 ic_1 ?_
    refine P.iand_n (v := nI (bt S i)) dX10_priceOf_17 (n_and1 _) ?_
    refine P.iconst dX10_priceOf_18 ic_1 ?_
    refine P.icmp_ne_n (tgt := 31) dX10_priceOf_19 (by decide) (Nat.lt_trans (bt_lt _ _) (by decide)) (by omega) (fun c_19 => ?_) (fun c_19 => ?_)
    · refine P.iconst dX10_priceOf_31 ic_0 ?_
      refine P.iadd_n dX10_priceOf_32 (nI_add _ _) ?_
      refine P.istore_n dX10_priceOf_33 rfl (by decide) ?_
      refine P.iinc dX10_priceOf_34 rfl (inc1 _) (by decide) ?_
      refine P.goto (tgt := 4) dX10_priceOf_37 (by decide) ?_
      show Pm G _ _ _ _ 4 [some (.ref (ad G 86)), some (.int (nI S)), some (.int (nI ((sumN (fun r => S.testBit r) (fun r => D.2.1 r 3) i) + 0))), some (.int (nI (i + 1)))] [] f l
      exact Pm.to (ihi) (by rw [sumN_s, tb_f (show bt S i = 0 by have := bt_lt S i; have := c_19; omega)]; simp [lle]) rfl rfl rfl
    refine P.aload_n dX10_priceOf_22 rfl rfl ?_
    refine g_X10_trustOf (q := 90) ly_86 (by decide) (by decide) fl_X10_19 dX10_priceOf_23 ?_
    refine P.iload_n dX10_priceOf_26 rfl rfl ?_
    refine a_ia ly_90 (by decide) (by omega) (by decide) dX10_priceOf_27 ?_
    refine Pm.topn (b := D.2.1 i 3) ((hM.tru i (by omega))) ?_
    refine P.goto (tgt := 32) dX10_priceOf_28 (by decide) ?_
    refine P.iadd_n dX10_priceOf_32 (nI_add _ _) ?_
    refine P.istore_n dX10_priceOf_33 rfl (by decide) ?_
    refine P.iinc dX10_priceOf_34 rfl (inc1 _) (by decide) ?_
    refine P.goto (tgt := 4) dX10_priceOf_37 (by decide) ?_
    show Pm G _ _ _ _ 4 [some (.ref (ad G 86)), some (.int (nI S)), some (.int (nI ((sumN (fun r => S.testBit r) (fun r => D.2.1 r 3) i) + (D.2.1 i 3)))), some (.int (nI (i + 1)))] [] f l
    exact Pm.to (ihi) (by rw [sumN_s, tb_t (show bt S i ≠ 0 by have := c_19; omega)]; simp [lle, Nat.add_comm]) rfl rfl rfl
  · show Pm G _ _ _ _ 4 [some (.ref (ad G 86)), some (.int (nI S)), some (.int (nI (sumN (fun r => S.testBit r) (fun r => D.2.1 r 3) D.1))), some (.int (nI D.1))] [] f l
    refine P.iload_n dX10_priceOf_4 rfl rfl ?_
    refine P.aload_n dX10_priceOf_5 rfl rfl ?_
    refine g_X10_rows ly_86 (by decide) fl_X10_106 dX10_priceOf_6 ?_
    refine Pm.topn (b := D.1) (hM.R) ?_
    refine P.icmp_ge_n (tgt := 40) dX10_priceOf_9 (by decide) (by omega) (by omega) (fun c_9 => ?_) (fun c_9 => ?_)
    · refine P.iload_n dX10_priceOf_40 rfl rfl ?_
      exact P.iret rfl dX10_priceOf_41 rfl rfl
    · exfalso; omega


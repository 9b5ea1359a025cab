-- the model's breaksLaw: by program (wip/whole/spec41.py)
set_option maxRecDepth 20000 in
theorem t_breaksLaw0 {G : GG} {f : Nat → Nat → Nat} {l : Nat → Nat → Int64} {D : DB} {W : LB} {U : QB} {T : TB} {N : Nat} (hM : MV f l D W U T N) (hBW : BW D W U T) {w S : Nat} (hw : w < W.1) (hS : S < 2147483648) (h0 : W.2.1 w 0 = 0) : Spec G mX10_breaksLaw [.ref (ad G 86), .int (nI w), .int (nI S)] 114 (f, l, refT) (some (.int (bI (brL D W w S)))) 114 (f, l, refT) := by
  obtain ⟨hD, hLW, hUW, hTW⟩ := id hBW
  have hR := hD.1
  have hW1 := hLW.1
  have hU1 := hUW.1
  have hJ1 := hUW.2.1
  obtain ⟨hw0, hw1, hw2, hw3, hw4, -⟩ := hLW.2 w hw
  have hk1 : W.2.1 w 0 ≠ 1 := by omega
  have hk3 : W.2.1 w 0 ≠ 3 := by omega
  refine Spec.of ok_X10_breaksLaw.1 ⟨Nat.le_refl _, Nat.le_refl _⟩ (Nat.le_of_ble_eq_true rfl) ?_
  show Pm G RX10 cX10_breaksLaw 5 (KM G mX10_breaksLaw 114 114 (some (.int (bI (brL D W w S)))) (f, l, refT)) 0 [some (.ref (ad G 86)), some (.int (nI w)), some (.int (nI S)), none, none] [] f l
  refine P.iconst dX10_breaksLaw_0 ic_0 ?_
  refine P.istore_n dX10_breaksLaw_1 rfl (by decide) ?_
  refine loop_up (M := fun (i : Nat) => (∀ j, j < i → brR D W w S j = false) → Pm G _ _ _ _ 2 [some (.ref (ad G 86)), some (.int (nI w)), some (.int (nI S)), some (.int (nI i)), none] [] f l) (lo := 0) (N := D.1) (by first | exact Nat.zero_le _ | omega) (fun i hi0 hi1 ihi => ?_) ?_ ?_
  · intro invi
    show Pm G _ _ _ _ 2 [some (.ref (ad G 86)), some (.int (nI w)), some (.int (nI S)), some (.int (nI i)), none] [] f l
    refine P.iload_n dX10_breaksLaw_2 rfl rfl ?_
    refine P.aload_n dX10_breaksLaw_3 rfl rfl ?_
    refine g_X10_rows ly_86 (by decide) fl_X10_106 dX10_breaksLaw_4 ?_
    refine Pm.topn (b := D.1) (hM.R) ?_
    refine P.icmp_ge_n (tgt := 127) dX10_breaksLaw_7 (by decide) (by omega) (by omega) (fun c_7 => ?_) (fun c_7 => ?_)
    · exfalso; omega
    refine P.aload_n dX10_breaksLaw_10 rfl rfl ?_
    refine P.iload_n dX10_breaksLaw_11 rfl rfl ?_
    refine P.iload_n dX10_breaksLaw_12 rfl rfl ?_
    refine P.iload_n dX10_breaksLaw_13 rfl rfl ?_
    refine P.callV (As := [.int (nI w), .int (nI i), .int (nI S)]) (rest := []) (t_isOf (w := w) (r := i) (S := S) hM hBW hw (by omega) (by omega)) ok_X10_isOf ⟨Nat.le_of_ble_eq_true rfl, Nat.le_of_ble_eq_true rfl, Nat.le_refl _, Nat.le_refl _⟩ rfl ml_X10_154 ly_86 (by decide) (by decide) rfl rfl (Nat.le_of_ble_eq_true rfl) dX10_breaksLaw_14 ?_
    refine P.if_eq_b (tgt := 121) dX10_breaksLaw_17 (by decide) (fun c_17 => ?_) (fun c_17 => ?_)
    · refine P.iinc dX10_breaksLaw_121 rfl (inc1 _) (by decide) ?_
      refine P.goto (tgt := 2) dX10_breaksLaw_124 (by decide) ?_
      show Pm G _ _ _ _ 2 [some (.ref (ad G 86)), some (.int (nI w)), some (.int (nI S)), some (.int (nI (i + 1))), none] [] f l
      exact Pm.to (ihi (by exact lt_snoc invi (by simp [brR, h0, c_17]))) (by simp [lle]) rfl rfl rfl
    refine P.aload_n dX10_breaksLaw_20 rfl rfl ?_
    refine g_X10_kind (q := 94) ly_86 (by decide) (by decide) fl_X10_33 dX10_breaksLaw_21 ?_
    refine P.iload_n dX10_breaksLaw_24 rfl rfl ?_
    refine a_ia ly_94 (by decide) (by omega) (by decide) dX10_breaksLaw_25 ?_
    refine Pm.topn (b := W.2.1 w 0) ((hM.knd w (by omega))) ?_
    refine P.iconst dX10_breaksLaw_26 ic_4 ?_
    refine P.icmp_ne_n (tgt := 51) dX10_breaksLaw_27 (by decide) (by omega) (by omega) (fun c_27 => ?_) (fun c_27 => ?_)
    · refine P.aload_n dX10_breaksLaw_51 rfl rfl ?_
      refine P.iload_n dX10_breaksLaw_52 rfl rfl ?_
      refine P.iload_n dX10_breaksLaw_53 rfl rfl ?_
      refine P.iload_n dX10_breaksLaw_54 rfl rfl ?_
      refine P.callV (As := [.int (nI w), .int (nI i), .int (nI S)]) (rest := []) (t_breakOne (w := w) (r := i) (S := S) hM hBW hw (by omega) hS) ok_X10_breakOne ⟨Nat.le_of_ble_eq_true rfl, Nat.le_of_ble_eq_true rfl, Nat.le_refl _, Nat.le_refl _⟩ rfl ml_X10_164 ly_86 (by decide) (by decide) rfl rfl (Nat.le_of_ble_eq_true rfl) dX10_breaksLaw_55 ?_
      refine P.if_eq_b (tgt := 63) dX10_breaksLaw_58 (by decide) (fun c_58 => ?_) (fun c_58 => ?_)
      · refine P.iconst dX10_breaksLaw_63 ic_0 ?_
        refine P.istore dX10_breaksLaw_64 (by decide) ?_
        refine loop_up (M := fun (q : Nat) => (∀ j, j < q → brT D W w S i j = false) → Pm G _ _ _ _ 66 [some (.ref (ad G 86)), some (.int (nI w)), some (.int (nI S)), some (.int (nI i)), some (.int (nI q))] [] f l) (lo := 0) (N := i) (by first | exact Nat.zero_le _ | omega) (fun q hq0 hq1 ihq => ?_) ?_ ?_
        · intro invq
          show Pm G _ _ _ _ 66 [some (.ref (ad G 86)), some (.int (nI w)), some (.int (nI S)), some (.int (nI i)), some (.int (nI q))] [] f l
          refine P.iload dX10_breaksLaw_66 rfl ?_
          refine P.iload_n dX10_breaksLaw_68 rfl rfl ?_
          refine P.icmp_ge_n (tgt := 121) dX10_breaksLaw_69 (by decide) (by omega) (by omega) (fun c_69 => ?_) (fun c_69 => ?_)
          · exfalso; omega
          refine P.aload_n dX10_breaksLaw_72 rfl rfl ?_
          refine g_X10_kind (q := 94) ly_86 (by decide) (by decide) fl_X10_33 dX10_breaksLaw_73 ?_
          refine P.iload_n dX10_breaksLaw_76 rfl rfl ?_
          refine a_ia ly_94 (by decide) (by omega) (by decide) dX10_breaksLaw_77 ?_
          refine Pm.topn (b := W.2.1 w 0) ((hM.knd w (by omega))) ?_
          refine P.if_eq_n (tgt := 91) dX10_breaksLaw_78 (by decide) (by omega) (fun c_78 => ?_) (fun c_78 => ?_)
          · refine P.aload_n dX10_breaksLaw_91 rfl rfl ?_
            refine P.iload_n dX10_breaksLaw_92 rfl rfl ?_
            refine P.iload dX10_breaksLaw_93 rfl ?_
            refine P.iload_n dX10_breaksLaw_95 rfl rfl ?_
            refine P.callV (As := [.int (nI w), .int (nI q), .int (nI S)]) (rest := []) (t_isOf (w := w) (r := q) (S := S) hM hBW hw (by omega) (by omega)) ok_X10_isOf ⟨Nat.le_of_ble_eq_true rfl, Nat.le_of_ble_eq_true rfl, Nat.le_refl _, Nat.le_refl _⟩ rfl ml_X10_154 ly_86 (by decide) (by decide) rfl rfl (Nat.le_of_ble_eq_true rfl) dX10_breaksLaw_96 ?_
            refine P.if_eq_b (tgt := 115) dX10_breaksLaw_99 (by decide) (fun c_99 => ?_) (fun c_99 => ?_)
            · refine P.iinc dX10_breaksLaw_115 rfl (inc1 _) (by decide) ?_
              refine P.goto (tgt := 66) dX10_breaksLaw_118 (by decide) ?_
              show Pm G _ _ _ _ 66 [some (.ref (ad G 86)), some (.int (nI w)), some (.int (nI S)), some (.int (nI i)), some (.int (nI (q + 1)))] [] f l
              exact Pm.to (ihq (by exact lt_snoc invq (by simp [brT, c_99]))) (by simp [lle]) rfl rfl rfl
            refine P.aload_n dX10_breaksLaw_102 rfl rfl ?_
            refine P.iload_n dX10_breaksLaw_103 rfl rfl ?_
            refine P.iload_n dX10_breaksLaw_104 rfl rfl ?_
            refine P.iload dX10_breaksLaw_105 rfl ?_
            refine P.callV (As := [.int (nI w), .int (nI i), .int (nI q)]) (rest := []) (t_breakTwo0 (w := w) (r := i) (q := q) hM hBW hw (by omega) (by omega) h0) ok_X10_breakTwo ⟨Nat.le_of_ble_eq_true rfl, Nat.le_of_ble_eq_true rfl, Nat.le_refl _, Nat.le_refl _⟩ rfl ml_X10_167 ly_86 (by decide) (by decide) rfl rfl (Nat.le_of_ble_eq_true rfl) dX10_breaksLaw_107 ?_
            refine P.if_eq_b (tgt := 115) dX10_breaksLaw_110 (by decide) (fun c_110 => ?_) (fun c_110 => ?_)
            · refine P.iinc dX10_breaksLaw_115 rfl (inc1 _) (by decide) ?_
              refine P.goto (tgt := 66) dX10_breaksLaw_118 (by decide) ?_
              show Pm G _ _ _ _ 66 [some (.ref (ad G 86)), some (.int (nI w)), some (.int (nI S)), some (.int (nI i)), some (.int (nI (q + 1)))] [] f l
              exact Pm.to (ihq (by exact lt_snoc invq (by simp [brT, c_99, c_110]))) (by simp [lle]) rfl rfl rfl
            refine P.iconst dX10_breaksLaw_113 ic_1 ?_
            exact P.bret rfl dX10_breaksLaw_114 (by rw [show brL D W w S = true from anyN_t.mpr ⟨i, hi1, by simp [brR, h0, c_17, c_58, show anyN (brT D W w S i) i = true from anyN_t.mpr ⟨q, hq1, by simp [brT, c_99, c_110]⟩]⟩]; rfl) rfl
          · exfalso; omega
        · intro invq
          show Pm G _ _ _ _ 66 [some (.ref (ad G 86)), some (.int (nI w)), some (.int (nI S)), some (.int (nI i)), some (.int (nI i))] [] f l
          refine P.iload dX10_breaksLaw_66 rfl ?_
          refine P.iload_n dX10_breaksLaw_68 rfl rfl ?_
          refine P.icmp_ge_n (tgt := 121) dX10_breaksLaw_69 (by decide) (by omega) (by omega) (fun c_69 => ?_) (fun c_69 => ?_)
          · refine P.iinc dX10_breaksLaw_121 rfl (inc1 _) (by decide) ?_
            refine P.goto (tgt := 2) dX10_breaksLaw_124 (by decide) ?_
            show Pm G _ _ _ _ 2 [some (.ref (ad G 86)), some (.int (nI w)), some (.int (nI S)), some (.int (nI (i + 1))), some (.int (nI i))] [] f l
            exact Pm.to (ihi (by exact lt_snoc invi (by simp [brR, h0, c_17, c_58, anyN_f.mpr invq]))) (by simp [lle]) rfl rfl rfl
          · exfalso; omega
        · exact fun j hj => absurd hj (by omega)
      refine P.iconst dX10_breaksLaw_61 ic_1 ?_
      exact P.bret rfl dX10_breaksLaw_62 (by rw [show brL D W w S = true from anyN_t.mpr ⟨i, hi1, by simp [brR, h0, c_17, c_58]⟩]; rfl) rfl
    · exfalso; omega
  · intro invi
    show Pm G _ _ _ _ 2 [some (.ref (ad G 86)), some (.int (nI w)), some (.int (nI S)), some (.int (nI D.1)), none] [] f l
    refine P.iload_n dX10_breaksLaw_2 rfl rfl ?_
    refine P.aload_n dX10_breaksLaw_3 rfl rfl ?_
    refine g_X10_rows ly_86 (by decide) fl_X10_106 dX10_breaksLaw_4 ?_
    refine Pm.topn (b := D.1) (hM.R) ?_
    refine P.icmp_ge_n (tgt := 127) dX10_breaksLaw_7 (by decide) (by omega) (by omega) (fun c_7 => ?_) (fun c_7 => ?_)
    · refine P.iconst dX10_breaksLaw_127 ic_0 ?_
      exact P.bret rfl dX10_breaksLaw_128 (by rw [show brL D W w S = false from anyN_f.mpr invi]; rfl) rfl
    · exfalso; omega
  · exact fun j hj => absurd hj (by omega)

set_option maxRecDepth 20000 in
theorem t_breaksLaw1 {G : GG} {f : Nat → Nat → Nat} {l : Nat → Nat → Int64} {D : DB} {W : LB} {U : QB} {T : TB} {N : Nat} (hM : MV f l D W U T N) (hBW : BW D W U T) {w S : Nat} (hw : w < W.1) (hS : S < 2147483648) (h0 : W.2.1 w 0 = 1) : Spec G mX10_breaksLaw [.ref (ad G 86), .int (nI w), .int (nI S)] 114 (f, l, refT) (some (.int (bI (brL D W w S)))) 114 (f, l, refT) := by
  obtain ⟨hD, hLW, hUW, hTW⟩ := id hBW
  have hR := hD.1
  have hW1 := hLW.1
  have hU1 := hUW.1
  have hJ1 := hUW.2.1
  obtain ⟨hw0, hw1, hw2, hw3, hw4, -⟩ := hLW.2 w hw
  have hk3 : W.2.1 w 0 ≠ 3 := by omega
  refine Spec.of ok_X10_breaksLaw.1 ⟨Nat.le_refl _, Nat.le_refl _⟩ (Nat.le_of_ble_eq_true rfl) ?_
  show Pm G RX10 cX10_breaksLaw 5 (KM G mX10_breaksLaw 114 114 (some (.int (bI (brL D W w S)))) (f, l, refT)) 0 [some (.ref (ad G 86)), some (.int (nI w)), some (.int (nI S)), none, none] [] f l
  refine P.iconst dX10_breaksLaw_0 ic_0 ?_
  refine P.istore_n dX10_breaksLaw_1 rfl (by decide) ?_
  refine loop_up (M := fun (i : Nat) => (∀ j, j < i → brR D W w S j = false) → Pm G _ _ _ _ 2 [some (.ref (ad G 86)), some (.int (nI w)), some (.int (nI S)), some (.int (nI i)), none] [] f l) (lo := 0) (N := D.1) (by first | exact Nat.zero_le _ | omega) (fun i hi0 hi1 ihi => ?_) ?_ ?_
  · intro invi
    show Pm G _ _ _ _ 2 [some (.ref (ad G 86)), some (.int (nI w)), some (.int (nI S)), some (.int (nI i)), none] [] f l
    refine P.iload_n dX10_breaksLaw_2 rfl rfl ?_
    refine P.aload_n dX10_breaksLaw_3 rfl rfl ?_
    refine g_X10_rows ly_86 (by decide) fl_X10_106 dX10_breaksLaw_4 ?_
    refine Pm.topn (b := D.1) (hM.R) ?_
    refine P.icmp_ge_n (tgt := 127) dX10_breaksLaw_7 (by decide) (by omega) (by omega) (fun c_7 => ?_) (fun c_7 => ?_)
    · exfalso; omega
    refine P.aload_n dX10_breaksLaw_10 rfl rfl ?_
    refine P.iload_n dX10_breaksLaw_11 rfl rfl ?_
    refine P.iload_n dX10_breaksLaw_12 rfl rfl ?_
    refine P.iload_n dX10_breaksLaw_13 rfl rfl ?_
    refine P.callV (As := [.int (nI w), .int (nI i), .int (nI S)]) (rest := []) (t_isOf (w := w) (r := i) (S := S) hM hBW hw (by omega) (by omega)) ok_X10_isOf ⟨Nat.le_of_ble_eq_true rfl, Nat.le_of_ble_eq_true rfl, Nat.le_refl _, Nat.le_refl _⟩ rfl ml_X10_154 ly_86 (by decide) (by decide) rfl rfl (Nat.le_of_ble_eq_true rfl) dX10_breaksLaw_14 ?_
    refine P.if_eq_b (tgt := 121) dX10_breaksLaw_17 (by decide) (fun c_17 => ?_) (fun c_17 => ?_)
    · refine P.iinc dX10_breaksLaw_121 rfl (inc1 _) (by decide) ?_
      refine P.goto (tgt := 2) dX10_breaksLaw_124 (by decide) ?_
      show Pm G _ _ _ _ 2 [some (.ref (ad G 86)), some (.int (nI w)), some (.int (nI S)), some (.int (nI (i + 1))), none] [] f l
      exact Pm.to (ihi (by exact lt_snoc invi (by simp [brR, h0, c_17]))) (by simp [lle]) rfl rfl rfl
    refine P.aload_n dX10_breaksLaw_20 rfl rfl ?_
    refine g_X10_kind (q := 94) ly_86 (by decide) (by decide) fl_X10_33 dX10_breaksLaw_21 ?_
    refine P.iload_n dX10_breaksLaw_24 rfl rfl ?_
    refine a_ia ly_94 (by decide) (by omega) (by decide) dX10_breaksLaw_25 ?_
    refine Pm.topn (b := W.2.1 w 0) ((hM.knd w (by omega))) ?_
    refine P.iconst dX10_breaksLaw_26 ic_4 ?_
    refine P.icmp_ne_n (tgt := 51) dX10_breaksLaw_27 (by decide) (by omega) (by omega) (fun c_27 => ?_) (fun c_27 => ?_)
    · refine P.aload_n dX10_breaksLaw_51 rfl rfl ?_
      refine P.iload_n dX10_breaksLaw_52 rfl rfl ?_
      refine P.iload_n dX10_breaksLaw_53 rfl rfl ?_
      refine P.iload_n dX10_breaksLaw_54 rfl rfl ?_
      refine P.callV (As := [.int (nI w), .int (nI i), .int (nI S)]) (rest := []) (t_breakOne (w := w) (r := i) (S := S) hM hBW hw (by omega) hS) ok_X10_breakOne ⟨Nat.le_of_ble_eq_true rfl, Nat.le_of_ble_eq_true rfl, Nat.le_refl _, Nat.le_refl _⟩ rfl ml_X10_164 ly_86 (by decide) (by decide) rfl rfl (Nat.le_of_ble_eq_true rfl) dX10_breaksLaw_55 ?_
      refine P.if_eq_b (tgt := 63) dX10_breaksLaw_58 (by decide) (fun c_58 => ?_) (fun c_58 => ?_)
      · refine P.iconst dX10_breaksLaw_63 ic_0 ?_
        refine P.istore dX10_breaksLaw_64 (by decide) ?_
        refine loop_up (M := fun (q : Nat) => Pm G _ _ _ _ 66 [some (.ref (ad G 86)), some (.int (nI w)), some (.int (nI S)), some (.int (nI i)), some (.int (nI q))] [] f l) (lo := 0) (N := i) (by first | exact Nat.zero_le _ | omega) (fun q hq0 hq1 ihq => ?_) ?_
        · show Pm G _ _ _ _ 66 [some (.ref (ad G 86)), some (.int (nI w)), some (.int (nI S)), some (.int (nI i)), some (.int (nI q))] [] f l
          refine P.iload dX10_breaksLaw_66 rfl ?_
          refine P.iload_n dX10_breaksLaw_68 rfl rfl ?_
          refine P.icmp_ge_n (tgt := 121) dX10_breaksLaw_69 (by decide) (by omega) (by omega) (fun c_69 => ?_) (fun c_69 => ?_)
          · exfalso; omega
          refine P.aload_n dX10_breaksLaw_72 rfl rfl ?_
          refine g_X10_kind (q := 94) ly_86 (by decide) (by decide) fl_X10_33 dX10_breaksLaw_73 ?_
          refine P.iload_n dX10_breaksLaw_76 rfl rfl ?_
          refine a_ia ly_94 (by decide) (by omega) (by decide) dX10_breaksLaw_77 ?_
          refine Pm.topn (b := W.2.1 w 0) ((hM.knd w (by omega))) ?_
          refine P.if_eq_n (tgt := 91) dX10_breaksLaw_78 (by decide) (by omega) (fun c_78 => ?_) (fun c_78 => ?_)
          · exfalso; omega
          refine P.aload_n dX10_breaksLaw_81 rfl rfl ?_
          refine g_X10_kind (q := 94) ly_86 (by decide) (by decide) fl_X10_33 dX10_breaksLaw_82 ?_
          refine P.iload_n dX10_breaksLaw_85 rfl rfl ?_
          refine a_ia ly_94 (by decide) (by omega) (by decide) dX10_breaksLaw_86 ?_
          refine Pm.topn (b := W.2.1 w 0) ((hM.knd w (by omega))) ?_
          refine P.iconst dX10_breaksLaw_87 ic_2 ?_
          refine P.icmp_ne_n (tgt := 115) dX10_breaksLaw_88 (by decide) (by omega) (by omega) (fun c_88 => ?_) (fun c_88 => ?_)
          · refine P.iinc dX10_breaksLaw_115 rfl (inc1 _) (by decide) ?_
            refine P.goto (tgt := 66) dX10_breaksLaw_118 (by decide) ?_
            show Pm G _ _ _ _ 66 [some (.ref (ad G 86)), some (.int (nI w)), some (.int (nI S)), some (.int (nI i)), some (.int (nI (q + 1)))] [] f l
            exact Pm.to (ihq) (by simp [lle]) rfl rfl rfl
          · exfalso; omega
        · show Pm G _ _ _ _ 66 [some (.ref (ad G 86)), some (.int (nI w)), some (.int (nI S)), some (.int (nI i)), some (.int (nI i))] [] f l
          refine P.iload dX10_breaksLaw_66 rfl ?_
          refine P.iload_n dX10_breaksLaw_68 rfl rfl ?_
          refine P.icmp_ge_n (tgt := 121) dX10_breaksLaw_69 (by decide) (by omega) (by omega) (fun c_69 => ?_) (fun c_69 => ?_)
          · refine P.iinc dX10_breaksLaw_121 rfl (inc1 _) (by decide) ?_
            refine P.goto (tgt := 2) dX10_breaksLaw_124 (by decide) ?_
            show Pm G _ _ _ _ 2 [some (.ref (ad G 86)), some (.int (nI w)), some (.int (nI S)), some (.int (nI (i + 1))), some (.int (nI i))] [] f l
            exact Pm.to (ihi (by exact lt_snoc invi (by simp [brR, h0, c_17, c_58]))) (by simp [lle]) rfl rfl rfl
          · exfalso; omega
      refine P.iconst dX10_breaksLaw_61 ic_1 ?_
      exact P.bret rfl dX10_breaksLaw_62 (by rw [show brL D W w S = true from anyN_t.mpr ⟨i, hi1, by simp [brR, h0, c_17, c_58]⟩]; rfl) rfl
    · exfalso; omega
  · intro invi
    show Pm G _ _ _ _ 2 [some (.ref (ad G 86)), some (.int (nI w)), some (.int (nI S)), some (.int (nI D.1)), none] [] f l
    refine P.iload_n dX10_breaksLaw_2 rfl rfl ?_
    refine P.aload_n dX10_breaksLaw_3 rfl rfl ?_
    refine g_X10_rows ly_86 (by decide) fl_X10_106 dX10_breaksLaw_4 ?_
    refine Pm.topn (b := D.1) (hM.R) ?_
    refine P.icmp_ge_n (tgt := 127) dX10_breaksLaw_7 (by decide) (by omega) (by omega) (fun c_7 => ?_) (fun c_7 => ?_)
    · refine P.iconst dX10_breaksLaw_127 ic_0 ?_
      exact P.bret rfl dX10_breaksLaw_128 (by rw [show brL D W w S = false from anyN_f.mpr invi]; rfl) rfl
    · exfalso; omega
  · exact fun j hj => absurd hj (by omega)

set_option maxRecDepth 20000 in
theorem t_breaksLaw2 {G : GG} {f : Nat → Nat → Nat} {l : Nat → Nat → Int64} {D : DB} {W : LB} {U : QB} {T : TB} {N : Nat} (hM : MV f l D W U T N) (hBW : BW D W U T) {w S : Nat} (hw : w < W.1) (hS : S < 2147483648) (h0 : W.2.1 w 0 = 2) : Spec G mX10_breaksLaw [.ref (ad G 86), .int (nI w), .int (nI S)] 114 (f, l, refT) (some (.int (bI (brL D W w S)))) 114 (f, l, refT) := by
  obtain ⟨hD, hLW, hUW, hTW⟩ := id hBW
  have hR := hD.1
  have hW1 := hLW.1
  have hU1 := hUW.1
  have hJ1 := hUW.2.1
  obtain ⟨hw0, hw1, hw2, hw3, hw4, -⟩ := hLW.2 w hw
  have hk1 : W.2.1 w 0 ≠ 1 := by omega
  have hk3 : W.2.1 w 0 ≠ 3 := by omega
  refine Spec.of ok_X10_breaksLaw.1 ⟨Nat.le_refl _, Nat.le_refl _⟩ (Nat.le_of_ble_eq_true rfl) ?_
  show Pm G RX10 cX10_breaksLaw 5 (KM G mX10_breaksLaw 114 114 (some (.int (bI (brL D W w S)))) (f, l, refT)) 0 [some (.ref (ad G 86)), some (.int (nI w)), some (.int (nI S)), none, none] [] f l
  refine P.iconst dX10_breaksLaw_0 ic_0 ?_
  refine P.istore_n dX10_breaksLaw_1 rfl (by decide) ?_
  refine loop_up (M := fun (i : Nat) => (∀ j, j < i → brR D W w S j = false) → Pm G _ _ _ _ 2 [some (.ref (ad G 86)), some (.int (nI w)), some (.int (nI S)), some (.int (nI i)), none] [] f l) (lo := 0) (N := D.1) (by first | exact Nat.zero_le _ | omega) (fun i hi0 hi1 ihi => ?_) ?_ ?_
  · intro invi
    show Pm G _ _ _ _ 2 [some (.ref (ad G 86)), some (.int (nI w)), some (.int (nI S)), some (.int (nI i)), none] [] f l
    refine P.iload_n dX10_breaksLaw_2 rfl rfl ?_
    refine P.aload_n dX10_breaksLaw_3 rfl rfl ?_
    refine g_X10_rows ly_86 (by decide) fl_X10_106 dX10_breaksLaw_4 ?_
    refine Pm.topn (b := D.1) (hM.R) ?_
    refine P.icmp_ge_n (tgt := 127) dX10_breaksLaw_7 (by decide) (by omega) (by omega) (fun c_7 => ?_) (fun c_7 => ?_)
    · exfalso; omega
    refine P.aload_n dX10_breaksLaw_10 rfl rfl ?_
    refine P.iload_n dX10_breaksLaw_11 rfl rfl ?_
    refine P.iload_n dX10_breaksLaw_12 rfl rfl ?_
    refine P.iload_n dX10_breaksLaw_13 rfl rfl ?_
    refine P.callV (As := [.int (nI w), .int (nI i), .int (nI S)]) (rest := []) (t_isOf (w := w) (r := i) (S := S) hM hBW hw (by omega) (by omega)) ok_X10_isOf ⟨Nat.le_of_ble_eq_true rfl, Nat.le_of_ble_eq_true rfl, Nat.le_refl _, Nat.le_refl _⟩ rfl ml_X10_154 ly_86 (by decide) (by decide) rfl rfl (Nat.le_of_ble_eq_true rfl) dX10_breaksLaw_14 ?_
    refine P.if_eq_b (tgt := 121) dX10_breaksLaw_17 (by decide) (fun c_17 => ?_) (fun c_17 => ?_)
    · refine P.iinc dX10_breaksLaw_121 rfl (inc1 _) (by decide) ?_
      refine P.goto (tgt := 2) dX10_breaksLaw_124 (by decide) ?_
      show Pm G _ _ _ _ 2 [some (.ref (ad G 86)), some (.int (nI w)), some (.int (nI S)), some (.int (nI (i + 1))), none] [] f l
      exact Pm.to (ihi (by exact lt_snoc invi (by simp [brR, h0, c_17]))) (by simp [lle]) rfl rfl rfl
    refine P.aload_n dX10_breaksLaw_20 rfl rfl ?_
    refine g_X10_kind (q := 94) ly_86 (by decide) (by decide) fl_X10_33 dX10_breaksLaw_21 ?_
    refine P.iload_n dX10_breaksLaw_24 rfl rfl ?_
    refine a_ia ly_94 (by decide) (by omega) (by decide) dX10_breaksLaw_25 ?_
    refine Pm.topn (b := W.2.1 w 0) ((hM.knd w (by omega))) ?_
    refine P.iconst dX10_breaksLaw_26 ic_4 ?_
    refine P.icmp_ne_n (tgt := 51) dX10_breaksLaw_27 (by decide) (by omega) (by omega) (fun c_27 => ?_) (fun c_27 => ?_)
    · refine P.aload_n dX10_breaksLaw_51 rfl rfl ?_
      refine P.iload_n dX10_breaksLaw_52 rfl rfl ?_
      refine P.iload_n dX10_breaksLaw_53 rfl rfl ?_
      refine P.iload_n dX10_breaksLaw_54 rfl rfl ?_
      refine P.callV (As := [.int (nI w), .int (nI i), .int (nI S)]) (rest := []) (t_breakOne (w := w) (r := i) (S := S) hM hBW hw (by omega) hS) ok_X10_breakOne ⟨Nat.le_of_ble_eq_true rfl, Nat.le_of_ble_eq_true rfl, Nat.le_refl _, Nat.le_refl _⟩ rfl ml_X10_164 ly_86 (by decide) (by decide) rfl rfl (Nat.le_of_ble_eq_true rfl) dX10_breaksLaw_55 ?_
      refine P.if_eq_b (tgt := 63) dX10_breaksLaw_58 (by decide) (fun c_58 => ?_) (fun c_58 => ?_)
      · refine P.iconst dX10_breaksLaw_63 ic_0 ?_
        refine P.istore dX10_breaksLaw_64 (by decide) ?_
        refine loop_up (M := fun (q : Nat) => (∀ j, j < q → brT D W w S i j = false) → Pm G _ _ _ _ 66 [some (.ref (ad G 86)), some (.int (nI w)), some (.int (nI S)), some (.int (nI i)), some (.int (nI q))] [] f l) (lo := 0) (N := i) (by first | exact Nat.zero_le _ | omega) (fun q hq0 hq1 ihq => ?_) ?_ ?_
        · intro invq
          show Pm G _ _ _ _ 66 [some (.ref (ad G 86)), some (.int (nI w)), some (.int (nI S)), some (.int (nI i)), some (.int (nI q))] [] f l
          refine P.iload dX10_breaksLaw_66 rfl ?_
          refine P.iload_n dX10_breaksLaw_68 rfl rfl ?_
          refine P.icmp_ge_n (tgt := 121) dX10_breaksLaw_69 (by decide) (by omega) (by omega) (fun c_69 => ?_) (fun c_69 => ?_)
          · exfalso; omega
          refine P.aload_n dX10_breaksLaw_72 rfl rfl ?_
          refine g_X10_kind (q := 94) ly_86 (by decide) (by decide) fl_X10_33 dX10_breaksLaw_73 ?_
          refine P.iload_n dX10_breaksLaw_76 rfl rfl ?_
          refine a_ia ly_94 (by decide) (by omega) (by decide) dX10_breaksLaw_77 ?_
          refine Pm.topn (b := W.2.1 w 0) ((hM.knd w (by omega))) ?_
          refine P.if_eq_n (tgt := 91) dX10_breaksLaw_78 (by decide) (by omega) (fun c_78 => ?_) (fun c_78 => ?_)
          · exfalso; omega
          refine P.aload_n dX10_breaksLaw_81 rfl rfl ?_
          refine g_X10_kind (q := 94) ly_86 (by decide) (by decide) fl_X10_33 dX10_breaksLaw_82 ?_
          refine P.iload_n dX10_breaksLaw_85 rfl rfl ?_
          refine a_ia ly_94 (by decide) (by omega) (by decide) dX10_breaksLaw_86 ?_
          refine Pm.topn (b := W.2.1 w 0) ((hM.knd w (by omega))) ?_
          refine P.iconst dX10_breaksLaw_87 ic_2 ?_
          refine P.icmp_ne_n (tgt := 115) dX10_breaksLaw_88 (by decide) (by omega) (by omega) (fun c_88 => ?_) (fun c_88 => ?_)
          · exfalso; omega
          refine P.aload_n dX10_breaksLaw_91 rfl rfl ?_
          refine P.iload_n dX10_breaksLaw_92 rfl rfl ?_
          refine P.iload dX10_breaksLaw_93 rfl ?_
          refine P.iload_n dX10_breaksLaw_95 rfl rfl ?_
          refine P.callV (As := [.int (nI w), .int (nI q), .int (nI S)]) (rest := []) (t_isOf (w := w) (r := q) (S := S) hM hBW hw (by omega) (by omega)) ok_X10_isOf ⟨Nat.le_of_ble_eq_true rfl, Nat.le_of_ble_eq_true rfl, Nat.le_refl _, Nat.le_refl _⟩ rfl ml_X10_154 ly_86 (by decide) (by decide) rfl rfl (Nat.le_of_ble_eq_true rfl) dX10_breaksLaw_96 ?_
          refine P.if_eq_b (tgt := 115) dX10_breaksLaw_99 (by decide) (fun c_99 => ?_) (fun c_99 => ?_)
          · refine P.iinc dX10_breaksLaw_115 rfl (inc1 _) (by decide) ?_
            refine P.goto (tgt := 66) dX10_breaksLaw_118 (by decide) ?_
            show Pm G _ _ _ _ 66 [some (.ref (ad G 86)), some (.int (nI w)), some (.int (nI S)), some (.int (nI i)), some (.int (nI (q + 1)))] [] f l
            exact Pm.to (ihq (by exact lt_snoc invq (by simp [brT, c_99]))) (by simp [lle]) rfl rfl rfl
          refine P.aload_n dX10_breaksLaw_102 rfl rfl ?_
          refine P.iload_n dX10_breaksLaw_103 rfl rfl ?_
          refine P.iload_n dX10_breaksLaw_104 rfl rfl ?_
          refine P.iload dX10_breaksLaw_105 rfl ?_
          refine P.callV (As := [.int (nI w), .int (nI i), .int (nI q)]) (rest := []) (t_breakTwo2 (w := w) (r := i) (q := q) hM hBW hw (by omega) (by omega) h0) ok_X10_breakTwo ⟨Nat.le_of_ble_eq_true rfl, Nat.le_of_ble_eq_true rfl, Nat.le_refl _, Nat.le_refl _⟩ rfl ml_X10_167 ly_86 (by decide) (by decide) rfl rfl (Nat.le_of_ble_eq_true rfl) dX10_breaksLaw_107 ?_
          refine P.if_eq_b (tgt := 115) dX10_breaksLaw_110 (by decide) (fun c_110 => ?_) (fun c_110 => ?_)
          · refine P.iinc dX10_breaksLaw_115 rfl (inc1 _) (by decide) ?_
            refine P.goto (tgt := 66) dX10_breaksLaw_118 (by decide) ?_
            show Pm G _ _ _ _ 66 [some (.ref (ad G 86)), some (.int (nI w)), some (.int (nI S)), some (.int (nI i)), some (.int (nI (q + 1)))] [] f l
            exact Pm.to (ihq (by exact lt_snoc invq (by simp [brT, c_99, c_110]))) (by simp [lle]) rfl rfl rfl
          refine P.iconst dX10_breaksLaw_113 ic_1 ?_
          exact P.bret rfl dX10_breaksLaw_114 (by rw [show brL D W w S = true from anyN_t.mpr ⟨i, hi1, by simp [brR, h0, c_17, c_58, show anyN (brT D W w S i) i = true from anyN_t.mpr ⟨q, hq1, by simp [brT, c_99, c_110]⟩]⟩]; rfl) rfl
        · intro invq
          show Pm G _ _ _ _ 66 [some (.ref (ad G 86)), some (.int (nI w)), some (.int (nI S)), some (.int (nI i)), some (.int (nI i))] [] f l
          refine P.iload dX10_breaksLaw_66 rfl ?_
          refine P.iload_n dX10_breaksLaw_68 rfl rfl ?_
          refine P.icmp_ge_n (tgt := 121) dX10_breaksLaw_69 (by decide) (by omega) (by omega) (fun c_69 => ?_) (fun c_69 => ?_)
          · refine P.iinc dX10_breaksLaw_121 rfl (inc1 _) (by decide) ?_
            refine P.goto (tgt := 2) dX10_breaksLaw_124 (by decide) ?_
            show Pm G _ _ _ _ 2 [some (.ref (ad G 86)), some (.int (nI w)), some (.int (nI S)), some (.int (nI (i + 1))), some (.int (nI i))] [] f l
            exact Pm.to (ihi (by exact lt_snoc invi (by simp [brR, h0, c_17, c_58, anyN_f.mpr invq]))) (by simp [lle]) rfl rfl rfl
          · exfalso; omega
        · exact fun j hj => absurd hj (by omega)
      refine P.iconst dX10_breaksLaw_61 ic_1 ?_
      exact P.bret rfl dX10_breaksLaw_62 (by rw [show brL D W w S = true from anyN_t.mpr ⟨i, hi1, by simp [brR, h0, c_17, c_58]⟩]; rfl) rfl
    · exfalso; omega
  · intro invi
    show Pm G _ _ _ _ 2 [some (.ref (ad G 86)), some (.int (nI w)), some (.int (nI S)), some (.int (nI D.1)), none] [] f l
    refine P.iload_n dX10_breaksLaw_2 rfl rfl ?_
    refine P.aload_n dX10_breaksLaw_3 rfl rfl ?_
    refine g_X10_rows ly_86 (by decide) fl_X10_106 dX10_breaksLaw_4 ?_
    refine Pm.topn (b := D.1) (hM.R) ?_
    refine P.icmp_ge_n (tgt := 127) dX10_breaksLaw_7 (by decide) (by omega) (by omega) (fun c_7 => ?_) (fun c_7 => ?_)
    · refine P.iconst dX10_breaksLaw_127 ic_0 ?_
      exact P.bret rfl dX10_breaksLaw_128 (by rw [show brL D W w S = false from anyN_f.mpr invi]; rfl) rfl
    · exfalso; omega
  · exact fun j hj => absurd hj (by omega)

set_option maxRecDepth 20000 in
theorem t_breaksLaw3 {G : GG} {f : Nat → Nat → Nat} {l : Nat → Nat → Int64} {D : DB} {W : LB} {U : QB} {T : TB} {N : Nat} (hM : MV f l D W U T N) (hBW : BW D W U T) {w S : Nat} (hw : w < W.1) (hS : S < 2147483648) (h0 : W.2.1 w 0 = 3) : Spec G mX10_breaksLaw [.ref (ad G 86), .int (nI w), .int (nI S)] 114 (f, l, refT) (some (.int (bI (brL D W w S)))) 114 (f, l, refT) := by
  obtain ⟨hD, hLW, hUW, hTW⟩ := id hBW
  have hR := hD.1
  have hW1 := hLW.1
  have hU1 := hUW.1
  have hJ1 := hUW.2.1
  obtain ⟨hw0, hw1, hw2, hw3, hw4, -⟩ := hLW.2 w hw
  have hk1 : W.2.1 w 0 ≠ 1 := by omega
  refine Spec.of ok_X10_breaksLaw.1 ⟨Nat.le_refl _, Nat.le_refl _⟩ (Nat.le_of_ble_eq_true rfl) ?_
  show Pm G RX10 cX10_breaksLaw 5 (KM G mX10_breaksLaw 114 114 (some (.int (bI (brL D W w S)))) (f, l, refT)) 0 [some (.ref (ad G 86)), some (.int (nI w)), some (.int (nI S)), none, none] [] f l
  refine P.iconst dX10_breaksLaw_0 ic_0 ?_
  refine P.istore_n dX10_breaksLaw_1 rfl (by decide) ?_
  refine loop_up (M := fun (i : Nat) => (∀ j, j < i → brR D W w S j = false) → Pm G _ _ _ _ 2 [some (.ref (ad G 86)), some (.int (nI w)), some (.int (nI S)), some (.int (nI i)), none] [] f l) (lo := 0) (N := D.1) (by first | exact Nat.zero_le _ | omega) (fun i hi0 hi1 ihi => ?_) ?_ ?_
  · intro invi
    show Pm G _ _ _ _ 2 [some (.ref (ad G 86)), some (.int (nI w)), some (.int (nI S)), some (.int (nI i)), none] [] f l
    refine P.iload_n dX10_breaksLaw_2 rfl rfl ?_
    refine P.aload_n dX10_breaksLaw_3 rfl rfl ?_
    refine g_X10_rows ly_86 (by decide) fl_X10_106 dX10_breaksLaw_4 ?_
    refine Pm.topn (b := D.1) (hM.R) ?_
    refine P.icmp_ge_n (tgt := 127) dX10_breaksLaw_7 (by decide) (by omega) (by omega) (fun c_7 => ?_) (fun c_7 => ?_)
    · exfalso; omega
    refine P.aload_n dX10_breaksLaw_10 rfl rfl ?_
    refine P.iload_n dX10_breaksLaw_11 rfl rfl ?_
    refine P.iload_n dX10_breaksLaw_12 rfl rfl ?_
    refine P.iload_n dX10_breaksLaw_13 rfl rfl ?_
    refine P.callV (As := [.int (nI w), .int (nI i), .int (nI S)]) (rest := []) (t_isOf (w := w) (r := i) (S := S) hM hBW hw (by omega) (by omega)) ok_X10_isOf ⟨Nat.le_of_ble_eq_true rfl, Nat.le_of_ble_eq_true rfl, Nat.le_refl _, Nat.le_refl _⟩ rfl ml_X10_154 ly_86 (by decide) (by decide) rfl rfl (Nat.le_of_ble_eq_true rfl) dX10_breaksLaw_14 ?_
    refine P.if_eq_b (tgt := 121) dX10_breaksLaw_17 (by decide) (fun c_17 => ?_) (fun c_17 => ?_)
    · refine P.iinc dX10_breaksLaw_121 rfl (inc1 _) (by decide) ?_
      refine P.goto (tgt := 2) dX10_breaksLaw_124 (by decide) ?_
      show Pm G _ _ _ _ 2 [some (.ref (ad G 86)), some (.int (nI w)), some (.int (nI S)), some (.int (nI (i + 1))), none] [] f l
      exact Pm.to (ihi (by exact lt_snoc invi (by simp [brR, h0, c_17]))) (by simp [lle]) rfl rfl rfl
    refine P.aload_n dX10_breaksLaw_20 rfl rfl ?_
    refine g_X10_kind (q := 94) ly_86 (by decide) (by decide) fl_X10_33 dX10_breaksLaw_21 ?_
    refine P.iload_n dX10_breaksLaw_24 rfl rfl ?_
    refine a_ia ly_94 (by decide) (by omega) (by decide) dX10_breaksLaw_25 ?_
    refine Pm.topn (b := W.2.1 w 0) ((hM.knd w (by omega))) ?_
    refine P.iconst dX10_breaksLaw_26 ic_4 ?_
    refine P.icmp_ne_n (tgt := 51) dX10_breaksLaw_27 (by decide) (by omega) (by omega) (fun c_27 => ?_) (fun c_27 => ?_)
    · refine P.aload_n dX10_breaksLaw_51 rfl rfl ?_
      refine P.iload_n dX10_breaksLaw_52 rfl rfl ?_
      refine P.iload_n dX10_breaksLaw_53 rfl rfl ?_
      refine P.iload_n dX10_breaksLaw_54 rfl rfl ?_
      refine P.callV (As := [.int (nI w), .int (nI i), .int (nI S)]) (rest := []) (t_breakOne (w := w) (r := i) (S := S) hM hBW hw (by omega) hS) ok_X10_breakOne ⟨Nat.le_of_ble_eq_true rfl, Nat.le_of_ble_eq_true rfl, Nat.le_refl _, Nat.le_refl _⟩ rfl ml_X10_164 ly_86 (by decide) (by decide) rfl rfl (Nat.le_of_ble_eq_true rfl) dX10_breaksLaw_55 ?_
      refine P.if_eq_b (tgt := 63) dX10_breaksLaw_58 (by decide) (fun c_58 => ?_) (fun c_58 => ?_)
      · refine P.iconst dX10_breaksLaw_63 ic_0 ?_
        refine P.istore dX10_breaksLaw_64 (by decide) ?_
        refine loop_up (M := fun (q : Nat) => Pm G _ _ _ _ 66 [some (.ref (ad G 86)), some (.int (nI w)), some (.int (nI S)), some (.int (nI i)), some (.int (nI q))] [] f l) (lo := 0) (N := i) (by first | exact Nat.zero_le _ | omega) (fun q hq0 hq1 ihq => ?_) ?_
        · show Pm G _ _ _ _ 66 [some (.ref (ad G 86)), some (.int (nI w)), some (.int (nI S)), some (.int (nI i)), some (.int (nI q))] [] f l
          refine P.iload dX10_breaksLaw_66 rfl ?_
          refine P.iload_n dX10_breaksLaw_68 rfl rfl ?_
          refine P.icmp_ge_n (tgt := 121) dX10_breaksLaw_69 (by decide) (by omega) (by omega) (fun c_69 => ?_) (fun c_69 => ?_)
          · exfalso; omega
          refine P.aload_n dX10_breaksLaw_72 rfl rfl ?_
          refine g_X10_kind (q := 94) ly_86 (by decide) (by decide) fl_X10_33 dX10_breaksLaw_73 ?_
          refine P.iload_n dX10_breaksLaw_76 rfl rfl ?_
          refine a_ia ly_94 (by decide) (by omega) (by decide) dX10_breaksLaw_77 ?_
          refine Pm.topn (b := W.2.1 w 0) ((hM.knd w (by omega))) ?_
          refine P.if_eq_n (tgt := 91) dX10_breaksLaw_78 (by decide) (by omega) (fun c_78 => ?_) (fun c_78 => ?_)
          · exfalso; omega
          refine P.aload_n dX10_breaksLaw_81 rfl rfl ?_
          refine g_X10_kind (q := 94) ly_86 (by decide) (by decide) fl_X10_33 dX10_breaksLaw_82 ?_
          refine P.iload_n dX10_breaksLaw_85 rfl rfl ?_
          refine a_ia ly_94 (by decide) (by omega) (by decide) dX10_breaksLaw_86 ?_
          refine Pm.topn (b := W.2.1 w 0) ((hM.knd w (by omega))) ?_
          refine P.iconst dX10_breaksLaw_87 ic_2 ?_
          refine P.icmp_ne_n (tgt := 115) dX10_breaksLaw_88 (by decide) (by omega) (by omega) (fun c_88 => ?_) (fun c_88 => ?_)
          · refine P.iinc dX10_breaksLaw_115 rfl (inc1 _) (by decide) ?_
            refine P.goto (tgt := 66) dX10_breaksLaw_118 (by decide) ?_
            show Pm G _ _ _ _ 66 [some (.ref (ad G 86)), some (.int (nI w)), some (.int (nI S)), some (.int (nI i)), some (.int (nI (q + 1)))] [] f l
            exact Pm.to (ihq) (by simp [lle]) rfl rfl rfl
          · exfalso; omega
        · show Pm G _ _ _ _ 66 [some (.ref (ad G 86)), some (.int (nI w)), some (.int (nI S)), some (.int (nI i)), some (.int (nI i))] [] f l
          refine P.iload dX10_breaksLaw_66 rfl ?_
          refine P.iload_n dX10_breaksLaw_68 rfl rfl ?_
          refine P.icmp_ge_n (tgt := 121) dX10_breaksLaw_69 (by decide) (by omega) (by omega) (fun c_69 => ?_) (fun c_69 => ?_)
          · refine P.iinc dX10_breaksLaw_121 rfl (inc1 _) (by decide) ?_
            refine P.goto (tgt := 2) dX10_breaksLaw_124 (by decide) ?_
            show Pm G _ _ _ _ 2 [some (.ref (ad G 86)), some (.int (nI w)), some (.int (nI S)), some (.int (nI (i + 1))), some (.int (nI i))] [] f l
            exact Pm.to (ihi (by exact lt_snoc invi (by simp [brR, h0, c_17, c_58]))) (by simp [lle]) rfl rfl rfl
          · exfalso; omega
      refine P.iconst dX10_breaksLaw_61 ic_1 ?_
      exact P.bret rfl dX10_breaksLaw_62 (by rw [show brL D W w S = true from anyN_t.mpr ⟨i, hi1, by simp [brR, h0, c_17, c_58]⟩]; rfl) rfl
    · exfalso; omega
  · intro invi
    show Pm G _ _ _ _ 2 [some (.ref (ad G 86)), some (.int (nI w)), some (.int (nI S)), some (.int (nI D.1)), none] [] f l
    refine P.iload_n dX10_breaksLaw_2 rfl rfl ?_
    refine P.aload_n dX10_breaksLaw_3 rfl rfl ?_
    refine g_X10_rows ly_86 (by decide) fl_X10_106 dX10_breaksLaw_4 ?_
    refine Pm.topn (b := D.1) (hM.R) ?_
    refine P.icmp_ge_n (tgt := 127) dX10_breaksLaw_7 (by decide) (by omega) (by omega) (fun c_7 => ?_) (fun c_7 => ?_)
    · refine P.iconst dX10_breaksLaw_127 ic_0 ?_
      exact P.bret rfl dX10_breaksLaw_128 (by rw [show brL D W w S = false from anyN_f.mpr invi]; rfl) rfl
    · exfalso; omega
  · exact fun j hj => absurd hj (by omega)

set_option maxRecDepth 20000 in
theorem t_breaksLaw4 {G : GG} {f : Nat → Nat → Nat} {l : Nat → Nat → Int64} {D : DB} {W : LB} {U : QB} {T : TB} {N : Nat} (hM : MV f l D W U T N) (hBW : BW D W U T) {w S : Nat} (hw : w < W.1) (hS : S < 2147483648) (h0 : W.2.1 w 0 = 4) : Spec G mX10_breaksLaw [.ref (ad G 86), .int (nI w), .int (nI S)] 114 (f, l, refT) (some (.int (bI (brL D W w S)))) 114 (f, l, refT) := by
  obtain ⟨hD, hLW, hUW, hTW⟩ := id hBW
  have hR := hD.1
  have hW1 := hLW.1
  have hU1 := hUW.1
  have hJ1 := hUW.2.1
  obtain ⟨hw0, hw1, hw2, hw3, hw4, -⟩ := hLW.2 w hw
  have hk1 : W.2.1 w 0 ≠ 1 := by omega
  have hk3 : W.2.1 w 0 ≠ 3 := by omega
  refine Spec.of ok_X10_breaksLaw.1 ⟨Nat.le_refl _, Nat.le_refl _⟩ (Nat.le_of_ble_eq_true rfl) ?_
  show Pm G RX10 cX10_breaksLaw 5 (KM G mX10_breaksLaw 114 114 (some (.int (bI (brL D W w S)))) (f, l, refT)) 0 [some (.ref (ad G 86)), some (.int (nI w)), some (.int (nI S)), none, none] [] f l
  refine P.iconst dX10_breaksLaw_0 ic_0 ?_
  refine P.istore_n dX10_breaksLaw_1 rfl (by decide) ?_
  refine loop_up (M := fun (i : Nat) => (∀ j, j < i → brR D W w S j = false) → Pm G _ _ _ _ 2 [some (.ref (ad G 86)), some (.int (nI w)), some (.int (nI S)), some (.int (nI i)), none] [] f l) (lo := 0) (N := D.1) (by first | exact Nat.zero_le _ | omega) (fun i hi0 hi1 ihi => ?_) ?_ ?_
  · intro invi
    show Pm G _ _ _ _ 2 [some (.ref (ad G 86)), some (.int (nI w)), some (.int (nI S)), some (.int (nI i)), none] [] f l
    refine P.iload_n dX10_breaksLaw_2 rfl rfl ?_
    refine P.aload_n dX10_breaksLaw_3 rfl rfl ?_
    refine g_X10_rows ly_86 (by decide) fl_X10_106 dX10_breaksLaw_4 ?_
    refine Pm.topn (b := D.1) (hM.R) ?_
    refine P.icmp_ge_n (tgt := 127) dX10_breaksLaw_7 (by decide) (by omega) (by omega) (fun c_7 => ?_) (fun c_7 => ?_)
    · exfalso; omega
    refine P.aload_n dX10_breaksLaw_10 rfl rfl ?_
    refine P.iload_n dX10_breaksLaw_11 rfl rfl ?_
    refine P.iload_n dX10_breaksLaw_12 rfl rfl ?_
    refine P.iload_n dX10_breaksLaw_13 rfl rfl ?_
    refine P.callV (As := [.int (nI w), .int (nI i), .int (nI S)]) (rest := []) (t_isOf (w := w) (r := i) (S := S) hM hBW hw (by omega) (by omega)) ok_X10_isOf ⟨Nat.le_of_ble_eq_true rfl, Nat.le_of_ble_eq_true rfl, Nat.le_refl _, Nat.le_refl _⟩ rfl ml_X10_154 ly_86 (by decide) (by decide) rfl rfl (Nat.le_of_ble_eq_true rfl) dX10_breaksLaw_14 ?_
    refine P.if_eq_b (tgt := 121) dX10_breaksLaw_17 (by decide) (fun c_17 => ?_) (fun c_17 => ?_)
    · refine P.iinc dX10_breaksLaw_121 rfl (inc1 _) (by decide) ?_
      refine P.goto (tgt := 2) dX10_breaksLaw_124 (by decide) ?_
      show Pm G _ _ _ _ 2 [some (.ref (ad G 86)), some (.int (nI w)), some (.int (nI S)), some (.int (nI (i + 1))), none] [] f l
      exact Pm.to (ihi (by exact lt_snoc invi (by simp [brR, h0, c_17]))) (by simp [lle]) rfl rfl rfl
    refine P.aload_n dX10_breaksLaw_20 rfl rfl ?_
    refine g_X10_kind (q := 94) ly_86 (by decide) (by decide) fl_X10_33 dX10_breaksLaw_21 ?_
    refine P.iload_n dX10_breaksLaw_24 rfl rfl ?_
    refine a_ia ly_94 (by decide) (by omega) (by decide) dX10_breaksLaw_25 ?_
    refine Pm.topn (b := W.2.1 w 0) ((hM.knd w (by omega))) ?_
    refine P.iconst dX10_breaksLaw_26 ic_4 ?_
    refine P.icmp_ne_n (tgt := 51) dX10_breaksLaw_27 (by decide) (by omega) (by omega) (fun c_27 => ?_) (fun c_27 => ?_)
    · exfalso; omega
    refine P.aload_n dX10_breaksLaw_30 rfl rfl ?_
    refine P.iload_n dX10_breaksLaw_31 rfl rfl ?_
    refine P.iload_n dX10_breaksLaw_32 rfl rfl ?_
    refine P.callV (As := [.int (nI w), .int (nI i)]) (rest := []) (t_counts (w := w) (r := i) hM hBW hw (by omega) hk1 hk3) ok_X10_counts ⟨Nat.le_of_ble_eq_true rfl, Nat.le_of_ble_eq_true rfl, Nat.le_refl _, Nat.le_refl _⟩ rfl ml_X10_158 ly_86 (by decide) (by decide) rfl rfl (Nat.le_of_ble_eq_true rfl) dX10_breaksLaw_33 ?_
    refine P.if_eq_b (tgt := 51) dX10_breaksLaw_36 (by decide) (fun c_36 => ?_) (fun c_36 => ?_)
    · refine P.aload_n dX10_breaksLaw_51 rfl rfl ?_
      refine P.iload_n dX10_breaksLaw_52 rfl rfl ?_
      refine P.iload_n dX10_breaksLaw_53 rfl rfl ?_
      refine P.iload_n dX10_breaksLaw_54 rfl rfl ?_
      refine P.callV (As := [.int (nI w), .int (nI i), .int (nI S)]) (rest := []) (t_breakOne (w := w) (r := i) (S := S) hM hBW hw (by omega) hS) ok_X10_breakOne ⟨Nat.le_of_ble_eq_true rfl, Nat.le_of_ble_eq_true rfl, Nat.le_refl _, Nat.le_refl _⟩ rfl ml_X10_164 ly_86 (by decide) (by decide) rfl rfl (Nat.le_of_ble_eq_true rfl) dX10_breaksLaw_55 ?_
      refine P.if_eq_b (tgt := 63) dX10_breaksLaw_58 (by decide) (fun c_58 => ?_) (fun c_58 => ?_)
      · refine P.iconst dX10_breaksLaw_63 ic_0 ?_
        refine P.istore dX10_breaksLaw_64 (by decide) ?_
        refine loop_up (M := fun (q : Nat) => Pm G _ _ _ _ 66 [some (.ref (ad G 86)), some (.int (nI w)), some (.int (nI S)), some (.int (nI i)), some (.int (nI q))] [] f l) (lo := 0) (N := i) (by first | exact Nat.zero_le _ | omega) (fun q hq0 hq1 ihq => ?_) ?_
        · show Pm G _ _ _ _ 66 [some (.ref (ad G 86)), some (.int (nI w)), some (.int (nI S)), some (.int (nI i)), some (.int (nI q))] [] f l
          refine P.iload dX10_breaksLaw_66 rfl ?_
          refine P.iload_n dX10_breaksLaw_68 rfl rfl ?_
          refine P.icmp_ge_n (tgt := 121) dX10_breaksLaw_69 (by decide) (by omega) (by omega) (fun c_69 => ?_) (fun c_69 => ?_)
          · exfalso; omega
          refine P.aload_n dX10_breaksLaw_72 rfl rfl ?_
          refine g_X10_kind (q := 94) ly_86 (by decide) (by decide) fl_X10_33 dX10_breaksLaw_73 ?_
          refine P.iload_n dX10_breaksLaw_76 rfl rfl ?_
          refine a_ia ly_94 (by decide) (by omega) (by decide) dX10_breaksLaw_77 ?_
          refine Pm.topn (b := W.2.1 w 0) ((hM.knd w (by omega))) ?_
          refine P.if_eq_n (tgt := 91) dX10_breaksLaw_78 (by decide) (by omega) (fun c_78 => ?_) (fun c_78 => ?_)
          · exfalso; omega
          refine P.aload_n dX10_breaksLaw_81 rfl rfl ?_
          refine g_X10_kind (q := 94) ly_86 (by decide) (by decide) fl_X10_33 dX10_breaksLaw_82 ?_
          refine P.iload_n dX10_breaksLaw_85 rfl rfl ?_
          refine a_ia ly_94 (by decide) (by omega) (by decide) dX10_breaksLaw_86 ?_
          refine Pm.topn (b := W.2.1 w 0) ((hM.knd w (by omega))) ?_
          refine P.iconst dX10_breaksLaw_87 ic_2 ?_
          refine P.icmp_ne_n (tgt := 115) dX10_breaksLaw_88 (by decide) (by omega) (by omega) (fun c_88 => ?_) (fun c_88 => ?_)
          · refine P.iinc dX10_breaksLaw_115 rfl (inc1 _) (by decide) ?_
            refine P.goto (tgt := 66) dX10_breaksLaw_118 (by decide) ?_
            show Pm G _ _ _ _ 66 [some (.ref (ad G 86)), some (.int (nI w)), some (.int (nI S)), some (.int (nI i)), some (.int (nI (q + 1)))] [] f l
            exact Pm.to (ihq) (by simp [lle]) rfl rfl rfl
          · exfalso; omega
        · show Pm G _ _ _ _ 66 [some (.ref (ad G 86)), some (.int (nI w)), some (.int (nI S)), some (.int (nI i)), some (.int (nI i))] [] f l
          refine P.iload dX10_breaksLaw_66 rfl ?_
          refine P.iload_n dX10_breaksLaw_68 rfl rfl ?_
          refine P.icmp_ge_n (tgt := 121) dX10_breaksLaw_69 (by decide) (by omega) (by omega) (fun c_69 => ?_) (fun c_69 => ?_)
          · refine P.iinc dX10_breaksLaw_121 rfl (inc1 _) (by decide) ?_
            refine P.goto (tgt := 2) dX10_breaksLaw_124 (by decide) ?_
            show Pm G _ _ _ _ 2 [some (.ref (ad G 86)), some (.int (nI w)), some (.int (nI S)), some (.int (nI (i + 1))), some (.int (nI i))] [] f l
            exact Pm.to (ihi (by exact lt_snoc invi (by simp [brR, h0, c_17, c_36, c_58]))) (by simp [lle]) rfl rfl rfl
          · exfalso; omega
      refine P.iconst dX10_breaksLaw_61 ic_1 ?_
      exact P.bret rfl dX10_breaksLaw_62 (by rw [show brL D W w S = true from anyN_t.mpr ⟨i, hi1, by simp [brR, h0, c_17, c_36, c_58]⟩]; rfl) rfl
    refine P.aload_n dX10_breaksLaw_39 rfl rfl ?_
    refine P.iload_n dX10_breaksLaw_40 rfl rfl ?_
    refine P.iload_n dX10_breaksLaw_41 rfl rfl ?_
    refine P.iload_n dX10_breaksLaw_42 rfl rfl ?_
    refine P.bipush (v := -9) dX10_breaksLaw_43 rfl ?_
    refine P.callV (As := [.int (nI w), .int (nI i), .int (nI S), .int (-9)]) (rest := []) (t_isMore_none (w := w) (F := i) (S := S) hM hBW hw (by omega) hS h0) ok_X10_isMore ⟨Nat.le_of_ble_eq_true rfl, Nat.le_of_ble_eq_true rfl, Nat.le_refl _, Nat.le_refl _⟩ rfl ml_X10_161 ly_86 (by decide) (by decide) rfl rfl (Nat.le_of_ble_eq_true rfl) dX10_breaksLaw_45 ?_
    refine P.if_ne_b (tgt := 61) dX10_breaksLaw_48 (by decide) (fun c_48 => ?_) (fun c_48 => ?_)
    · refine P.iconst dX10_breaksLaw_61 ic_1 ?_
      exact P.bret rfl dX10_breaksLaw_62 (by rw [show brL D W w S = true from anyN_t.mpr ⟨i, hi1, by simp [brR, h0, c_17, c_36, c_48]⟩]; rfl) rfl
    refine P.aload_n dX10_breaksLaw_51 rfl rfl ?_
    refine P.iload_n dX10_breaksLaw_52 rfl rfl ?_
    refine P.iload_n dX10_breaksLaw_53 rfl rfl ?_
    refine P.iload_n dX10_breaksLaw_54 rfl rfl ?_
    refine P.callV (As := [.int (nI w), .int (nI i), .int (nI S)]) (rest := []) (t_breakOne (w := w) (r := i) (S := S) hM hBW hw (by omega) hS) ok_X10_breakOne ⟨Nat.le_of_ble_eq_true rfl, Nat.le_of_ble_eq_true rfl, Nat.le_refl _, Nat.le_refl _⟩ rfl ml_X10_164 ly_86 (by decide) (by decide) rfl rfl (Nat.le_of_ble_eq_true rfl) dX10_breaksLaw_55 ?_
    refine P.if_eq_b (tgt := 63) dX10_breaksLaw_58 (by decide) (fun c_58 => ?_) (fun c_58 => ?_)
    · refine P.iconst dX10_breaksLaw_63 ic_0 ?_
      refine P.istore dX10_breaksLaw_64 (by decide) ?_
      refine loop_up (M := fun (q : Nat) => Pm G _ _ _ _ 66 [some (.ref (ad G 86)), some (.int (nI w)), some (.int (nI S)), some (.int (nI i)), some (.int (nI q))] [] f l) (lo := 0) (N := i) (by first | exact Nat.zero_le _ | omega) (fun q hq0 hq1 ihq => ?_) ?_
      · show Pm G _ _ _ _ 66 [some (.ref (ad G 86)), some (.int (nI w)), some (.int (nI S)), some (.int (nI i)), some (.int (nI q))] [] f l
        refine P.iload dX10_breaksLaw_66 rfl ?_
        refine P.iload_n dX10_breaksLaw_68 rfl rfl ?_
        refine P.icmp_ge_n (tgt := 121) dX10_breaksLaw_69 (by decide) (by omega) (by omega) (fun c_69 => ?_) (fun c_69 => ?_)
        · exfalso; omega
        refine P.aload_n dX10_breaksLaw_72 rfl rfl ?_
        refine g_X10_kind (q := 94) ly_86 (by decide) (by decide) fl_X10_33 dX10_breaksLaw_73 ?_
        refine P.iload_n dX10_breaksLaw_76 rfl rfl ?_
        refine a_ia ly_94 (by decide) (by omega) (by decide) dX10_breaksLaw_77 ?_
        refine Pm.topn (b := W.2.1 w 0) ((hM.knd w (by omega))) ?_
        refine P.if_eq_n (tgt := 91) dX10_breaksLaw_78 (by decide) (by omega) (fun c_78 => ?_) (fun c_78 => ?_)
        · exfalso; omega
        refine P.aload_n dX10_breaksLaw_81 rfl rfl ?_
        refine g_X10_kind (q := 94) ly_86 (by decide) (by decide) fl_X10_33 dX10_breaksLaw_82 ?_
        refine P.iload_n dX10_breaksLaw_85 rfl rfl ?_
        refine a_ia ly_94 (by decide) (by omega) (by decide) dX10_breaksLaw_86 ?_
        refine Pm.topn (b := W.2.1 w 0) ((hM.knd w (by omega))) ?_
        refine P.iconst dX10_breaksLaw_87 ic_2 ?_
        refine P.icmp_ne_n (tgt := 115) dX10_breaksLaw_88 (by decide) (by omega) (by omega) (fun c_88 => ?_) (fun c_88 => ?_)
        · refine P.iinc dX10_breaksLaw_115 rfl (inc1 _) (by decide) ?_
          refine P.goto (tgt := 66) dX10_breaksLaw_118 (by decide) ?_
          show Pm G _ _ _ _ 66 [some (.ref (ad G 86)), some (.int (nI w)), some (.int (nI S)), some (.int (nI i)), some (.int (nI (q + 1)))] [] f l
          exact Pm.to (ihq) (by simp [lle]) rfl rfl rfl
        · exfalso; omega
      · show Pm G _ _ _ _ 66 [some (.ref (ad G 86)), some (.int (nI w)), some (.int (nI S)), some (.int (nI i)), some (.int (nI i))] [] f l
        refine P.iload dX10_breaksLaw_66 rfl ?_
        refine P.iload_n dX10_breaksLaw_68 rfl rfl ?_
        refine P.icmp_ge_n (tgt := 121) dX10_breaksLaw_69 (by decide) (by omega) (by omega) (fun c_69 => ?_) (fun c_69 => ?_)
        · refine P.iinc dX10_breaksLaw_121 rfl (inc1 _) (by decide) ?_
          refine P.goto (tgt := 2) dX10_breaksLaw_124 (by decide) ?_
          show Pm G _ _ _ _ 2 [some (.ref (ad G 86)), some (.int (nI w)), some (.int (nI S)), some (.int (nI (i + 1))), some (.int (nI i))] [] f l
          exact Pm.to (ihi (by exact lt_snoc invi (by simp [brR, h0, c_17, c_36, c_48, c_58]))) (by simp [lle]) rfl rfl rfl
        · exfalso; omega
    refine P.iconst dX10_breaksLaw_61 ic_1 ?_
    exact P.bret rfl dX10_breaksLaw_62 (by rw [show brL D W w S = true from anyN_t.mpr ⟨i, hi1, by simp [brR, h0, c_17, c_36, c_48, c_58]⟩]; rfl) rfl
  · intro invi
    show Pm G _ _ _ _ 2 [some (.ref (ad G 86)), some (.int (nI w)), some (.int (nI S)), some (.int (nI D.1)), none] [] f l
    refine P.iload_n dX10_breaksLaw_2 rfl rfl ?_
    refine P.aload_n dX10_breaksLaw_3 rfl rfl ?_
    refine g_X10_rows ly_86 (by decide) fl_X10_106 dX10_breaksLaw_4 ?_
    refine Pm.topn (b := D.1) (hM.R) ?_
    refine P.icmp_ge_n (tgt := 127) dX10_breaksLaw_7 (by decide) (by omega) (by omega) (fun c_7 => ?_) (fun c_7 => ?_)
    · refine P.iconst dX10_breaksLaw_127 ic_0 ?_
      exact P.bret rfl dX10_breaksLaw_128 (by rw [show brL D W w S = false from anyN_f.mpr invi]; rfl) rfl
    · exfalso; omega
  · exact fun j hj => absurd hj (by omega)

set_option maxRecDepth 20000 in
theorem t_breaksLaw5 {G : GG} {f : Nat → Nat → Nat} {l : Nat → Nat → Int64} {D : DB} {W : LB} {U : QB} {T : TB} {N : Nat} (hM : MV f l D W U T N) (hBW : BW D W U T) {w S : Nat} (hw : w < W.1) (hS : S < 2147483648) (h0 : W.2.1 w 0 = 5) : Spec G mX10_breaksLaw [.ref (ad G 86), .int (nI w), .int (nI S)] 114 (f, l, refT) (some (.int (bI (brL D W w S)))) 114 (f, l, refT) := by
  obtain ⟨hD, hLW, hUW, hTW⟩ := id hBW
  have hR := hD.1
  have hW1 := hLW.1
  have hU1 := hUW.1
  have hJ1 := hUW.2.1
  obtain ⟨hw0, hw1, hw2, hw3, hw4, -⟩ := hLW.2 w hw
  have hk1 : W.2.1 w 0 ≠ 1 := by omega
  have hk3 : W.2.1 w 0 ≠ 3 := by omega
  refine Spec.of ok_X10_breaksLaw.1 ⟨Nat.le_refl _, Nat.le_refl _⟩ (Nat.le_of_ble_eq_true rfl) ?_
  show Pm G RX10 cX10_breaksLaw 5 (KM G mX10_breaksLaw 114 114 (some (.int (bI (brL D W w S)))) (f, l, refT)) 0 [some (.ref (ad G 86)), some (.int (nI w)), some (.int (nI S)), none, none] [] f l
  refine P.iconst dX10_breaksLaw_0 ic_0 ?_
  refine P.istore_n dX10_breaksLaw_1 rfl (by decide) ?_
  refine loop_up (M := fun (i : Nat) => (∀ j, j < i → brR D W w S j = false) → Pm G _ _ _ _ 2 [some (.ref (ad G 86)), some (.int (nI w)), some (.int (nI S)), some (.int (nI i)), none] [] f l) (lo := 0) (N := D.1) (by first | exact Nat.zero_le _ | omega) (fun i hi0 hi1 ihi => ?_) ?_ ?_
  · intro invi
    show Pm G _ _ _ _ 2 [some (.ref (ad G 86)), some (.int (nI w)), some (.int (nI S)), some (.int (nI i)), none] [] f l
    refine P.iload_n dX10_breaksLaw_2 rfl rfl ?_
    refine P.aload_n dX10_breaksLaw_3 rfl rfl ?_
    refine g_X10_rows ly_86 (by decide) fl_X10_106 dX10_breaksLaw_4 ?_
    refine Pm.topn (b := D.1) (hM.R) ?_
    refine P.icmp_ge_n (tgt := 127) dX10_breaksLaw_7 (by decide) (by omega) (by omega) (fun c_7 => ?_) (fun c_7 => ?_)
    · exfalso; omega
    refine P.aload_n dX10_breaksLaw_10 rfl rfl ?_
    refine P.iload_n dX10_breaksLaw_11 rfl rfl ?_
    refine P.iload_n dX10_breaksLaw_12 rfl rfl ?_
    refine P.iload_n dX10_breaksLaw_13 rfl rfl ?_
    refine P.callV (As := [.int (nI w), .int (nI i), .int (nI S)]) (rest := []) (t_isOf (w := w) (r := i) (S := S) hM hBW hw (by omega) (by omega)) ok_X10_isOf ⟨Nat.le_of_ble_eq_true rfl, Nat.le_of_ble_eq_true rfl, Nat.le_refl _, Nat.le_refl _⟩ rfl ml_X10_154 ly_86 (by decide) (by decide) rfl rfl (Nat.le_of_ble_eq_true rfl) dX10_breaksLaw_14 ?_
    refine P.if_eq_b (tgt := 121) dX10_breaksLaw_17 (by decide) (fun c_17 => ?_) (fun c_17 => ?_)
    · refine P.iinc dX10_breaksLaw_121 rfl (inc1 _) (by decide) ?_
      refine P.goto (tgt := 2) dX10_breaksLaw_124 (by decide) ?_
      show Pm G _ _ _ _ 2 [some (.ref (ad G 86)), some (.int (nI w)), some (.int (nI S)), some (.int (nI (i + 1))), none] [] f l
      exact Pm.to (ihi (by exact lt_snoc invi (by simp [brR, h0, c_17]))) (by simp [lle]) rfl rfl rfl
    refine P.aload_n dX10_breaksLaw_20 rfl rfl ?_
    refine g_X10_kind (q := 94) ly_86 (by decide) (by decide) fl_X10_33 dX10_breaksLaw_21 ?_
    refine P.iload_n dX10_breaksLaw_24 rfl rfl ?_
    refine a_ia ly_94 (by decide) (by omega) (by decide) dX10_breaksLaw_25 ?_
    refine Pm.topn (b := W.2.1 w 0) ((hM.knd w (by omega))) ?_
    refine P.iconst dX10_breaksLaw_26 ic_4 ?_
    refine P.icmp_ne_n (tgt := 51) dX10_breaksLaw_27 (by decide) (by omega) (by omega) (fun c_27 => ?_) (fun c_27 => ?_)
    · refine P.aload_n dX10_breaksLaw_51 rfl rfl ?_
      refine P.iload_n dX10_breaksLaw_52 rfl rfl ?_
      refine P.iload_n dX10_breaksLaw_53 rfl rfl ?_
      refine P.iload_n dX10_breaksLaw_54 rfl rfl ?_
      refine P.callV (As := [.int (nI w), .int (nI i), .int (nI S)]) (rest := []) (t_breakOne (w := w) (r := i) (S := S) hM hBW hw (by omega) hS) ok_X10_breakOne ⟨Nat.le_of_ble_eq_true rfl, Nat.le_of_ble_eq_true rfl, Nat.le_refl _, Nat.le_refl _⟩ rfl ml_X10_164 ly_86 (by decide) (by decide) rfl rfl (Nat.le_of_ble_eq_true rfl) dX10_breaksLaw_55 ?_
      refine P.if_eq_b (tgt := 63) dX10_breaksLaw_58 (by decide) (fun c_58 => ?_) (fun c_58 => ?_)
      · refine P.iconst dX10_breaksLaw_63 ic_0 ?_
        refine P.istore dX10_breaksLaw_64 (by decide) ?_
        refine loop_up (M := fun (q : Nat) => Pm G _ _ _ _ 66 [some (.ref (ad G 86)), some (.int (nI w)), some (.int (nI S)), some (.int (nI i)), some (.int (nI q))] [] f l) (lo := 0) (N := i) (by first | exact Nat.zero_le _ | omega) (fun q hq0 hq1 ihq => ?_) ?_
        · show Pm G _ _ _ _ 66 [some (.ref (ad G 86)), some (.int (nI w)), some (.int (nI S)), some (.int (nI i)), some (.int (nI q))] [] f l
          refine P.iload dX10_breaksLaw_66 rfl ?_
          refine P.iload_n dX10_breaksLaw_68 rfl rfl ?_
          refine P.icmp_ge_n (tgt := 121) dX10_breaksLaw_69 (by decide) (by omega) (by omega) (fun c_69 => ?_) (fun c_69 => ?_)
          · exfalso; omega
          refine P.aload_n dX10_breaksLaw_72 rfl rfl ?_
          refine g_X10_kind (q := 94) ly_86 (by decide) (by decide) fl_X10_33 dX10_breaksLaw_73 ?_
          refine P.iload_n dX10_breaksLaw_76 rfl rfl ?_
          refine a_ia ly_94 (by decide) (by omega) (by decide) dX10_breaksLaw_77 ?_
          refine Pm.topn (b := W.2.1 w 0) ((hM.knd w (by omega))) ?_
          refine P.if_eq_n (tgt := 91) dX10_breaksLaw_78 (by decide) (by omega) (fun c_78 => ?_) (fun c_78 => ?_)
          · exfalso; omega
          refine P.aload_n dX10_breaksLaw_81 rfl rfl ?_
          refine g_X10_kind (q := 94) ly_86 (by decide) (by decide) fl_X10_33 dX10_breaksLaw_82 ?_
          refine P.iload_n dX10_breaksLaw_85 rfl rfl ?_
          refine a_ia ly_94 (by decide) (by omega) (by decide) dX10_breaksLaw_86 ?_
          refine Pm.topn (b := W.2.1 w 0) ((hM.knd w (by omega))) ?_
          refine P.iconst dX10_breaksLaw_87 ic_2 ?_
          refine P.icmp_ne_n (tgt := 115) dX10_breaksLaw_88 (by decide) (by omega) (by omega) (fun c_88 => ?_) (fun c_88 => ?_)
          · refine P.iinc dX10_breaksLaw_115 rfl (inc1 _) (by decide) ?_
            refine P.goto (tgt := 66) dX10_breaksLaw_118 (by decide) ?_
            show Pm G _ _ _ _ 66 [some (.ref (ad G 86)), some (.int (nI w)), some (.int (nI S)), some (.int (nI i)), some (.int (nI (q + 1)))] [] f l
            exact Pm.to (ihq) (by simp [lle]) rfl rfl rfl
          · exfalso; omega
        · show Pm G _ _ _ _ 66 [some (.ref (ad G 86)), some (.int (nI w)), some (.int (nI S)), some (.int (nI i)), some (.int (nI i))] [] f l
          refine P.iload dX10_breaksLaw_66 rfl ?_
          refine P.iload_n dX10_breaksLaw_68 rfl rfl ?_
          refine P.icmp_ge_n (tgt := 121) dX10_breaksLaw_69 (by decide) (by omega) (by omega) (fun c_69 => ?_) (fun c_69 => ?_)
          · refine P.iinc dX10_breaksLaw_121 rfl (inc1 _) (by decide) ?_
            refine P.goto (tgt := 2) dX10_breaksLaw_124 (by decide) ?_
            show Pm G _ _ _ _ 2 [some (.ref (ad G 86)), some (.int (nI w)), some (.int (nI S)), some (.int (nI (i + 1))), some (.int (nI i))] [] f l
            exact Pm.to (ihi (by exact lt_snoc invi (by simp [brR, h0, c_17, c_58]))) (by simp [lle]) rfl rfl rfl
          · exfalso; omega
      refine P.iconst dX10_breaksLaw_61 ic_1 ?_
      exact P.bret rfl dX10_breaksLaw_62 (by rw [show brL D W w S = true from anyN_t.mpr ⟨i, hi1, by simp [brR, h0, c_17, c_58]⟩]; rfl) rfl
    · exfalso; omega
  · intro invi
    show Pm G _ _ _ _ 2 [some (.ref (ad G 86)), some (.int (nI w)), some (.int (nI S)), some (.int (nI D.1)), none] [] f l
    refine P.iload_n dX10_breaksLaw_2 rfl rfl ?_
    refine P.aload_n dX10_breaksLaw_3 rfl rfl ?_
    refine g_X10_rows ly_86 (by decide) fl_X10_106 dX10_breaksLaw_4 ?_
    refine Pm.topn (b := D.1) (hM.R) ?_
    refine P.icmp_ge_n (tgt := 127) dX10_breaksLaw_7 (by decide) (by omega) (by omega) (fun c_7 => ?_) (fun c_7 => ?_)
    · refine P.iconst dX10_breaksLaw_127 ic_0 ?_
      exact P.bret rfl dX10_breaksLaw_128 (by rw [show brL D W w S = false from anyN_f.mpr invi]; rfl) rfl
    · exfalso; omega
  · exact fun j hj => absurd hj (by omega)

theorem t_breaksLaw {G : GG} {f : Nat → Nat → Nat} {l : Nat → Nat → Int64} {D : DB} {W : LB} {U : QB} {T : TB} {N : Nat} (hM : MV f l D W U T N) (hBW : BW D W U T) {w S : Nat} (hw : w < W.1) (hS : S < 2147483648) : Spec G mX10_breaksLaw [.ref (ad G 86), .int (nI w), .int (nI S)] 114 (f, l, refT) (some (.int (bI (brL D W w S)))) 114 (f, l, refT) := by
  have h6 := (hBW.2.1.2 w hw).1
  rcases (show W.2.1 w 0 = 0 ∨ W.2.1 w 0 = 1 ∨ W.2.1 w 0 = 2 ∨ W.2.1 w 0 = 3 ∨ W.2.1 w 0 = 4 ∨ W.2.1 w 0 = 5 by omega) with h | h | h | h | h | h
  · exact t_breaksLaw0 hM hBW hw hS h
  · exact t_breaksLaw1 hM hBW hw hS h
  · exact t_breaksLaw2 hM hBW hw hS h
  · exact t_breaksLaw3 hM hBW hw hS h
  · exact t_breaksLaw4 hM hBW hw hS h
  · exact t_breaksLaw5 hM hBW hw hS h


-- the model's isLeastSum: by program (wip/whole/spec44.py)
set_option maxRecDepth 20000 in
theorem t_isLeastSum {G : GG} {f : Nat → Nat → Nat} {l : Nat → Nat → Int64} {D : DB} {W : LB} {U : QB} {T : TB} {N : Nat} (hM : MV f l D W U T N) (hBW : BW D W U T) {w S : Nat} (hw : w < W.1) (hS0 : S ≠ 0) (hS : S < 4096) (h0 : W.2.1 w 0 = 4)  : Spec G mX10_isLeastSum [.ref (ad G 86), .int (nI w), .int (nI S)] 114 (f, l, refT) (some (.int (bI (lsM D W w S)))) 114 (f, l, refT) := by
  obtain ⟨hD, hLW, hUW, hTW⟩ := id hBW
  have hR := hD.1
  have hW1 := hLW.1
  have hU1 := hUW.1
  have hJ1 := hUW.2.1
  obtain ⟨hw0, hw1, hw2, hw3, hw4, -⟩ := hLW.2 w hw
  have hk1 : W.2.1 w 0 ≠ 1 := by omega
  have hk3 : W.2.1 w 0 ≠ 3 := by omega
  have hk5 : W.2.1 w 0 ≠ 5 := by omega
  obtain ⟨hl1, hl2, hl3⟩ := lowB_t hS0 hS
  refine Spec.of ok_X10_isLeastSum.1 ⟨Nat.le_refl _, Nat.le_refl _⟩ (Nat.le_of_ble_eq_true rfl) ?_
  show Pm G RX10 cX10_isLeastSum 5 (KM G mX10_isLeastSum 114 114 (some (.int (bI (lsM D W w S)))) (f, l, refT)) 0 [some (.ref (ad G 86)), some (.int (nI w)), some (.int (nI S)), none, none] [] f l
  refine P.iconst dX10_isLeastSum_0 ic_0 ?_
  refine P.istore_n dX10_isLeastSum_1 rfl (by decide) ?_
  refine loop_up (M := fun (k : Nat) => Pm G _ _ _ _ 2 [some (.ref (ad G 86)), some (.int (nI w)), some (.int (nI S)), some (.int (nI k)), none] [] f l) (lo := 0) (N := (lowB S)) (by first | exact Nat.zero_le _ | omega) (fun k hk0 hk1 ihk => ?_) ?_
  · show Pm G _ _ _ _ 2 [some (.ref (ad G 86)), some (.int (nI w)), some (.int (nI S)), some (.int (nI k)), none] [] f l
    refine P.iload_n dX10_isLeastSum_2 rfl rfl ?_
    refine P.iload_n dX10_isLeastSum_3 rfl rfl ?_
    refine P.ishr dX10_isLeastSum_4 (n_shr (by omega) (by omega)) ?_
    refine P.iconst dX10_isLeastSum_5 ic_1 ?_
    refine P.iand_n (v := nI (bt S k)) dX10_isLeastSum_6 (n_and1 _) ?_
    refine P.if_ne_n (tgt := 16) dX10_isLeastSum_7 (by decide) (Nat.lt_trans (bt_lt _ _) (by decide)) (fun c_7 => ?_) (fun c_7 => ?_)
    · exfalso; first | exact absurd (hl3 k hk1) (by rw [tb_t c_7]; decide) | (rw [tb_f c_7] at hl1; exact Bool.noConfusion hl1)
    refine P.iinc dX10_isLeastSum_10 rfl (inc1 _) (by decide) ?_
    refine P.goto (tgt := 2) dX10_isLeastSum_13 (by decide) ?_
    show Pm G _ _ _ _ 2 [some (.ref (ad G 86)), some (.int (nI w)), some (.int (nI S)), some (.int (nI (k + 1))), none] [] f l
    exact Pm.to (ihk) (by simp [lle]) rfl rfl rfl
  · show Pm G _ _ _ _ 2 [some (.ref (ad G 86)), some (.int (nI w)), some (.int (nI S)), some (.int (nI (lowB S))), none] [] f l
    refine P.iload_n dX10_isLeastSum_2 rfl rfl ?_
    refine P.iload_n dX10_isLeastSum_3 rfl rfl ?_
    refine P.ishr dX10_isLeastSum_4 (n_shr (by omega) (by omega)) ?_
    refine P.iconst dX10_isLeastSum_5 ic_1 ?_
    refine P.iand_n (v := nI (bt S (lowB S))) dX10_isLeastSum_6 (n_and1 _) ?_
    refine P.if_ne_n (tgt := 16) dX10_isLeastSum_7 (by decide) (Nat.lt_trans (bt_lt _ _) (by decide)) (fun c_7 => ?_) (fun c_7 => ?_)
    · refine P.iconst dX10_isLeastSum_16 ic_0 ?_
      refine P.istore dX10_isLeastSum_17 (by decide) ?_
      refine loop_up (M := fun (i : Nat) => (∀ j, j < i → lsB D W w S j = false) → Pm G _ _ _ _ 19 [some (.ref (ad G 86)), some (.int (nI w)), some (.int (nI S)), some (.int (nI (lowB S))), some (.int (nI i))] [] f l) (lo := 0) (N := D.1) (by first | exact Nat.zero_le _ | omega) (fun i hi0 hi1 ihi => ?_) ?_ ?_
      · intro invi
        show Pm G _ _ _ _ 19 [some (.ref (ad G 86)), some (.int (nI w)), some (.int (nI S)), some (.int (nI (lowB S))), some (.int (nI i))] [] f l
        refine P.iload dX10_isLeastSum_19 rfl ?_
        refine P.aload_n dX10_isLeastSum_21 rfl rfl ?_
        refine g_X10_rows ly_86 (by decide) fl_X10_106 dX10_isLeastSum_22 ?_
        refine Pm.topn (b := D.1) (hM.R) ?_
        refine P.icmp_ge_n (tgt := 101) dX10_isLeastSum_25 (by decide) (by omega) (by omega) (fun c_25 => ?_) (fun c_25 => ?_)
        · exfalso; omega
        refine P.iload_n dX10_isLeastSum_28 rfl rfl ?_
        refine P.iload dX10_isLeastSum_29 rfl ?_
        refine P.ishr dX10_isLeastSum_31 (n_shr (by omega) (by omega)) ?_
        refine P.iconst dX10_isLeastSum_32 ic_1 ?_
        refine P.iand_n (v := nI (bt S i)) dX10_isLeastSum_33 (n_and1 _) ?_
        refine P.iconst dX10_isLeastSum_34 ic_1 ?_
        refine P.icmp_ne_n (tgt := 95) dX10_isLeastSum_35 (by decide) (Nat.lt_trans (bt_lt _ _) (by decide)) (by omega) (fun c_35 => ?_) (fun c_35 => ?_)
        · refine P.iinc dX10_isLeastSum_95 rfl (inc1 _) (by decide) ?_
          refine P.goto (tgt := 19) dX10_isLeastSum_98 (by decide) ?_
          show Pm G _ _ _ _ 19 [some (.ref (ad G 86)), some (.int (nI w)), some (.int (nI S)), some (.int (nI (lowB S))), some (.int (nI (i + 1)))] [] f l
          exact Pm.to (ihi (by exact lt_snoc invi (by rw [lsB, tb_f (show bt S i = 0 by have := bt_lt S i; have := c_35; omega)]; simp [mp]))) (by simp [lle]) rfl rfl rfl
        refine P.aload_n dX10_isLeastSum_38 rfl rfl ?_
        refine P.iload_n dX10_isLeastSum_39 rfl rfl ?_
        refine P.iload dX10_isLeastSum_40 rfl ?_
        refine P.iload_n dX10_isLeastSum_42 rfl rfl ?_
        refine P.callV (As := [.int (nI w), .int (nI i), .int (nI S)]) (rest := []) (t_isOf (w := w) (r := i) (S := S) hM hBW hw (by omega) (by omega)) ok_X10_isOf ⟨Nat.le_of_ble_eq_true rfl, Nat.le_of_ble_eq_true rfl, Nat.le_refl _, Nat.le_refl _⟩ rfl ml_X10_154 ly_86 (by decide) (by decide) rfl rfl (Nat.le_of_ble_eq_true rfl) dX10_isLeastSum_43 ?_
        refine P.if_eq_b (tgt := 93) dX10_isLeastSum_46 (by decide) (fun c_46 => ?_) (fun c_46 => ?_)
        · refine P.iconst dX10_isLeastSum_93 ic_0 ?_
          exact P.bret rfl dX10_isLeastSum_94 (by rw [show lsM D W w S = false from by rw [lsM, show anyN (lsB D W w S) D.1 = true from anyN_t.mpr ⟨i, hi1, by rw [lsB, tb_t (show bt S i ≠ 0 by have := c_35; omega)]; simp [mp, c_46]⟩]; rfl]; rfl) rfl
        refine P.aload_n dX10_isLeastSum_49 rfl rfl ?_
        refine P.iload_n dX10_isLeastSum_50 rfl rfl ?_
        refine P.iload dX10_isLeastSum_51 rfl ?_
        refine P.callV (As := [.int (nI w), .int (nI i)]) (rest := []) (t_counts (w := w) (r := i) hM hBW hw (by omega) hk1 hk3) ok_X10_counts ⟨Nat.le_of_ble_eq_true rfl, Nat.le_of_ble_eq_true rfl, Nat.le_refl _, Nat.le_refl _⟩ rfl ml_X10_158 ly_86 (by decide) (by decide) rfl rfl (Nat.le_of_ble_eq_true rfl) dX10_isLeastSum_53 ?_
        refine P.if_eq_b (tgt := 93) dX10_isLeastSum_56 (by decide) (fun c_56 => ?_) (fun c_56 => ?_)
        · refine P.iconst dX10_isLeastSum_93 ic_0 ?_
          exact P.bret rfl dX10_isLeastSum_94 (by rw [show lsM D W w S = false from by rw [lsM, show anyN (lsB D W w S) D.1 = true from anyN_t.mpr ⟨i, hi1, by rw [lsB, tb_t (show bt S i ≠ 0 by have := c_35; omega)]; simp [mp, c_46, c_56]⟩]; rfl]; rfl) rfl
        refine P.aload_n dX10_isLeastSum_59 rfl rfl ?_
        refine P.iload dX10_isLeastSum_60 rfl ?_
        refine P.aload_n dX10_isLeastSum_62 rfl rfl ?_
        refine g_X10_colA (q := 96) ly_86 (by decide) (by decide) fl_X10_39 dX10_isLeastSum_63 ?_
        refine P.iload_n dX10_isLeastSum_66 rfl rfl ?_
        refine a_ia ly_96 (by decide) (by omega) (by decide) dX10_isLeastSum_67 ?_
        refine Pm.topn (b := W.2.1 w 2) ((hM.fst w (by omega))) ?_
        refine P.iload_n dX10_isLeastSum_68 rfl rfl ?_
        refine P.aload_n dX10_isLeastSum_69 rfl rfl ?_
        refine g_X10_colA (q := 96) ly_86 (by decide) (by decide) fl_X10_39 dX10_isLeastSum_70 ?_
        refine P.iload_n dX10_isLeastSum_73 rfl rfl ?_
        refine a_ia ly_96 (by decide) (by omega) (by decide) dX10_isLeastSum_74 ?_
        refine Pm.topn (b := W.2.1 w 2) ((hM.fst w (by omega))) ?_
        refine P.callV (As := [.int (nI i), .int (nI (W.2.1 w 2)), .int (nI (lowB S)), .int (nI (W.2.1 w 2))]) (rest := []) (t_isLike (r := i) (c := (W.2.1 w 2)) (q := (lowB S)) (d := (W.2.1 w 2)) hM hBW (by omega) (by omega) (by omega) (by omega)) ok_X10_isLike ⟨Nat.le_of_ble_eq_true rfl, Nat.le_of_ble_eq_true rfl, Nat.le_refl _, Nat.le_refl _⟩ rfl ml_X10_150 ly_86 (by decide) (by decide) rfl rfl (Nat.le_of_ble_eq_true rfl) dX10_isLeastSum_75 ?_
        refine P.if_eq_b (tgt := 93) dX10_isLeastSum_78 (by decide) (fun c_78 => ?_) (fun c_78 => ?_)
        · refine P.iconst dX10_isLeastSum_93 ic_0 ?_
          exact P.bret rfl dX10_isLeastSum_94 (by rw [show lsM D W w S = false from by rw [lsM, show anyN (lsB D W w S) D.1 = true from anyN_t.mpr ⟨i, hi1, by rw [lsB, tb_t (show bt S i ≠ 0 by have := c_35; omega)]; simp [mp, c_46, c_56, c_78]⟩]; rfl]; rfl) rfl
        refine P.aload_n dX10_isLeastSum_81 rfl rfl ?_
        refine P.iload_n dX10_isLeastSum_82 rfl rfl ?_
        refine P.iload_n dX10_isLeastSum_83 rfl rfl ?_
        refine P.iload_n dX10_isLeastSum_84 rfl rfl ?_
        refine P.iload dX10_isLeastSum_85 rfl ?_
        refine P.callV (As := [.int (nI w), .int (nI (lowB S)), .int (nI S), .int (nI i)]) (rest := []) (t_isMore_but (w := w) (F := lowB S) (S := S) (b := i) hM hBW hw hl2 (by omega) h0 (by omega)) ok_X10_isMore ⟨Nat.le_of_ble_eq_true rfl, Nat.le_of_ble_eq_true rfl, Nat.le_refl _, Nat.le_refl _⟩ rfl ml_X10_161 ly_86 (by decide) (by decide) rfl rfl (Nat.le_of_ble_eq_true rfl) dX10_isLeastSum_87 ?_
        refine P.if_eq_b (tgt := 95) dX10_isLeastSum_90 (by decide) (fun c_90 => ?_) (fun c_90 => ?_)
        · refine P.iinc dX10_isLeastSum_95 rfl (inc1 _) (by decide) ?_
          refine P.goto (tgt := 19) dX10_isLeastSum_98 (by decide) ?_
          show Pm G _ _ _ _ 19 [some (.ref (ad G 86)), some (.int (nI w)), some (.int (nI S)), some (.int (nI (lowB S))), some (.int (nI (i + 1)))] [] f l
          exact Pm.to (ihi (by exact lt_snoc invi (by rw [lsB, tb_t (show bt S i ≠ 0 by have := c_35; omega)]; simp [mp, c_46, c_56, c_78, c_90]))) (by simp [lle]) rfl rfl rfl
        refine P.iconst dX10_isLeastSum_93 ic_0 ?_
        exact P.bret rfl dX10_isLeastSum_94 (by rw [show lsM D W w S = false from by rw [lsM, show anyN (lsB D W w S) D.1 = true from anyN_t.mpr ⟨i, hi1, by rw [lsB, tb_t (show bt S i ≠ 0 by have := c_35; omega)]; simp [mp, c_46, c_56, c_78, c_90]⟩]; rfl]; rfl) rfl
      · intro invi
        show Pm G _ _ _ _ 19 [some (.ref (ad G 86)), some (.int (nI w)), some (.int (nI S)), some (.int (nI (lowB S))), some (.int (nI D.1))] [] f l
        refine P.iload dX10_isLeastSum_19 rfl ?_
        refine P.aload_n dX10_isLeastSum_21 rfl rfl ?_
        refine g_X10_rows ly_86 (by decide) fl_X10_106 dX10_isLeastSum_22 ?_
        refine Pm.topn (b := D.1) (hM.R) ?_
        refine P.icmp_ge_n (tgt := 101) dX10_isLeastSum_25 (by decide) (by omega) (by omega) (fun c_25 => ?_) (fun c_25 => ?_)
        · refine P.aload_n dX10_isLeastSum_101 rfl rfl ?_
          refine P.iload_n dX10_isLeastSum_102 rfl rfl ?_
          refine P.iload_n dX10_isLeastSum_103 rfl rfl ?_
          refine P.iload_n dX10_isLeastSum_104 rfl rfl ?_
          refine P.bipush (v := -9) dX10_isLeastSum_105 rfl ?_
          refine P.callV (As := [.int (nI w), .int (nI (lowB S)), .int (nI S), .int (-9)]) (rest := []) (t_isMore_none (w := w) (F := lowB S) (S := S) hM hBW hw hl2 (by omega) h0) ok_X10_isMore ⟨Nat.le_of_ble_eq_true rfl, Nat.le_of_ble_eq_true rfl, Nat.le_refl _, Nat.le_refl _⟩ rfl ml_X10_161 ly_86 (by decide) (by decide) rfl rfl (Nat.le_of_ble_eq_true rfl) dX10_isLeastSum_107 ?_
          exact P.bret rfl dX10_isLeastSum_110 (by rw [lsM, anyN_f.mpr invi]; rfl) rfl
        · exfalso; omega
      · exact fun j hj => absurd hj (by omega)
    · exfalso; first | exact absurd (hl3 k hk1) (by rw [tb_t c_7]; decide) | (rw [tb_f c_7] at hl1; exact Bool.noConfusion hl1)


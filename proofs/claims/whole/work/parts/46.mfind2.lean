-- the model's findQuarrels: by program (wip/whole/spec46.py)
set_option maxRecDepth 20000 in
theorem t_findQuarrels_4 {G : GG} {f : Nat → Nat → Nat} {l : Nat → Nat → Int64} {D : DB} {W : LB} {U : QB} {T : TB} {N : Nat} (hM : MV f l D W U T N) (hBW : BW D W U T) {w : Nat} (hw : w < W.1) (h0 : W.2.1 w 0 = 4) : Spec G mX10_findQuarrels [.ref (ad G 86), .int (nI w)] 114 (f, l, refT) none 114 (wrM f (mQn D W w (2 ^ D.1)), l, refT) := by
  obtain ⟨hD, hLW, hUW, hTW⟩ := id hBW
  have hR := hD.1
  have hW1 := hLW.1
  have hU1 := hUW.1
  have hJ1 := hUW.2.1
  obtain ⟨hw0, hw1, hw2, hw3, hw4, -⟩ := hLW.2 w hw
  have hK4 := keptD_lt hD
  have hp12 := pow12 hR
  have hbf := fun S => bitsF_le S 12
  refine Spec.of ok_X10_findQuarrels.1 ⟨Nat.le_refl _, Nat.le_refl _⟩ (Nat.le_of_ble_eq_true rfl) ?_
  show Pm G RX10 cX10_findQuarrels 7 (KM G mX10_findQuarrels 114 114 none (wrM f (mQn D W w (2 ^ D.1)), l, refT)) 0 [some (.ref (ad G 86)), some (.int (nI w)), none, none, none, none, none] [] f l
  refine P.aload_n dX10_findQuarrels_0 rfl rfl ?_
  refine P.callV (As := []) (rest := []) (t_keptSet hM hBW) ok_X10_keptSet ⟨Nat.le_of_ble_eq_true rfl, Nat.le_of_ble_eq_true rfl, Nat.le_refl _, Nat.le_refl _⟩ rfl ml_X10_170 ly_86 (by decide) (by decide) rfl rfl (Nat.le_of_ble_eq_true rfl) dX10_findQuarrels_1 ?_
  refine P.istore_n dX10_findQuarrels_4 rfl (by decide) ?_
  refine P.aload_n dX10_findQuarrels_5 rfl rfl ?_
  refine P.iconst dX10_findQuarrels_6 ic_0 ?_
  refine p_X10_quarrelsFound (a := 0) ly_86 (by decide) fl_X10_174 dX10_findQuarrels_7 rfl ?_
  refine P.iconst dX10_findQuarrels_10 ic_1 ?_
  refine P.istore_n dX10_findQuarrels_11 rfl (by decide) ?_
  refine loop_up (M := fun (i : Nat) => Pm G _ _ _ _ 12 [some (.ref (ad G 86)), some (.int (nI w)), some (.int (nI (keptD D))), some (.int (nI i)), none, none, none] [] (wrM f (mQn D W w i)) l) (lo := 1) (N := (2 ^ D.1)) (Nat.one_le_two_pow) (fun i hi0 hi1 ihi => ?_) ?_
  · have hM := hM.wrM (mQn D W w i)
    have hi9 : i ≠ 0 := by omega
    have hi4 : i < 4096 := by omega
    obtain ⟨hl1, hl2, hl3⟩ := lowB_t hi9 hi4
    have hl4 := lowB_lt hi9 hi4 hi1
    show Pm G _ _ _ _ 12 [some (.ref (ad G 86)), some (.int (nI w)), some (.int (nI (keptD D))), some (.int (nI i)), none, none, none] [] (wrM f (mQn D W w i)) l
    refine P.iload_n dX10_findQuarrels_12 rfl rfl ?_
    refine P.iconst dX10_findQuarrels_13 ic_1 ?_
    refine P.aload_n dX10_findQuarrels_14 rfl rfl ?_
    refine g_X10_rows ly_86 (by decide) fl_X10_106 dX10_findQuarrels_15 ?_
    refine Pm.topn (b := D.1) (hM.R) ?_
    refine P.ishl dX10_findQuarrels_18 (n_bit (by omega)) ?_
    refine P.icmp_ge_n (tgt := 188) dX10_findQuarrels_19 (by decide) (by omega) (by omega) (fun c_19 => ?_) (fun c_19 => ?_)
    · exfalso; omega
    refine P.iload_n dX10_findQuarrels_22 rfl rfl ?_
    refine P.iload_n dX10_findQuarrels_23 rfl rfl ?_
    refine P.iconst (v := -1) dX10_findQuarrels_24 rfl ?_
    refine P.ixor dX10_findQuarrels_25 ?_
    refine P.iand_n dX10_findQuarrels_26 (n_not _ _) ?_
    refine P.if_eq_n (tgt := 33) dX10_findQuarrels_27 (by decide) (by have := sd_le i (keptD D); omega) (fun c_27 => ?_) (fun c_27 => ?_)
    · refine P.iload_n dX10_findQuarrels_33 rfl rfl ?_
      refine P.callS (As := [.int (nI i)]) (rest := []) (t_bitsOf (S := i) hM hBW (by omega)) ok_X10_bitsOf ⟨Nat.le_of_ble_eq_true rfl, Nat.le_of_ble_eq_true rfl, Nat.le_refl _, Nat.le_refl _⟩ rfl ml_X10_177 rfl (Nat.le_of_ble_eq_true rfl) dX10_findQuarrels_34 ?_
      refine P.istore dX10_findQuarrels_37 (by decide) ?_
      refine P.aload_n dX10_findQuarrels_39 rfl rfl ?_
      refine g_X10_kind (q := 94) ly_86 (by decide) (by decide) fl_X10_33 dX10_findQuarrels_40 ?_
      refine P.iload_n dX10_findQuarrels_43 rfl rfl ?_
      refine a_ia ly_94 (by decide) (by omega) (by decide) dX10_findQuarrels_44 ?_
      refine Pm.topn (b := W.2.1 w 0) ((hM.knd w (by omega))) ?_
      refine P.iconst dX10_findQuarrels_45 ic_4 ?_
      refine P.icmp_ne_n (tgt := 60) dX10_findQuarrels_46 (by decide) (by omega) (by omega) (fun c_46 => ?_) (fun c_46 => ?_)
      · exfalso; omega
      refine P.aload_n dX10_findQuarrels_49 rfl rfl ?_
      refine P.iload_n dX10_findQuarrels_50 rfl rfl ?_
      refine P.iload_n dX10_findQuarrels_51 rfl rfl ?_
      refine P.callV (As := [.int (nI w), .int (nI i)]) (rest := []) (t_isLeastSum (w := w) (S := i) hM hBW hw hi9 hi4 h0) ok_X10_isLeastSum ⟨Nat.le_of_ble_eq_true rfl, Nat.le_of_ble_eq_true rfl, Nat.le_refl _, Nat.le_refl _⟩ rfl ml_X10_180 ly_86 (by decide) (by decide) rfl rfl (Nat.le_of_ble_eq_true rfl) dX10_findQuarrels_52 ?_
      refine P.istore dX10_findQuarrels_55 (by decide) ?_
      refine P.goto (tgt := 157) dX10_findQuarrels_57 (by decide) ?_
      refine P.iload dX10_findQuarrels_157 rfl ?_
      refine P.if_eq_b (tgt := 182) dX10_findQuarrels_159 (by decide) (fun c_159 => ?_) (fun c_159 => ?_)
      · refine P.iinc dX10_findQuarrels_182 rfl (inc1 _) (by decide) ?_
        refine P.goto (tgt := 12) dX10_findQuarrels_185 (by decide) ?_
        show Pm G _ _ _ _ 12 [some (.ref (ad G 86)), some (.int (nI w)), some (.int (nI (keptD D))), some (.int (nI (i + 1))), some (.int (nI (bitsF i 12))), some (.int (bI (lsM D W w i))), none] [] (wrM f (mQn D W w i)) l
        exact Pm.to (ihi) (by simp [lle]) rfl (by rw [mQn_f (show mqB D W w i = false from by simp [mqB, h0, hi9, c_27, c_159])]) rfl
      refine P.aload_n dX10_findQuarrels_162 rfl rfl ?_
      refine g_X10_quarrelOf (q := 111) ly_86 (by decide) (by decide) fl_X10_84 dX10_findQuarrels_163 ?_
      refine P.aload_n dX10_findQuarrels_166 rfl rfl ?_
      refine g_X10_quarrelsFound ly_86 (by decide) fl_X10_174 dX10_findQuarrels_167 ?_
      refine Pm.topn (b := (mQn D W w i).length) ((wrM_len _ _)) ?_
      refine P.iload_n dX10_findQuarrels_170 rfl rfl ?_
      refine s_ia (a := i) ly_111 (by decide) (by have := mQn_len D W w i; omega) (by decide) dX10_findQuarrels_171 rfl ?_
      refine P.aload_n dX10_findQuarrels_172 rfl rfl ?_
      refine P.dup dX10_findQuarrels_173 rfl ?_
      refine g_X10_quarrelsFound ly_86 (by decide) fl_X10_174 dX10_findQuarrels_174 ?_
      refine Pm.topn (b := (mQn D W w i).length) ((uf_ne _ _ (Or.inl (by omega))).trans ((wrM_len _ _))) ?_
      refine P.iconst dX10_findQuarrels_177 ic_1 ?_
      refine P.iadd_n dX10_findQuarrels_178 (nI_add _ _) ?_
      refine p_X10_quarrelsFound (a := (((mQn D W w i).length) + 1)) ly_86 (by decide) fl_X10_174 dX10_findQuarrels_179 rfl ?_
      refine P.iinc dX10_findQuarrels_182 rfl (inc1 _) (by decide) ?_
      refine P.goto (tgt := 12) dX10_findQuarrels_185 (by decide) ?_
      show Pm G _ _ _ _ 12 [some (.ref (ad G 86)), some (.int (nI w)), some (.int (nI (keptD D))), some (.int (nI (i + 1))), some (.int (nI (bitsF i 12))), some (.int (bI (lsM D W w i))), none] [] (uf (uf (wrM f (mQn D W w i)) 111 ((mQn D W w i).length) i) 86 32 (((mQn D W w i).length) + 1)) l
      exact Pm.to (ihi) (by simp [lle]) rfl (by first | exact ((wrM_app _ _ _).trans (by rw [mQn_t (show mqB D W w i = true from by simp [mqB, h0, hi9, c_27, c_159])])) | exact ((wrM_app _ _ _).trans (by rw [mQn_t (show mqB D W w i = true from by simp [mqB, h0, hi9, c_27, c_159])])).symm) rfl
    refine P.goto (tgt := 182) dX10_findQuarrels_30 (by decide) ?_
    refine P.iinc dX10_findQuarrels_182 rfl (inc1 _) (by decide) ?_
    refine P.goto (tgt := 12) dX10_findQuarrels_185 (by decide) ?_
    show Pm G _ _ _ _ 12 [some (.ref (ad G 86)), some (.int (nI w)), some (.int (nI (keptD D))), some (.int (nI (i + 1))), none, none, none] [] (wrM f (mQn D W w i)) l
    exact Pm.to (ihi) (by simp [lle]) rfl (by rw [mQn_f (show mqB D W w i = false from by simp [mqB, h0, hi9, c_27])]) rfl
  · show Pm G _ _ _ _ 12 [some (.ref (ad G 86)), some (.int (nI w)), some (.int (nI (keptD D))), some (.int (nI (2 ^ D.1))), none, none, none] [] (wrM f (mQn D W w (2 ^ D.1))) l
    refine P.iload_n dX10_findQuarrels_12 rfl rfl ?_
    refine P.iconst dX10_findQuarrels_13 ic_1 ?_
    refine P.aload_n dX10_findQuarrels_14 rfl rfl ?_
    refine g_X10_rows ly_86 (by decide) fl_X10_106 dX10_findQuarrels_15 ?_
    refine Pm.topn (b := D.1) (hM.R) ?_
    refine P.ishl dX10_findQuarrels_18 (n_bit (by omega)) ?_
    refine P.icmp_ge_n (tgt := 188) dX10_findQuarrels_19 (by decide) (by omega) (by omega) (fun c_19 => ?_) (fun c_19 => ?_)
    · exact P.vret rfl dX10_findQuarrels_188 rfl
    · exfalso; omega

set_option maxRecDepth 20000 in
theorem t_findQuarrels_0 {G : GG} {f : Nat → Nat → Nat} {l : Nat → Nat → Int64} {D : DB} {W : LB} {U : QB} {T : TB} {N : Nat} (hM : MV f l D W U T N) (hBW : BW D W U T) {w : Nat} (hw : w < W.1) (h0 : W.2.1 w 0 = 0) : Spec G mX10_findQuarrels [.ref (ad G 86), .int (nI w)] 114 (f, l, refT) none 114 (wrM f (mQn D W w (2 ^ D.1)), l, refT) := by
  obtain ⟨hD, hLW, hUW, hTW⟩ := id hBW
  have hR := hD.1
  have hW1 := hLW.1
  have hU1 := hUW.1
  have hJ1 := hUW.2.1
  obtain ⟨hw0, hw1, hw2, hw3, hw4, -⟩ := hLW.2 w hw
  have hK4 := keptD_lt hD
  have hp12 := pow12 hR
  have hbf := fun S => bitsF_le S 12
  refine Spec.of ok_X10_findQuarrels.1 ⟨Nat.le_refl _, Nat.le_refl _⟩ (Nat.le_of_ble_eq_true rfl) ?_
  show Pm G RX10 cX10_findQuarrels 7 (KM G mX10_findQuarrels 114 114 none (wrM f (mQn D W w (2 ^ D.1)), l, refT)) 0 [some (.ref (ad G 86)), some (.int (nI w)), none, none, none, none, none] [] f l
  refine P.aload_n dX10_findQuarrels_0 rfl rfl ?_
  refine P.callV (As := []) (rest := []) (t_keptSet hM hBW) ok_X10_keptSet ⟨Nat.le_of_ble_eq_true rfl, Nat.le_of_ble_eq_true rfl, Nat.le_refl _, Nat.le_refl _⟩ rfl ml_X10_170 ly_86 (by decide) (by decide) rfl rfl (Nat.le_of_ble_eq_true rfl) dX10_findQuarrels_1 ?_
  refine P.istore_n dX10_findQuarrels_4 rfl (by decide) ?_
  refine P.aload_n dX10_findQuarrels_5 rfl rfl ?_
  refine P.iconst dX10_findQuarrels_6 ic_0 ?_
  refine p_X10_quarrelsFound (a := 0) ly_86 (by decide) fl_X10_174 dX10_findQuarrels_7 rfl ?_
  refine P.iconst dX10_findQuarrels_10 ic_1 ?_
  refine P.istore_n dX10_findQuarrels_11 rfl (by decide) ?_
  refine loop_up (M := fun (i : Nat) => Pm G _ _ _ _ 12 [some (.ref (ad G 86)), some (.int (nI w)), some (.int (nI (keptD D))), some (.int (nI i)), none, none, none] [] (wrM f (mQn D W w i)) l) (lo := 1) (N := (2 ^ D.1)) (Nat.one_le_two_pow) (fun i hi0 hi1 ihi => ?_) ?_
  · have hM := hM.wrM (mQn D W w i)
    have hi9 : i ≠ 0 := by omega
    have hi4 : i < 4096 := by omega
    obtain ⟨hl1, hl2, hl3⟩ := lowB_t hi9 hi4
    have hl4 := lowB_lt hi9 hi4 hi1
    show Pm G _ _ _ _ 12 [some (.ref (ad G 86)), some (.int (nI w)), some (.int (nI (keptD D))), some (.int (nI i)), none, none, none] [] (wrM f (mQn D W w i)) l
    refine P.iload_n dX10_findQuarrels_12 rfl rfl ?_
    refine P.iconst dX10_findQuarrels_13 ic_1 ?_
    refine P.aload_n dX10_findQuarrels_14 rfl rfl ?_
    refine g_X10_rows ly_86 (by decide) fl_X10_106 dX10_findQuarrels_15 ?_
    refine Pm.topn (b := D.1) (hM.R) ?_
    refine P.ishl dX10_findQuarrels_18 (n_bit (by omega)) ?_
    refine P.icmp_ge_n (tgt := 188) dX10_findQuarrels_19 (by decide) (by omega) (by omega) (fun c_19 => ?_) (fun c_19 => ?_)
    · exfalso; omega
    refine P.iload_n dX10_findQuarrels_22 rfl rfl ?_
    refine P.iload_n dX10_findQuarrels_23 rfl rfl ?_
    refine P.iconst (v := -1) dX10_findQuarrels_24 rfl ?_
    refine P.ixor dX10_findQuarrels_25 ?_
    refine P.iand_n dX10_findQuarrels_26 (n_not _ _) ?_
    refine P.if_eq_n (tgt := 33) dX10_findQuarrels_27 (by decide) (by have := sd_le i (keptD D); omega) (fun c_27 => ?_) (fun c_27 => ?_)
    · refine P.iload_n dX10_findQuarrels_33 rfl rfl ?_
      refine P.callS (As := [.int (nI i)]) (rest := []) (t_bitsOf (S := i) hM hBW (by omega)) ok_X10_bitsOf ⟨Nat.le_of_ble_eq_true rfl, Nat.le_of_ble_eq_true rfl, Nat.le_refl _, Nat.le_refl _⟩ rfl ml_X10_177 rfl (Nat.le_of_ble_eq_true rfl) dX10_findQuarrels_34 ?_
      refine P.istore dX10_findQuarrels_37 (by decide) ?_
      refine P.aload_n dX10_findQuarrels_39 rfl rfl ?_
      refine g_X10_kind (q := 94) ly_86 (by decide) (by decide) fl_X10_33 dX10_findQuarrels_40 ?_
      refine P.iload_n dX10_findQuarrels_43 rfl rfl ?_
      refine a_ia ly_94 (by decide) (by omega) (by decide) dX10_findQuarrels_44 ?_
      refine Pm.topn (b := W.2.1 w 0) ((hM.knd w (by omega))) ?_
      refine P.iconst dX10_findQuarrels_45 ic_4 ?_
      refine P.icmp_ne_n (tgt := 60) dX10_findQuarrels_46 (by decide) (by omega) (by omega) (fun c_46 => ?_) (fun c_46 => ?_)
      · refine P.aload_n dX10_findQuarrels_60 rfl rfl ?_
        refine g_X10_kind (q := 94) ly_86 (by decide) (by decide) fl_X10_33 dX10_findQuarrels_61 ?_
        refine P.iload_n dX10_findQuarrels_64 rfl rfl ?_
        refine a_ia ly_94 (by decide) (by omega) (by decide) dX10_findQuarrels_65 ?_
        refine Pm.topn (b := W.2.1 w 0) ((hM.knd w (by omega))) ?_
        refine P.if_eq_n (tgt := 79) dX10_findQuarrels_66 (by decide) (by omega) (fun c_66 => ?_) (fun c_66 => ?_)
        · refine P.iload dX10_findQuarrels_79 rfl ?_
          refine P.iconst dX10_findQuarrels_81 ic_2 ?_
          refine P.icmp_ne_n (tgt := 98) dX10_findQuarrels_82 (by decide) (by have := hbf i; omega) (by omega) (fun c_82 => ?_) (fun c_82 => ?_)
          · refine P.iconst dX10_findQuarrels_98 ic_0 ?_
            refine P.istore dX10_findQuarrels_99 (by decide) ?_
            refine P.goto (tgt := 157) dX10_findQuarrels_101 (by decide) ?_
            refine P.iload dX10_findQuarrels_157 rfl ?_
            refine P.if_eq_n (tgt := 182) dX10_findQuarrels_159 (by decide) (by omega) (fun c_159 => ?_) (fun c_159 => ?_)
            · refine P.iinc dX10_findQuarrels_182 rfl (inc1 _) (by decide) ?_
              refine P.goto (tgt := 12) dX10_findQuarrels_185 (by decide) ?_
              show Pm G _ _ _ _ 12 [some (.ref (ad G 86)), some (.int (nI w)), some (.int (nI (keptD D))), some (.int (nI (i + 1))), some (.int (nI (bitsF i 12))), some (.int (nI 0)), none] [] (wrM f (mQn D W w i)) l
              exact Pm.to (ihi) (by simp [lle]) rfl (by rw [mQn_f (show mqB D W w i = false from by simp [mqB, h0, hi9, c_27, c_82, c_159])]) rfl
            · exfalso; omega
          refine P.aload_n dX10_findQuarrels_85 rfl rfl ?_
          refine P.iload_n dX10_findQuarrels_86 rfl rfl ?_
          refine P.iload_n dX10_findQuarrels_87 rfl rfl ?_
          refine P.callV (As := [.int (nI w), .int (nI i)]) (rest := []) (t_breaksLaw (w := w) (S := i) hM hBW hw (by omega)) ok_X10_breaksLaw ⟨Nat.le_of_ble_eq_true rfl, Nat.le_of_ble_eq_true rfl, Nat.le_refl _, Nat.le_refl _⟩ rfl ml_X10_183 ly_86 (by decide) (by decide) rfl rfl (Nat.le_of_ble_eq_true rfl) dX10_findQuarrels_88 ?_
          refine P.if_eq_b (tgt := 98) dX10_findQuarrels_91 (by decide) (fun c_91 => ?_) (fun c_91 => ?_)
          · refine P.iconst dX10_findQuarrels_98 ic_0 ?_
            refine P.istore dX10_findQuarrels_99 (by decide) ?_
            refine P.goto (tgt := 157) dX10_findQuarrels_101 (by decide) ?_
            refine P.iload dX10_findQuarrels_157 rfl ?_
            refine P.if_eq_n (tgt := 182) dX10_findQuarrels_159 (by decide) (by omega) (fun c_159 => ?_) (fun c_159 => ?_)
            · refine P.iinc dX10_findQuarrels_182 rfl (inc1 _) (by decide) ?_
              refine P.goto (tgt := 12) dX10_findQuarrels_185 (by decide) ?_
              show Pm G _ _ _ _ 12 [some (.ref (ad G 86)), some (.int (nI w)), some (.int (nI (keptD D))), some (.int (nI (i + 1))), some (.int (nI (bitsF i 12))), some (.int (nI 0)), none] [] (wrM f (mQn D W w i)) l
              exact Pm.to (ihi) (by simp [lle]) rfl (by rw [mQn_f (show mqB D W w i = false from by simp [mqB, h0, hi9, c_27, c_82, c_91, c_159])]) rfl
            · exfalso; omega
          refine P.iconst dX10_findQuarrels_94 ic_1 ?_
          refine P.goto (tgt := 99) dX10_findQuarrels_95 (by decide) ?_
          refine P.istore dX10_findQuarrels_99 (by decide) ?_
          refine P.goto (tgt := 157) dX10_findQuarrels_101 (by decide) ?_
          refine P.iload dX10_findQuarrels_157 rfl ?_
          refine P.if_eq_n (tgt := 182) dX10_findQuarrels_159 (by decide) (by omega) (fun c_159 => ?_) (fun c_159 => ?_)
          · exfalso; omega
          refine P.aload_n dX10_findQuarrels_162 rfl rfl ?_
          refine g_X10_quarrelOf (q := 111) ly_86 (by decide) (by decide) fl_X10_84 dX10_findQuarrels_163 ?_
          refine P.aload_n dX10_findQuarrels_166 rfl rfl ?_
          refine g_X10_quarrelsFound ly_86 (by decide) fl_X10_174 dX10_findQuarrels_167 ?_
          refine Pm.topn (b := (mQn D W w i).length) ((wrM_len _ _)) ?_
          refine P.iload_n dX10_findQuarrels_170 rfl rfl ?_
          refine s_ia (a := i) ly_111 (by decide) (by have := mQn_len D W w i; omega) (by decide) dX10_findQuarrels_171 rfl ?_
          refine P.aload_n dX10_findQuarrels_172 rfl rfl ?_
          refine P.dup dX10_findQuarrels_173 rfl ?_
          refine g_X10_quarrelsFound ly_86 (by decide) fl_X10_174 dX10_findQuarrels_174 ?_
          refine Pm.topn (b := (mQn D W w i).length) ((uf_ne _ _ (Or.inl (by omega))).trans ((wrM_len _ _))) ?_
          refine P.iconst dX10_findQuarrels_177 ic_1 ?_
          refine P.iadd_n dX10_findQuarrels_178 (nI_add _ _) ?_
          refine p_X10_quarrelsFound (a := (((mQn D W w i).length) + 1)) ly_86 (by decide) fl_X10_174 dX10_findQuarrels_179 rfl ?_
          refine P.iinc dX10_findQuarrels_182 rfl (inc1 _) (by decide) ?_
          refine P.goto (tgt := 12) dX10_findQuarrels_185 (by decide) ?_
          show Pm G _ _ _ _ 12 [some (.ref (ad G 86)), some (.int (nI w)), some (.int (nI (keptD D))), some (.int (nI (i + 1))), some (.int (nI (bitsF i 12))), some (.int (nI 1)), none] [] (uf (uf (wrM f (mQn D W w i)) 111 ((mQn D W w i).length) i) 86 32 (((mQn D W w i).length) + 1)) l
          exact Pm.to (ihi) (by simp [lle]) rfl (by first | exact ((wrM_app _ _ _).trans (by rw [mQn_t (show mqB D W w i = true from by simp [mqB, h0, hi9, c_27, c_82, c_91, c_159])])) | exact ((wrM_app _ _ _).trans (by rw [mQn_t (show mqB D W w i = true from by simp [mqB, h0, hi9, c_27, c_82, c_91, c_159])])).symm) rfl
        · exfalso; omega
      · exfalso; omega
    refine P.goto (tgt := 182) dX10_findQuarrels_30 (by decide) ?_
    refine P.iinc dX10_findQuarrels_182 rfl (inc1 _) (by decide) ?_
    refine P.goto (tgt := 12) dX10_findQuarrels_185 (by decide) ?_
    show Pm G _ _ _ _ 12 [some (.ref (ad G 86)), some (.int (nI w)), some (.int (nI (keptD D))), some (.int (nI (i + 1))), none, none, none] [] (wrM f (mQn D W w i)) l
    exact Pm.to (ihi) (by simp [lle]) rfl (by rw [mQn_f (show mqB D W w i = false from by simp [mqB, h0, hi9, c_27])]) rfl
  · show Pm G _ _ _ _ 12 [some (.ref (ad G 86)), some (.int (nI w)), some (.int (nI (keptD D))), some (.int (nI (2 ^ D.1))), none, none, none] [] (wrM f (mQn D W w (2 ^ D.1))) l
    refine P.iload_n dX10_findQuarrels_12 rfl rfl ?_
    refine P.iconst dX10_findQuarrels_13 ic_1 ?_
    refine P.aload_n dX10_findQuarrels_14 rfl rfl ?_
    refine g_X10_rows ly_86 (by decide) fl_X10_106 dX10_findQuarrels_15 ?_
    refine Pm.topn (b := D.1) (hM.R) ?_
    refine P.ishl dX10_findQuarrels_18 (n_bit (by omega)) ?_
    refine P.icmp_ge_n (tgt := 188) dX10_findQuarrels_19 (by decide) (by omega) (by omega) (fun c_19 => ?_) (fun c_19 => ?_)
    · exact P.vret rfl dX10_findQuarrels_188 rfl
    · exfalso; omega

set_option maxRecDepth 20000 in
theorem t_findQuarrels_2 {G : GG} {f : Nat → Nat → Nat} {l : Nat → Nat → Int64} {D : DB} {W : LB} {U : QB} {T : TB} {N : Nat} (hM : MV f l D W U T N) (hBW : BW D W U T) {w : Nat} (hw : w < W.1) (h0 : W.2.1 w 0 = 2) : Spec G mX10_findQuarrels [.ref (ad G 86), .int (nI w)] 114 (f, l, refT) none 114 (wrM f (mQn D W w (2 ^ D.1)), l, refT) := by
  obtain ⟨hD, hLW, hUW, hTW⟩ := id hBW
  have hR := hD.1
  have hW1 := hLW.1
  have hU1 := hUW.1
  have hJ1 := hUW.2.1
  obtain ⟨hw0, hw1, hw2, hw3, hw4, -⟩ := hLW.2 w hw
  have hK4 := keptD_lt hD
  have hp12 := pow12 hR
  have hbf := fun S => bitsF_le S 12
  refine Spec.of ok_X10_findQuarrels.1 ⟨Nat.le_refl _, Nat.le_refl _⟩ (Nat.le_of_ble_eq_true rfl) ?_
  show Pm G RX10 cX10_findQuarrels 7 (KM G mX10_findQuarrels 114 114 none (wrM f (mQn D W w (2 ^ D.1)), l, refT)) 0 [some (.ref (ad G 86)), some (.int (nI w)), none, none, none, none, none] [] f l
  refine P.aload_n dX10_findQuarrels_0 rfl rfl ?_
  refine P.callV (As := []) (rest := []) (t_keptSet hM hBW) ok_X10_keptSet ⟨Nat.le_of_ble_eq_true rfl, Nat.le_of_ble_eq_true rfl, Nat.le_refl _, Nat.le_refl _⟩ rfl ml_X10_170 ly_86 (by decide) (by decide) rfl rfl (Nat.le_of_ble_eq_true rfl) dX10_findQuarrels_1 ?_
  refine P.istore_n dX10_findQuarrels_4 rfl (by decide) ?_
  refine P.aload_n dX10_findQuarrels_5 rfl rfl ?_
  refine P.iconst dX10_findQuarrels_6 ic_0 ?_
  refine p_X10_quarrelsFound (a := 0) ly_86 (by decide) fl_X10_174 dX10_findQuarrels_7 rfl ?_
  refine P.iconst dX10_findQuarrels_10 ic_1 ?_
  refine P.istore_n dX10_findQuarrels_11 rfl (by decide) ?_
  refine loop_up (M := fun (i : Nat) => Pm G _ _ _ _ 12 [some (.ref (ad G 86)), some (.int (nI w)), some (.int (nI (keptD D))), some (.int (nI i)), none, none, none] [] (wrM f (mQn D W w i)) l) (lo := 1) (N := (2 ^ D.1)) (Nat.one_le_two_pow) (fun i hi0 hi1 ihi => ?_) ?_
  · have hM := hM.wrM (mQn D W w i)
    have hi9 : i ≠ 0 := by omega
    have hi4 : i < 4096 := by omega
    obtain ⟨hl1, hl2, hl3⟩ := lowB_t hi9 hi4
    have hl4 := lowB_lt hi9 hi4 hi1
    show Pm G _ _ _ _ 12 [some (.ref (ad G 86)), some (.int (nI w)), some (.int (nI (keptD D))), some (.int (nI i)), none, none, none] [] (wrM f (mQn D W w i)) l
    refine P.iload_n dX10_findQuarrels_12 rfl rfl ?_
    refine P.iconst dX10_findQuarrels_13 ic_1 ?_
    refine P.aload_n dX10_findQuarrels_14 rfl rfl ?_
    refine g_X10_rows ly_86 (by decide) fl_X10_106 dX10_findQuarrels_15 ?_
    refine Pm.topn (b := D.1) (hM.R) ?_
    refine P.ishl dX10_findQuarrels_18 (n_bit (by omega)) ?_
    refine P.icmp_ge_n (tgt := 188) dX10_findQuarrels_19 (by decide) (by omega) (by omega) (fun c_19 => ?_) (fun c_19 => ?_)
    · exfalso; omega
    refine P.iload_n dX10_findQuarrels_22 rfl rfl ?_
    refine P.iload_n dX10_findQuarrels_23 rfl rfl ?_
    refine P.iconst (v := -1) dX10_findQuarrels_24 rfl ?_
    refine P.ixor dX10_findQuarrels_25 ?_
    refine P.iand_n dX10_findQuarrels_26 (n_not _ _) ?_
    refine P.if_eq_n (tgt := 33) dX10_findQuarrels_27 (by decide) (by have := sd_le i (keptD D); omega) (fun c_27 => ?_) (fun c_27 => ?_)
    · refine P.iload_n dX10_findQuarrels_33 rfl rfl ?_
      refine P.callS (As := [.int (nI i)]) (rest := []) (t_bitsOf (S := i) hM hBW (by omega)) ok_X10_bitsOf ⟨Nat.le_of_ble_eq_true rfl, Nat.le_of_ble_eq_true rfl, Nat.le_refl _, Nat.le_refl _⟩ rfl ml_X10_177 rfl (Nat.le_of_ble_eq_true rfl) dX10_findQuarrels_34 ?_
      refine P.istore dX10_findQuarrels_37 (by decide) ?_
      refine P.aload_n dX10_findQuarrels_39 rfl rfl ?_
      refine g_X10_kind (q := 94) ly_86 (by decide) (by decide) fl_X10_33 dX10_findQuarrels_40 ?_
      refine P.iload_n dX10_findQuarrels_43 rfl rfl ?_
      refine a_ia ly_94 (by decide) (by omega) (by decide) dX10_findQuarrels_44 ?_
      refine Pm.topn (b := W.2.1 w 0) ((hM.knd w (by omega))) ?_
      refine P.iconst dX10_findQuarrels_45 ic_4 ?_
      refine P.icmp_ne_n (tgt := 60) dX10_findQuarrels_46 (by decide) (by omega) (by omega) (fun c_46 => ?_) (fun c_46 => ?_)
      · refine P.aload_n dX10_findQuarrels_60 rfl rfl ?_
        refine g_X10_kind (q := 94) ly_86 (by decide) (by decide) fl_X10_33 dX10_findQuarrels_61 ?_
        refine P.iload_n dX10_findQuarrels_64 rfl rfl ?_
        refine a_ia ly_94 (by decide) (by omega) (by decide) dX10_findQuarrels_65 ?_
        refine Pm.topn (b := W.2.1 w 0) ((hM.knd w (by omega))) ?_
        refine P.if_eq_n (tgt := 79) dX10_findQuarrels_66 (by decide) (by omega) (fun c_66 => ?_) (fun c_66 => ?_)
        · exfalso; omega
        refine P.aload_n dX10_findQuarrels_69 rfl rfl ?_
        refine g_X10_kind (q := 94) ly_86 (by decide) (by decide) fl_X10_33 dX10_findQuarrels_70 ?_
        refine P.iload_n dX10_findQuarrels_73 rfl rfl ?_
        refine a_ia ly_94 (by decide) (by omega) (by decide) dX10_findQuarrels_74 ?_
        refine Pm.topn (b := W.2.1 w 0) ((hM.knd w (by omega))) ?_
        refine P.iconst dX10_findQuarrels_75 ic_2 ?_
        refine P.icmp_ne_n (tgt := 104) dX10_findQuarrels_76 (by decide) (by omega) (by omega) (fun c_76 => ?_) (fun c_76 => ?_)
        · exfalso; omega
        refine P.iload dX10_findQuarrels_79 rfl ?_
        refine P.iconst dX10_findQuarrels_81 ic_2 ?_
        refine P.icmp_ne_n (tgt := 98) dX10_findQuarrels_82 (by decide) (by have := hbf i; omega) (by omega) (fun c_82 => ?_) (fun c_82 => ?_)
        · refine P.iconst dX10_findQuarrels_98 ic_0 ?_
          refine P.istore dX10_findQuarrels_99 (by decide) ?_
          refine P.goto (tgt := 157) dX10_findQuarrels_101 (by decide) ?_
          refine P.iload dX10_findQuarrels_157 rfl ?_
          refine P.if_eq_n (tgt := 182) dX10_findQuarrels_159 (by decide) (by omega) (fun c_159 => ?_) (fun c_159 => ?_)
          · refine P.iinc dX10_findQuarrels_182 rfl (inc1 _) (by decide) ?_
            refine P.goto (tgt := 12) dX10_findQuarrels_185 (by decide) ?_
            show Pm G _ _ _ _ 12 [some (.ref (ad G 86)), some (.int (nI w)), some (.int (nI (keptD D))), some (.int (nI (i + 1))), some (.int (nI (bitsF i 12))), some (.int (nI 0)), none] [] (wrM f (mQn D W w i)) l
            exact Pm.to (ihi) (by simp [lle]) rfl (by rw [mQn_f (show mqB D W w i = false from by simp [mqB, h0, hi9, c_27, c_82, c_159])]) rfl
          · exfalso; omega
        refine P.aload_n dX10_findQuarrels_85 rfl rfl ?_
        refine P.iload_n dX10_findQuarrels_86 rfl rfl ?_
        refine P.iload_n dX10_findQuarrels_87 rfl rfl ?_
        refine P.callV (As := [.int (nI w), .int (nI i)]) (rest := []) (t_breaksLaw (w := w) (S := i) hM hBW hw (by omega)) ok_X10_breaksLaw ⟨Nat.le_of_ble_eq_true rfl, Nat.le_of_ble_eq_true rfl, Nat.le_refl _, Nat.le_refl _⟩ rfl ml_X10_183 ly_86 (by decide) (by decide) rfl rfl (Nat.le_of_ble_eq_true rfl) dX10_findQuarrels_88 ?_
        refine P.if_eq_b (tgt := 98) dX10_findQuarrels_91 (by decide) (fun c_91 => ?_) (fun c_91 => ?_)
        · refine P.iconst dX10_findQuarrels_98 ic_0 ?_
          refine P.istore dX10_findQuarrels_99 (by decide) ?_
          refine P.goto (tgt := 157) dX10_findQuarrels_101 (by decide) ?_
          refine P.iload dX10_findQuarrels_157 rfl ?_
          refine P.if_eq_n (tgt := 182) dX10_findQuarrels_159 (by decide) (by omega) (fun c_159 => ?_) (fun c_159 => ?_)
          · refine P.iinc dX10_findQuarrels_182 rfl (inc1 _) (by decide) ?_
            refine P.goto (tgt := 12) dX10_findQuarrels_185 (by decide) ?_
            show Pm G _ _ _ _ 12 [some (.ref (ad G 86)), some (.int (nI w)), some (.int (nI (keptD D))), some (.int (nI (i + 1))), some (.int (nI (bitsF i 12))), some (.int (nI 0)), none] [] (wrM f (mQn D W w i)) l
            exact Pm.to (ihi) (by simp [lle]) rfl (by rw [mQn_f (show mqB D W w i = false from by simp [mqB, h0, hi9, c_27, c_82, c_91, c_159])]) rfl
          · exfalso; omega
        refine P.iconst dX10_findQuarrels_94 ic_1 ?_
        refine P.goto (tgt := 99) dX10_findQuarrels_95 (by decide) ?_
        refine P.istore dX10_findQuarrels_99 (by decide) ?_
        refine P.goto (tgt := 157) dX10_findQuarrels_101 (by decide) ?_
        refine P.iload dX10_findQuarrels_157 rfl ?_
        refine P.if_eq_n (tgt := 182) dX10_findQuarrels_159 (by decide) (by omega) (fun c_159 => ?_) (fun c_159 => ?_)
        · exfalso; omega
        refine P.aload_n dX10_findQuarrels_162 rfl rfl ?_
        refine g_X10_quarrelOf (q := 111) ly_86 (by decide) (by decide) fl_X10_84 dX10_findQuarrels_163 ?_
        refine P.aload_n dX10_findQuarrels_166 rfl rfl ?_
        refine g_X10_quarrelsFound ly_86 (by decide) fl_X10_174 dX10_findQuarrels_167 ?_
        refine Pm.topn (b := (mQn D W w i).length) ((wrM_len _ _)) ?_
        refine P.iload_n dX10_findQuarrels_170 rfl rfl ?_
        refine s_ia (a := i) ly_111 (by decide) (by have := mQn_len D W w i; omega) (by decide) dX10_findQuarrels_171 rfl ?_
        refine P.aload_n dX10_findQuarrels_172 rfl rfl ?_
        refine P.dup dX10_findQuarrels_173 rfl ?_
        refine g_X10_quarrelsFound ly_86 (by decide) fl_X10_174 dX10_findQuarrels_174 ?_
        refine Pm.topn (b := (mQn D W w i).length) ((uf_ne _ _ (Or.inl (by omega))).trans ((wrM_len _ _))) ?_
        refine P.iconst dX10_findQuarrels_177 ic_1 ?_
        refine P.iadd_n dX10_findQuarrels_178 (nI_add _ _) ?_
        refine p_X10_quarrelsFound (a := (((mQn D W w i).length) + 1)) ly_86 (by decide) fl_X10_174 dX10_findQuarrels_179 rfl ?_
        refine P.iinc dX10_findQuarrels_182 rfl (inc1 _) (by decide) ?_
        refine P.goto (tgt := 12) dX10_findQuarrels_185 (by decide) ?_
        show Pm G _ _ _ _ 12 [some (.ref (ad G 86)), some (.int (nI w)), some (.int (nI (keptD D))), some (.int (nI (i + 1))), some (.int (nI (bitsF i 12))), some (.int (nI 1)), none] [] (uf (uf (wrM f (mQn D W w i)) 111 ((mQn D W w i).length) i) 86 32 (((mQn D W w i).length) + 1)) l
        exact Pm.to (ihi) (by simp [lle]) rfl (by first | exact ((wrM_app _ _ _).trans (by rw [mQn_t (show mqB D W w i = true from by simp [mqB, h0, hi9, c_27, c_82, c_91, c_159])])) | exact ((wrM_app _ _ _).trans (by rw [mQn_t (show mqB D W w i = true from by simp [mqB, h0, hi9, c_27, c_82, c_91, c_159])])).symm) rfl
      · exfalso; omega
    refine P.goto (tgt := 182) dX10_findQuarrels_30 (by decide) ?_
    refine P.iinc dX10_findQuarrels_182 rfl (inc1 _) (by decide) ?_
    refine P.goto (tgt := 12) dX10_findQuarrels_185 (by decide) ?_
    show Pm G _ _ _ _ 12 [some (.ref (ad G 86)), some (.int (nI w)), some (.int (nI (keptD D))), some (.int (nI (i + 1))), none, none, none] [] (wrM f (mQn D W w i)) l
    exact Pm.to (ihi) (by simp [lle]) rfl (by rw [mQn_f (show mqB D W w i = false from by simp [mqB, h0, hi9, c_27])]) rfl
  · show Pm G _ _ _ _ 12 [some (.ref (ad G 86)), some (.int (nI w)), some (.int (nI (keptD D))), some (.int (nI (2 ^ D.1))), none, none, none] [] (wrM f (mQn D W w (2 ^ D.1))) l
    refine P.iload_n dX10_findQuarrels_12 rfl rfl ?_
    refine P.iconst dX10_findQuarrels_13 ic_1 ?_
    refine P.aload_n dX10_findQuarrels_14 rfl rfl ?_
    refine g_X10_rows ly_86 (by decide) fl_X10_106 dX10_findQuarrels_15 ?_
    refine Pm.topn (b := D.1) (hM.R) ?_
    refine P.ishl dX10_findQuarrels_18 (n_bit (by omega)) ?_
    refine P.icmp_ge_n (tgt := 188) dX10_findQuarrels_19 (by decide) (by omega) (by omega) (fun c_19 => ?_) (fun c_19 => ?_)
    · exact P.vret rfl dX10_findQuarrels_188 rfl
    · exfalso; omega

set_option maxRecDepth 20000 in
theorem t_findQuarrels_x {G : GG} {f : Nat → Nat → Nat} {l : Nat → Nat → Int64} {D : DB} {W : LB} {U : QB} {T : TB} {N : Nat} (hM : MV f l D W U T N) (hBW : BW D W U T) {w : Nat} (hw : w < W.1) (h0 : W.2.1 w 0 ≠ 0 ∧ W.2.1 w 0 ≠ 2 ∧ W.2.1 w 0 ≠ 4) : Spec G mX10_findQuarrels [.ref (ad G 86), .int (nI w)] 114 (f, l, refT) none 114 (wrM f (mQn D W w (2 ^ D.1)), l, refT) := by
  obtain ⟨hD, hLW, hUW, hTW⟩ := id hBW
  have hR := hD.1
  have hW1 := hLW.1
  have hU1 := hUW.1
  have hJ1 := hUW.2.1
  obtain ⟨hw0, hw1, hw2, hw3, hw4, -⟩ := hLW.2 w hw
  have hK4 := keptD_lt hD
  have hp12 := pow12 hR
  have hbf := fun S => bitsF_le S 12
  refine Spec.of ok_X10_findQuarrels.1 ⟨Nat.le_refl _, Nat.le_refl _⟩ (Nat.le_of_ble_eq_true rfl) ?_
  show Pm G RX10 cX10_findQuarrels 7 (KM G mX10_findQuarrels 114 114 none (wrM f (mQn D W w (2 ^ D.1)), l, refT)) 0 [some (.ref (ad G 86)), some (.int (nI w)), none, none, none, none, none] [] f l
  refine P.aload_n dX10_findQuarrels_0 rfl rfl ?_
  refine P.callV (As := []) (rest := []) (t_keptSet hM hBW) ok_X10_keptSet ⟨Nat.le_of_ble_eq_true rfl, Nat.le_of_ble_eq_true rfl, Nat.le_refl _, Nat.le_refl _⟩ rfl ml_X10_170 ly_86 (by decide) (by decide) rfl rfl (Nat.le_of_ble_eq_true rfl) dX10_findQuarrels_1 ?_
  refine P.istore_n dX10_findQuarrels_4 rfl (by decide) ?_
  refine P.aload_n dX10_findQuarrels_5 rfl rfl ?_
  refine P.iconst dX10_findQuarrels_6 ic_0 ?_
  refine p_X10_quarrelsFound (a := 0) ly_86 (by decide) fl_X10_174 dX10_findQuarrels_7 rfl ?_
  refine P.iconst dX10_findQuarrels_10 ic_1 ?_
  refine P.istore_n dX10_findQuarrels_11 rfl (by decide) ?_
  refine loop_up (M := fun (i : Nat) => Pm G _ _ _ _ 12 [some (.ref (ad G 86)), some (.int (nI w)), some (.int (nI (keptD D))), some (.int (nI i)), none, none, none] [] (wrM f (mQn D W w i)) l) (lo := 1) (N := (2 ^ D.1)) (Nat.one_le_two_pow) (fun i hi0 hi1 ihi => ?_) ?_
  · have hM := hM.wrM (mQn D W w i)
    have hi9 : i ≠ 0 := by omega
    have hi4 : i < 4096 := by omega
    obtain ⟨hl1, hl2, hl3⟩ := lowB_t hi9 hi4
    have hl4 := lowB_lt hi9 hi4 hi1
    show Pm G _ _ _ _ 12 [some (.ref (ad G 86)), some (.int (nI w)), some (.int (nI (keptD D))), some (.int (nI i)), none, none, none] [] (wrM f (mQn D W w i)) l
    refine P.iload_n dX10_findQuarrels_12 rfl rfl ?_
    refine P.iconst dX10_findQuarrels_13 ic_1 ?_
    refine P.aload_n dX10_findQuarrels_14 rfl rfl ?_
    refine g_X10_rows ly_86 (by decide) fl_X10_106 dX10_findQuarrels_15 ?_
    refine Pm.topn (b := D.1) (hM.R) ?_
    refine P.ishl dX10_findQuarrels_18 (n_bit (by omega)) ?_
    refine P.icmp_ge_n (tgt := 188) dX10_findQuarrels_19 (by decide) (by omega) (by omega) (fun c_19 => ?_) (fun c_19 => ?_)
    · exfalso; omega
    refine P.iload_n dX10_findQuarrels_22 rfl rfl ?_
    refine P.iload_n dX10_findQuarrels_23 rfl rfl ?_
    refine P.iconst (v := -1) dX10_findQuarrels_24 rfl ?_
    refine P.ixor dX10_findQuarrels_25 ?_
    refine P.iand_n dX10_findQuarrels_26 (n_not _ _) ?_
    refine P.if_eq_n (tgt := 33) dX10_findQuarrels_27 (by decide) (by have := sd_le i (keptD D); omega) (fun c_27 => ?_) (fun c_27 => ?_)
    · refine P.iload_n dX10_findQuarrels_33 rfl rfl ?_
      refine P.callS (As := [.int (nI i)]) (rest := []) (t_bitsOf (S := i) hM hBW (by omega)) ok_X10_bitsOf ⟨Nat.le_of_ble_eq_true rfl, Nat.le_of_ble_eq_true rfl, Nat.le_refl _, Nat.le_refl _⟩ rfl ml_X10_177 rfl (Nat.le_of_ble_eq_true rfl) dX10_findQuarrels_34 ?_
      refine P.istore dX10_findQuarrels_37 (by decide) ?_
      refine P.aload_n dX10_findQuarrels_39 rfl rfl ?_
      refine g_X10_kind (q := 94) ly_86 (by decide) (by decide) fl_X10_33 dX10_findQuarrels_40 ?_
      refine P.iload_n dX10_findQuarrels_43 rfl rfl ?_
      refine a_ia ly_94 (by decide) (by omega) (by decide) dX10_findQuarrels_44 ?_
      refine Pm.topn (b := W.2.1 w 0) ((hM.knd w (by omega))) ?_
      refine P.iconst dX10_findQuarrels_45 ic_4 ?_
      refine P.icmp_ne_n (tgt := 60) dX10_findQuarrels_46 (by decide) (by omega) (by omega) (fun c_46 => ?_) (fun c_46 => ?_)
      · refine P.aload_n dX10_findQuarrels_60 rfl rfl ?_
        refine g_X10_kind (q := 94) ly_86 (by decide) (by decide) fl_X10_33 dX10_findQuarrels_61 ?_
        refine P.iload_n dX10_findQuarrels_64 rfl rfl ?_
        refine a_ia ly_94 (by decide) (by omega) (by decide) dX10_findQuarrels_65 ?_
        refine Pm.topn (b := W.2.1 w 0) ((hM.knd w (by omega))) ?_
        refine P.if_eq_n (tgt := 79) dX10_findQuarrels_66 (by decide) (by omega) (fun c_66 => ?_) (fun c_66 => ?_)
        · exfalso; omega
        refine P.aload_n dX10_findQuarrels_69 rfl rfl ?_
        refine g_X10_kind (q := 94) ly_86 (by decide) (by decide) fl_X10_33 dX10_findQuarrels_70 ?_
        refine P.iload_n dX10_findQuarrels_73 rfl rfl ?_
        refine a_ia ly_94 (by decide) (by omega) (by decide) dX10_findQuarrels_74 ?_
        refine Pm.topn (b := W.2.1 w 0) ((hM.knd w (by omega))) ?_
        refine P.iconst dX10_findQuarrels_75 ic_2 ?_
        refine P.icmp_ne_n (tgt := 104) dX10_findQuarrels_76 (by decide) (by omega) (by omega) (fun c_76 => ?_) (fun c_76 => ?_)
        · refine P.iconst dX10_findQuarrels_104 ic_0 ?_
          refine P.istore dX10_findQuarrels_105 (by decide) ?_
          refine loop_up (M := fun (k : Nat) => Pm G _ _ _ _ 107 [some (.ref (ad G 86)), some (.int (nI w)), some (.int (nI (keptD D))), some (.int (nI i)), some (.int (nI (bitsF i 12))), none, some (.int (nI k))] [] (wrM f (mQn D W w i)) l) (lo := 0) (N := (lowB i)) (by first | exact Nat.zero_le _ | omega) (fun k hk0 hk1 ihk => ?_) ?_
          · show Pm G _ _ _ _ 107 [some (.ref (ad G 86)), some (.int (nI w)), some (.int (nI (keptD D))), some (.int (nI i)), some (.int (nI (bitsF i 12))), none, some (.int (nI k))] [] (wrM f (mQn D W w i)) l
            refine P.iload_n dX10_findQuarrels_107 rfl rfl ?_
            refine P.iload dX10_findQuarrels_108 rfl ?_
            refine P.ishr dX10_findQuarrels_110 (n_shr (by omega) (by omega)) ?_
            refine P.iconst dX10_findQuarrels_111 ic_1 ?_
            refine P.iand_n (v := nI (bt i k)) dX10_findQuarrels_112 (n_and1 _) ?_
            refine P.if_ne_n (tgt := 122) dX10_findQuarrels_113 (by decide) (Nat.lt_trans (bt_lt _ _) (by decide)) (fun c_113 => ?_) (fun c_113 => ?_)
            · exfalso; first | exact absurd (hl3 k hk1) (by rw [tb_t c_113]; decide) | (rw [tb_f c_113] at hl1; exact Bool.noConfusion hl1)
            refine P.iinc dX10_findQuarrels_116 rfl (inc1 _) (by decide) ?_
            refine P.goto (tgt := 107) dX10_findQuarrels_119 (by decide) ?_
            show Pm G _ _ _ _ 107 [some (.ref (ad G 86)), some (.int (nI w)), some (.int (nI (keptD D))), some (.int (nI i)), some (.int (nI (bitsF i 12))), none, some (.int (nI (k + 1)))] [] (wrM f (mQn D W w i)) l
            exact Pm.to (ihk) (by simp [lle]) rfl rfl rfl
          · show Pm G _ _ _ _ 107 [some (.ref (ad G 86)), some (.int (nI w)), some (.int (nI (keptD D))), some (.int (nI i)), some (.int (nI (bitsF i 12))), none, some (.int (nI (lowB i)))] [] (wrM f (mQn D W w i)) l
            refine P.iload_n dX10_findQuarrels_107 rfl rfl ?_
            refine P.iload dX10_findQuarrels_108 rfl ?_
            refine P.ishr dX10_findQuarrels_110 (n_shr (by omega) (by omega)) ?_
            refine P.iconst dX10_findQuarrels_111 ic_1 ?_
            refine P.iand_n (v := nI (bt i (lowB i))) dX10_findQuarrels_112 (n_and1 _) ?_
            refine P.if_ne_n (tgt := 122) dX10_findQuarrels_113 (by decide) (Nat.lt_trans (bt_lt _ _) (by decide)) (fun c_113 => ?_) (fun c_113 => ?_)
            · refine P.iload dX10_findQuarrels_122 rfl ?_
              refine P.iconst dX10_findQuarrels_124 ic_1 ?_
              refine P.icmp_ne_n (tgt := 154) dX10_findQuarrels_125 (by decide) (by have := hbf i; omega) (by omega) (fun c_125 => ?_) (fun c_125 => ?_)
              · refine P.iconst dX10_findQuarrels_154 ic_0 ?_
                refine P.istore dX10_findQuarrels_155 (by decide) ?_
                refine P.iload dX10_findQuarrels_157 rfl ?_
                refine P.if_eq_n (tgt := 182) dX10_findQuarrels_159 (by decide) (by omega) (fun c_159 => ?_) (fun c_159 => ?_)
                · refine P.iinc dX10_findQuarrels_182 rfl (inc1 _) (by decide) ?_
                  refine P.goto (tgt := 12) dX10_findQuarrels_185 (by decide) ?_
                  show Pm G _ _ _ _ 12 [some (.ref (ad G 86)), some (.int (nI w)), some (.int (nI (keptD D))), some (.int (nI (i + 1))), some (.int (nI (bitsF i 12))), some (.int (nI 0)), some (.int (nI (lowB i)))] [] (wrM f (mQn D W w i)) l
                  exact Pm.to (ihi) (by simp [lle]) rfl (by rw [mQn_f (show mqB D W w i = false from by simp [mqB, h0.1, h0.2.1, h0.2.2, hi9, c_27, c_125, c_159])]) rfl
                · exfalso; omega
              refine P.aload_n dX10_findQuarrels_128 rfl rfl ?_
              refine P.iload_n dX10_findQuarrels_129 rfl rfl ?_
              refine P.iload dX10_findQuarrels_130 rfl ?_
              refine P.iload_n dX10_findQuarrels_132 rfl rfl ?_
              refine P.callV (As := [.int (nI w), .int (nI (lowB i)), .int (nI i)]) (rest := []) (t_isOf (w := w) (r := lowB i) (S := i) hM hBW hw hl2 (by omega)) ok_X10_isOf ⟨Nat.le_of_ble_eq_true rfl, Nat.le_of_ble_eq_true rfl, Nat.le_refl _, Nat.le_refl _⟩ rfl ml_X10_154 ly_86 (by decide) (by decide) rfl rfl (Nat.le_of_ble_eq_true rfl) dX10_findQuarrels_133 ?_
              refine P.if_eq_b (tgt := 154) dX10_findQuarrels_136 (by decide) (fun c_136 => ?_) (fun c_136 => ?_)
              · refine P.iconst dX10_findQuarrels_154 ic_0 ?_
                refine P.istore dX10_findQuarrels_155 (by decide) ?_
                refine P.iload dX10_findQuarrels_157 rfl ?_
                refine P.if_eq_n (tgt := 182) dX10_findQuarrels_159 (by decide) (by omega) (fun c_159 => ?_) (fun c_159 => ?_)
                · refine P.iinc dX10_findQuarrels_182 rfl (inc1 _) (by decide) ?_
                  refine P.goto (tgt := 12) dX10_findQuarrels_185 (by decide) ?_
                  show Pm G _ _ _ _ 12 [some (.ref (ad G 86)), some (.int (nI w)), some (.int (nI (keptD D))), some (.int (nI (i + 1))), some (.int (nI (bitsF i 12))), some (.int (nI 0)), some (.int (nI (lowB i)))] [] (wrM f (mQn D W w i)) l
                  exact Pm.to (ihi) (by simp [lle]) rfl (by rw [mQn_f (show mqB D W w i = false from by simp [mqB, h0.1, h0.2.1, h0.2.2, hi9, c_27, c_125, c_136, c_159])]) rfl
                · exfalso; omega
              refine P.aload_n dX10_findQuarrels_139 rfl rfl ?_
              refine P.iload_n dX10_findQuarrels_140 rfl rfl ?_
              refine P.iload dX10_findQuarrels_141 rfl ?_
              refine P.iload_n dX10_findQuarrels_143 rfl rfl ?_
              refine P.callV (As := [.int (nI w), .int (nI (lowB i)), .int (nI (keptD D))]) (rest := []) (t_breakOne (w := w) (r := lowB i) (S := keptD D) hM hBW hw hl4 (by omega)) ok_X10_breakOne ⟨Nat.le_of_ble_eq_true rfl, Nat.le_of_ble_eq_true rfl, Nat.le_refl _, Nat.le_refl _⟩ rfl ml_X10_164 ly_86 (by decide) (by decide) rfl rfl (Nat.le_of_ble_eq_true rfl) dX10_findQuarrels_144 ?_
              refine P.if_eq_b (tgt := 154) dX10_findQuarrels_147 (by decide) (fun c_147 => ?_) (fun c_147 => ?_)
              · refine P.iconst dX10_findQuarrels_154 ic_0 ?_
                refine P.istore dX10_findQuarrels_155 (by decide) ?_
                refine P.iload dX10_findQuarrels_157 rfl ?_
                refine P.if_eq_n (tgt := 182) dX10_findQuarrels_159 (by decide) (by omega) (fun c_159 => ?_) (fun c_159 => ?_)
                · refine P.iinc dX10_findQuarrels_182 rfl (inc1 _) (by decide) ?_
                  refine P.goto (tgt := 12) dX10_findQuarrels_185 (by decide) ?_
                  show Pm G _ _ _ _ 12 [some (.ref (ad G 86)), some (.int (nI w)), some (.int (nI (keptD D))), some (.int (nI (i + 1))), some (.int (nI (bitsF i 12))), some (.int (nI 0)), some (.int (nI (lowB i)))] [] (wrM f (mQn D W w i)) l
                  exact Pm.to (ihi) (by simp [lle]) rfl (by rw [mQn_f (show mqB D W w i = false from by simp [mqB, h0.1, h0.2.1, h0.2.2, hi9, c_27, c_125, c_136, c_147, c_159])]) rfl
                · exfalso; omega
              refine P.iconst dX10_findQuarrels_150 ic_1 ?_
              refine P.goto (tgt := 155) dX10_findQuarrels_151 (by decide) ?_
              refine P.istore dX10_findQuarrels_155 (by decide) ?_
              refine P.iload dX10_findQuarrels_157 rfl ?_
              refine P.if_eq_n (tgt := 182) dX10_findQuarrels_159 (by decide) (by omega) (fun c_159 => ?_) (fun c_159 => ?_)
              · exfalso; omega
              refine P.aload_n dX10_findQuarrels_162 rfl rfl ?_
              refine g_X10_quarrelOf (q := 111) ly_86 (by decide) (by decide) fl_X10_84 dX10_findQuarrels_163 ?_
              refine P.aload_n dX10_findQuarrels_166 rfl rfl ?_
              refine g_X10_quarrelsFound ly_86 (by decide) fl_X10_174 dX10_findQuarrels_167 ?_
              refine Pm.topn (b := (mQn D W w i).length) ((wrM_len _ _)) ?_
              refine P.iload_n dX10_findQuarrels_170 rfl rfl ?_
              refine s_ia (a := i) ly_111 (by decide) (by have := mQn_len D W w i; omega) (by decide) dX10_findQuarrels_171 rfl ?_
              refine P.aload_n dX10_findQuarrels_172 rfl rfl ?_
              refine P.dup dX10_findQuarrels_173 rfl ?_
              refine g_X10_quarrelsFound ly_86 (by decide) fl_X10_174 dX10_findQuarrels_174 ?_
              refine Pm.topn (b := (mQn D W w i).length) ((uf_ne _ _ (Or.inl (by omega))).trans ((wrM_len _ _))) ?_
              refine P.iconst dX10_findQuarrels_177 ic_1 ?_
              refine P.iadd_n dX10_findQuarrels_178 (nI_add _ _) ?_
              refine p_X10_quarrelsFound (a := (((mQn D W w i).length) + 1)) ly_86 (by decide) fl_X10_174 dX10_findQuarrels_179 rfl ?_
              refine P.iinc dX10_findQuarrels_182 rfl (inc1 _) (by decide) ?_
              refine P.goto (tgt := 12) dX10_findQuarrels_185 (by decide) ?_
              show Pm G _ _ _ _ 12 [some (.ref (ad G 86)), some (.int (nI w)), some (.int (nI (keptD D))), some (.int (nI (i + 1))), some (.int (nI (bitsF i 12))), some (.int (nI 1)), some (.int (nI (lowB i)))] [] (uf (uf (wrM f (mQn D W w i)) 111 ((mQn D W w i).length) i) 86 32 (((mQn D W w i).length) + 1)) l
              exact Pm.to (ihi) (by simp [lle]) rfl (by first | exact ((wrM_app _ _ _).trans (by rw [mQn_t (show mqB D W w i = true from by simp [mqB, h0.1, h0.2.1, h0.2.2, hi9, c_27, c_125, c_136, c_147, c_159])])) | exact ((wrM_app _ _ _).trans (by rw [mQn_t (show mqB D W w i = true from by simp [mqB, h0.1, h0.2.1, h0.2.2, hi9, c_27, c_125, c_136, c_147, c_159])])).symm) rfl
            · exfalso; first | exact absurd (hl3 k hk1) (by rw [tb_t c_113]; decide) | (rw [tb_f c_113] at hl1; exact Bool.noConfusion hl1)
        · exfalso; omega
      · exfalso; omega
    refine P.goto (tgt := 182) dX10_findQuarrels_30 (by decide) ?_
    refine P.iinc dX10_findQuarrels_182 rfl (inc1 _) (by decide) ?_
    refine P.goto (tgt := 12) dX10_findQuarrels_185 (by decide) ?_
    show Pm G _ _ _ _ 12 [some (.ref (ad G 86)), some (.int (nI w)), some (.int (nI (keptD D))), some (.int (nI (i + 1))), none, none, none] [] (wrM f (mQn D W w i)) l
    exact Pm.to (ihi) (by simp [lle]) rfl (by rw [mQn_f (show mqB D W w i = false from by simp [mqB, h0.1, h0.2.1, h0.2.2, hi9, c_27])]) rfl
  · show Pm G _ _ _ _ 12 [some (.ref (ad G 86)), some (.int (nI w)), some (.int (nI (keptD D))), some (.int (nI (2 ^ D.1))), none, none, none] [] (wrM f (mQn D W w (2 ^ D.1))) l
    refine P.iload_n dX10_findQuarrels_12 rfl rfl ?_
    refine P.iconst dX10_findQuarrels_13 ic_1 ?_
    refine P.aload_n dX10_findQuarrels_14 rfl rfl ?_
    refine g_X10_rows ly_86 (by decide) fl_X10_106 dX10_findQuarrels_15 ?_
    refine Pm.topn (b := D.1) (hM.R) ?_
    refine P.ishl dX10_findQuarrels_18 (n_bit (by omega)) ?_
    refine P.icmp_ge_n (tgt := 188) dX10_findQuarrels_19 (by decide) (by omega) (by omega) (fun c_19 => ?_) (fun c_19 => ?_)
    · exact P.vret rfl dX10_findQuarrels_188 rfl
    · exfalso; omega


-- settle, of the rows: by program (wip/whole/spec31.py)
set_option maxRecDepth 20000 in
theorem s_mostTrusted {G : GG} {f : Nat → Nat → Nat} {l : Nat → Nat → Int64} {D : DB} (hV : RV f l D) (hD : DW D) {t y g : Nat} (ht : t < 4) (hy : y < 6) (hg : g < 4096)  : Spec G mX7_mostTrusted [.ref (ad G 2), .int (nI t), .int (nI y), .int (nI g)] 114 (f, l, refT) (some (.long (mtP D t y g D.1).2)) 114 (f, l, refT) := by
  have hR := hD.1
  have htl := trustD_le hD
  refine Spec.of ok_X7_mostTrusted.1 ⟨Nat.le_refl _, Nat.le_refl _⟩ (Nat.le_of_ble_eq_true rfl) ?_
  show Pm G RX7 cX7_mostTrusted 11 (KM G mX7_mostTrusted 114 114 (some (.long (mtP D t y g D.1).2)) (f, l, refT)) 0 [some (.ref (ad G 2)), some (.int (nI t)), some (.int (nI y)), some (.int (nI g)), none, none, none, none, none, none, none] [] f l
  refine P.lconst (v := 0) dX7_mostTrusted_0 rfl ?_
  refine P.lstore dX7_mostTrusted_1 (by decide) (Nat.le_of_ble_eq_true rfl) ?_
  refine P.iconst dX7_mostTrusted_3 ic_0 ?_
  refine P.istore dX7_mostTrusted_4 (by decide) ?_
  refine P.iconst dX7_mostTrusted_6 ic_0 ?_
  refine P.istore dX7_mostTrusted_7 (by decide) ?_
  refine loop_up (M := fun (i : Nat) => Pm G _ _ _ _ 9 [some (.ref (ad G 2)), some (.int (nI t)), some (.int (nI y)), some (.int (nI g)), some (.long ((mtP D t y g i).2)), none, some (.int (nI ((mtP D t y g i).1))), some (.int (nI i)), none, none, none] [] f l) (lo := 0) (N := D.1) (by first | exact Nat.zero_le _ | omega) (fun i hi0 hi1 ihi => ?_) ?_
  · show Pm G _ _ _ _ 9 [some (.ref (ad G 2)), some (.int (nI t)), some (.int (nI y)), some (.int (nI g)), some (.long ((mtP D t y g i).2)), none, some (.int (nI ((mtP D t y g i).1))), some (.int (nI i)), none, none, none] [] f l
    refine P.iload dX7_mostTrusted_9 rfl ?_
    refine P.aload_n dX7_mostTrusted_11 rfl rfl ?_
    refine g_X7_many ly_2 (by decide) fl_X7_18 dX7_mostTrusted_12 ?_
    refine Pm.topn (b := D.1) (hV.1) ?_
    refine P.icmp_ge_n (tgt := 92) dX7_mostTrusted_15 (by decide) (by omega) (by omega) (fun c_15 => ?_) (fun c_15 => ?_)
    · exfalso; omega
    refine P.iload_n dX7_mostTrusted_18 rfl rfl ?_
    refine P.iload dX7_mostTrusted_19 rfl ?_
    refine P.callSN (As := [.int (nI g), .int (nI i)]) (rest := []) (s_isIn (s := g) (r := i) (by omega) (by omega)) ok_X9_isIn ⟨Nat.le_of_ble_eq_true rfl, Nat.le_of_ble_eq_true rfl, Nat.le_refl _, Nat.le_refl _⟩ rfl mn_X7_32 rfl (Nat.le_of_ble_eq_true rfl) dX7_mostTrusted_21 ?_
    refine P.if_eq_b (tgt := 86) dX7_mostTrusted_24 (by decide) (fun c_24 => ?_) (fun c_24 => ?_)
    · refine P.iinc dX7_mostTrusted_86 rfl (inc1 _) (by decide) ?_
      refine P.goto (tgt := 9) dX7_mostTrusted_89 (by decide) ?_
      show Pm G _ _ _ _ 9 [some (.ref (ad G 2)), some (.int (nI t)), some (.int (nI y)), some (.int (nI g)), some (.long ((mtP D t y g i).2)), none, some (.int (nI ((mtP D t y g i).1))), some (.int (nI (i + 1))), none, none, none] [] f l
      exact Pm.to (ihi) (by rw [mtP_out c_24]; simp [lle]) rfl rfl rfl
    refine P.aload_n dX7_mostTrusted_27 rfl rfl ?_
    refine g_X7_list (q := 3) ly_2 (by decide) (by decide) fl_X7_11 dX7_mostTrusted_28 ?_
    refine P.iload dX7_mostTrusted_31 rfl ?_
    refine a_r6 (q := 4 + 3 * i) ly_3 (by decide) (by omega) (by decide) (rt_row (r := i) (by omega)) dX7_mostTrusted_33 ?_
    refine g_X6_numbers (q := 5 + 3 * i) (ly_row (r := i) (by omega)) (by omega) (rt_num (r := i) (by omega)) fl_X7_44 dX7_mostTrusted_34 ?_
    refine P.iload_n dX7_mostTrusted_37 rfl rfl ?_
    refine a_la (ly_num (r := i) (by omega)) (by omega) (by omega) (by decide) dX7_mostTrusted_38 ?_
    refine Pm.topl (b := D.2.2.2 i y) ((hV.2.2.2 i (by omega) y)) ?_
    refine P.lstore dX7_mostTrusted_39 (by decide) (Nat.le_of_ble_eq_true rfl) ?_
    refine P.aload_n dX7_mostTrusted_41 rfl rfl ?_
    refine P.aload_n dX7_mostTrusted_42 rfl rfl ?_
    refine P.iload_n dX7_mostTrusted_43 rfl rfl ?_
    refine P.iload_n dX7_mostTrusted_44 rfl rfl ?_
    refine P.lload dX7_mostTrusted_45 rfl ?_
    refine P.iload_n dX7_mostTrusted_47 rfl rfl ?_
    refine P.callV (As := [.int (nI t), .int (nI y), .long (D.2.2.2 i y), .int (nI g)]) (rest := [.ref (ad G 2)]) (s_withNumber hV hD (by omega) (by omega) (by omega)) ok_X7_withNumber ⟨Nat.le_of_ble_eq_true rfl, Nat.le_of_ble_eq_true rfl, Nat.le_refl _, Nat.le_refl _⟩ rfl ml_X7_55 ly_2 (by decide) (by decide) rfl rfl (Nat.le_of_ble_eq_true rfl) dX7_mostTrusted_48 ?_
    refine P.callV (As := [.int (nI (withN D t y (D.2.2.2 i y) g))]) (rest := []) (s_trustOf hV hD (withN_lt hD _ _ _ _)) ok_X7_trustOf ⟨Nat.le_of_ble_eq_true rfl, Nat.le_of_ble_eq_true rfl, Nat.le_refl _, Nat.le_refl _⟩ rfl ml_X7_66 ly_2 (by decide) (by decide) rfl rfl (Nat.le_of_ble_eq_true rfl) dX7_mostTrusted_51 ?_
    refine P.istore dX7_mostTrusted_54 (by decide) ?_
    refine P.iload dX7_mostTrusted_56 rfl ?_
    refine P.iload dX7_mostTrusted_58 rfl ?_
    refine P.icmp_gt_n (tgt := 78) dX7_mostTrusted_60 (by decide) (by have := trustD_le hD (withN D t y (D.2.2.2 i y) g); omega) (by have := mtP_le hD t y g i; omega) (fun c_60 => ?_) (fun c_60 => ?_)
    · refine P.lload dX7_mostTrusted_78 rfl ?_
      refine P.lstore dX7_mostTrusted_80 (by decide) (Nat.le_of_ble_eq_true rfl) ?_
      refine P.iload dX7_mostTrusted_82 rfl ?_
      refine P.istore dX7_mostTrusted_84 (by decide) ?_
      refine P.iinc dX7_mostTrusted_86 rfl (inc1 _) (by decide) ?_
      refine P.goto (tgt := 9) dX7_mostTrusted_89 (by decide) ?_
      show Pm G _ _ _ _ 9 [some (.ref (ad G 2)), some (.int (nI t)), some (.int (nI y)), some (.int (nI g)), some (.long (D.2.2.2 i y)), none, some (.int (nI (trustD D (withN D t y (D.2.2.2 i y) g)))), some (.int (nI (i + 1))), some (.long (D.2.2.2 i y)), none, some (.int (nI (trustD D (withN D t y (D.2.2.2 i y) g))))] [] f l
      exact Pm.to (ihi) (by rw [mtP_gt c_24 c_60]; simp [lle]) rfl rfl rfl
    refine P.iload dX7_mostTrusted_63 rfl ?_
    refine P.iload dX7_mostTrusted_65 rfl ?_
    refine P.icmp_ne_n (tgt := 86) dX7_mostTrusted_67 (by decide) (by have := trustD_le hD (withN D t y (D.2.2.2 i y) g); omega) (by have := mtP_le hD t y g i; omega) (fun c_67 => ?_) (fun c_67 => ?_)
    · refine P.iinc dX7_mostTrusted_86 rfl (inc1 _) (by decide) ?_
      refine P.goto (tgt := 9) dX7_mostTrusted_89 (by decide) ?_
      show Pm G _ _ _ _ 9 [some (.ref (ad G 2)), some (.int (nI t)), some (.int (nI y)), some (.int (nI g)), some (.long ((mtP D t y g i).2)), none, some (.int (nI ((mtP D t y g i).1))), some (.int (nI (i + 1))), some (.long (D.2.2.2 i y)), none, some (.int (nI (trustD D (withN D t y (D.2.2.2 i y) g))))] [] f l
      exact Pm.to (ihi) (by rw [mtP_lt c_60 c_67]; simp [lle]) rfl rfl rfl
    refine P.lload dX7_mostTrusted_70 rfl ?_
    refine P.lload dX7_mostTrusted_72 rfl ?_
    refine P.lc_ge (tgt := 86) dX7_mostTrusted_74 dX7_mostTrusted_75 (by decide) (fun c_74 => ?_) (fun c_74 => ?_)
    · refine P.iinc dX7_mostTrusted_86 rfl (inc1 _) (by decide) ?_
      refine P.goto (tgt := 9) dX7_mostTrusted_89 (by decide) ?_
      show Pm G _ _ _ _ 9 [some (.ref (ad G 2)), some (.int (nI t)), some (.int (nI y)), some (.int (nI g)), some (.long ((mtP D t y g i).2)), none, some (.int (nI ((mtP D t y g i).1))), some (.int (nI (i + 1))), some (.long (D.2.2.2 i y)), none, some (.int (nI (trustD D (withN D t y (D.2.2.2 i y) g))))] [] f l
      exact Pm.to (ihi) (by rw [mtP_ge c_60 c_74]; simp [lle]) rfl rfl rfl
    refine P.lload dX7_mostTrusted_78 rfl ?_
    refine P.lstore dX7_mostTrusted_80 (by decide) (Nat.le_of_ble_eq_true rfl) ?_
    refine P.iload dX7_mostTrusted_82 rfl ?_
    refine P.istore dX7_mostTrusted_84 (by decide) ?_
    refine P.iinc dX7_mostTrusted_86 rfl (inc1 _) (by decide) ?_
    refine P.goto (tgt := 9) dX7_mostTrusted_89 (by decide) ?_
    show Pm G _ _ _ _ 9 [some (.ref (ad G 2)), some (.int (nI t)), some (.int (nI y)), some (.int (nI g)), some (.long (D.2.2.2 i y)), none, some (.int (nI (trustD D (withN D t y (D.2.2.2 i y) g)))), some (.int (nI (i + 1))), some (.long (D.2.2.2 i y)), none, some (.int (nI (trustD D (withN D t y (D.2.2.2 i y) g))))] [] f l
    exact Pm.to (ihi) (by rw [mtP_eq c_24 c_67 c_74]; simp [lle]) rfl rfl rfl
  · show Pm G _ _ _ _ 9 [some (.ref (ad G 2)), some (.int (nI t)), some (.int (nI y)), some (.int (nI g)), some (.long ((mtP D t y g D.1).2)), none, some (.int (nI ((mtP D t y g D.1).1))), some (.int (nI D.1)), none, none, none] [] f l
    refine P.iload dX7_mostTrusted_9 rfl ?_
    refine P.aload_n dX7_mostTrusted_11 rfl rfl ?_
    refine g_X7_many ly_2 (by decide) fl_X7_18 dX7_mostTrusted_12 ?_
    refine Pm.topn (b := D.1) (hV.1) ?_
    refine P.icmp_ge_n (tgt := 92) dX7_mostTrusted_15 (by decide) (by omega) (by omega) (fun c_15 => ?_) (fun c_15 => ?_)
    · refine P.lload dX7_mostTrusted_92 rfl ?_
      exact P.lret rfl dX7_mostTrusted_94 rfl rfl
    · exfalso; omega

set_option maxRecDepth 20000 in
theorem s_settleGroup {G : GG} {f : Nat → Nat → Nat} {l : Nat → Nat → Int64} {D : DB} (hV : RV f l D) (hD : DW D) {t y g : Nat} (ht : t < 4) (hy : y < 6) (hg : g < 4096)  : Spec G mX7_settleGroup [.ref (ad G 2), .int (nI t), .int (nI y), .int (nI g)] 114 (f, l, refT) (some (.int (nI (cntN (fun r => g.testBit r && D.2.2.2 r y != (mtP D t y g D.1).2) D.1)))) 114 (f, sgl l g y (mtP D t y g D.1).2 D.1, refT) := by
  have hR := hD.1
  refine Spec.of ok_X7_settleGroup.1 ⟨Nat.le_refl _, Nat.le_refl _⟩ (Nat.le_of_ble_eq_true rfl) ?_
  show Pm G RX7 cX7_settleGroup 8 (KM G mX7_settleGroup 114 114 (some (.int (nI (cntN (fun r => g.testBit r && D.2.2.2 r y != (mtP D t y g D.1).2) D.1)))) (f, sgl l g y (mtP D t y g D.1).2 D.1, refT)) 0 [some (.ref (ad G 2)), some (.int (nI t)), some (.int (nI y)), some (.int (nI g)), none, none, none, none] [] f l
  refine P.aload_n dX7_settleGroup_0 rfl rfl ?_
  refine P.iload_n dX7_settleGroup_1 rfl rfl ?_
  refine P.iload_n dX7_settleGroup_2 rfl rfl ?_
  refine P.iload_n dX7_settleGroup_3 rfl rfl ?_
  refine P.callV (As := [.int (nI t), .int (nI y), .int (nI g)]) (rest := []) (s_mostTrusted hV hD ht hy hg) ok_X7_mostTrusted ⟨Nat.le_of_ble_eq_true rfl, Nat.le_of_ble_eq_true rfl, Nat.le_refl _, Nat.le_refl _⟩ rfl ml_X7_62 ly_2 (by decide) (by decide) rfl rfl (Nat.le_of_ble_eq_true rfl) dX7_settleGroup_4 ?_
  refine P.lstore dX7_settleGroup_7 (by decide) (Nat.le_of_ble_eq_true rfl) ?_
  refine P.iconst dX7_settleGroup_9 ic_0 ?_
  refine P.istore dX7_settleGroup_10 (by decide) ?_
  refine P.iconst dX7_settleGroup_12 ic_0 ?_
  refine P.istore dX7_settleGroup_13 (by decide) ?_
  refine loop_up (M := fun (i : Nat) => Pm G _ _ _ _ 15 [some (.ref (ad G 2)), some (.int (nI t)), some (.int (nI y)), some (.int (nI g)), some (.long ((mtP D t y g D.1).2)), none, some (.int (nI (cntN (fun r => g.testBit r && D.2.2.2 r y != (mtP D t y g D.1).2) i))), some (.int (nI i))] [] f (sgl l g y (mtP D t y g D.1).2 i)) (lo := 0) (N := D.1) (by first | exact Nat.zero_le _ | omega) (fun i hi0 hi1 ihi => ?_) ?_
  · show Pm G _ _ _ _ 15 [some (.ref (ad G 2)), some (.int (nI t)), some (.int (nI y)), some (.int (nI g)), some (.long ((mtP D t y g D.1).2)), none, some (.int (nI (cntN (fun r => g.testBit r && D.2.2.2 r y != (mtP D t y g D.1).2) i))), some (.int (nI i))] [] f (sgl l g y (mtP D t y g D.1).2 i)
    refine P.iload dX7_settleGroup_15 rfl ?_
    refine P.aload_n dX7_settleGroup_17 rfl rfl ?_
    refine g_X7_many ly_2 (by decide) fl_X7_18 dX7_settleGroup_18 ?_
    refine Pm.topn (b := D.1) (hV.1) ?_
    refine P.icmp_ge_n (tgt := 74) dX7_settleGroup_21 (by decide) (by omega) (by omega) (fun c_21 => ?_) (fun c_21 => ?_)
    · exfalso; omega
    refine P.iload_n dX7_settleGroup_24 rfl rfl ?_
    refine P.iload dX7_settleGroup_25 rfl ?_
    refine P.callSN (As := [.int (nI g), .int (nI i)]) (rest := []) (s_isIn (s := g) (r := i) (by omega) (by omega)) ok_X9_isIn ⟨Nat.le_of_ble_eq_true rfl, Nat.le_of_ble_eq_true rfl, Nat.le_refl _, Nat.le_refl _⟩ rfl mn_X7_32 rfl (Nat.le_of_ble_eq_true rfl) dX7_settleGroup_27 ?_
    refine P.if_eq_b (tgt := 68) dX7_settleGroup_30 (by decide) (fun c_30 => ?_) (fun c_30 => ?_)
    · refine P.iinc dX7_settleGroup_68 rfl (inc1 _) (by decide) ?_
      refine P.goto (tgt := 15) dX7_settleGroup_71 (by decide) ?_
      show Pm G _ _ _ _ 15 [some (.ref (ad G 2)), some (.int (nI t)), some (.int (nI y)), some (.int (nI g)), some (.long ((mtP D t y g D.1).2)), none, some (.int (nI (cntN (fun r => g.testBit r && D.2.2.2 r y != (mtP D t y g D.1).2) i))), some (.int (nI (i + 1)))] [] f (sgl l g y (mtP D t y g D.1).2 i)
      exact Pm.to (ihi) (by simp [lle, cntN_s, bN, c_21, c_30]) rfl rfl (by first | exact sgl_out c_30 | exact (sgl_out c_30).symm)
    refine P.aload_n dX7_settleGroup_33 rfl rfl ?_
    refine g_X7_list (q := 3) ly_2 (by decide) (by decide) fl_X7_11 dX7_settleGroup_34 ?_
    refine P.iload dX7_settleGroup_37 rfl ?_
    refine a_r6 (q := 4 + 3 * i) ly_3 (by decide) (by omega) (by decide) (rt_row (r := i) (by omega)) dX7_settleGroup_39 ?_
    refine g_X6_numbers (q := 5 + 3 * i) (ly_row (r := i) (by omega)) (by omega) (rt_num (r := i) (by omega)) fl_X7_44 dX7_settleGroup_40 ?_
    refine P.iload_n dX7_settleGroup_43 rfl rfl ?_
    refine a_la (ly_num (r := i) (by omega)) (by omega) (by omega) (by decide) dX7_settleGroup_44 ?_
    refine Pm.topl (b := D.2.2.2 i y) (((sgl_ne _ _ _ _ _ (Or.inr (fun q hq _ => by omega))).trans (hV.2.2.2 i (by omega) y))) ?_
    refine P.lload dX7_settleGroup_45 rfl ?_
    refine P.lc_eq (tgt := 68) dX7_settleGroup_47 dX7_settleGroup_48 (by decide) (fun c_47 => ?_) (fun c_47 => ?_)
    · refine P.iinc dX7_settleGroup_68 rfl (inc1 _) (by decide) ?_
      refine P.goto (tgt := 15) dX7_settleGroup_71 (by decide) ?_
      show Pm G _ _ _ _ 15 [some (.ref (ad G 2)), some (.int (nI t)), some (.int (nI y)), some (.int (nI g)), some (.long ((mtP D t y g D.1).2)), none, some (.int (nI (cntN (fun r => g.testBit r && D.2.2.2 r y != (mtP D t y g D.1).2) i))), some (.int (nI (i + 1)))] [] f (sgl l g y (mtP D t y g D.1).2 i)
      exact Pm.to (ihi) (by simp [lle, cntN_s, bN, c_21, c_30, c_47]) rfl rfl (by have e := sgl_same (g := g) ((hV.2.2.2 i (by omega) y).trans c_47); first | exact e | exact e.symm)
    refine P.aload_n dX7_settleGroup_51 rfl rfl ?_
    refine g_X7_list (q := 3) ly_2 (by decide) (by decide) fl_X7_11 dX7_settleGroup_52 ?_
    refine P.iload dX7_settleGroup_55 rfl ?_
    refine a_r6 (q := 4 + 3 * i) ly_3 (by decide) (by omega) (by decide) (rt_row (r := i) (by omega)) dX7_settleGroup_57 ?_
    refine g_X6_numbers (q := 5 + 3 * i) (ly_row (r := i) (by omega)) (by omega) (rt_num (r := i) (by omega)) fl_X7_44 dX7_settleGroup_58 ?_
    refine P.iload_n dX7_settleGroup_61 rfl rfl ?_
    refine P.lload dX7_settleGroup_62 rfl ?_
    refine s_la (ly_num (r := i) (by omega)) (by omega) (by omega) (by decide) dX7_settleGroup_64 ?_
    refine P.iinc dX7_settleGroup_65 rfl (inc1 _) (by decide) ?_
    refine P.iinc dX7_settleGroup_68 rfl (inc1 _) (by decide) ?_
    refine P.goto (tgt := 15) dX7_settleGroup_71 (by decide) ?_
    show Pm G _ _ _ _ 15 [some (.ref (ad G 2)), some (.int (nI t)), some (.int (nI y)), some (.int (nI g)), some (.long ((mtP D t y g D.1).2)), none, some (.int (nI ((cntN (fun r => g.testBit r && D.2.2.2 r y != (mtP D t y g D.1).2) i) + 1))), some (.int (nI (i + 1)))] [] f (uf (sgl l g y (mtP D t y g D.1).2 i) (5 + 3 * i) y ((mtP D t y g D.1).2))
    exact Pm.to (ihi) (by simp [lle, cntN_s, bN, c_21, c_30, c_47]) rfl rfl (by first | exact sgl_in c_30 | exact (sgl_in c_30).symm)
  · show Pm G _ _ _ _ 15 [some (.ref (ad G 2)), some (.int (nI t)), some (.int (nI y)), some (.int (nI g)), some (.long ((mtP D t y g D.1).2)), none, some (.int (nI (cntN (fun r => g.testBit r && D.2.2.2 r y != (mtP D t y g D.1).2) D.1))), some (.int (nI D.1))] [] f (sgl l g y (mtP D t y g D.1).2 D.1)
    refine P.iload dX7_settleGroup_15 rfl ?_
    refine P.aload_n dX7_settleGroup_17 rfl rfl ?_
    refine g_X7_many ly_2 (by decide) fl_X7_18 dX7_settleGroup_18 ?_
    refine Pm.topn (b := D.1) (hV.1) ?_
    refine P.icmp_ge_n (tgt := 74) dX7_settleGroup_21 (by decide) (by omega) (by omega) (fun c_21 => ?_) (fun c_21 => ?_)
    · refine P.iload dX7_settleGroup_74 rfl ?_
      exact P.iret rfl dX7_settleGroup_76 rfl rfl
    · exfalso; omega


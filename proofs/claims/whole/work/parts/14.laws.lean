-- Laws: by program (wip/whole/spec14.py)
set_option maxRecDepth 20000 in
theorem s_alone {G : GG} {f : Nat → Nat → Nat} {l : Nat → Nat → Int64} {D : DB} (hV : RV f l D) (hD : DW D) {W : LB} (hL : LV f l W) {w r : Nat} (hw : w < 10) (hW : LOK W w) (hr : r < 12) : Spec G mX2_quarrelsAlone [.ref (ad G 40), .ref (ad G (43 + w)), .ref (ad G (4 + 3 * r))] 114 (f, l, refT) (some (.int (bI (alone D W w r)))) 114 (f, l, refT) := by
  have hR := hD.1
  obtain ⟨hk, ht, ha, hb, hu, hf⟩ := hW
  refine Spec.of ok_X2_quarrelsAlone.1 ⟨Nat.le_refl _, Nat.le_refl _⟩ (Nat.le_of_ble_eq_true rfl) ?_
  show Pm G RX2 cX2_quarrelsAlone 5 (KM G mX2_quarrelsAlone 114 114 (some (.int (bI (alone D W w r)))) (f, l, refT)) 0 [some (.ref (ad G 40)), some (.ref (ad G (43 + w))), some (.ref (ad G (4 + 3 * r))), none, none] [] f l
  refine P.aload_n dX2_quarrelsAlone_0 rfl rfl ?_
  refine g_X1_kind (ly_law (r := w) (by omega)) (by omega) fl_X2_30 dX2_quarrelsAlone_1 ?_
  refine Pm.topn (b := W.2.1 w 0) ((hL.2.1 w (by omega) 0)) ?_
  refine P.iconst dX2_quarrelsAlone_4 ic_3 ?_
  refine P.icmp_ne_n (tgt := 26) dX2_quarrelsAlone_5 (by decide) (by omega) (by omega) (fun c_5 => ?_) (fun c_5 => ?_)
  · refine P.aload_n dX2_quarrelsAlone_26 rfl rfl ?_
    refine g_X6_numbers (q := 5 + 3 * r) (ly_row (r := r) (by omega)) (by omega) (rt_num (r := r) (by omega)) fl_X2_87 dX2_quarrelsAlone_27 ?_
    refine P.aload_n dX2_quarrelsAlone_30 rfl rfl ?_
    refine g_X1_first (ly_law (r := w) (by omega)) (by omega) fl_X2_84 dX2_quarrelsAlone_31 ?_
    refine Pm.topn (b := W.2.1 w 2) ((hL.2.1 w (by omega) 2)) ?_
    refine a_la (ly_num (r := r) (by omega)) (by omega) (by omega) (by decide) dX2_quarrelsAlone_34 ?_
    refine Pm.topl (b := D.2.2.2 r (W.2.1 w 2)) ((hV.2.2.2 r (by omega) (W.2.1 w 2))) ?_
    refine P.lstore_n dX2_quarrelsAlone_35 rfl (by decide) (Nat.le_of_ble_eq_true rfl) ?_
    refine P.aload_n dX2_quarrelsAlone_36 rfl rfl ?_
    refine g_X6_there (q := 6 + 3 * r) (ly_row (r := r) (by omega)) (by omega) (rt_the (r := r) (by omega)) fl_X2_80 dX2_quarrelsAlone_37 ?_
    refine P.aload_n dX2_quarrelsAlone_40 rfl rfl ?_
    refine g_X1_first (ly_law (r := w) (by omega)) (by omega) fl_X2_84 dX2_quarrelsAlone_41 ?_
    refine Pm.topn (b := W.2.1 w 2) ((hL.2.1 w (by omega) 2)) ?_
    refine a_za (ly_the (r := r) (by omega)) (by omega) (by omega) (by decide) dX2_quarrelsAlone_44 ?_
    refine Pm.topn (b := D.2.2.1 r (W.2.1 w 2)) ((hV.2.2.1 r (by omega) (W.2.1 w 2))) ?_
    refine P.if_eq_n (tgt := 70) dX2_quarrelsAlone_45 (by decide) (hD.2.2 _ _) (fun c_45 => ?_) (fun c_45 => ?_)
    · refine P.iconst dX2_quarrelsAlone_70 ic_0 ?_
      exact P.bret rfl dX2_quarrelsAlone_71 (by rw [show alone D W w r = false from by simp [alone, Int64.not_lt, Int64.not_le, c_5, c_45]]; rfl) rfl
    refine P.lload_n dX2_quarrelsAlone_48 rfl rfl ?_
    refine P.aload_n dX2_quarrelsAlone_49 rfl rfl ?_
    refine g_X1_c (ly_law (r := w) (by omega)) (by omega) fl_X2_91 dX2_quarrelsAlone_50 ?_
    refine Pm.topl (b := W.2.2 w 5) ((hL.2.2 w (by omega) 5)) ?_
    refine P.lc_lt (tgt := 66) dX2_quarrelsAlone_53 dX2_quarrelsAlone_54 (by decide) (fun c_53 => ?_) (fun c_53 => ?_)
    · refine P.iconst dX2_quarrelsAlone_66 ic_1 ?_
      refine P.goto (tgt := 71) dX2_quarrelsAlone_67 (by decide) ?_
      exact P.bret rfl dX2_quarrelsAlone_71 (by rw [show alone D W w r = true from by simp [alone, Int64.not_lt, Int64.not_le, c_5, c_45, c_53, (Int64.not_le.mpr c_53)]]; rfl) rfl
    refine P.lload_n dX2_quarrelsAlone_57 rfl rfl ?_
    refine P.aload_n dX2_quarrelsAlone_58 rfl rfl ?_
    refine g_X1_d (ly_law (r := w) (by omega)) (by omega) fl_X2_95 dX2_quarrelsAlone_59 ?_
    refine Pm.topl (b := W.2.2 w 6) ((hL.2.2 w (by omega) 6)) ?_
    refine P.lc_le (tgt := 70) dX2_quarrelsAlone_62 dX2_quarrelsAlone_63 (by decide) (fun c_62 => ?_) (fun c_62 => ?_)
    · refine P.iconst dX2_quarrelsAlone_70 ic_0 ?_
      exact P.bret rfl dX2_quarrelsAlone_71 (by rw [show alone D W w r = false from by simp [alone, Int64.not_lt, Int64.not_le, c_5, c_45, c_53, (Int64.not_lt.mpr c_53), c_62, (Int64.not_lt.mpr c_62)]]; rfl) rfl
    refine P.iconst dX2_quarrelsAlone_66 ic_1 ?_
    refine P.goto (tgt := 71) dX2_quarrelsAlone_67 (by decide) ?_
    exact P.bret rfl dX2_quarrelsAlone_71 (by rw [show alone D W w r = true from by simp [alone, Int64.not_lt, Int64.not_le, c_5, c_45, c_53, (Int64.not_lt.mpr c_53), c_62, (Int64.not_le.mpr c_62)]]; rfl) rfl
  refine P.aload_n dX2_quarrelsAlone_8 rfl rfl ?_
  refine g_X6_there (q := 6 + 3 * r) (ly_row (r := r) (by omega)) (by omega) (rt_the (r := r) (by omega)) fl_X2_80 dX2_quarrelsAlone_9 ?_
  refine P.aload_n dX2_quarrelsAlone_12 rfl rfl ?_
  refine g_X1_first (ly_law (r := w) (by omega)) (by omega) fl_X2_84 dX2_quarrelsAlone_13 ?_
  refine Pm.topn (b := W.2.1 w 2) ((hL.2.1 w (by omega) 2)) ?_
  refine a_za (ly_the (r := r) (by omega)) (by omega) (by omega) (by decide) dX2_quarrelsAlone_16 ?_
  refine Pm.topn (b := D.2.2.1 r (W.2.1 w 2)) ((hV.2.2.1 r (by omega) (W.2.1 w 2))) ?_
  refine P.if_ne_n (tgt := 24) dX2_quarrelsAlone_17 (by decide) (hD.2.2 _ _) (fun c_17 => ?_) (fun c_17 => ?_)
  · refine P.iconst dX2_quarrelsAlone_24 ic_0 ?_
    exact P.bret rfl dX2_quarrelsAlone_25 (by rw [show alone D W w r = false from by simp [alone, Int64.not_lt, Int64.not_le, c_5, c_17]]; rfl) rfl
  refine P.iconst dX2_quarrelsAlone_20 ic_1 ?_
  refine P.goto (tgt := 25) dX2_quarrelsAlone_21 (by decide) ?_
  exact P.bret rfl dX2_quarrelsAlone_25 (by rw [show alone D W w r = true from by simp [alone, Int64.not_lt, Int64.not_le, c_5, c_17]]; rfl) rfl

set_option maxRecDepth 20000 in
theorem s_near {G : GG} {f : Nat → Nat → Nat} {l : Nat → Nat → Int64} {v u c : Int64} : Spec G mX2_areNearer [.ref (ad G 40), .long v, .long u, .long c] 114 (f, l, refT) (some (.int (bI (near v u c)))) 114 (f, l, refT) := by
  refine Spec.of ok_X2_areNearer.1 ⟨Nat.le_refl _, Nat.le_refl _⟩ (Nat.le_of_ble_eq_true rfl) ?_
  show Pm G RX2 cX2_areNearer 9 (KM G mX2_areNearer 114 114 (some (.int (bI (near v u c)))) (f, l, refT)) 0 [some (.ref (ad G 40)), some (.long v), none, some (.long u), none, some (.long c), none, none, none] [] f l
  refine P.lload_n dX2_areNearer_0 rfl rfl ?_
  refine P.lload_n dX2_areNearer_1 rfl rfl ?_
  refine P.lc_le (tgt := 12) dX2_areNearer_2 dX2_areNearer_3 (by decide) (fun c_2 => ?_) (fun c_2 => ?_)
  · refine P.lload_n dX2_areNearer_12 rfl rfl ?_
    refine P.lload_n dX2_areNearer_13 rfl rfl ?_
    refine P.lsub dX2_areNearer_14 ?_
    refine P.lstore dX2_areNearer_15 (by decide) (Nat.le_of_ble_eq_true rfl) ?_
    refine P.lload dX2_areNearer_17 rfl ?_
    refine P.lconst (v := 0) dX2_areNearer_19 rfl ?_
    refine P.lc_lt (tgt := 36) dX2_areNearer_20 dX2_areNearer_21 (by decide) (fun c_20 => ?_) (fun c_20 => ?_)
    · refine P.iconst dX2_areNearer_36 ic_0 ?_
      exact P.bret rfl dX2_areNearer_37 (by rw [show near v u c = false from by simp [near, dist, Int64.not_lt, Int64.not_le, c_2, (Int64.not_lt.mpr c_2), c_20, (Int64.not_le.mpr c_20)]]; rfl) rfl
    refine P.lload dX2_areNearer_24 rfl ?_
    refine P.lload dX2_areNearer_26 rfl ?_
    refine P.lc_ge (tgt := 36) dX2_areNearer_28 dX2_areNearer_29 (by decide) (fun c_28 => ?_) (fun c_28 => ?_)
    · refine P.iconst dX2_areNearer_36 ic_0 ?_
      exact P.bret rfl dX2_areNearer_37 (by rw [show near v u c = false from by simp [near, dist, Int64.not_lt, Int64.not_le, c_2, (Int64.not_lt.mpr c_2), c_20, (Int64.not_lt.mpr c_20), c_28, (Int64.not_lt.mpr c_28)]]; rfl) rfl
    refine P.iconst dX2_areNearer_32 ic_1 ?_
    refine P.goto (tgt := 37) dX2_areNearer_33 (by decide) ?_
    exact P.bret rfl dX2_areNearer_37 (by rw [show near v u c = true from by simp [near, dist, c_2, (Int64.not_lt.mpr c_2), c_20, (Int64.not_lt.mpr c_20), c_28, (Int64.not_le.mpr c_28)]]; rfl) rfl
  refine P.lload_n dX2_areNearer_6 rfl rfl ?_
  refine P.lload_n dX2_areNearer_7 rfl rfl ?_
  refine P.lsub dX2_areNearer_8 ?_
  refine P.goto (tgt := 15) dX2_areNearer_9 (by decide) ?_
  refine P.lstore dX2_areNearer_15 (by decide) (Nat.le_of_ble_eq_true rfl) ?_
  refine P.lload dX2_areNearer_17 rfl ?_
  refine P.lconst (v := 0) dX2_areNearer_19 rfl ?_
  refine P.lc_lt (tgt := 36) dX2_areNearer_20 dX2_areNearer_21 (by decide) (fun c_20 => ?_) (fun c_20 => ?_)
  · refine P.iconst dX2_areNearer_36 ic_0 ?_
    exact P.bret rfl dX2_areNearer_37 (by rw [show near v u c = false from by simp [near, dist, Int64.not_lt, Int64.not_le, c_2, (Int64.not_le.mpr c_2), c_20, (Int64.not_le.mpr c_20)]]; rfl) rfl
  refine P.lload dX2_areNearer_24 rfl ?_
  refine P.lload dX2_areNearer_26 rfl ?_
  refine P.lc_ge (tgt := 36) dX2_areNearer_28 dX2_areNearer_29 (by decide) (fun c_28 => ?_) (fun c_28 => ?_)
  · refine P.iconst dX2_areNearer_36 ic_0 ?_
    exact P.bret rfl dX2_areNearer_37 (by rw [show near v u c = false from by simp [near, dist, Int64.not_lt, Int64.not_le, c_2, (Int64.not_le.mpr c_2), c_20, (Int64.not_lt.mpr c_20), c_28, (Int64.not_lt.mpr c_28)]]; rfl) rfl
  refine P.iconst dX2_areNearer_32 ic_1 ?_
  refine P.goto (tgt := 37) dX2_areNearer_33 (by decide) ?_
  exact P.bret rfl dX2_areNearer_37 (by rw [show near v u c = true from by simp [near, dist, c_2, (Int64.not_le.mpr c_2), c_20, (Int64.not_lt.mpr c_20), c_28, (Int64.not_le.mpr c_28)]]; rfl) rfl

set_option maxRecDepth 20000 in
theorem s_together {G : GG} {f : Nat → Nat → Nat} {l : Nat → Nat → Int64} {D : DB} (hV : RV f l D) (hD : DW D) {W : LB} (hL : LV f l W) {w r q : Nat} (hw : w < 10) (hW : LOK W w) (hr : r < 12) (hq : q < 12) : Spec G mX2_quarrelTogether [.ref (ad G 40), .ref (ad G (43 + w)), .ref (ad G (4 + 3 * r)), .ref (ad G (4 + 3 * q))] 114 (f, l, refT) (some (.int (bI (together D W w r q)))) 114 (f, l, refT) := by
  have hR := hD.1
  obtain ⟨hk, ht, ha, hb, hu, hf⟩ := hW
  refine Spec.of ok_X2_quarrelTogether.1 ⟨Nat.le_refl _, Nat.le_refl _⟩ (Nat.le_of_ble_eq_true rfl) ?_
  show Pm G RX2 cX2_quarrelTogether 8 (KM G mX2_quarrelTogether 114 114 (some (.int (bI (together D W w r q)))) (f, l, refT)) 0 [some (.ref (ad G 40)), some (.ref (ad G (43 + w))), some (.ref (ad G (4 + 3 * r))), some (.ref (ad G (4 + 3 * q))), none, none, none, none] [] f l
  refine P.aload_n dX2_quarrelTogether_0 rfl rfl ?_
  refine g_X6_numbers (q := 5 + 3 * r) (ly_row (r := r) (by omega)) (by omega) (rt_num (r := r) (by omega)) fl_X2_87 dX2_quarrelTogether_1 ?_
  refine P.aload_n dX2_quarrelTogether_4 rfl rfl ?_
  refine g_X1_first (ly_law (r := w) (by omega)) (by omega) fl_X2_84 dX2_quarrelTogether_5 ?_
  refine Pm.topn (b := W.2.1 w 2) ((hL.2.1 w (by omega) 2)) ?_
  refine a_la (ly_num (r := r) (by omega)) (by omega) (by omega) (by decide) dX2_quarrelTogether_8 ?_
  refine Pm.topl (b := D.2.2.2 r (W.2.1 w 2)) ((hV.2.2.2 r (by omega) (W.2.1 w 2))) ?_
  refine P.aload_n dX2_quarrelTogether_9 rfl rfl ?_
  refine g_X6_numbers (q := 5 + 3 * q) (ly_row (r := q) (by omega)) (by omega) (rt_num (r := q) (by omega)) fl_X2_87 dX2_quarrelTogether_10 ?_
  refine P.aload_n dX2_quarrelTogether_13 rfl rfl ?_
  refine g_X1_first (ly_law (r := w) (by omega)) (by omega) fl_X2_84 dX2_quarrelTogether_14 ?_
  refine Pm.topn (b := W.2.1 w 2) ((hL.2.1 w (by omega) 2)) ?_
  refine a_la (ly_num (r := q) (by omega)) (by omega) (by omega) (by decide) dX2_quarrelTogether_17 ?_
  refine Pm.topl (b := D.2.2.2 q (W.2.1 w 2)) ((hV.2.2.2 q (by omega) (W.2.1 w 2))) ?_
  refine P.lc_eq (tgt := 24) dX2_quarrelTogether_18 dX2_quarrelTogether_19 (by decide) (fun c_18 => ?_) (fun c_18 => ?_)
  · refine P.aload_n dX2_quarrelTogether_24 rfl rfl ?_
    refine g_X6_numbers (q := 5 + 3 * r) (ly_row (r := r) (by omega)) (by omega) (rt_num (r := r) (by omega)) fl_X2_87 dX2_quarrelTogether_25 ?_
    refine P.aload_n dX2_quarrelTogether_28 rfl rfl ?_
    refine g_X1_second (ly_law (r := w) (by omega)) (by omega) fl_X2_105 dX2_quarrelTogether_29 ?_
    refine Pm.topn (b := W.2.1 w 3) ((hL.2.1 w (by omega) 3)) ?_
    refine a_la (ly_num (r := r) (by omega)) (by omega) (by omega) (by decide) dX2_quarrelTogether_32 ?_
    refine Pm.topl (b := D.2.2.2 r (W.2.1 w 3)) ((hV.2.2.2 r (by omega) (W.2.1 w 3))) ?_
    refine P.lstore dX2_quarrelTogether_33 (by decide) (Nat.le_of_ble_eq_true rfl) ?_
    refine P.aload_n dX2_quarrelTogether_35 rfl rfl ?_
    refine g_X6_numbers (q := 5 + 3 * q) (ly_row (r := q) (by omega)) (by omega) (rt_num (r := q) (by omega)) fl_X2_87 dX2_quarrelTogether_36 ?_
    refine P.aload_n dX2_quarrelTogether_39 rfl rfl ?_
    refine g_X1_second (ly_law (r := w) (by omega)) (by omega) fl_X2_105 dX2_quarrelTogether_40 ?_
    refine Pm.topn (b := W.2.1 w 3) ((hL.2.1 w (by omega) 3)) ?_
    refine a_la (ly_num (r := q) (by omega)) (by omega) (by omega) (by decide) dX2_quarrelTogether_43 ?_
    refine Pm.topl (b := D.2.2.2 q (W.2.1 w 3)) ((hV.2.2.2 q (by omega) (W.2.1 w 3))) ?_
    refine P.lstore dX2_quarrelTogether_44 (by decide) (Nat.le_of_ble_eq_true rfl) ?_
    refine P.aload_n dX2_quarrelTogether_46 rfl rfl ?_
    refine g_X1_kind (ly_law (r := w) (by omega)) (by omega) fl_X2_30 dX2_quarrelTogether_47 ?_
    refine Pm.topn (b := W.2.1 w 0) ((hL.2.1 w (by omega) 0)) ?_
    refine P.if_ne_n (tgt := 69) dX2_quarrelTogether_50 (by decide) (by omega) (fun c_50 => ?_) (fun c_50 => ?_)
    · refine P.aload_n dX2_quarrelTogether_69 rfl rfl ?_
      refine P.lload dX2_quarrelTogether_70 rfl ?_
      refine P.lload dX2_quarrelTogether_72 rfl ?_
      refine P.aload_n dX2_quarrelTogether_74 rfl rfl ?_
      refine g_X1_c (ly_law (r := w) (by omega)) (by omega) fl_X2_91 dX2_quarrelTogether_75 ?_
      refine Pm.topl (b := W.2.2 w 5) ((hL.2.2 w (by omega) 5)) ?_
      refine P.callV (As := [.long (D.2.2.2 r (W.2.1 w 3)), .long (D.2.2.2 q (W.2.1 w 3)), .long (W.2.2 w 5)]) (rest := []) s_near ok_X2_areNearer ⟨Nat.le_of_ble_eq_true rfl, Nat.le_of_ble_eq_true rfl, Nat.le_refl _, Nat.le_refl _⟩ rfl ml_X2_116 ly_40 (by decide) (by decide) rfl rfl (Nat.le_of_ble_eq_true rfl) dX2_quarrelTogether_78 ?_
      exact P.bret rfl dX2_quarrelTogether_81 (by rw [show together D W w r q = near (D.2.2.2 r (W.2.1 w 3)) (D.2.2.2 q (W.2.1 w 3)) (W.2.2 w 5) from by simp [together, c_18, c_50]]) rfl
    refine P.lload dX2_quarrelTogether_53 rfl ?_
    refine P.lload dX2_quarrelTogether_55 rfl ?_
    refine P.lc_eq (tgt := 65) dX2_quarrelTogether_57 dX2_quarrelTogether_58 (by decide) (fun c_57 => ?_) (fun c_57 => ?_)
    · refine P.iconst dX2_quarrelTogether_65 ic_0 ?_
      refine P.goto (tgt := 81) dX2_quarrelTogether_66 (by decide) ?_
      exact P.bret rfl dX2_quarrelTogether_81 (by rw [show together D W w r q = false from by simp [together, Int64.not_lt, Int64.not_le, c_18, c_50, c_57]]; rfl) rfl
    refine P.iconst dX2_quarrelTogether_61 ic_1 ?_
    refine P.goto (tgt := 81) dX2_quarrelTogether_62 (by decide) ?_
    exact P.bret rfl dX2_quarrelTogether_81 (by rw [show together D W w r q = true from by simp [together, Int64.not_lt, Int64.not_le, c_18, c_50, c_57]]; rfl) rfl
  refine P.iconst dX2_quarrelTogether_22 ic_0 ?_
  exact P.bret rfl dX2_quarrelTogether_23 (by rw [show together D W w r q = false from by simp [together, Int64.not_lt, Int64.not_le, c_18]]; rfl) rfl

set_option maxRecDepth 20000 in
theorem s_addFound {G : GG} {f : Nat → Nat → Nat} {l : Nat → Nat → Int64} {L : List Nat} {s : Nat} (hlen : L.length < 4096) : Spec G mX2_addFound [.ref (ad G 40), .int (nI s)] 114 (wrL f L, l, refT) none 114 (wrL f (L ++ [s]), l, refT) := by
  refine Spec.of ok_X2_addFound.1 ⟨Nat.le_refl _, Nat.le_refl _⟩ (Nat.le_of_ble_eq_true rfl) ?_
  show Pm G RX2 cX2_addFound 2 (KM G mX2_addFound 114 114 none (wrL f (L ++ [s]), l, refT)) 0 [some (.ref (ad G 40)), some (.int (nI s))] [] (wrL f L) l
  refine P.aload_n dX2_addFound_0 rfl rfl ?_
  refine g_X2_found (q := 42) ly_40 (by decide) (by decide) fl_X2_17 dX2_addFound_1 ?_
  refine P.aload_n dX2_addFound_4 rfl rfl ?_
  refine g_X2_manyFound ly_40 (by decide) fl_X2_44 dX2_addFound_5 ?_
  refine Pm.topn (b := (L).length) ((wrL_len _ _)) ?_
  refine P.iload_n dX2_addFound_8 rfl rfl ?_
  refine s_ia (a := s) ly_42 (by decide) (by omega) (by decide) dX2_addFound_9 rfl ?_
  refine P.aload_n dX2_addFound_10 rfl rfl ?_
  refine P.dup dX2_addFound_11 rfl ?_
  refine g_X2_manyFound ly_40 (by decide) fl_X2_44 dX2_addFound_12 ?_
  refine Pm.topn (b := (L).length) ((uf_ne _ _ (Or.inl (by omega))).trans ((wrL_len _ _))) ?_
  refine P.iconst dX2_addFound_15 ic_1 ?_
  refine P.iadd_n dX2_addFound_16 (nI_add _ _) ?_
  refine p_X2_manyFound (a := (((L).length) + 1)) ly_40 (by decide) fl_X2_44 dX2_addFound_17 rfl ?_
  exact P.vret rfl dX2_addFound_20 (by rw [← wrL_app])


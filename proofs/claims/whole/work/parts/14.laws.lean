-- Laws: by program (wip/whole/spec14.py)
set_option maxRecDepth 20000 in
theorem s_alone {G : GG} {f : Nat → Nat → Nat} {l : Nat → Nat → Int64} {D : DB} (hV : RV f l D) (hD : DW D) {W : LB} (hL : LV f l W) {w r : Nat} (hw : w < 10) (hW : LOK W w) (hr : r < 12) : Spec G mX2_quarrelsAlone [.ref (ad G 40), .ref (ad G (43 + w)), .ref (ad G (4 + 3 * r))] 114 (f, l, refT) (some (.int (bI (alone D W w r)))) 114 (f, l, refT) := by
  have hR := hD.1
  obtain ⟨hk, ht, ha, hb, hu, hf⟩ := hW
  refine Spec.of ok_X2_quarrelsAlone.1 ⟨Nat.le_refl _, Nat.le_refl _⟩ (Nat.le_of_ble_eq_true rfl) ?_
  show Pm G RX2 cX2_quarrelsAlone 5 (KM G mX2_quarrelsAlone 114 114 (some (.int (bI (alone D W w r)))) (f, l, refT)) 0 [some (.ref (ad G 40)), some (.ref (ad G (43 + w))), some (.ref (ad G (4 + 3 * r))), none, none] [] f l
  refine P.aload_n dX2_quarrelsAlone_0 rfl rfl ?_
  refine g_X1_kind (ly_law (r := w) (by omega)) (by omega) fl_X2_30 dX2_quarrelsAlone_1 ?_
  refine Pm.topn (b := W.2.1 w 0) ((hL.2.1 w (by omega) 0)) ?_
  refine P.iconst dX2_quarrelsAlone_4 ic_3 ?_
  refine P.icmp_ne_n (tgt := 26) dX2_quarrelsAlone_5 (by decide) (by omega) (by omega) (fun c_5 => ?_) (fun c_5 => ?_)
  · refine P.aload_n dX2_quarrelsAlone_26 rfl rfl ?_
    refine g_X6_numbers (q := 5 + 3 * r) (ly_row (r := r) (by omega)) (by omega) (rt_num (r := r) (by omega)) fl_X2_87 dX2_quarrelsAlone_27 ?_
    refine P.aload_n dX2_quarrelsAlone_30 rfl rfl ?_
    refine g_X1_first (ly_law (r := w) (by omega)) (by omega) fl_X2_84 dX2_quarrelsAlone_31 ?_
    refine Pm.topn (b := W.2.1 w 2) ((hL.2.1 w (by omega) 2)) ?_
    refine a_la (ly_num (r := r) (by omega)) (by omega) (by omega) (by decide) dX2_quarrelsAlone_34 ?_
    refine Pm.topl (b := D.2.2.2 r (W.2.1 w 2)) ((hV.2.2.2 r (by omega) (W.2.1 w 2))) ?_
    refine P.lstore_n dX2_quarrelsAlone_35 rfl (by decide) (Nat.le_of_ble_eq_true rfl) ?_
    refine P.aload_n dX2_quarrelsAlone_36 rfl rfl ?_
    refine g_X6_there (q := 6 + 3 * r) (ly_row (r := r) (by omega)) (by omega) (rt_the (r := r) (by omega)) fl_X2_80 dX2_quarrelsAlone_37 ?_
    refine P.aload_n dX2_quarrelsAlone_40 rfl rfl ?_
    refine g_X1_first (ly_law (r := w) (by omega)) (by omega) fl_X2_84 dX2_quarrelsAlone_41 ?_
    refine Pm.topn (b := W.2.1 w 2) ((hL.2.1 w (by omega) 2)) ?_
    refine a_za (ly_the (r := r) (by omega)) (by omega) (by omega) (by decide) dX2_quarrelsAlone_44 ?_
    refine Pm.topn (b := D.2.2.1 r (W.2.1 w 2)) ((hV.2.2.1 r (by omega) (W.2.1 w 2))) ?_
    refine P.if_eq_n (tgt := 70) dX2_quarrelsAlone_45 (by decide) (hD.2.2.1 _ _) (fun c_45 => ?_) (fun c_45 => ?_)
    · refine P.iconst dX2_quarrelsAlone_70 ic_0 ?_
      exact P.bret rfl dX2_quarrelsAlone_71 (by rw [show alone D W w r = false from by simp [alone, Int64.not_lt, Int64.not_le, c_5, c_45]]; rfl) rfl
    refine P.lload_n dX2_quarrelsAlone_48 rfl rfl ?_
    refine P.aload_n dX2_quarrelsAlone_49 rfl rfl ?_
    refine g_X1_c (ly_law (r := w) (by omega)) (by omega) fl_X2_91 dX2_quarrelsAlone_50 ?_
    refine Pm.topl (b := W.2.2 w 5) ((hL.2.2 w (by omega) 5)) ?_
    refine P.lc_lt (tgt := 66) dX2_quarrelsAlone_53 dX2_quarrelsAlone_54 (by decide) (fun c_53 => ?_) (fun c_53 => ?_)
    · refine P.iconst dX2_quarrelsAlone_66 ic_1 ?_
      refine P.goto (tgt := 71) dX2_quarrelsAlone_67 (by decide) ?_
      exact P.bret rfl dX2_quarrelsAlone_71 (by rw [show alone D W w r = true from by simp [alone, Int64.not_lt, Int64.not_le, c_5, c_45, c_53, (Int64.not_le.mpr c_53)]]; rfl) rfl
    refine P.lload_n dX2_quarrelsAlone_57 rfl rfl ?_
    refine P.aload_n dX2_quarrelsAlone_58 rfl rfl ?_
    refine g_X1_d (ly_law (r := w) (by omega)) (by omega) fl_X2_95 dX2_quarrelsAlone_59 ?_
    refine Pm.topl (b := W.2.2 w 6) ((hL.2.2 w (by omega) 6)) ?_
    refine P.lc_le (tgt := 70) dX2_quarrelsAlone_62 dX2_quarrelsAlone_63 (by decide) (fun c_62 => ?_) (fun c_62 => ?_)
    · refine P.iconst dX2_quarrelsAlone_70 ic_0 ?_
      exact P.bret rfl dX2_quarrelsAlone_71 (by rw [show alone D W w r = false from by simp [alone, Int64.not_lt, Int64.not_le, c_5, c_45, c_53, (Int64.not_lt.mpr c_53), c_62, (Int64.not_lt.mpr c_62)]]; rfl) rfl
    refine P.iconst dX2_quarrelsAlone_66 ic_1 ?_
    refine P.goto (tgt := 71) dX2_quarrelsAlone_67 (by decide) ?_
    exact P.bret rfl dX2_quarrelsAlone_71 (by rw [show alone D W w r = true from by simp [alone, Int64.not_lt, Int64.not_le, c_5, c_45, c_53, (Int64.not_lt.mpr c_53), c_62, (Int64.not_le.mpr c_62)]]; rfl) rfl
  refine P.aload_n dX2_quarrelsAlone_8 rfl rfl ?_
  refine g_X6_there (q := 6 + 3 * r) (ly_row (r := r) (by omega)) (by omega) (rt_the (r := r) (by omega)) fl_X2_80 dX2_quarrelsAlone_9 ?_
  refine P.aload_n dX2_quarrelsAlone_12 rfl rfl ?_
  refine g_X1_first (ly_law (r := w) (by omega)) (by omega) fl_X2_84 dX2_quarrelsAlone_13 ?_
  refine Pm.topn (b := W.2.1 w 2) ((hL.2.1 w (by omega) 2)) ?_
  refine a_za (ly_the (r := r) (by omega)) (by omega) (by omega) (by decide) dX2_quarrelsAlone_16 ?_
  refine Pm.topn (b := D.2.2.1 r (W.2.1 w 2)) ((hV.2.2.1 r (by omega) (W.2.1 w 2))) ?_
  refine P.if_ne_n (tgt := 24) dX2_quarrelsAlone_17 (by decide) (hD.2.2.1 _ _) (fun c_17 => ?_) (fun c_17 => ?_)
  · refine P.iconst dX2_quarrelsAlone_24 ic_0 ?_
    exact P.bret rfl dX2_quarrelsAlone_25 (by rw [show alone D W w r = false from by simp [alone, Int64.not_lt, Int64.not_le, c_5, c_17]]; rfl) rfl
  refine P.iconst dX2_quarrelsAlone_20 ic_1 ?_
  refine P.goto (tgt := 25) dX2_quarrelsAlone_21 (by decide) ?_
  exact P.bret rfl dX2_quarrelsAlone_25 (by rw [show alone D W w r = true from by simp [alone, Int64.not_lt, Int64.not_le, c_5, c_17]]; rfl) rfl

set_option maxRecDepth 20000 in
theorem s_near {G : GG} {f : Nat → Nat → Nat} {l : Nat → Nat → Int64} {v u c : Int64} : Spec G mX2_areNearer [.ref (ad G 40), .long v, .long u, .long c] 114 (f, l, refT) (some (.int (bI (near v u c)))) 114 (f, l, refT) := by
  refine Spec.of ok_X2_areNearer.1 ⟨Nat.le_refl _, Nat.le_refl _⟩ (Nat.le_of_ble_eq_true rfl) ?_
  show Pm G RX2 cX2_areNearer 9 (KM G mX2_areNearer 114 114 (some (.int (bI (near v u c)))) (f, l, refT)) 0 [some (.ref (ad G 40)), some (.long v), none, some (.long u), none, some (.long c), none, none, none] [] f l
  refine P.lload_n dX2_areNearer_0 rfl rfl ?_
  refine P.lload_n dX2_areNearer_1 rfl rfl ?_
  refine P.lc_le (tgt := 12) dX2_areNearer_2 dX2_areNearer_3 (by decide) (fun c_2 => ?_) (fun c_2 => ?_)
  · refine P.lload_n dX2_areNearer_12 rfl rfl ?_
    refine P.lload_n dX2_areNearer_13 rfl rfl ?_
    refine P.lsub dX2_areNearer_14 ?_
    refine P.lstore dX2_areNearer_15 (by decide) (Nat.le_of_ble_eq_true rfl) ?_
    refine P.lload dX2_areNearer_17 rfl ?_
    refine P.lconst (v := 0) dX2_areNearer_19 rfl ?_
    refine P.lc_lt (tgt := 36) dX2_areNearer_20 dX2_areNearer_21 (by decide) (fun c_20 => ?_) (fun c_20 => ?_)
    · refine P.iconst dX2_areNearer_36 ic_0 ?_
      exact P.bret rfl dX2_areNearer_37 (by rw [show near v u c = false from by simp [near, dist, Int64.not_lt, Int64.not_le, c_2, (Int64.not_lt.mpr c_2), c_20, (Int64.not_le.mpr c_20)]]; rfl) rfl
    refine P.lload dX2_areNearer_24 rfl ?_
    refine P.lload dX2_areNearer_26 rfl ?_
    refine P.lc_ge (tgt := 36) dX2_areNearer_28 dX2_areNearer_29 (by decide) (fun c_28 => ?_) (fun c_28 => ?_)
    · refine P.iconst dX2_areNearer_36 ic_0 ?_
      exact P.bret rfl dX2_areNearer_37 (by rw [show near v u c = false from by simp [near, dist, Int64.not_lt, Int64.not_le, c_2, (Int64.not_lt.mpr c_2), c_20, (Int64.not_lt.mpr c_20), c_28, (Int64.not_lt.mpr c_28)]]; rfl) rfl
    refine P.iconst dX2_areNearer_32 ic_1 ?_
    refine P.goto (tgt := 37) dX2_areNearer_33 (by decide) ?_
    exact P.bret rfl dX2_areNearer_37 (by rw [show near v u c = true from by simp [near, dist, c_2, (Int64.not_lt.mpr c_2), c_20, (Int64.not_lt.mpr c_20), c_28, (Int64.not_le.mpr c_28)]]; rfl) rfl
  refine P.lload_n dX2_areNearer_6 rfl rfl ?_
  refine P.lload_n dX2_areNearer_7 rfl rfl ?_
  refine P.lsub dX2_areNearer_8 ?_
  refine P.goto (tgt := 15) dX2_areNearer_9 (by decide) ?_
  refine P.lstore dX2_areNearer_15 (by decide) (Nat.le_of_ble_eq_true rfl) ?_
  refine P.lload dX2_areNearer_17 rfl ?_
  refine P.lconst (v := 0) dX2_areNearer_19 rfl ?_
  refine P.lc_lt (tgt := 36) dX2_areNearer_20 dX2_areNearer_21 (by decide) (fun c_20 => ?_) (fun c_20 => ?_)
  · refine P.iconst dX2_areNearer_36 ic_0 ?_
    exact P.bret rfl dX2_areNearer_37 (by rw [show near v u c = false from by simp [near, dist, Int64.not_lt, Int64.not_le, c_2, (Int64.not_le.mpr c_2), c_20, (Int64.not_le.mpr c_20)]]; rfl) rfl
  refine P.lload dX2_areNearer_24 rfl ?_
  refine P.lload dX2_areNearer_26 rfl ?_
  refine P.lc_ge (tgt := 36) dX2_areNearer_28 dX2_areNearer_29 (by decide) (fun c_28 => ?_) (fun c_28 => ?_)
  · refine P.iconst dX2_areNearer_36 ic_0 ?_
    exact P.bret rfl dX2_areNearer_37 (by rw [show near v u c = false from by simp [near, dist, Int64.not_lt, Int64.not_le, c_2, (Int64.not_le.mpr c_2), c_20, (Int64.not_lt.mpr c_20), c_28, (Int64.not_lt.mpr c_28)]]; rfl) rfl
  refine P.iconst dX2_areNearer_32 ic_1 ?_
  refine P.goto (tgt := 37) dX2_areNearer_33 (by decide) ?_
  exact P.bret rfl dX2_areNearer_37 (by rw [show near v u c = true from by simp [near, dist, c_2, (Int64.not_le.mpr c_2), c_20, (Int64.not_lt.mpr c_20), c_28, (Int64.not_le.mpr c_28)]]; rfl) rfl

set_option maxRecDepth 20000 in
theorem s_together {G : GG} {f : Nat → Nat → Nat} {l : Nat → Nat → Int64} {D : DB} (hV : RV f l D) (hD : DW D) {W : LB} (hL : LV f l W) {w r q : Nat} (hw : w < 10) (hW : LOK W w) (hr : r < 12) (hq : q < 12) : Spec G mX2_quarrelTogether [.ref (ad G 40), .ref (ad G (43 + w)), .ref (ad G (4 + 3 * r)), .ref (ad G (4 + 3 * q))] 114 (f, l, refT) (some (.int (bI (together D W w r q)))) 114 (f, l, refT) := by
  have hR := hD.1
  obtain ⟨hk, ht, ha, hb, hu, hf⟩ := hW
  refine Spec.of ok_X2_quarrelTogether.1 ⟨Nat.le_refl _, Nat.le_refl _⟩ (Nat.le_of_ble_eq_true rfl) ?_
  show Pm G RX2 cX2_quarrelTogether 8 (KM G mX2_quarrelTogether 114 114 (some (.int (bI (together D W w r q)))) (f, l, refT)) 0 [some (.ref (ad G 40)), some (.ref (ad G (43 + w))), some (.ref (ad G (4 + 3 * r))), some (.ref (ad G (4 + 3 * q))), none, none, none, none] [] f l
  refine P.aload_n dX2_quarrelTogether_0 rfl rfl ?_
  refine g_X6_numbers (q := 5 + 3 * r) (ly_row (r := r) (by omega)) (by omega) (rt_num (r := r) (by omega)) fl_X2_87 dX2_quarrelTogether_1 ?_
  refine P.aload_n dX2_quarrelTogether_4 rfl rfl ?_
  refine g_X1_first (ly_law (r := w) (by omega)) (by omega) fl_X2_84 dX2_quarrelTogether_5 ?_
  refine Pm.topn (b := W.2.1 w 2) ((hL.2.1 w (by omega) 2)) ?_
  refine a_la (ly_num (r := r) (by omega)) (by omega) (by omega) (by decide) dX2_quarrelTogether_8 ?_
  refine Pm.topl (b := D.2.2.2 r (W.2.1 w 2)) ((hV.2.2.2 r (by omega) (W.2.1 w 2))) ?_
  refine P.aload_n dX2_quarrelTogether_9 rfl rfl ?_
  refine g_X6_numbers (q := 5 + 3 * q) (ly_row (r := q) (by omega)) (by omega) (rt_num (r := q) (by omega)) fl_X2_87 dX2_quarrelTogether_10 ?_
  refine P.aload_n dX2_quarrelTogether_13 rfl rfl ?_
  refine g_X1_first (ly_law (r := w) (by omega)) (by omega) fl_X2_84 dX2_quarrelTogether_14 ?_
  refine Pm.topn (b := W.2.1 w 2) ((hL.2.1 w (by omega) 2)) ?_
  refine a_la (ly_num (r := q) (by omega)) (by omega) (by omega) (by decide) dX2_quarrelTogether_17 ?_
  refine Pm.topl (b := D.2.2.2 q (W.2.1 w 2)) ((hV.2.2.2 q (by omega) (W.2.1 w 2))) ?_
  refine P.lc_eq (tgt := 24) dX2_quarrelTogether_18 dX2_quarrelTogether_19 (by decide) (fun c_18 => ?_) (fun c_18 => ?_)
  · refine P.aload_n dX2_quarrelTogether_24 rfl rfl ?_
    refine g_X6_numbers (q := 5 + 3 * r) (ly_row (r := r) (by omega)) (by omega) (rt_num (r := r) (by omega)) fl_X2_87 dX2_quarrelTogether_25 ?_
    refine P.aload_n dX2_quarrelTogether_28 rfl rfl ?_
    refine g_X1_second (ly_law (r := w) (by omega)) (by omega) fl_X2_105 dX2_quarrelTogether_29 ?_
    refine Pm.topn (b := W.2.1 w 3) ((hL.2.1 w (by omega) 3)) ?_
    refine a_la (ly_num (r := r) (by omega)) (by omega) (by omega) (by decide) dX2_quarrelTogether_32 ?_
    refine Pm.topl (b := D.2.2.2 r (W.2.1 w 3)) ((hV.2.2.2 r (by omega) (W.2.1 w 3))) ?_
    refine P.lstore dX2_quarrelTogether_33 (by decide) (Nat.le_of_ble_eq_true rfl) ?_
    refine P.aload_n dX2_quarrelTogether_35 rfl rfl ?_
    refine g_X6_numbers (q := 5 + 3 * q) (ly_row (r := q) (by omega)) (by omega) (rt_num (r := q) (by omega)) fl_X2_87 dX2_quarrelTogether_36 ?_
    refine P.aload_n dX2_quarrelTogether_39 rfl rfl ?_
    refine g_X1_second (ly_law (r := w) (by omega)) (by omega) fl_X2_105 dX2_quarrelTogether_40 ?_
    refine Pm.topn (b := W.2.1 w 3) ((hL.2.1 w (by omega) 3)) ?_
    refine a_la (ly_num (r := q) (by omega)) (by omega) (by omega) (by decide) dX2_quarrelTogether_43 ?_
    refine Pm.topl (b := D.2.2.2 q (W.2.1 w 3)) ((hV.2.2.2 q (by omega) (W.2.1 w 3))) ?_
    refine P.lstore dX2_quarrelTogether_44 (by decide) (Nat.le_of_ble_eq_true rfl) ?_
    refine P.aload_n dX2_quarrelTogether_46 rfl rfl ?_
    refine g_X1_kind (ly_law (r := w) (by omega)) (by omega) fl_X2_30 dX2_quarrelTogether_47 ?_
    refine Pm.topn (b := W.2.1 w 0) ((hL.2.1 w (by omega) 0)) ?_
    refine P.if_ne_n (tgt := 69) dX2_quarrelTogether_50 (by decide) (by omega) (fun c_50 => ?_) (fun c_50 => ?_)
    · refine P.aload_n dX2_quarrelTogether_69 rfl rfl ?_
      refine P.lload dX2_quarrelTogether_70 rfl ?_
      refine P.lload dX2_quarrelTogether_72 rfl ?_
      refine P.aload_n dX2_quarrelTogether_74 rfl rfl ?_
      refine g_X1_c (ly_law (r := w) (by omega)) (by omega) fl_X2_91 dX2_quarrelTogether_75 ?_
      refine Pm.topl (b := W.2.2 w 5) ((hL.2.2 w (by omega) 5)) ?_
      refine P.callV (As := [.long (D.2.2.2 r (W.2.1 w 3)), .long (D.2.2.2 q (W.2.1 w 3)), .long (W.2.2 w 5)]) (rest := []) s_near ok_X2_areNearer ⟨Nat.le_of_ble_eq_true rfl, Nat.le_of_ble_eq_true rfl, Nat.le_refl _, Nat.le_refl _⟩ rfl ml_X2_116 ly_40 (by decide) (by decide) rfl rfl (Nat.le_of_ble_eq_true rfl) dX2_quarrelTogether_78 ?_
      exact P.bret rfl dX2_quarrelTogether_81 (by rw [show together D W w r q = near (D.2.2.2 r (W.2.1 w 3)) (D.2.2.2 q (W.2.1 w 3)) (W.2.2 w 5) from by simp [together, c_18, c_50]]) rfl
    refine P.lload dX2_quarrelTogether_53 rfl ?_
    refine P.lload dX2_quarrelTogether_55 rfl ?_
    refine P.lc_eq (tgt := 65) dX2_quarrelTogether_57 dX2_quarrelTogether_58 (by decide) (fun c_57 => ?_) (fun c_57 => ?_)
    · refine P.iconst dX2_quarrelTogether_65 ic_0 ?_
      refine P.goto (tgt := 81) dX2_quarrelTogether_66 (by decide) ?_
      exact P.bret rfl dX2_quarrelTogether_81 (by rw [show together D W w r q = false from by simp [together, Int64.not_lt, Int64.not_le, c_18, c_50, c_57]]; rfl) rfl
    refine P.iconst dX2_quarrelTogether_61 ic_1 ?_
    refine P.goto (tgt := 81) dX2_quarrelTogether_62 (by decide) ?_
    exact P.bret rfl dX2_quarrelTogether_81 (by rw [show together D W w r q = true from by simp [together, Int64.not_lt, Int64.not_le, c_18, c_50, c_57]]; rfl) rfl
  refine P.iconst dX2_quarrelTogether_22 ic_0 ?_
  exact P.bret rfl dX2_quarrelTogether_23 (by rw [show together D W w r q = false from by simp [together, Int64.not_lt, Int64.not_le, c_18]]; rfl) rfl

set_option maxRecDepth 20000 in
theorem s_addFound {G : GG} {f : Nat → Nat → Nat} {l : Nat → Nat → Int64} {L : List Nat} {s : Nat} (hlen : L.length < 4096) : Spec G mX2_addFound [.ref (ad G 40), .int (nI s)] 114 (wrL f L, l, refT) none 114 (wrL f (L ++ [s]), l, refT) := by
  refine Spec.of ok_X2_addFound.1 ⟨Nat.le_refl _, Nat.le_refl _⟩ (Nat.le_of_ble_eq_true rfl) ?_
  show Pm G RX2 cX2_addFound 2 (KM G mX2_addFound 114 114 none (wrL f (L ++ [s]), l, refT)) 0 [some (.ref (ad G 40)), some (.int (nI s))] [] (wrL f L) l
  refine P.aload_n dX2_addFound_0 rfl rfl ?_
  refine g_X2_manyFound ly_40 (by decide) fl_X2_44 dX2_addFound_1 ?_
  refine Pm.topn (b := (L).length) ((wrL_len _ _)) ?_
  refine P.aload_n dX2_addFound_4 rfl rfl ?_
  refine g_X2_found (q := 42) ly_40 (by decide) (by decide) fl_X2_17 dX2_addFound_5 ?_
  refine n_ia ly_42 (by decide) dX2_addFound_8 ?_
  refine P.icmp_ge_n (tgt := 32) dX2_addFound_9 (by decide) (by omega) (by omega) (fun c_9 => ?_) (fun c_9 => ?_)
  · exfalso; omega
  refine P.aload_n dX2_addFound_12 rfl rfl ?_
  refine g_X2_found (q := 42) ly_40 (by decide) (by decide) fl_X2_17 dX2_addFound_13 ?_
  refine P.aload_n dX2_addFound_16 rfl rfl ?_
  refine g_X2_manyFound ly_40 (by decide) fl_X2_44 dX2_addFound_17 ?_
  refine Pm.topn (b := (L).length) ((wrL_len _ _)) ?_
  refine P.iload_n dX2_addFound_20 rfl rfl ?_
  refine s_ia (a := s) ly_42 (by decide) (by omega) (by decide) dX2_addFound_21 rfl ?_
  refine P.aload_n dX2_addFound_22 rfl rfl ?_
  refine P.dup dX2_addFound_23 rfl ?_
  refine g_X2_manyFound ly_40 (by decide) fl_X2_44 dX2_addFound_24 ?_
  refine Pm.topn (b := (L).length) ((uf_ne _ _ (Or.inl (by omega))).trans ((wrL_len _ _))) ?_
  refine P.iconst dX2_addFound_27 ic_1 ?_
  refine P.iadd_n dX2_addFound_28 (nI_add _ _) ?_
  refine p_X2_manyFound (a := (((L).length) + 1)) ly_40 (by decide) fl_X2_44 dX2_addFound_29 rfl ?_
  exact P.vret rfl dX2_addFound_32 (by rw [← wrL_app])

set_option maxRecDepth 20000 in
theorem s_leastS {G : GG} {f : Nat → Nat → Nat} {l : Nat → Nat → Int64} {D : DB} (hV : RV f l D) (hD : DW D) {W : LB} (hL : LV f l W) {w hi o : Nat} (hw : w < 10) (hW : LOK W w) (hr : hi < 12) (ho : o < 4096) : Spec G mX2_isLeastSum [.ref (ad G 40), .ref (ad G (43 + w)), .int (nI hi), .int (nI o)] 114 (f, l, refT) (some (.int (bI (leastS D W w hi o)))) 114 (f, l, refT) := by
  have hR := hD.1
  obtain ⟨hk, ht, ha, hb, hu, hf⟩ := hW
  refine Spec.of ok_X2_isLeastSum.1 ⟨Nat.le_refl _, Nat.le_refl _⟩ (Nat.le_of_ble_eq_true rfl) ?_
  show Pm G RX2 cX2_isLeastSum 13 (KM G mX2_isLeastSum 114 114 (some (.int (bI (leastS D W w hi o)))) (f, l, refT)) 0 [some (.ref (ad G 40)), some (.ref (ad G (43 + w))), some (.int (nI hi)), some (.int (nI o)), none, none, none, none, none, none, none, none, none] [] f l
  refine P.aload_n dX2_isLeastSum_0 rfl rfl ?_
  refine g_X1_c (ly_law (r := w) (by omega)) (by omega) fl_X2_91 dX2_isLeastSum_1 ?_
  refine Pm.topl (b := W.2.2 w 5) ((hL.2.2 w (by omega) 5)) ?_
  refine P.lstore dX2_isLeastSum_4 (by decide) (Nat.le_of_ble_eq_true rfl) ?_
  refine P.aload_n dX2_isLeastSum_6 rfl rfl ?_
  refine g_X2_rows (q := 2) ly_40 (by decide) (by decide) fl_X2_21 dX2_isLeastSum_7 ?_
  refine g_X7_list (q := 3) ly_2 (by decide) (by decide) fl_X2_66 dX2_isLeastSum_10 ?_
  refine P.iload_n dX2_isLeastSum_13 rfl rfl ?_
  refine a_r6 (q := 4 + 3 * hi) ly_3 (by decide) (by omega) (by decide) (rt_row (r := hi) (by omega)) dX2_isLeastSum_14 ?_
  refine g_X6_numbers (q := 5 + 3 * hi) (ly_row (r := hi) (by omega)) (by omega) (rt_num (r := hi) (by omega)) fl_X2_87 dX2_isLeastSum_15 ?_
  refine P.aload_n dX2_isLeastSum_18 rfl rfl ?_
  refine g_X1_second (ly_law (r := w) (by omega)) (by omega) fl_X2_105 dX2_isLeastSum_19 ?_
  refine Pm.topn (b := W.2.1 w 3) ((hL.2.1 w (by omega) 3)) ?_
  refine a_la (ly_num (r := hi) (by omega)) (by omega) (by omega) (by decide) dX2_isLeastSum_22 ?_
  refine Pm.topl (b := D.2.2.2 hi (W.2.1 w 3)) ((hV.2.2.2 hi (by omega) (W.2.1 w 3))) ?_
  refine P.lstore dX2_isLeastSum_23 (by decide) (Nat.le_of_ble_eq_true rfl) ?_
  refine P.iconst dX2_isLeastSum_25 ic_0 ?_
  refine P.istore dX2_isLeastSum_26 (by decide) ?_
  refine loop_up (M := fun (i : Nat) => (lsD D W w hi o i).1 = true → Pm G _ _ _ _ 28 [some (.ref (ad G 40)), some (.ref (ad G (43 + w))), some (.int (nI hi)), some (.int (nI o)), some (.long ((lsD D W w hi o i).2.1)), none, some (.long ((lsD D W w hi o i).2.2)), none, some (.int (nI i)), none, none, none, none] [] f l) (lo := 0) (N := hi) (by first | exact Nat.zero_le _ | omega) (fun i hi0 hi1 ihi => ?_) ?_ ?_
  · intro invi
    show Pm G _ _ _ _ 28 [some (.ref (ad G 40)), some (.ref (ad G (43 + w))), some (.int (nI hi)), some (.int (nI o)), some (.long ((lsD D W w hi o i).2.1)), none, some (.long ((lsD D W w hi o i).2.2)), none, some (.int (nI i)), none, none, none, none] [] f l
    refine P.iload dX2_isLeastSum_28 rfl ?_
    refine P.iload_n dX2_isLeastSum_30 rfl rfl ?_
    refine P.icmp_ge_n (tgt := 120) dX2_isLeastSum_31 (by decide) (by omega) (by omega) (fun c_31 => ?_) (fun c_31 => ?_)
    · exfalso; omega
    refine P.iload_n dX2_isLeastSum_34 rfl rfl ?_
    refine P.iload dX2_isLeastSum_35 rfl ?_
    refine P.callSN (As := [.int (nI o), .int (nI i)]) (rest := []) (s_isIn (s := o) (r := i) (by omega) (by omega)) ok_X9_isIn ⟨Nat.le_of_ble_eq_true rfl, Nat.le_of_ble_eq_true rfl, Nat.le_refl _, Nat.le_refl _⟩ rfl mn_X2_62 rfl (Nat.le_of_ble_eq_true rfl) dX2_isLeastSum_37 ?_
    refine P.if_eq_b (tgt := 114) dX2_isLeastSum_40 (by decide) (fun c_40 => ?_) (fun c_40 => ?_)
    · refine P.iinc dX2_isLeastSum_114 rfl (inc1 _) (by decide) ?_
      refine P.goto (tgt := 28) dX2_isLeastSum_117 (by decide) ?_
      show Pm G _ _ _ _ 28 [some (.ref (ad G 40)), some (.ref (ad G (43 + w))), some (.int (nI hi)), some (.int (nI o)), some (.long ((lsD D W w hi o i).2.1)), none, some (.long ((lsD D W w hi o i).2.2)), none, some (.int (nI (i + 1))), none, none, none, none] [] f l
      exact Pm.to (ihi (by simp [lsD_s, invi, c_31, c_40])) (by simp [lle, lsD_s, invi, c_31, c_40]) rfl rfl rfl
    refine P.aload_n dX2_isLeastSum_43 rfl rfl ?_
    refine g_X2_rows (q := 2) ly_40 (by decide) (by decide) fl_X2_21 dX2_isLeastSum_44 ?_
    refine g_X7_list (q := 3) ly_2 (by decide) (by decide) fl_X2_66 dX2_isLeastSum_47 ?_
    refine P.iload dX2_isLeastSum_50 rfl ?_
    refine a_r6 (q := 4 + 3 * i) ly_3 (by decide) (by omega) (by decide) (rt_row (r := i) (by omega)) dX2_isLeastSum_52 ?_
    refine g_X6_numbers (q := 5 + 3 * i) (ly_row (r := i) (by omega)) (by omega) (rt_num (r := i) (by omega)) fl_X2_87 dX2_isLeastSum_53 ?_
    refine P.aload_n dX2_isLeastSum_56 rfl rfl ?_
    refine g_X1_second (ly_law (r := w) (by omega)) (by omega) fl_X2_105 dX2_isLeastSum_57 ?_
    refine Pm.topn (b := W.2.1 w 3) ((hL.2.1 w (by omega) 3)) ?_
    refine a_la (ly_num (r := i) (by omega)) (by omega) (by omega) (by decide) dX2_isLeastSum_60 ?_
    refine Pm.topl (b := D.2.2.2 i (W.2.1 w 3)) ((hV.2.2.2 i (by omega) (W.2.1 w 3))) ?_
    refine P.lstore dX2_isLeastSum_61 (by decide) (Nat.le_of_ble_eq_true rfl) ?_
    refine P.lload dX2_isLeastSum_63 rfl ?_
    refine P.lload dX2_isLeastSum_65 rfl ?_
    refine P.lc_le (tgt := 76) dX2_isLeastSum_67 dX2_isLeastSum_68 (by decide) (fun c_67 => ?_) (fun c_67 => ?_)
    · refine P.lload dX2_isLeastSum_76 rfl ?_
      refine P.lstore dX2_isLeastSum_78 (by decide) (Nat.le_of_ble_eq_true rfl) ?_
      refine P.lload dX2_isLeastSum_80 rfl ?_
      refine P.lload dX2_isLeastSum_82 rfl ?_
      refine P.lc_le (tgt := 93) dX2_isLeastSum_84 dX2_isLeastSum_85 (by decide) (fun c_84 => ?_) (fun c_84 => ?_)
      · refine P.lload dX2_isLeastSum_93 rfl ?_
        refine P.lstore dX2_isLeastSum_95 (by decide) (Nat.le_of_ble_eq_true rfl) ?_
        refine P.lload dX2_isLeastSum_97 rfl ?_
        refine P.lload dX2_isLeastSum_99 rfl ?_
        refine P.lc_le (tgt := 107) dX2_isLeastSum_101 dX2_isLeastSum_102 (by decide) (fun c_101 => ?_) (fun c_101 => ?_)
        · refine P.lload dX2_isLeastSum_107 rfl ?_
          refine P.lload dX2_isLeastSum_109 rfl ?_
          refine P.lsub dX2_isLeastSum_111 ?_
          refine P.lstore dX2_isLeastSum_112 (by decide) (Nat.le_of_ble_eq_true rfl) ?_
          refine P.iinc dX2_isLeastSum_114 rfl (inc1 _) (by decide) ?_
          refine P.goto (tgt := 28) dX2_isLeastSum_117 (by decide) ?_
          show Pm G _ _ _ _ 28 [some (.ref (ad G 40)), some (.ref (ad G (43 + w))), some (.int (nI hi)), some (.int (nI o)), some (.long (((lsD D W w hi o i).2.1) - ((lsD D W w hi o i).2.2))), none, some (.long (D.2.2.2 i (W.2.1 w 3))), none, some (.int (nI (i + 1))), some (.long (D.2.2.2 i (W.2.1 w 3))), none, some (.long ((lsD D W w hi o i).2.2)), none] [] f l
          exact Pm.to (ihi (by simp [lsD_s, invi, c_31, c_40, c_67, (Int64.not_lt.mpr c_67), c_84, (Int64.not_lt.mpr c_84), c_101, (Int64.not_lt.mpr c_101)])) (by simp [lle, lsD_s, invi, c_31, c_40, c_67, (Int64.not_lt.mpr c_67), c_84, (Int64.not_lt.mpr c_84), c_101, (Int64.not_lt.mpr c_101)]) rfl rfl rfl
        refine P.iconst dX2_isLeastSum_105 ic_0 ?_
        exact P.bret rfl dX2_isLeastSum_106 (by rw [leastS_f (i := i + 1) (by simp [lsD_s, invi, c_31, c_40, c_67, (Int64.not_lt.mpr c_67), c_84, (Int64.not_lt.mpr c_84), c_101, (Int64.not_le.mpr c_101)]) (by omega)]; rfl) rfl
      · exfalso; first | exact absurd c_67 (Int64.not_le.mpr c_84) | exact absurd c_84 (Int64.not_le.mpr c_67)
    refine P.lload dX2_isLeastSum_71 rfl ?_
    refine P.goto (tgt := 78) dX2_isLeastSum_73 (by decide) ?_
    refine P.lstore dX2_isLeastSum_78 (by decide) (Nat.le_of_ble_eq_true rfl) ?_
    refine P.lload dX2_isLeastSum_80 rfl ?_
    refine P.lload dX2_isLeastSum_82 rfl ?_
    refine P.lc_le (tgt := 93) dX2_isLeastSum_84 dX2_isLeastSum_85 (by decide) (fun c_84 => ?_) (fun c_84 => ?_)
    · exfalso; first | exact absurd c_67 (Int64.not_le.mpr c_84) | exact absurd c_84 (Int64.not_le.mpr c_67)
    refine P.lload dX2_isLeastSum_88 rfl ?_
    refine P.goto (tgt := 95) dX2_isLeastSum_90 (by decide) ?_
    refine P.lstore dX2_isLeastSum_95 (by decide) (Nat.le_of_ble_eq_true rfl) ?_
    refine P.lload dX2_isLeastSum_97 rfl ?_
    refine P.lload dX2_isLeastSum_99 rfl ?_
    refine P.lc_le (tgt := 107) dX2_isLeastSum_101 dX2_isLeastSum_102 (by decide) (fun c_101 => ?_) (fun c_101 => ?_)
    · refine P.lload dX2_isLeastSum_107 rfl ?_
      refine P.lload dX2_isLeastSum_109 rfl ?_
      refine P.lsub dX2_isLeastSum_111 ?_
      refine P.lstore dX2_isLeastSum_112 (by decide) (Nat.le_of_ble_eq_true rfl) ?_
      refine P.iinc dX2_isLeastSum_114 rfl (inc1 _) (by decide) ?_
      refine P.goto (tgt := 28) dX2_isLeastSum_117 (by decide) ?_
      show Pm G _ _ _ _ 28 [some (.ref (ad G 40)), some (.ref (ad G (43 + w))), some (.int (nI hi)), some (.int (nI o)), some (.long (((lsD D W w hi o i).2.1) - (D.2.2.2 i (W.2.1 w 3)))), none, some (.long ((lsD D W w hi o i).2.2)), none, some (.int (nI (i + 1))), some (.long (D.2.2.2 i (W.2.1 w 3))), none, some (.long (D.2.2.2 i (W.2.1 w 3))), none] [] f l
      exact Pm.to (ihi (by simp [lsD_s, invi, c_31, c_40, c_67, (Int64.not_le.mpr c_67), c_84, (Int64.not_le.mpr c_84), c_101, (Int64.not_lt.mpr c_101)])) (by simp [lle, lsD_s, invi, c_31, c_40, c_67, (Int64.not_le.mpr c_67), c_84, (Int64.not_le.mpr c_84), c_101, (Int64.not_lt.mpr c_101)]) rfl rfl rfl
    refine P.iconst dX2_isLeastSum_105 ic_0 ?_
    exact P.bret rfl dX2_isLeastSum_106 (by rw [leastS_f (i := i + 1) (by simp [lsD_s, invi, c_31, c_40, c_67, (Int64.not_le.mpr c_67), c_84, (Int64.not_le.mpr c_84), c_101, (Int64.not_le.mpr c_101)]) (by omega)]; rfl) rfl
  · intro invi
    show Pm G _ _ _ _ 28 [some (.ref (ad G 40)), some (.ref (ad G (43 + w))), some (.int (nI hi)), some (.int (nI o)), some (.long ((lsD D W w hi o hi).2.1)), none, some (.long ((lsD D W w hi o hi).2.2)), none, some (.int (nI hi)), none, none, none, none] [] f l
    refine P.iload dX2_isLeastSum_28 rfl ?_
    refine P.iload_n dX2_isLeastSum_30 rfl rfl ?_
    refine P.icmp_ge_n (tgt := 120) dX2_isLeastSum_31 (by decide) (by omega) (by omega) (fun c_31 => ?_) (fun c_31 => ?_)
    · refine P.lload dX2_isLeastSum_120 rfl ?_
      refine P.lload dX2_isLeastSum_122 rfl ?_
      refine P.lc_le (tgt := 132) dX2_isLeastSum_124 dX2_isLeastSum_125 (by decide) (fun c_124 => ?_) (fun c_124 => ?_)
      · refine P.iconst dX2_isLeastSum_132 ic_0 ?_
        exact P.bret rfl dX2_isLeastSum_133 (by rw [show leastS D W w hi o = false from by simp [leastS, invi, c_31, c_124, (Int64.not_lt.mpr c_124)]]; rfl) rfl
      refine P.iconst dX2_isLeastSum_128 ic_1 ?_
      refine P.goto (tgt := 133) dX2_isLeastSum_129 (by decide) ?_
      exact P.bret rfl dX2_isLeastSum_133 (by rw [show leastS D W w hi o = true from by simp [leastS, invi, c_31, c_124, (Int64.not_le.mpr c_124)]]; rfl) rfl
    · exfalso; omega
  · rfl

set_option maxRecDepth 20000 in
theorem s_findSingles {G : GG} {f : Nat → Nat → Nat} {l : Nat → Nat → Int64} {D : DB} (hV : RV f l D) (hD : DW D) {W : LB} (hL : LV f l W) {w S : Nat} (hw : w < 10) (hW : LOK W w) (hS : S < 4096) : Spec G mX2_findSingles [.ref (ad G 40), .ref (ad G (43 + w)), .int (nI S)] 114 (wrL f ([]), l, refT) none 114 (wrL f (singL D W w S D.1), l, refT) := by
  have hR := hD.1
  have hW0 := hW
  obtain ⟨hk, ht, ha, hb, hu, hf⟩ := hW
  refine Spec.of ok_X2_findSingles.1 ⟨Nat.le_refl _, Nat.le_refl _⟩ (Nat.le_of_ble_eq_true rfl) ?_
  show Pm G RX2 cX2_findSingles 4 (KM G mX2_findSingles 114 114 none (wrL f (singL D W w S D.1), l, refT)) 0 [some (.ref (ad G 40)), some (.ref (ad G (43 + w))), some (.int (nI S)), none] [] (wrL f ([])) l
  refine P.iconst dX2_findSingles_0 ic_0 ?_
  refine P.istore_n dX2_findSingles_1 rfl (by decide) ?_
  refine loop_up (M := fun (i : Nat) => Pm G _ _ _ _ 2 [some (.ref (ad G 40)), some (.ref (ad G (43 + w))), some (.int (nI S)), some (.int (nI i))] [] (wrL f (singL D W w S i)) l) (lo := 0) (N := D.1) (by first | exact Nat.zero_le _ | omega) (fun i hi0 hi1 ihi => ?_) ?_
  · have hln := singL_len D W w S i
    show Pm G _ _ _ _ 2 [some (.ref (ad G 40)), some (.ref (ad G (43 + w))), some (.int (nI S)), some (.int (nI i))] [] (wrL f (singL D W w S i)) l
    refine P.iload_n dX2_findSingles_2 rfl rfl ?_
    refine P.aload_n dX2_findSingles_3 rfl rfl ?_
    refine g_X2_rows (q := 2) ly_40 (by decide) (by decide) fl_X2_21 dX2_findSingles_4 ?_
    refine g_X7_many ly_2 (by decide) fl_X2_59 dX2_findSingles_7 ?_
    refine Pm.topn (b := D.1) (((wrL_ne _ _ (by omega) (by omega)).trans hV.1)) ?_
    refine P.icmp_ge_n (tgt := 70) dX2_findSingles_10 (by decide) (by omega) (by omega) (fun c_10 => ?_) (fun c_10 => ?_)
    · exfalso; omega
    refine P.iload_n dX2_findSingles_13 rfl rfl ?_
    refine P.iload_n dX2_findSingles_14 rfl rfl ?_
    refine P.callSN (As := [.int (nI S), .int (nI i)]) (rest := []) (s_isIn (s := S) (r := i) (by omega) (by omega)) ok_X9_isIn ⟨Nat.le_of_ble_eq_true rfl, Nat.le_of_ble_eq_true rfl, Nat.le_refl _, Nat.le_refl _⟩ rfl mn_X2_62 rfl (Nat.le_of_ble_eq_true rfl) dX2_findSingles_15 ?_
    refine P.if_eq_b (tgt := 64) dX2_findSingles_18 (by decide) (fun c_18 => ?_) (fun c_18 => ?_)
    · refine P.iinc dX2_findSingles_64 rfl (inc1 _) (by decide) ?_
      refine P.goto (tgt := 2) dX2_findSingles_67 (by decide) ?_
      show Pm G _ _ _ _ 2 [some (.ref (ad G 40)), some (.ref (ad G (43 + w))), some (.int (nI S)), some (.int (nI (i + 1)))] [] (wrL f (singL D W w S i)) l
      exact Pm.to (ihi) (by simp [lle]) rfl (by simp [singL, fl_s, c_10, c_18]) rfl
    refine P.aload_n dX2_findSingles_21 rfl rfl ?_
    refine g_X2_rows (q := 2) ly_40 (by decide) (by decide) fl_X2_21 dX2_findSingles_22 ?_
    refine g_X7_list (q := 3) ly_2 (by decide) (by decide) fl_X2_66 dX2_findSingles_25 ?_
    refine P.iload_n dX2_findSingles_28 rfl rfl ?_
    refine a_r6 (q := 4 + 3 * i) ly_3 (by decide) (by omega) (by decide) (rt_row (r := i) (by omega)) dX2_findSingles_29 ?_
    refine g_X6_table (ly_row (r := i) (by omega)) (by omega) fl_X2_69 dX2_findSingles_30 ?_
    refine Pm.topn (b := D.2.1 i 2) (((wrL_ne _ _ (by omega) (by omega)).trans (hV.2.1 i (by omega) 2))) ?_
    refine P.aload_n dX2_findSingles_33 rfl rfl ?_
    refine g_X1_table (ly_law (r := w) (by omega)) (by omega) fl_X2_33 dX2_findSingles_34 ?_
    refine Pm.topn (b := W.2.1 w 1) (((wrL_ne _ _ (by omega) (by omega)).trans (hL.2.1 w (by omega) 1))) ?_
    refine P.icmp_ne_n (tgt := 64) dX2_findSingles_37 (by decide) (hD.2.1 _ _) (by omega) (fun c_37 => ?_) (fun c_37 => ?_)
    · refine P.iinc dX2_findSingles_64 rfl (inc1 _) (by decide) ?_
      refine P.goto (tgt := 2) dX2_findSingles_67 (by decide) ?_
      show Pm G _ _ _ _ 2 [some (.ref (ad G 40)), some (.ref (ad G (43 + w))), some (.int (nI S)), some (.int (nI (i + 1)))] [] (wrL f (singL D W w S i)) l
      exact Pm.to (ihi) (by simp [lle]) rfl (by simp [singL, fl_s, c_10, c_18, c_37]) rfl
    refine P.aload_n dX2_findSingles_40 rfl rfl ?_
    refine P.aload_n dX2_findSingles_41 rfl rfl ?_
    refine P.aload_n dX2_findSingles_42 rfl rfl ?_
    refine g_X2_rows (q := 2) ly_40 (by decide) (by decide) fl_X2_21 dX2_findSingles_43 ?_
    refine g_X7_list (q := 3) ly_2 (by decide) (by decide) fl_X2_66 dX2_findSingles_46 ?_
    refine P.iload_n dX2_findSingles_49 rfl rfl ?_
    refine a_r6 (q := 4 + 3 * i) ly_3 (by decide) (by omega) (by decide) (rt_row (r := i) (by omega)) dX2_findSingles_50 ?_
    refine P.callV (As := [.ref (ad G (43 + w)), .ref (ad G (4 + 3 * i))]) (rest := []) (s_alone (RV_wrL hV _) hD (LV_wrL hL _) hw hW0 (by omega)) ok_X2_quarrelsAlone ⟨Nat.le_of_ble_eq_true rfl, Nat.le_of_ble_eq_true rfl, Nat.le_refl _, Nat.le_refl _⟩ rfl ml_X2_72 ly_40 (by decide) (by decide) rfl rfl (Nat.le_of_ble_eq_true rfl) dX2_findSingles_51 ?_
    refine P.if_eq_b (tgt := 64) dX2_findSingles_54 (by decide) (fun c_54 => ?_) (fun c_54 => ?_)
    · refine P.iinc dX2_findSingles_64 rfl (inc1 _) (by decide) ?_
      refine P.goto (tgt := 2) dX2_findSingles_67 (by decide) ?_
      show Pm G _ _ _ _ 2 [some (.ref (ad G 40)), some (.ref (ad G (43 + w))), some (.int (nI S)), some (.int (nI (i + 1)))] [] (wrL f (singL D W w S i)) l
      exact Pm.to (ihi) (by simp [lle]) rfl (by simp [singL, fl_s, c_10, c_18, c_37, c_54]) rfl
    refine P.aload_n dX2_findSingles_57 rfl rfl ?_
    refine P.iconst dX2_findSingles_58 ic_1 ?_
    refine P.iload_n dX2_findSingles_59 rfl rfl ?_
    refine P.ishl dX2_findSingles_60 (n_bit (by omega)) ?_
    refine P.callV (As := [.int (nI (2 ^ i))]) (rest := []) (s_addFound (L := (singL D W w S i)) (s := (2 ^ i)) (by omega)) ok_X2_addFound ⟨Nat.le_of_ble_eq_true rfl, Nat.le_of_ble_eq_true rfl, Nat.le_refl _, Nat.le_refl _⟩ rfl ml_X2_76 ly_40 (by decide) (by decide) rfl rfl (Nat.le_of_ble_eq_true rfl) dX2_findSingles_61 ?_
    refine P.iinc dX2_findSingles_64 rfl (inc1 _) (by decide) ?_
    refine P.goto (tgt := 2) dX2_findSingles_67 (by decide) ?_
    show Pm G _ _ _ _ 2 [some (.ref (ad G 40)), some (.ref (ad G (43 + w))), some (.int (nI S)), some (.int (nI (i + 1)))] [] (wrL f ((singL D W w S i) ++ [(2 ^ i)])) l
    exact Pm.to (ihi) (by simp [lle]) rfl (by simp [singL, fl_s, c_10, c_18, c_37, c_54]) rfl
  · show Pm G _ _ _ _ 2 [some (.ref (ad G 40)), some (.ref (ad G (43 + w))), some (.int (nI S)), some (.int (nI D.1))] [] (wrL f (singL D W w S D.1)) l
    refine P.iload_n dX2_findSingles_2 rfl rfl ?_
    refine P.aload_n dX2_findSingles_3 rfl rfl ?_
    refine g_X2_rows (q := 2) ly_40 (by decide) (by decide) fl_X2_21 dX2_findSingles_4 ?_
    refine g_X7_many ly_2 (by decide) fl_X2_59 dX2_findSingles_7 ?_
    refine Pm.topn (b := D.1) (((wrL_ne _ _ (by omega) (by omega)).trans hV.1)) ?_
    refine P.icmp_ge_n (tgt := 70) dX2_findSingles_10 (by decide) (by omega) (by omega) (fun c_10 => ?_) (fun c_10 => ?_)
    · exact P.vret rfl dX2_findSingles_70 rfl
    · exfalso; omega

set_option maxRecDepth 20000 in
theorem s_findUnhelped {G : GG} {f : Nat → Nat → Nat} {l : Nat → Nat → Int64} {D : DB} (hV : RV f l D) (hD : DW D) {W : LB} (hL : LV f l W) {w S : Nat} (hw : w < 10) (hW : LOK W w) (hS : S < 4096) : Spec G mX2_findUnhelped [.ref (ad G 40), .ref (ad G (43 + w)), .int (nI S)] 114 (wrL f ([]), l, refT) none 114 (wrL f (unhL D W w S D.1), l, refT) := by
  have hR := hD.1
  have hW0 := hW
  obtain ⟨hk, ht, ha, hb, hu, hf⟩ := hW
  have hwc := withC_lt hD (W.2.1 w 1) (W.2.1 w 2) S
  refine Spec.of ok_X2_findUnhelped.1 ⟨Nat.le_refl _, Nat.le_refl _⟩ (Nat.le_of_ble_eq_true rfl) ?_
  show Pm G RX2 cX2_findUnhelped 7 (KM G mX2_findUnhelped 114 114 none (wrL f (unhL D W w S D.1), l, refT)) 0 [some (.ref (ad G 40)), some (.ref (ad G (43 + w))), some (.int (nI S)), none, none, none, none] [] (wrL f ([])) l
  refine P.aload_n dX2_findUnhelped_0 rfl rfl ?_
  refine g_X2_rows (q := 2) ly_40 (by decide) (by decide) fl_X2_21 dX2_findUnhelped_1 ?_
  refine P.aload_n dX2_findUnhelped_4 rfl rfl ?_
  refine g_X1_table (ly_law (r := w) (by omega)) (by omega) fl_X2_33 dX2_findUnhelped_5 ?_
  refine Pm.topn (b := W.2.1 w 1) (((wrL_ne _ _ (by omega) (by omega)).trans (hL.2.1 w (by omega) 1))) ?_
  refine P.aload_n dX2_findUnhelped_8 rfl rfl ?_
  refine g_X1_first (ly_law (r := w) (by omega)) (by omega) fl_X2_84 dX2_findUnhelped_9 ?_
  refine Pm.topn (b := W.2.1 w 2) (((wrL_ne _ _ (by omega) (by omega)).trans (hL.2.1 w (by omega) 2))) ?_
  refine P.iload_n dX2_findUnhelped_12 rfl rfl ?_
  refine P.callV (As := [.int (nI (W.2.1 w 1)), .int (nI (W.2.1 w 2)), .int (nI S)]) (rest := []) (s_withCell (RV_wrL hV _) hD (by omega) (by omega) (by omega)) ok_X7_withCell ⟨Nat.le_of_ble_eq_true rfl, Nat.le_of_ble_eq_true rfl, Nat.le_refl _, Nat.le_refl _⟩ rfl ml_X2_98 ly_2 (by decide) (by decide) rfl rfl (Nat.le_of_ble_eq_true rfl) dX2_findUnhelped_13 ?_
  refine P.istore_n dX2_findUnhelped_16 rfl (by decide) ?_
  refine P.iconst dX2_findUnhelped_17 ic_0 ?_
  refine P.istore dX2_findUnhelped_18 (by decide) ?_
  refine loop_up (M := fun (i : Nat) => Pm G _ _ _ _ 20 [some (.ref (ad G 40)), some (.ref (ad G (43 + w))), some (.int (nI S)), some (.int (nI (withC D (W.2.1 w 1) (W.2.1 w 2) S))), some (.int (nI i)), none, none] [] (wrL f (unhL D W w S i)) l) (lo := 0) (N := D.1) (by first | exact Nat.zero_le _ | omega) (fun i hi0 hi1 ihi => ?_) ?_
  · have hln := unhL_len D W w S i
    show Pm G _ _ _ _ 20 [some (.ref (ad G 40)), some (.ref (ad G (43 + w))), some (.int (nI S)), some (.int (nI (withC D (W.2.1 w 1) (W.2.1 w 2) S))), some (.int (nI i)), none, none] [] (wrL f (unhL D W w S i)) l
    refine P.iload dX2_findUnhelped_20 rfl ?_
    refine P.aload_n dX2_findUnhelped_22 rfl rfl ?_
    refine g_X2_rows (q := 2) ly_40 (by decide) (by decide) fl_X2_21 dX2_findUnhelped_23 ?_
    refine g_X7_many ly_2 (by decide) fl_X2_59 dX2_findUnhelped_26 ?_
    refine Pm.topn (b := D.1) (((wrL_ne _ _ (by omega) (by omega)).trans hV.1)) ?_
    refine P.icmp_ge_n (tgt := 96) dX2_findUnhelped_29 (by decide) (by omega) (by omega) (fun c_29 => ?_) (fun c_29 => ?_)
    · exfalso; omega
    refine P.iload_n dX2_findUnhelped_32 rfl rfl ?_
    refine P.iload dX2_findUnhelped_33 rfl ?_
    refine P.callSN (As := [.int (nI (withC D (W.2.1 w 1) (W.2.1 w 2) S)), .int (nI i)]) (rest := []) (s_isIn (s := (withC D (W.2.1 w 1) (W.2.1 w 2) S)) (r := i) (by omega) (by omega)) ok_X9_isIn ⟨Nat.le_of_ble_eq_true rfl, Nat.le_of_ble_eq_true rfl, Nat.le_refl _, Nat.le_refl _⟩ rfl mn_X2_62 rfl (Nat.le_of_ble_eq_true rfl) dX2_findUnhelped_35 ?_
    refine P.if_eq_b (tgt := 90) dX2_findUnhelped_38 (by decide) (fun c_38 => ?_) (fun c_38 => ?_)
    · refine P.iinc dX2_findUnhelped_90 rfl (inc1 _) (by decide) ?_
      refine P.goto (tgt := 20) dX2_findUnhelped_93 (by decide) ?_
      show Pm G _ _ _ _ 20 [some (.ref (ad G 40)), some (.ref (ad G (43 + w))), some (.int (nI S)), some (.int (nI (withC D (W.2.1 w 1) (W.2.1 w 2) S))), some (.int (nI (i + 1))), none, none] [] (wrL f (unhL D W w S i)) l
      exact Pm.to (ihi) (by simp [lle]) rfl (by simp [unhL, fl_s, c_29, c_38]) rfl
    refine P.aload_n dX2_findUnhelped_41 rfl rfl ?_
    refine g_X2_rows (q := 2) ly_40 (by decide) (by decide) fl_X2_21 dX2_findUnhelped_42 ?_
    refine g_X7_list (q := 3) ly_2 (by decide) (by decide) fl_X2_66 dX2_findUnhelped_45 ?_
    refine P.iload dX2_findUnhelped_48 rfl ?_
    refine a_r6 (q := 4 + 3 * i) ly_3 (by decide) (by omega) (by decide) (rt_row (r := i) (by omega)) dX2_findUnhelped_50 ?_
    refine g_X6_numbers (q := 5 + 3 * i) (ly_row (r := i) (by omega)) (by omega) (rt_num (r := i) (by omega)) fl_X2_87 dX2_findUnhelped_51 ?_
    refine P.aload_n dX2_findUnhelped_54 rfl rfl ?_
    refine g_X1_first (ly_law (r := w) (by omega)) (by omega) fl_X2_84 dX2_findUnhelped_55 ?_
    refine Pm.topn (b := W.2.1 w 2) (((wrL_ne _ _ (by omega) (by omega)).trans (hL.2.1 w (by omega) 2))) ?_
    refine a_la (ly_num (r := i) (by omega)) (by omega) (by omega) (by decide) dX2_findUnhelped_58 ?_
    refine Pm.topl (b := D.2.2.2 i (W.2.1 w 2)) ((hV.2.2.2 i (by omega) (W.2.1 w 2))) ?_
    refine P.lstore dX2_findUnhelped_59 (by decide) (Nat.le_of_ble_eq_true rfl) ?_
    refine P.aload_n dX2_findUnhelped_61 rfl rfl ?_
    refine g_X2_rows (q := 2) ly_40 (by decide) (by decide) fl_X2_21 dX2_findUnhelped_62 ?_
    refine P.aload_n dX2_findUnhelped_65 rfl rfl ?_
    refine g_X1_other (ly_law (r := w) (by omega)) (by omega) fl_X2_102 dX2_findUnhelped_66 ?_
    refine Pm.topn (b := W.2.1 w 4) (((wrL_ne _ _ (by omega) (by omega)).trans (hL.2.1 w (by omega) 4))) ?_
    refine P.aload_n dX2_findUnhelped_69 rfl rfl ?_
    refine g_X1_second (ly_law (r := w) (by omega)) (by omega) fl_X2_105 dX2_findUnhelped_70 ?_
    refine Pm.topn (b := W.2.1 w 3) (((wrL_ne _ _ (by omega) (by omega)).trans (hL.2.1 w (by omega) 3))) ?_
    refine P.lload dX2_findUnhelped_73 rfl ?_
    refine P.iload_n dX2_findUnhelped_75 rfl rfl ?_
    refine P.callV (As := [.int (nI (W.2.1 w 4)), .int (nI (W.2.1 w 3)), .long (D.2.2.2 i (W.2.1 w 2)), .int (nI S)]) (rest := []) (s_withNumber (RV_wrL hV _) hD (by omega) (by omega) (by omega)) ok_X7_withNumber ⟨Nat.le_of_ble_eq_true rfl, Nat.le_of_ble_eq_true rfl, Nat.le_refl _, Nat.le_refl _⟩ rfl ml_X2_108 ly_2 (by decide) (by decide) rfl rfl (Nat.le_of_ble_eq_true rfl) dX2_findUnhelped_76 ?_
    refine P.if_ne_n (tgt := 90) dX2_findUnhelped_79 (by decide) (by have := withN_lt hD (W.2.1 w 4) (W.2.1 w 3) (D.2.2.2 i (W.2.1 w 2)) S; omega) (fun c_79 => ?_) (fun c_79 => ?_)
    · refine P.iinc dX2_findUnhelped_90 rfl (inc1 _) (by decide) ?_
      refine P.goto (tgt := 20) dX2_findUnhelped_93 (by decide) ?_
      show Pm G _ _ _ _ 20 [some (.ref (ad G 40)), some (.ref (ad G (43 + w))), some (.int (nI S)), some (.int (nI (withC D (W.2.1 w 1) (W.2.1 w 2) S))), some (.int (nI (i + 1))), some (.long (D.2.2.2 i (W.2.1 w 2))), none] [] (wrL f (unhL D W w S i)) l
      exact Pm.to (ihi) (by simp [lle]) rfl (by simp [unhL, fl_s, c_29, c_38, c_79]) rfl
    refine P.aload_n dX2_findUnhelped_82 rfl rfl ?_
    refine P.iconst dX2_findUnhelped_83 ic_1 ?_
    refine P.iload dX2_findUnhelped_84 rfl ?_
    refine P.ishl dX2_findUnhelped_86 (n_bit (by omega)) ?_
    refine P.callV (As := [.int (nI (2 ^ i))]) (rest := []) (s_addFound (L := (unhL D W w S i)) (s := (2 ^ i)) (by omega)) ok_X2_addFound ⟨Nat.le_of_ble_eq_true rfl, Nat.le_of_ble_eq_true rfl, Nat.le_refl _, Nat.le_refl _⟩ rfl ml_X2_76 ly_40 (by decide) (by decide) rfl rfl (Nat.le_of_ble_eq_true rfl) dX2_findUnhelped_87 ?_
    refine P.iinc dX2_findUnhelped_90 rfl (inc1 _) (by decide) ?_
    refine P.goto (tgt := 20) dX2_findUnhelped_93 (by decide) ?_
    show Pm G _ _ _ _ 20 [some (.ref (ad G 40)), some (.ref (ad G (43 + w))), some (.int (nI S)), some (.int (nI (withC D (W.2.1 w 1) (W.2.1 w 2) S))), some (.int (nI (i + 1))), some (.long (D.2.2.2 i (W.2.1 w 2))), none] [] (wrL f ((unhL D W w S i) ++ [(2 ^ i)])) l
    exact Pm.to (ihi) (by simp [lle]) rfl (by simp [unhL, fl_s, c_29, c_38, c_79]) rfl
  · show Pm G _ _ _ _ 20 [some (.ref (ad G 40)), some (.ref (ad G (43 + w))), some (.int (nI S)), some (.int (nI (withC D (W.2.1 w 1) (W.2.1 w 2) S))), some (.int (nI D.1)), none, none] [] (wrL f (unhL D W w S D.1)) l
    refine P.iload dX2_findUnhelped_20 rfl ?_
    refine P.aload_n dX2_findUnhelped_22 rfl rfl ?_
    refine g_X2_rows (q := 2) ly_40 (by decide) (by decide) fl_X2_21 dX2_findUnhelped_23 ?_
    refine g_X7_many ly_2 (by decide) fl_X2_59 dX2_findUnhelped_26 ?_
    refine Pm.topn (b := D.1) (((wrL_ne _ _ (by omega) (by omega)).trans hV.1)) ?_
    refine P.icmp_ge_n (tgt := 96) dX2_findUnhelped_29 (by decide) (by omega) (by omega) (fun c_29 => ?_) (fun c_29 => ?_)
    · exact P.vret rfl dX2_findUnhelped_96 rfl
    · exfalso; omega


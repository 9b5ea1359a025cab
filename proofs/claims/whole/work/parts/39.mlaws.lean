-- the model's tests of laws: by program (wip/whole/spec39.py)
set_option maxRecDepth 20000 in
theorem t_lies0 {G : GG} {f : Nat → Nat → Nat} {l : Nat → Nat → Int64} {n : Nat} {v : Int64} (hk : n = 0) : Spec G mX10_lies [.int (nI n), .long v] 114 (f, l, refT) (some (.long (asLane n v))) 114 (f, l, refT) := by
  refine Spec.of ok_X10_lies.1 ⟨Nat.le_refl _, Nat.le_refl _⟩ (Nat.le_of_ble_eq_true rfl) ?_
  show Pm G RX10 cX10_lies 3 (KM G mX10_lies 114 114 (some (.long (asLane n v))) (f, l, refT)) 0 [some (.int (nI n)), some (.long v), none] [] f l
  refine P.iload_n dX10_lies_0 rfl rfl ?_
  subst hk
  refine P.tableIn (off := 35) (tgt := 36) dX10_lies_1 (by decide) (by decide) rfl (by decide) ?_
  refine P.lload_n dX10_lies_36 rfl rfl ?_
  refine P.l2i dX10_lies_37 ?_
  refine P.i2b dX10_lies_38 ?_
  refine P.i2l dX10_lies_39 rfl ?_
  exact P.lret rfl dX10_lies_40 rfl rfl

set_option maxRecDepth 20000 in
theorem t_lies1 {G : GG} {f : Nat → Nat → Nat} {l : Nat → Nat → Int64} {n : Nat} {v : Int64} (hk : n = 1) : Spec G mX10_lies [.int (nI n), .long v] 114 (f, l, refT) (some (.long (asLane n v))) 114 (f, l, refT) := by
  refine Spec.of ok_X10_lies.1 ⟨Nat.le_refl _, Nat.le_refl _⟩ (Nat.le_of_ble_eq_true rfl) ?_
  show Pm G RX10 cX10_lies 3 (KM G mX10_lies 114 114 (some (.long (asLane n v))) (f, l, refT)) 0 [some (.int (nI n)), some (.long v), none] [] f l
  refine P.iload_n dX10_lies_0 rfl rfl ?_
  subst hk
  refine P.tableIn (off := 40) (tgt := 41) dX10_lies_1 (by decide) (by decide) rfl (by decide) ?_
  refine P.lload_n dX10_lies_41 rfl rfl ?_
  refine P.l2i dX10_lies_42 ?_
  refine P.i2s dX10_lies_43 ?_
  refine P.i2l dX10_lies_44 rfl ?_
  exact P.lret rfl dX10_lies_45 rfl rfl

set_option maxRecDepth 20000 in
theorem t_lies2 {G : GG} {f : Nat → Nat → Nat} {l : Nat → Nat → Int64} {n : Nat} {v : Int64} (hk : n = 2) : Spec G mX10_lies [.int (nI n), .long v] 114 (f, l, refT) (some (.long (asLane n v))) 114 (f, l, refT) := by
  refine Spec.of ok_X10_lies.1 ⟨Nat.le_refl _, Nat.le_refl _⟩ (Nat.le_of_ble_eq_true rfl) ?_
  show Pm G RX10 cX10_lies 3 (KM G mX10_lies 114 114 (some (.long (asLane n v))) (f, l, refT)) 0 [some (.int (nI n)), some (.long v), none] [] f l
  refine P.iload_n dX10_lies_0 rfl rfl ?_
  subst hk
  refine P.tableIn (off := 45) (tgt := 46) dX10_lies_1 (by decide) (by decide) rfl (by decide) ?_
  refine P.lload_n dX10_lies_46 rfl rfl ?_
  refine P.l2i dX10_lies_47 ?_
  refine P.i2c dX10_lies_48 ?_
  refine P.i2l dX10_lies_49 rfl ?_
  exact P.lret rfl dX10_lies_50 rfl rfl

set_option maxRecDepth 20000 in
theorem t_lies3 {G : GG} {f : Nat → Nat → Nat} {l : Nat → Nat → Int64} {n : Nat} {v : Int64} (hk : n = 3) : Spec G mX10_lies [.int (nI n), .long v] 114 (f, l, refT) (some (.long (asLane n v))) 114 (f, l, refT) := by
  refine Spec.of ok_X10_lies.1 ⟨Nat.le_refl _, Nat.le_refl _⟩ (Nat.le_of_ble_eq_true rfl) ?_
  show Pm G RX10 cX10_lies 3 (KM G mX10_lies 114 114 (some (.long (asLane n v))) (f, l, refT)) 0 [some (.int (nI n)), some (.long v), none] [] f l
  refine P.iload_n dX10_lies_0 rfl rfl ?_
  subst hk
  refine P.tableIn (off := 50) (tgt := 51) dX10_lies_1 (by decide) (by decide) rfl (by decide) ?_
  refine P.lload_n dX10_lies_51 rfl rfl ?_
  refine P.l2i dX10_lies_52 ?_
  refine P.i2l dX10_lies_53 rfl ?_
  exact P.lret rfl dX10_lies_54 rfl rfl

set_option maxRecDepth 20000 in
theorem t_lies4 {G : GG} {f : Nat → Nat → Nat} {l : Nat → Nat → Int64} {n : Nat} {v : Int64} (hk : n = 4) : Spec G mX10_lies [.int (nI n), .long v] 114 (f, l, refT) (some (.long (asLane n v))) 114 (f, l, refT) := by
  refine Spec.of ok_X10_lies.1 ⟨Nat.le_refl _, Nat.le_refl _⟩ (Nat.le_of_ble_eq_true rfl) ?_
  show Pm G RX10 cX10_lies 3 (KM G mX10_lies 114 114 (some (.long (asLane n v))) (f, l, refT)) 0 [some (.int (nI n)), some (.long v), none] [] f l
  refine P.iload_n dX10_lies_0 rfl rfl ?_
  subst hk
  refine P.tableIn (off := 54) (tgt := 55) dX10_lies_1 (by decide) (by decide) rfl (by decide) ?_
  refine P.lload_n dX10_lies_55 rfl rfl ?_
  exact P.lret rfl dX10_lies_56 rfl rfl

set_option maxRecDepth 20000 in
theorem t_lies5 {G : GG} {f : Nat → Nat → Nat} {l : Nat → Nat → Int64} {n : Nat} {v : Int64} (hk : n = 5) : Spec G mX10_lies [.int (nI n), .long v] 114 (f, l, refT) (some (.long (asLane n v))) 114 (f, l, refT) := by
  refine Spec.of ok_X10_lies.1 ⟨Nat.le_refl _, Nat.le_refl _⟩ (Nat.le_of_ble_eq_true rfl) ?_
  show Pm G RX10 cX10_lies 3 (KM G mX10_lies 114 114 (some (.long (asLane n v))) (f, l, refT)) 0 [some (.int (nI n)), some (.long v), none] [] f l
  refine P.iload_n dX10_lies_0 rfl rfl ?_
  subst hk
  refine P.tableOut (tgt := 57) dX10_lies_1 (by decide) (by decide) ?_
  refine P.lload_n dX10_lies_57 rfl rfl ?_
  refine P.l2d dX10_lies_58 ?_
  refine P.d2l dX10_lies_59 ?_
  exact P.lret rfl dX10_lies_60 rfl rfl

theorem t_lies {G : GG} {f : Nat → Nat → Nat} {l : Nat → Nat → Int64} {n : Nat} {v : Int64} (hn : n < 6) : Spec G mX10_lies [.int (nI n), .long v] 114 (f, l, refT) (some (.long (asLane n v))) 114 (f, l, refT) := by
  rcases (show n = 0 ∨ n = 1 ∨ n = 2 ∨ n = 3 ∨ n = 4 ∨ n = 5 by omega) with h | h | h | h | h | h
  · exact t_lies0 h
  · exact t_lies1 h
  · exact t_lies2 h
  · exact t_lies3 h
  · exact t_lies4 h
  · exact t_lies5 h

set_option maxRecDepth 20000 in
theorem t_breakTwo0 {G : GG} {f : Nat → Nat → Nat} {l : Nat → Nat → Int64} {D : DB} {W : LB} {U : QB} {T : TB} {N : Nat} (hM : MV f l D W U T N) (hBW : BW D W U T) {w r q : Nat} (hw : w < W.1) (hr : r < 12) (hq : q < 12) (h0 : W.2.1 w 0 = 0) : Spec G mX10_breakTwo [.ref (ad G 86), .int (nI w), .int (nI r), .int (nI q)] 114 (f, l, refT) (some (.int (bI (br2 D W w r q)))) 114 (f, l, refT) := by
  obtain ⟨hD, hLW, hUW, hTW⟩ := id hBW
  have hR := hD.1
  have hW1 := hLW.1
  have hU1 := hUW.1
  have hJ1 := hUW.2.1
  obtain ⟨hw0, hw1, hw2, hw3, hw4, -⟩ := hLW.2 w hw
  have hk1 : W.2.1 w 0 ≠ 1 := by omega
  have hk3 : W.2.1 w 0 ≠ 3 := by omega
  have hk5 : W.2.1 w 0 ≠ 5 := by omega
  refine Spec.of ok_X10_breakTwo.1 ⟨Nat.le_refl _, Nat.le_refl _⟩ (Nat.le_of_ble_eq_true rfl) ?_
  show Pm G RX10 cX10_breakTwo 12 (KM G mX10_breakTwo 114 114 (some (.int (bI (br2 D W w r q)))) (f, l, refT)) 0 [some (.ref (ad G 86)), some (.int (nI w)), some (.int (nI r)), some (.int (nI q)), none, none, none, none, none, none, none, none] [] f l
  refine P.aload_n dX10_breakTwo_0 rfl rfl ?_
  refine g_X10_colA (q := 96) ly_86 (by decide) (by decide) fl_X10_39 dX10_breakTwo_1 ?_
  refine P.iload_n dX10_breakTwo_4 rfl rfl ?_
  refine a_ia ly_96 (by decide) (by omega) (by decide) dX10_breakTwo_5 ?_
  refine Pm.topn (b := W.2.1 w 2) ((hM.fst w (by omega))) ?_
  refine P.istore dX10_breakTwo_6 (by decide) ?_
  refine P.aload_n dX10_breakTwo_8 rfl rfl ?_
  refine g_X10_colB (q := 97) ly_86 (by decide) (by decide) fl_X10_42 dX10_breakTwo_9 ?_
  refine P.iload_n dX10_breakTwo_12 rfl rfl ?_
  refine a_ia ly_97 (by decide) (by omega) (by decide) dX10_breakTwo_13 ?_
  refine Pm.topn (b := W.2.1 w 3) ((hM.snd w (by omega) hk1 hk3)) ?_
  refine P.istore dX10_breakTwo_14 (by decide) ?_
  refine P.aload_n dX10_breakTwo_16 rfl rfl ?_
  refine P.iload_n dX10_breakTwo_17 rfl rfl ?_
  refine P.iload dX10_breakTwo_18 rfl ?_
  refine P.iload_n dX10_breakTwo_20 rfl rfl ?_
  refine P.iload dX10_breakTwo_21 rfl ?_
  refine P.callV (As := [.int (nI r), .int (nI (W.2.1 w 2)), .int (nI q), .int (nI (W.2.1 w 2))]) (rest := []) (t_isLike (r := r) (c := (W.2.1 w 2)) (q := q) (d := (W.2.1 w 2)) hM hBW (by omega) (by omega) (by omega) (by omega)) ok_X10_isLike ⟨Nat.le_of_ble_eq_true rfl, Nat.le_of_ble_eq_true rfl, Nat.le_refl _, Nat.le_refl _⟩ rfl ml_X10_150 ly_86 (by decide) (by decide) rfl rfl (Nat.le_of_ble_eq_true rfl) dX10_breakTwo_23 ?_
  refine P.if_eq_b (tgt := 59) dX10_breakTwo_26 (by decide) (fun c_26 => ?_) (fun c_26 => ?_)
  · refine P.iconst dX10_breakTwo_59 ic_0 ?_
    exact P.bret rfl dX10_breakTwo_60 (by rw [show br2 D W w r q = false from by simp [br2, near, dist, h0, c_26]]; rfl) rfl
  refine P.aload_n dX10_breakTwo_29 rfl rfl ?_
  refine g_X10_isThere (q := 92) ly_86 (by decide) (by decide) fl_X10_26 dX10_breakTwo_30 ?_
  refine P.bipush (v := nI 6) dX10_breakTwo_33 rfl ?_
  refine P.iload_n dX10_breakTwo_35 rfl rfl ?_
  refine P.imul_n dX10_breakTwo_36 (pk_mul _ _) ?_
  refine P.iload dX10_breakTwo_37 rfl ?_
  refine P.iadd_n dX10_breakTwo_39 (nI_add _ _) ?_
  refine a_za ly_92 (by decide) (by omega) (by decide) dX10_breakTwo_40 ?_
  refine Pm.topn (b := D.2.2.1 r (W.2.1 w 3)) ((hM.the r (by omega) (W.2.1 w 3) (by omega))) ?_
  refine P.if_eq_n (tgt := 59) dX10_breakTwo_41 (by decide) (hD.2.2.1 _ _) (fun c_41 => ?_) (fun c_41 => ?_)
  · refine P.iconst dX10_breakTwo_59 ic_0 ?_
    exact P.bret rfl dX10_breakTwo_60 (by rw [show br2 D W w r q = false from by simp [br2, near, dist, h0, c_26, c_41]]; rfl) rfl
  refine P.aload_n dX10_breakTwo_44 rfl rfl ?_
  refine g_X10_isThere (q := 92) ly_86 (by decide) (by decide) fl_X10_26 dX10_breakTwo_45 ?_
  refine P.bipush (v := nI 6) dX10_breakTwo_48 rfl ?_
  refine P.iload_n dX10_breakTwo_50 rfl rfl ?_
  refine P.imul_n dX10_breakTwo_51 (pk_mul _ _) ?_
  refine P.iload dX10_breakTwo_52 rfl ?_
  refine P.iadd_n dX10_breakTwo_54 (nI_add _ _) ?_
  refine a_za ly_92 (by decide) (by omega) (by decide) dX10_breakTwo_55 ?_
  refine Pm.topn (b := D.2.2.1 q (W.2.1 w 3)) ((hM.the q (by omega) (W.2.1 w 3) (by omega))) ?_
  refine P.if_ne_n (tgt := 61) dX10_breakTwo_56 (by decide) (hD.2.2.1 _ _) (fun c_56 => ?_) (fun c_56 => ?_)
  · refine P.aload_n dX10_breakTwo_61 rfl rfl ?_
    refine g_X10_told (q := 93) ly_86 (by decide) (by decide) fl_X10_29 dX10_breakTwo_62 ?_
    refine P.bipush (v := nI 6) dX10_breakTwo_65 rfl ?_
    refine P.iload_n dX10_breakTwo_67 rfl rfl ?_
    refine P.imul_n dX10_breakTwo_68 (pk_mul _ _) ?_
    refine P.iload dX10_breakTwo_69 rfl ?_
    refine P.iadd_n dX10_breakTwo_71 (nI_add _ _) ?_
    refine a_la ly_93 (by decide) (by omega) (by decide) dX10_breakTwo_72 ?_
    refine Pm.topl (b := D.2.2.2 r (W.2.1 w 3)) ((hM.num r (by omega) (W.2.1 w 3) (by omega))) ?_
    refine P.lstore dX10_breakTwo_73 (by decide) (Nat.le_of_ble_eq_true rfl) ?_
    refine P.aload_n dX10_breakTwo_75 rfl rfl ?_
    refine g_X10_told (q := 93) ly_86 (by decide) (by decide) fl_X10_29 dX10_breakTwo_76 ?_
    refine P.bipush (v := nI 6) dX10_breakTwo_79 rfl ?_
    refine P.iload_n dX10_breakTwo_81 rfl rfl ?_
    refine P.imul_n dX10_breakTwo_82 (pk_mul _ _) ?_
    refine P.iload dX10_breakTwo_83 rfl ?_
    refine P.iadd_n dX10_breakTwo_85 (nI_add _ _) ?_
    refine a_la ly_93 (by decide) (by omega) (by decide) dX10_breakTwo_86 ?_
    refine Pm.topl (b := D.2.2.2 q (W.2.1 w 3)) ((hM.num q (by omega) (W.2.1 w 3) (by omega))) ?_
    refine P.lstore dX10_breakTwo_87 (by decide) (Nat.le_of_ble_eq_true rfl) ?_
    refine P.aload_n dX10_breakTwo_89 rfl rfl ?_
    refine g_X10_kind (q := 94) ly_86 (by decide) (by decide) fl_X10_33 dX10_breakTwo_90 ?_
    refine P.iload_n dX10_breakTwo_93 rfl rfl ?_
    refine a_ia ly_94 (by decide) (by omega) (by decide) dX10_breakTwo_94 ?_
    refine Pm.topn (b := W.2.1 w 0) ((hM.knd w (by omega))) ?_
    refine P.if_ne_n (tgt := 112) dX10_breakTwo_95 (by decide) (by omega) (fun c_95 => ?_) (fun c_95 => ?_)
    · exfalso; omega
    refine P.lload dX10_breakTwo_98 rfl ?_
    refine P.lload dX10_breakTwo_100 rfl ?_
    refine P.lc_eq (tgt := 110) dX10_breakTwo_102 dX10_breakTwo_103 (by decide) (fun c_102 => ?_) (fun c_102 => ?_)
    · refine P.iconst dX10_breakTwo_110 ic_0 ?_
      exact P.bret rfl dX10_breakTwo_111 (by rw [show br2 D W w r q = false from by simp [br2, near, dist, h0, c_26, c_41, c_56, c_95, c_102]]; rfl) rfl
    refine P.iconst dX10_breakTwo_106 ic_1 ?_
    refine P.goto (tgt := 111) dX10_breakTwo_107 (by decide) ?_
    exact P.bret rfl dX10_breakTwo_111 (by rw [show br2 D W w r q = true from by simp [br2, near, dist, h0, c_26, c_41, c_56, c_95, c_102]]; rfl) rfl
  refine P.iconst dX10_breakTwo_59 ic_0 ?_
  exact P.bret rfl dX10_breakTwo_60 (by rw [show br2 D W w r q = false from by simp [br2, near, dist, h0, c_26, c_41, c_56]]; rfl) rfl

set_option maxRecDepth 20000 in
theorem t_breakTwo2 {G : GG} {f : Nat → Nat → Nat} {l : Nat → Nat → Int64} {D : DB} {W : LB} {U : QB} {T : TB} {N : Nat} (hM : MV f l D W U T N) (hBW : BW D W U T) {w r q : Nat} (hw : w < W.1) (hr : r < 12) (hq : q < 12) (h0 : W.2.1 w 0 = 2) : Spec G mX10_breakTwo [.ref (ad G 86), .int (nI w), .int (nI r), .int (nI q)] 114 (f, l, refT) (some (.int (bI (br2 D W w r q)))) 114 (f, l, refT) := by
  obtain ⟨hD, hLW, hUW, hTW⟩ := id hBW
  have hR := hD.1
  have hW1 := hLW.1
  have hU1 := hUW.1
  have hJ1 := hUW.2.1
  obtain ⟨hw0, hw1, hw2, hw3, hw4, -⟩ := hLW.2 w hw
  have hk1 : W.2.1 w 0 ≠ 1 := by omega
  have hk3 : W.2.1 w 0 ≠ 3 := by omega
  have hk5 : W.2.1 w 0 ≠ 5 := by omega
  refine Spec.of ok_X10_breakTwo.1 ⟨Nat.le_refl _, Nat.le_refl _⟩ (Nat.le_of_ble_eq_true rfl) ?_
  show Pm G RX10 cX10_breakTwo 12 (KM G mX10_breakTwo 114 114 (some (.int (bI (br2 D W w r q)))) (f, l, refT)) 0 [some (.ref (ad G 86)), some (.int (nI w)), some (.int (nI r)), some (.int (nI q)), none, none, none, none, none, none, none, none] [] f l
  refine P.aload_n dX10_breakTwo_0 rfl rfl ?_
  refine g_X10_colA (q := 96) ly_86 (by decide) (by decide) fl_X10_39 dX10_breakTwo_1 ?_
  refine P.iload_n dX10_breakTwo_4 rfl rfl ?_
  refine a_ia ly_96 (by decide) (by omega) (by decide) dX10_breakTwo_5 ?_
  refine Pm.topn (b := W.2.1 w 2) ((hM.fst w (by omega))) ?_
  refine P.istore dX10_breakTwo_6 (by decide) ?_
  refine P.aload_n dX10_breakTwo_8 rfl rfl ?_
  refine g_X10_colB (q := 97) ly_86 (by decide) (by decide) fl_X10_42 dX10_breakTwo_9 ?_
  refine P.iload_n dX10_breakTwo_12 rfl rfl ?_
  refine a_ia ly_97 (by decide) (by omega) (by decide) dX10_breakTwo_13 ?_
  refine Pm.topn (b := W.2.1 w 3) ((hM.snd w (by omega) hk1 hk3)) ?_
  refine P.istore dX10_breakTwo_14 (by decide) ?_
  refine P.aload_n dX10_breakTwo_16 rfl rfl ?_
  refine P.iload_n dX10_breakTwo_17 rfl rfl ?_
  refine P.iload dX10_breakTwo_18 rfl ?_
  refine P.iload_n dX10_breakTwo_20 rfl rfl ?_
  refine P.iload dX10_breakTwo_21 rfl ?_
  refine P.callV (As := [.int (nI r), .int (nI (W.2.1 w 2)), .int (nI q), .int (nI (W.2.1 w 2))]) (rest := []) (t_isLike (r := r) (c := (W.2.1 w 2)) (q := q) (d := (W.2.1 w 2)) hM hBW (by omega) (by omega) (by omega) (by omega)) ok_X10_isLike ⟨Nat.le_of_ble_eq_true rfl, Nat.le_of_ble_eq_true rfl, Nat.le_refl _, Nat.le_refl _⟩ rfl ml_X10_150 ly_86 (by decide) (by decide) rfl rfl (Nat.le_of_ble_eq_true rfl) dX10_breakTwo_23 ?_
  refine P.if_eq_b (tgt := 59) dX10_breakTwo_26 (by decide) (fun c_26 => ?_) (fun c_26 => ?_)
  · refine P.iconst dX10_breakTwo_59 ic_0 ?_
    exact P.bret rfl dX10_breakTwo_60 (by rw [show br2 D W w r q = false from by simp [br2, near, dist, h0, c_26]]; rfl) rfl
  refine P.aload_n dX10_breakTwo_29 rfl rfl ?_
  refine g_X10_isThere (q := 92) ly_86 (by decide) (by decide) fl_X10_26 dX10_breakTwo_30 ?_
  refine P.bipush (v := nI 6) dX10_breakTwo_33 rfl ?_
  refine P.iload_n dX10_breakTwo_35 rfl rfl ?_
  refine P.imul_n dX10_breakTwo_36 (pk_mul _ _) ?_
  refine P.iload dX10_breakTwo_37 rfl ?_
  refine P.iadd_n dX10_breakTwo_39 (nI_add _ _) ?_
  refine a_za ly_92 (by decide) (by omega) (by decide) dX10_breakTwo_40 ?_
  refine Pm.topn (b := D.2.2.1 r (W.2.1 w 3)) ((hM.the r (by omega) (W.2.1 w 3) (by omega))) ?_
  refine P.if_eq_n (tgt := 59) dX10_breakTwo_41 (by decide) (hD.2.2.1 _ _) (fun c_41 => ?_) (fun c_41 => ?_)
  · refine P.iconst dX10_breakTwo_59 ic_0 ?_
    exact P.bret rfl dX10_breakTwo_60 (by rw [show br2 D W w r q = false from by simp [br2, near, dist, h0, c_26, c_41]]; rfl) rfl
  refine P.aload_n dX10_breakTwo_44 rfl rfl ?_
  refine g_X10_isThere (q := 92) ly_86 (by decide) (by decide) fl_X10_26 dX10_breakTwo_45 ?_
  refine P.bipush (v := nI 6) dX10_breakTwo_48 rfl ?_
  refine P.iload_n dX10_breakTwo_50 rfl rfl ?_
  refine P.imul_n dX10_breakTwo_51 (pk_mul _ _) ?_
  refine P.iload dX10_breakTwo_52 rfl ?_
  refine P.iadd_n dX10_breakTwo_54 (nI_add _ _) ?_
  refine a_za ly_92 (by decide) (by omega) (by decide) dX10_breakTwo_55 ?_
  refine Pm.topn (b := D.2.2.1 q (W.2.1 w 3)) ((hM.the q (by omega) (W.2.1 w 3) (by omega))) ?_
  refine P.if_ne_n (tgt := 61) dX10_breakTwo_56 (by decide) (hD.2.2.1 _ _) (fun c_56 => ?_) (fun c_56 => ?_)
  · refine P.aload_n dX10_breakTwo_61 rfl rfl ?_
    refine g_X10_told (q := 93) ly_86 (by decide) (by decide) fl_X10_29 dX10_breakTwo_62 ?_
    refine P.bipush (v := nI 6) dX10_breakTwo_65 rfl ?_
    refine P.iload_n dX10_breakTwo_67 rfl rfl ?_
    refine P.imul_n dX10_breakTwo_68 (pk_mul _ _) ?_
    refine P.iload dX10_breakTwo_69 rfl ?_
    refine P.iadd_n dX10_breakTwo_71 (nI_add _ _) ?_
    refine a_la ly_93 (by decide) (by omega) (by decide) dX10_breakTwo_72 ?_
    refine Pm.topl (b := D.2.2.2 r (W.2.1 w 3)) ((hM.num r (by omega) (W.2.1 w 3) (by omega))) ?_
    refine P.lstore dX10_breakTwo_73 (by decide) (Nat.le_of_ble_eq_true rfl) ?_
    refine P.aload_n dX10_breakTwo_75 rfl rfl ?_
    refine g_X10_told (q := 93) ly_86 (by decide) (by decide) fl_X10_29 dX10_breakTwo_76 ?_
    refine P.bipush (v := nI 6) dX10_breakTwo_79 rfl ?_
    refine P.iload_n dX10_breakTwo_81 rfl rfl ?_
    refine P.imul_n dX10_breakTwo_82 (pk_mul _ _) ?_
    refine P.iload dX10_breakTwo_83 rfl ?_
    refine P.iadd_n dX10_breakTwo_85 (nI_add _ _) ?_
    refine a_la ly_93 (by decide) (by omega) (by decide) dX10_breakTwo_86 ?_
    refine Pm.topl (b := D.2.2.2 q (W.2.1 w 3)) ((hM.num q (by omega) (W.2.1 w 3) (by omega))) ?_
    refine P.lstore dX10_breakTwo_87 (by decide) (Nat.le_of_ble_eq_true rfl) ?_
    refine P.aload_n dX10_breakTwo_89 rfl rfl ?_
    refine g_X10_kind (q := 94) ly_86 (by decide) (by decide) fl_X10_33 dX10_breakTwo_90 ?_
    refine P.iload_n dX10_breakTwo_93 rfl rfl ?_
    refine a_ia ly_94 (by decide) (by omega) (by decide) dX10_breakTwo_94 ?_
    refine Pm.topn (b := W.2.1 w 0) ((hM.knd w (by omega))) ?_
    refine P.if_ne_n (tgt := 112) dX10_breakTwo_95 (by decide) (by omega) (fun c_95 => ?_) (fun c_95 => ?_)
    · refine P.lload dX10_breakTwo_112 rfl ?_
      refine P.lload dX10_breakTwo_114 rfl ?_
      refine P.lc_le (tgt := 128) dX10_breakTwo_116 dX10_breakTwo_117 (by decide) (fun c_116 => ?_) (fun c_116 => ?_)
      · refine P.lload dX10_breakTwo_128 rfl ?_
        refine P.lload dX10_breakTwo_130 rfl ?_
        refine P.lsub dX10_breakTwo_132 ?_
        refine P.lstore dX10_breakTwo_133 (by decide) (Nat.le_of_ble_eq_true rfl) ?_
        refine P.lload dX10_breakTwo_135 rfl ?_
        refine P.lconst (v := 0) dX10_breakTwo_137 rfl ?_
        refine P.lc_lt (tgt := 158) dX10_breakTwo_138 dX10_breakTwo_139 (by decide) (fun c_138 => ?_) (fun c_138 => ?_)
        · refine P.iconst dX10_breakTwo_158 ic_0 ?_
          exact P.bret rfl dX10_breakTwo_159 (by rw [show br2 D W w r q = false from by simp [br2, near, dist, h0, c_26, c_41, c_56, c_95, c_116, (Int64.not_lt.mpr c_116), c_138, (Int64.not_le.mpr c_138)]]; rfl) rfl
        refine P.lload dX10_breakTwo_142 rfl ?_
        refine P.aload_n dX10_breakTwo_144 rfl rfl ?_
        refine g_X10_numC (q := 99) ly_86 (by decide) (by decide) fl_X10_48 dX10_breakTwo_145 ?_
        refine P.iload_n dX10_breakTwo_148 rfl rfl ?_
        refine a_la ly_99 (by decide) (by omega) (by decide) dX10_breakTwo_149 ?_
        refine Pm.topl (b := W.2.2 w 5) ((hM.lc w (by omega) hk5)) ?_
        refine P.lc_ge (tgt := 158) dX10_breakTwo_150 dX10_breakTwo_151 (by decide) (fun c_150 => ?_) (fun c_150 => ?_)
        · refine P.iconst dX10_breakTwo_158 ic_0 ?_
          exact P.bret rfl dX10_breakTwo_159 (by rw [show br2 D W w r q = false from by simp [br2, near, dist, h0, c_26, c_41, c_56, c_95, c_116, (Int64.not_lt.mpr c_116), c_138, (Int64.not_lt.mpr c_138), c_150, (Int64.not_lt.mpr c_150)]]; rfl) rfl
        refine P.iconst dX10_breakTwo_154 ic_1 ?_
        refine P.goto (tgt := 159) dX10_breakTwo_155 (by decide) ?_
        exact P.bret rfl dX10_breakTwo_159 (by rw [show br2 D W w r q = true from by simp [br2, near, dist, h0, c_26, c_41, c_56, c_95, c_116, (Int64.not_lt.mpr c_116), c_138, (Int64.not_lt.mpr c_138), c_150, (Int64.not_le.mpr c_150)]]; rfl) rfl
      refine P.lload dX10_breakTwo_120 rfl ?_
      refine P.lload dX10_breakTwo_122 rfl ?_
      refine P.lsub dX10_breakTwo_124 ?_
      refine P.goto (tgt := 133) dX10_breakTwo_125 (by decide) ?_
      refine P.lstore dX10_breakTwo_133 (by decide) (Nat.le_of_ble_eq_true rfl) ?_
      refine P.lload dX10_breakTwo_135 rfl ?_
      refine P.lconst (v := 0) dX10_breakTwo_137 rfl ?_
      refine P.lc_lt (tgt := 158) dX10_breakTwo_138 dX10_breakTwo_139 (by decide) (fun c_138 => ?_) (fun c_138 => ?_)
      · refine P.iconst dX10_breakTwo_158 ic_0 ?_
        exact P.bret rfl dX10_breakTwo_159 (by rw [show br2 D W w r q = false from by simp [br2, near, dist, h0, c_26, c_41, c_56, c_95, c_116, (Int64.not_le.mpr c_116), c_138, (Int64.not_le.mpr c_138)]]; rfl) rfl
      refine P.lload dX10_breakTwo_142 rfl ?_
      refine P.aload_n dX10_breakTwo_144 rfl rfl ?_
      refine g_X10_numC (q := 99) ly_86 (by decide) (by decide) fl_X10_48 dX10_breakTwo_145 ?_
      refine P.iload_n dX10_breakTwo_148 rfl rfl ?_
      refine a_la ly_99 (by decide) (by omega) (by decide) dX10_breakTwo_149 ?_
      refine Pm.topl (b := W.2.2 w 5) ((hM.lc w (by omega) hk5)) ?_
      refine P.lc_ge (tgt := 158) dX10_breakTwo_150 dX10_breakTwo_151 (by decide) (fun c_150 => ?_) (fun c_150 => ?_)
      · refine P.iconst dX10_breakTwo_158 ic_0 ?_
        exact P.bret rfl dX10_breakTwo_159 (by rw [show br2 D W w r q = false from by simp [br2, near, dist, h0, c_26, c_41, c_56, c_95, c_116, (Int64.not_le.mpr c_116), c_138, (Int64.not_lt.mpr c_138), c_150, (Int64.not_lt.mpr c_150)]]; rfl) rfl
      refine P.iconst dX10_breakTwo_154 ic_1 ?_
      refine P.goto (tgt := 159) dX10_breakTwo_155 (by decide) ?_
      exact P.bret rfl dX10_breakTwo_159 (by rw [show br2 D W w r q = true from by simp [br2, near, dist, h0, c_26, c_41, c_56, c_95, c_116, (Int64.not_le.mpr c_116), c_138, (Int64.not_lt.mpr c_138), c_150, (Int64.not_le.mpr c_150)]]; rfl) rfl
    · exfalso; omega
  refine P.iconst dX10_breakTwo_59 ic_0 ?_
  exact P.bret rfl dX10_breakTwo_60 (by rw [show br2 D W w r q = false from by simp [br2, near, dist, h0, c_26, c_41, c_56]]; rfl) rfl

set_option maxRecDepth 20000 in
theorem t_breakOne0 {G : GG} {f : Nat → Nat → Nat} {l : Nat → Nat → Int64} {D : DB} {W : LB} {U : QB} {T : TB} {N : Nat} (hM : MV f l D W U T N) (hBW : BW D W U T) {w r S : Nat} (hw : w < W.1) (hr : r < D.1) (hS : S < 2147483648) (h0 : W.2.1 w 0 = 0) : Spec G mX10_breakOne [.ref (ad G 86), .int (nI w), .int (nI r), .int (nI S)] 114 (f, l, refT) (some (.int (bI (br1 D W w r S)))) 114 (f, l, refT) := by
  obtain ⟨hD, hLW, hUW, hTW⟩ := id hBW
  have hR := hD.1
  have hW1 := hLW.1
  have hU1 := hUW.1
  have hJ1 := hUW.2.1
  obtain ⟨hw0, hw1, hw2, hw3, hw4, -⟩ := hLW.2 w hw
  have hk5 : W.2.1 w 0 ≠ 5 := by omega
  refine Spec.of ok_X10_breakOne.1 ⟨Nat.le_refl _, Nat.le_refl _⟩ (Nat.le_of_ble_eq_true rfl) ?_
  show Pm G RX10 cX10_breakOne 7 (KM G mX10_breakOne 114 114 (some (.int (bI (br1 D W w r S)))) (f, l, refT)) 0 [some (.ref (ad G 86)), some (.int (nI w)), some (.int (nI r)), some (.int (nI S)), none, none, none] [] f l
  refine P.bipush (v := nI 6) dX10_breakOne_0 rfl ?_
  refine P.iload_n dX10_breakOne_2 rfl rfl ?_
  refine P.imul_n dX10_breakOne_3 (pk_mul _ _) ?_
  refine P.aload_n dX10_breakOne_4 rfl rfl ?_
  refine g_X10_colA (q := 96) ly_86 (by decide) (by decide) fl_X10_39 dX10_breakOne_5 ?_
  refine P.iload_n dX10_breakOne_8 rfl rfl ?_
  refine a_ia ly_96 (by decide) (by omega) (by decide) dX10_breakOne_9 ?_
  refine Pm.topn (b := W.2.1 w 2) ((hM.fst w (by omega))) ?_
  refine P.iadd_n dX10_breakOne_10 (nI_add _ _) ?_
  refine P.istore dX10_breakOne_11 (by decide) ?_
  refine P.aload_n dX10_breakOne_13 rfl rfl ?_
  refine g_X10_kind (q := 94) ly_86 (by decide) (by decide) fl_X10_33 dX10_breakOne_14 ?_
  refine P.iload_n dX10_breakOne_17 rfl rfl ?_
  refine a_ia ly_94 (by decide) (by omega) (by decide) dX10_breakOne_18 ?_
  refine Pm.topn (b := W.2.1 w 0) ((hM.knd w (by omega))) ?_
  refine Pm.topn (b := 0) h0 ?_
  refine P.tableOut (tgt := 208) dX10_breakOne_19 (by decide) (by decide) ?_
  refine P.iconst dX10_breakOne_208 ic_0 ?_
  exact P.bret rfl dX10_breakOne_209 (by rw [show br1 D W w r S = false from by simp [br1, h0, ]]; rfl) rfl

set_option maxRecDepth 20000 in
theorem t_breakOne1 {G : GG} {f : Nat → Nat → Nat} {l : Nat → Nat → Int64} {D : DB} {W : LB} {U : QB} {T : TB} {N : Nat} (hM : MV f l D W U T N) (hBW : BW D W U T) {w r S : Nat} (hw : w < W.1) (hr : r < D.1) (hS : S < 2147483648) (h0 : W.2.1 w 0 = 1) : Spec G mX10_breakOne [.ref (ad G 86), .int (nI w), .int (nI r), .int (nI S)] 114 (f, l, refT) (some (.int (bI (br1 D W w r S)))) 114 (f, l, refT) := by
  obtain ⟨hD, hLW, hUW, hTW⟩ := id hBW
  have hR := hD.1
  have hW1 := hLW.1
  have hU1 := hUW.1
  have hJ1 := hUW.2.1
  obtain ⟨hw0, hw1, hw2, hw3, hw4, -⟩ := hLW.2 w hw
  have hk5 : W.2.1 w 0 ≠ 5 := by omega
  refine Spec.of ok_X10_breakOne.1 ⟨Nat.le_refl _, Nat.le_refl _⟩ (Nat.le_of_ble_eq_true rfl) ?_
  show Pm G RX10 cX10_breakOne 7 (KM G mX10_breakOne 114 114 (some (.int (bI (br1 D W w r S)))) (f, l, refT)) 0 [some (.ref (ad G 86)), some (.int (nI w)), some (.int (nI r)), some (.int (nI S)), none, none, none] [] f l
  refine P.bipush (v := nI 6) dX10_breakOne_0 rfl ?_
  refine P.iload_n dX10_breakOne_2 rfl rfl ?_
  refine P.imul_n dX10_breakOne_3 (pk_mul _ _) ?_
  refine P.aload_n dX10_breakOne_4 rfl rfl ?_
  refine g_X10_colA (q := 96) ly_86 (by decide) (by decide) fl_X10_39 dX10_breakOne_5 ?_
  refine P.iload_n dX10_breakOne_8 rfl rfl ?_
  refine a_ia ly_96 (by decide) (by omega) (by decide) dX10_breakOne_9 ?_
  refine Pm.topn (b := W.2.1 w 2) ((hM.fst w (by omega))) ?_
  refine P.iadd_n dX10_breakOne_10 (nI_add _ _) ?_
  refine P.istore dX10_breakOne_11 (by decide) ?_
  refine P.aload_n dX10_breakOne_13 rfl rfl ?_
  refine g_X10_kind (q := 94) ly_86 (by decide) (by decide) fl_X10_33 dX10_breakOne_14 ?_
  refine P.iload_n dX10_breakOne_17 rfl rfl ?_
  refine a_ia ly_94 (by decide) (by omega) (by decide) dX10_breakOne_18 ?_
  refine Pm.topn (b := W.2.1 w 0) ((hM.knd w (by omega))) ?_
  refine Pm.topn (b := 1) h0 ?_
  refine P.tableIn (off := 33) (tgt := 52) dX10_breakOne_19 (by decide) (by decide) rfl (by decide) ?_
  refine P.aload_n dX10_breakOne_52 rfl rfl ?_
  refine g_X10_isThere (q := 92) ly_86 (by decide) (by decide) fl_X10_26 dX10_breakOne_53 ?_
  refine P.iload dX10_breakOne_56 rfl ?_
  refine a_za ly_92 (by decide) (by omega) (by decide) dX10_breakOne_58 ?_
  refine Pm.topn (b := D.2.2.1 r (W.2.1 w 2)) ((hM.the r (by omega) (W.2.1 w 2) (by omega))) ?_
  refine P.if_eq_n (tgt := 100) dX10_breakOne_59 (by decide) (hD.2.2.1 _ _) (fun c_59 => ?_) (fun c_59 => ?_)
  · refine P.iconst dX10_breakOne_100 ic_0 ?_
    exact P.bret rfl dX10_breakOne_101 (by rw [show br1 D W w r S = false from by simp [br1, h0, c_59]]; rfl) rfl
  refine P.aload_n dX10_breakOne_62 rfl rfl ?_
  refine g_X10_told (q := 93) ly_86 (by decide) (by decide) fl_X10_29 dX10_breakOne_63 ?_
  refine P.iload dX10_breakOne_66 rfl ?_
  refine a_la ly_93 (by decide) (by omega) (by decide) dX10_breakOne_68 ?_
  refine Pm.topl (b := D.2.2.2 r (W.2.1 w 2)) ((hM.num r (by omega) (W.2.1 w 2) (by omega))) ?_
  refine P.aload_n dX10_breakOne_69 rfl rfl ?_
  refine g_X10_numC (q := 99) ly_86 (by decide) (by decide) fl_X10_48 dX10_breakOne_70 ?_
  refine P.iload_n dX10_breakOne_73 rfl rfl ?_
  refine a_la ly_99 (by decide) (by omega) (by decide) dX10_breakOne_74 ?_
  refine Pm.topl (b := W.2.2 w 5) ((hM.lc w (by omega) hk5)) ?_
  refine P.lc_lt (tgt := 96) dX10_breakOne_75 dX10_breakOne_76 (by decide) (fun c_75 => ?_) (fun c_75 => ?_)
  · refine P.iconst dX10_breakOne_96 ic_1 ?_
    refine P.goto (tgt := 101) dX10_breakOne_97 (by decide) ?_
    exact P.bret rfl dX10_breakOne_101 (by rw [show br1 D W w r S = true from by simp [br1, h0, c_59, c_75, (Int64.not_le.mpr c_75)]]; rfl) rfl
  refine P.aload_n dX10_breakOne_79 rfl rfl ?_
  refine g_X10_told (q := 93) ly_86 (by decide) (by decide) fl_X10_29 dX10_breakOne_80 ?_
  refine P.iload dX10_breakOne_83 rfl ?_
  refine a_la ly_93 (by decide) (by omega) (by decide) dX10_breakOne_85 ?_
  refine Pm.topl (b := D.2.2.2 r (W.2.1 w 2)) ((hM.num r (by omega) (W.2.1 w 2) (by omega))) ?_
  refine P.aload_n dX10_breakOne_86 rfl rfl ?_
  refine g_X10_numD (q := 100) ly_86 (by decide) (by decide) fl_X10_51 dX10_breakOne_87 ?_
  refine P.iload_n dX10_breakOne_90 rfl rfl ?_
  refine a_la ly_100 (by decide) (by omega) (by decide) dX10_breakOne_91 ?_
  refine Pm.topl (b := W.2.2 w 6) ((hM.ld w (by omega) hk5)) ?_
  refine P.lc_le (tgt := 100) dX10_breakOne_92 dX10_breakOne_93 (by decide) (fun c_92 => ?_) (fun c_92 => ?_)
  · refine P.iconst dX10_breakOne_100 ic_0 ?_
    exact P.bret rfl dX10_breakOne_101 (by rw [show br1 D W w r S = false from by simp [br1, h0, c_59, c_75, (Int64.not_lt.mpr c_75), c_92, (Int64.not_lt.mpr c_92)]]; rfl) rfl
  refine P.iconst dX10_breakOne_96 ic_1 ?_
  refine P.goto (tgt := 101) dX10_breakOne_97 (by decide) ?_
  exact P.bret rfl dX10_breakOne_101 (by rw [show br1 D W w r S = true from by simp [br1, h0, c_59, c_75, (Int64.not_lt.mpr c_75), c_92, (Int64.not_le.mpr c_92)]]; rfl) rfl

set_option maxRecDepth 20000 in
theorem t_breakOne2 {G : GG} {f : Nat → Nat → Nat} {l : Nat → Nat → Int64} {D : DB} {W : LB} {U : QB} {T : TB} {N : Nat} (hM : MV f l D W U T N) (hBW : BW D W U T) {w r S : Nat} (hw : w < W.1) (hr : r < D.1) (hS : S < 2147483648) (h0 : W.2.1 w 0 = 2) : Spec G mX10_breakOne [.ref (ad G 86), .int (nI w), .int (nI r), .int (nI S)] 114 (f, l, refT) (some (.int (bI (br1 D W w r S)))) 114 (f, l, refT) := by
  obtain ⟨hD, hLW, hUW, hTW⟩ := id hBW
  have hR := hD.1
  have hW1 := hLW.1
  have hU1 := hUW.1
  have hJ1 := hUW.2.1
  obtain ⟨hw0, hw1, hw2, hw3, hw4, -⟩ := hLW.2 w hw
  have hk5 : W.2.1 w 0 ≠ 5 := by omega
  refine Spec.of ok_X10_breakOne.1 ⟨Nat.le_refl _, Nat.le_refl _⟩ (Nat.le_of_ble_eq_true rfl) ?_
  show Pm G RX10 cX10_breakOne 7 (KM G mX10_breakOne 114 114 (some (.int (bI (br1 D W w r S)))) (f, l, refT)) 0 [some (.ref (ad G 86)), some (.int (nI w)), some (.int (nI r)), some (.int (nI S)), none, none, none] [] f l
  refine P.bipush (v := nI 6) dX10_breakOne_0 rfl ?_
  refine P.iload_n dX10_breakOne_2 rfl rfl ?_
  refine P.imul_n dX10_breakOne_3 (pk_mul _ _) ?_
  refine P.aload_n dX10_breakOne_4 rfl rfl ?_
  refine g_X10_colA (q := 96) ly_86 (by decide) (by decide) fl_X10_39 dX10_breakOne_5 ?_
  refine P.iload_n dX10_breakOne_8 rfl rfl ?_
  refine a_ia ly_96 (by decide) (by omega) (by decide) dX10_breakOne_9 ?_
  refine Pm.topn (b := W.2.1 w 2) ((hM.fst w (by omega))) ?_
  refine P.iadd_n dX10_breakOne_10 (nI_add _ _) ?_
  refine P.istore dX10_breakOne_11 (by decide) ?_
  refine P.aload_n dX10_breakOne_13 rfl rfl ?_
  refine g_X10_kind (q := 94) ly_86 (by decide) (by decide) fl_X10_33 dX10_breakOne_14 ?_
  refine P.iload_n dX10_breakOne_17 rfl rfl ?_
  refine a_ia ly_94 (by decide) (by omega) (by decide) dX10_breakOne_18 ?_
  refine Pm.topn (b := W.2.1 w 0) ((hM.knd w (by omega))) ?_
  refine Pm.topn (b := 2) h0 ?_
  refine P.tableIn (off := 189) (tgt := 208) dX10_breakOne_19 (by decide) (by decide) rfl (by decide) ?_
  refine P.iconst dX10_breakOne_208 ic_0 ?_
  exact P.bret rfl dX10_breakOne_209 (by rw [show br1 D W w r S = false from by simp [br1, h0, ]]; rfl) rfl

set_option maxRecDepth 20000 in
theorem t_breakOne3 {G : GG} {f : Nat → Nat → Nat} {l : Nat → Nat → Int64} {D : DB} {W : LB} {U : QB} {T : TB} {N : Nat} (hM : MV f l D W U T N) (hBW : BW D W U T) {w r S : Nat} (hw : w < W.1) (hr : r < D.1) (hS : S < 2147483648) (h0 : W.2.1 w 0 = 3) : Spec G mX10_breakOne [.ref (ad G 86), .int (nI w), .int (nI r), .int (nI S)] 114 (f, l, refT) (some (.int (bI (br1 D W w r S)))) 114 (f, l, refT) := by
  obtain ⟨hD, hLW, hUW, hTW⟩ := id hBW
  have hR := hD.1
  have hW1 := hLW.1
  have hU1 := hUW.1
  have hJ1 := hUW.2.1
  obtain ⟨hw0, hw1, hw2, hw3, hw4, -⟩ := hLW.2 w hw
  have hk5 : W.2.1 w 0 ≠ 5 := by omega
  refine Spec.of ok_X10_breakOne.1 ⟨Nat.le_refl _, Nat.le_refl _⟩ (Nat.le_of_ble_eq_true rfl) ?_
  show Pm G RX10 cX10_breakOne 7 (KM G mX10_breakOne 114 114 (some (.int (bI (br1 D W w r S)))) (f, l, refT)) 0 [some (.ref (ad G 86)), some (.int (nI w)), some (.int (nI r)), some (.int (nI S)), none, none, none] [] f l
  refine P.bipush (v := nI 6) dX10_breakOne_0 rfl ?_
  refine P.iload_n dX10_breakOne_2 rfl rfl ?_
  refine P.imul_n dX10_breakOne_3 (pk_mul _ _) ?_
  refine P.aload_n dX10_breakOne_4 rfl rfl ?_
  refine g_X10_colA (q := 96) ly_86 (by decide) (by decide) fl_X10_39 dX10_breakOne_5 ?_
  refine P.iload_n dX10_breakOne_8 rfl rfl ?_
  refine a_ia ly_96 (by decide) (by omega) (by decide) dX10_breakOne_9 ?_
  refine Pm.topn (b := W.2.1 w 2) ((hM.fst w (by omega))) ?_
  refine P.iadd_n dX10_breakOne_10 (nI_add _ _) ?_
  refine P.istore dX10_breakOne_11 (by decide) ?_
  refine P.aload_n dX10_breakOne_13 rfl rfl ?_
  refine g_X10_kind (q := 94) ly_86 (by decide) (by decide) fl_X10_33 dX10_breakOne_14 ?_
  refine P.iload_n dX10_breakOne_17 rfl rfl ?_
  refine a_ia ly_94 (by decide) (by omega) (by decide) dX10_breakOne_18 ?_
  refine Pm.topn (b := W.2.1 w 0) ((hM.knd w (by omega))) ?_
  refine Pm.topn (b := 3) h0 ?_
  refine P.tableIn (off := 83) (tgt := 102) dX10_breakOne_19 (by decide) (by decide) rfl (by decide) ?_
  refine P.aload_n dX10_breakOne_102 rfl rfl ?_
  refine g_X10_isThere (q := 92) ly_86 (by decide) (by decide) fl_X10_26 dX10_breakOne_103 ?_
  refine P.iload dX10_breakOne_106 rfl ?_
  refine a_za ly_92 (by decide) (by omega) (by decide) dX10_breakOne_108 ?_
  refine Pm.topn (b := D.2.2.1 r (W.2.1 w 2)) ((hM.the r (by omega) (W.2.1 w 2) (by omega))) ?_
  refine P.if_ne_n (tgt := 116) dX10_breakOne_109 (by decide) (hD.2.2.1 _ _) (fun c_109 => ?_) (fun c_109 => ?_)
  · refine P.iconst dX10_breakOne_116 ic_0 ?_
    exact P.bret rfl dX10_breakOne_117 (by rw [show br1 D W w r S = false from by simp [br1, h0, c_109]]; rfl) rfl
  refine P.iconst dX10_breakOne_112 ic_1 ?_
  refine P.goto (tgt := 117) dX10_breakOne_113 (by decide) ?_
  exact P.bret rfl dX10_breakOne_117 (by rw [show br1 D W w r S = true from by simp [br1, h0, c_109]]; rfl) rfl

set_option maxRecDepth 20000 in
theorem t_breakOne4 {G : GG} {f : Nat → Nat → Nat} {l : Nat → Nat → Int64} {D : DB} {W : LB} {U : QB} {T : TB} {N : Nat} (hM : MV f l D W U T N) (hBW : BW D W U T) {w r S : Nat} (hw : w < W.1) (hr : r < D.1) (hS : S < 2147483648) (h0 : W.2.1 w 0 = 4) : Spec G mX10_breakOne [.ref (ad G 86), .int (nI w), .int (nI r), .int (nI S)] 114 (f, l, refT) (some (.int (bI (br1 D W w r S)))) 114 (f, l, refT) := by
  obtain ⟨hD, hLW, hUW, hTW⟩ := id hBW
  have hR := hD.1
  have hW1 := hLW.1
  have hU1 := hUW.1
  have hJ1 := hUW.2.1
  obtain ⟨hw0, hw1, hw2, hw3, hw4, -⟩ := hLW.2 w hw
  have hk5 : W.2.1 w 0 ≠ 5 := by omega
  refine Spec.of ok_X10_breakOne.1 ⟨Nat.le_refl _, Nat.le_refl _⟩ (Nat.le_of_ble_eq_true rfl) ?_
  show Pm G RX10 cX10_breakOne 7 (KM G mX10_breakOne 114 114 (some (.int (bI (br1 D W w r S)))) (f, l, refT)) 0 [some (.ref (ad G 86)), some (.int (nI w)), some (.int (nI r)), some (.int (nI S)), none, none, none] [] f l
  refine P.bipush (v := nI 6) dX10_breakOne_0 rfl ?_
  refine P.iload_n dX10_breakOne_2 rfl rfl ?_
  refine P.imul_n dX10_breakOne_3 (pk_mul _ _) ?_
  refine P.aload_n dX10_breakOne_4 rfl rfl ?_
  refine g_X10_colA (q := 96) ly_86 (by decide) (by decide) fl_X10_39 dX10_breakOne_5 ?_
  refine P.iload_n dX10_breakOne_8 rfl rfl ?_
  refine a_ia ly_96 (by decide) (by omega) (by decide) dX10_breakOne_9 ?_
  refine Pm.topn (b := W.2.1 w 2) ((hM.fst w (by omega))) ?_
  refine P.iadd_n dX10_breakOne_10 (nI_add _ _) ?_
  refine P.istore dX10_breakOne_11 (by decide) ?_
  refine P.aload_n dX10_breakOne_13 rfl rfl ?_
  refine g_X10_kind (q := 94) ly_86 (by decide) (by decide) fl_X10_33 dX10_breakOne_14 ?_
  refine P.iload_n dX10_breakOne_17 rfl rfl ?_
  refine a_ia ly_94 (by decide) (by omega) (by decide) dX10_breakOne_18 ?_
  refine Pm.topn (b := W.2.1 w 0) ((hM.knd w (by omega))) ?_
  refine Pm.topn (b := 4) h0 ?_
  refine P.tableIn (off := 189) (tgt := 208) dX10_breakOne_19 (by decide) (by decide) rfl (by decide) ?_
  refine P.iconst dX10_breakOne_208 ic_0 ?_
  exact P.bret rfl dX10_breakOne_209 (by rw [show br1 D W w r S = false from by simp [br1, h0, ]]; rfl) rfl

set_option maxRecDepth 20000 in
theorem t_breakOne5 {G : GG} {f : Nat → Nat → Nat} {l : Nat → Nat → Int64} {D : DB} {W : LB} {U : QB} {T : TB} {N : Nat} (hM : MV f l D W U T N) (hBW : BW D W U T) {w r S : Nat} (hw : w < W.1) (hr : r < D.1) (hS : S < 2147483648) (h0 : W.2.1 w 0 = 5) : Spec G mX10_breakOne [.ref (ad G 86), .int (nI w), .int (nI r), .int (nI S)] 114 (f, l, refT) (some (.int (bI (br1 D W w r S)))) 114 (f, l, refT) := by
  obtain ⟨hD, hLW, hUW, hTW⟩ := id hBW
  have hR := hD.1
  have hW1 := hLW.1
  have hU1 := hUW.1
  have hJ1 := hUW.2.1
  obtain ⟨hw0, hw1, hw2, hw3, hw4, -⟩ := hLW.2 w hw
  have hk1 : W.2.1 w 0 ≠ 1 := by omega
  have hk3 : W.2.1 w 0 ≠ 3 := by omega
  have hb2 := (hD.2.2.2 r hr).2.2.2.2 (W.2.1 w 2)
  refine Spec.of ok_X10_breakOne.1 ⟨Nat.le_refl _, Nat.le_refl _⟩ (Nat.le_of_ble_eq_true rfl) ?_
  show Pm G RX10 cX10_breakOne 7 (KM G mX10_breakOne 114 114 (some (.int (bI (br1 D W w r S)))) (f, l, refT)) 0 [some (.ref (ad G 86)), some (.int (nI w)), some (.int (nI r)), some (.int (nI S)), none, none, none] [] f l
  refine P.bipush (v := nI 6) dX10_breakOne_0 rfl ?_
  refine P.iload_n dX10_breakOne_2 rfl rfl ?_
  refine P.imul_n dX10_breakOne_3 (pk_mul _ _) ?_
  refine P.aload_n dX10_breakOne_4 rfl rfl ?_
  refine g_X10_colA (q := 96) ly_86 (by decide) (by decide) fl_X10_39 dX10_breakOne_5 ?_
  refine P.iload_n dX10_breakOne_8 rfl rfl ?_
  refine a_ia ly_96 (by decide) (by omega) (by decide) dX10_breakOne_9 ?_
  refine Pm.topn (b := W.2.1 w 2) ((hM.fst w (by omega))) ?_
  refine P.iadd_n dX10_breakOne_10 (nI_add _ _) ?_
  refine P.istore dX10_breakOne_11 (by decide) ?_
  refine P.aload_n dX10_breakOne_13 rfl rfl ?_
  refine g_X10_kind (q := 94) ly_86 (by decide) (by decide) fl_X10_33 dX10_breakOne_14 ?_
  refine P.iload_n dX10_breakOne_17 rfl rfl ?_
  refine a_ia ly_94 (by decide) (by omega) (by decide) dX10_breakOne_18 ?_
  refine Pm.topn (b := W.2.1 w 0) ((hM.knd w (by omega))) ?_
  refine Pm.topn (b := 5) h0 ?_
  refine P.tableIn (off := 99) (tgt := 118) dX10_breakOne_19 (by decide) (by decide) rfl (by decide) ?_
  refine P.aload_n dX10_breakOne_118 rfl rfl ?_
  refine g_X10_isThere (q := 92) ly_86 (by decide) (by decide) fl_X10_26 dX10_breakOne_119 ?_
  refine P.iload dX10_breakOne_122 rfl ?_
  refine a_za ly_92 (by decide) (by omega) (by decide) dX10_breakOne_124 ?_
  refine Pm.topn (b := D.2.2.1 r (W.2.1 w 2)) ((hM.the r (by omega) (W.2.1 w 2) (by omega))) ?_
  refine Pm.topn (b := bN (D.2.2.1 r (W.2.1 w 2) != 0 && !anyN (helpB D W w r S) 0)) (bN_2 hb2 _) ?_
  refine P.istore dX10_breakOne_125 (by decide) ?_
  refine P.iconst dX10_breakOne_127 ic_0 ?_
  refine P.istore dX10_breakOne_128 (by decide) ?_
  refine loop_up (M := fun (i : Nat) => Pm G _ _ _ _ 130 [some (.ref (ad G 86)), some (.int (nI w)), some (.int (nI r)), some (.int (nI S)), some (.int (nI ((6 * r) + (W.2.1 w 2)))), some (.int (nI (bN (D.2.2.1 r (W.2.1 w 2) != 0 && !anyN (helpB D W w r S) i)))), some (.int (nI i))] [] f l) (lo := 0) (N := D.1) (by first | exact Nat.zero_le _ | omega) (fun i hi0 hi1 ihi => ?_) ?_
  · show Pm G _ _ _ _ 130 [some (.ref (ad G 86)), some (.int (nI w)), some (.int (nI r)), some (.int (nI S)), some (.int (nI ((6 * r) + (W.2.1 w 2)))), some (.int (nI (bN (D.2.2.1 r (W.2.1 w 2) != 0 && !anyN (helpB D W w r S) i)))), some (.int (nI i))] [] f l
    refine P.iload dX10_breakOne_130 rfl ?_
    refine P.aload_n dX10_breakOne_132 rfl rfl ?_
    refine g_X10_rows ly_86 (by decide) fl_X10_106 dX10_breakOne_133 ?_
    refine Pm.topn (b := D.1) (hM.R) ?_
    refine P.icmp_ge_n (tgt := 205) dX10_breakOne_136 (by decide) (by omega) (by omega) (fun c_136 => ?_) (fun c_136 => ?_)
    · exfalso; omega
    refine P.iload dX10_breakOne_139 rfl ?_
    refine P.if_eq_n (tgt := 205) dX10_breakOne_141 (by decide) (Nat.lt_trans (bN_lt _) (by decide)) (fun c_141 => ?_) (fun c_141 => ?_)
    · refine P.iload dX10_breakOne_205 rfl ?_
      exact P.bret rfl dX10_breakOne_207 (by rw [show br1 D W w r S = false from by simp only [br1, h0]; exact amz c_141 (Nat.le_of_lt hi1), c_141]; rfl) rfl
    refine P.iload_n dX10_breakOne_144 rfl rfl ?_
    refine P.iload dX10_breakOne_145 rfl ?_
    refine P.ishr dX10_breakOne_147 (n_shr (by omega) (by omega)) ?_
    refine P.iconst dX10_breakOne_148 ic_1 ?_
    refine P.iand_n (v := nI (bt S i)) dX10_breakOne_149 (n_and1 _) ?_
    refine P.iconst dX10_breakOne_150 ic_1 ?_
    refine P.icmp_ne_n (tgt := 192) dX10_breakOne_151 (by decide) (Nat.lt_trans (bt_lt _ _) (by decide)) (by omega) (fun c_151 => ?_) (fun c_151 => ?_)
    · refine P.iconst dX10_breakOne_192 ic_1 ?_
      refine P.goto (tgt := 197) dX10_breakOne_193 (by decide) ?_
      refine P.istore dX10_breakOne_197 (by decide) ?_
      refine P.iinc dX10_breakOne_199 rfl (inc1 _) (by decide) ?_
      refine P.goto (tgt := 130) dX10_breakOne_202 (by decide) ?_
      show Pm G _ _ _ _ 130 [some (.ref (ad G 86)), some (.int (nI w)), some (.int (nI r)), some (.int (nI S)), some (.int (nI ((6 * r) + (W.2.1 w 2)))), some (.int (nI 1)), some (.int (nI (i + 1)))] [] f l
      exact Pm.to (ihi) (by rw [am1 c_141 (show helpB D W w r S i = false from by rw [helpB, tb_f (by have := bt_lt S i; omega)]; rfl)]; simp [lle]) rfl rfl rfl
    refine P.aload_n dX10_breakOne_154 rfl rfl ?_
    refine g_X10_tableOf (q := 89) ly_86 (by decide) (by decide) fl_X10_16 dX10_breakOne_155 ?_
    refine P.iload dX10_breakOne_158 rfl ?_
    refine a_ia ly_89 (by decide) (by omega) (by decide) dX10_breakOne_160 ?_
    refine Pm.topn (b := D.2.1 i 2) ((hM.tab i (by omega))) ?_
    refine P.aload_n dX10_breakOne_161 rfl rfl ?_
    refine g_X10_lawOther (q := 98) ly_86 (by decide) (by decide) fl_X10_45 dX10_breakOne_162 ?_
    refine P.iload_n dX10_breakOne_165 rfl rfl ?_
    refine a_ia ly_98 (by decide) (by omega) (by decide) dX10_breakOne_166 ?_
    refine Pm.topn (b := W.2.1 w 4) ((hM.oth w (by omega) h0)) ?_
    refine P.icmp_ne_n (tgt := 192) dX10_breakOne_167 (by decide) (hD.2.1 _ _) (by omega) (fun c_167 => ?_) (fun c_167 => ?_)
    · refine P.iconst dX10_breakOne_192 ic_1 ?_
      refine P.goto (tgt := 197) dX10_breakOne_193 (by decide) ?_
      refine P.istore dX10_breakOne_197 (by decide) ?_
      refine P.iinc dX10_breakOne_199 rfl (inc1 _) (by decide) ?_
      refine P.goto (tgt := 130) dX10_breakOne_202 (by decide) ?_
      show Pm G _ _ _ _ 130 [some (.ref (ad G 86)), some (.int (nI w)), some (.int (nI r)), some (.int (nI S)), some (.int (nI ((6 * r) + (W.2.1 w 2)))), some (.int (nI 1)), some (.int (nI (i + 1)))] [] f l
      exact Pm.to (ihi) (by rw [am1 c_141 (show helpB D W w r S i = false from by rw [helpB, tb_t (by omega)]; simp [c_167])]; simp [lle]) rfl rfl rfl
    refine P.aload_n dX10_breakOne_170 rfl rfl ?_
    refine P.iload_n dX10_breakOne_171 rfl rfl ?_
    refine P.aload_n dX10_breakOne_172 rfl rfl ?_
    refine g_X10_colA (q := 96) ly_86 (by decide) (by decide) fl_X10_39 dX10_breakOne_173 ?_
    refine P.iload_n dX10_breakOne_176 rfl rfl ?_
    refine a_ia ly_96 (by decide) (by omega) (by decide) dX10_breakOne_177 ?_
    refine Pm.topn (b := W.2.1 w 2) ((hM.fst w (by omega))) ?_
    refine P.iload dX10_breakOne_178 rfl ?_
    refine P.aload_n dX10_breakOne_180 rfl rfl ?_
    refine g_X10_colB (q := 97) ly_86 (by decide) (by decide) fl_X10_42 dX10_breakOne_181 ?_
    refine P.iload_n dX10_breakOne_184 rfl rfl ?_
    refine a_ia ly_97 (by decide) (by omega) (by decide) dX10_breakOne_185 ?_
    refine Pm.topn (b := W.2.1 w 3) ((hM.snd w (by omega) hk1 hk3)) ?_
    refine P.callV (As := [.int (nI r), .int (nI (W.2.1 w 2)), .int (nI i), .int (nI (W.2.1 w 3))]) (rest := []) (t_isLike (r := r) (c := (W.2.1 w 2)) (q := i) (d := (W.2.1 w 3)) hM hBW (by omega) (by omega) (by omega) (by omega)) ok_X10_isLike ⟨Nat.le_of_ble_eq_true rfl, Nat.le_of_ble_eq_true rfl, Nat.le_refl _, Nat.le_refl _⟩ rfl ml_X10_150 ly_86 (by decide) (by decide) rfl rfl (Nat.le_of_ble_eq_true rfl) dX10_breakOne_186 ?_
    refine P.if_ne_b (tgt := 196) dX10_breakOne_189 (by decide) (fun c_189 => ?_) (fun c_189 => ?_)
    · refine P.iconst dX10_breakOne_196 ic_0 ?_
      refine P.istore dX10_breakOne_197 (by decide) ?_
      refine P.iinc dX10_breakOne_199 rfl (inc1 _) (by decide) ?_
      refine P.goto (tgt := 130) dX10_breakOne_202 (by decide) ?_
      show Pm G _ _ _ _ 130 [some (.ref (ad G 86)), some (.int (nI w)), some (.int (nI r)), some (.int (nI S)), some (.int (nI ((6 * r) + (W.2.1 w 2)))), some (.int (nI 0)), some (.int (nI (i + 1)))] [] f l
      exact Pm.to (ihi) (by rw [am0 (show helpB D W w r S i = true from by rw [helpB, tb_t (by omega)]; simp [c_167, c_189])]; simp [lle]) rfl rfl rfl
    refine P.iconst dX10_breakOne_192 ic_1 ?_
    refine P.goto (tgt := 197) dX10_breakOne_193 (by decide) ?_
    refine P.istore dX10_breakOne_197 (by decide) ?_
    refine P.iinc dX10_breakOne_199 rfl (inc1 _) (by decide) ?_
    refine P.goto (tgt := 130) dX10_breakOne_202 (by decide) ?_
    show Pm G _ _ _ _ 130 [some (.ref (ad G 86)), some (.int (nI w)), some (.int (nI r)), some (.int (nI S)), some (.int (nI ((6 * r) + (W.2.1 w 2)))), some (.int (nI 1)), some (.int (nI (i + 1)))] [] f l
    exact Pm.to (ihi) (by rw [am1 c_141 (show helpB D W w r S i = false from by rw [helpB, tb_t (by omega)]; simp [c_167, c_189])]; simp [lle]) rfl rfl rfl
  · show Pm G _ _ _ _ 130 [some (.ref (ad G 86)), some (.int (nI w)), some (.int (nI r)), some (.int (nI S)), some (.int (nI ((6 * r) + (W.2.1 w 2)))), some (.int (nI (bN (D.2.2.1 r (W.2.1 w 2) != 0 && !anyN (helpB D W w r S) D.1)))), some (.int (nI D.1))] [] f l
    refine P.iload dX10_breakOne_130 rfl ?_
    refine P.aload_n dX10_breakOne_132 rfl rfl ?_
    refine g_X10_rows ly_86 (by decide) fl_X10_106 dX10_breakOne_133 ?_
    refine Pm.topn (b := D.1) (hM.R) ?_
    refine P.icmp_ge_n (tgt := 205) dX10_breakOne_136 (by decide) (by omega) (by omega) (fun c_136 => ?_) (fun c_136 => ?_)
    · refine P.iload dX10_breakOne_205 rfl ?_
      exact P.bret rfl dX10_breakOne_207 (by rw [show br1 D W w r S = (D.2.2.1 r (W.2.1 w 2) != 0 && !anyN (helpB D W w r S) D.1) from by simp only [br1, h0]; rfl, bI_n]) rfl
    · exfalso; omega

theorem t_breakOne {G : GG} {f : Nat → Nat → Nat} {l : Nat → Nat → Int64} {D : DB} {W : LB} {U : QB} {T : TB} {N : Nat} (hM : MV f l D W U T N) (hBW : BW D W U T) {w r S : Nat} (hw : w < W.1) (hr : r < D.1) (hS : S < 2147483648) : Spec G mX10_breakOne [.ref (ad G 86), .int (nI w), .int (nI r), .int (nI S)] 114 (f, l, refT) (some (.int (bI (br1 D W w r S)))) 114 (f, l, refT) := by
  have h6 := (hBW.2.1.2 w hw).1
  rcases (show W.2.1 w 0 = 0 ∨ W.2.1 w 0 = 1 ∨ W.2.1 w 0 = 2 ∨ W.2.1 w 0 = 3 ∨ W.2.1 w 0 = 4 ∨ W.2.1 w 0 = 5 by omega) with h | h | h | h | h | h
  · exact t_breakOne0 hM hBW hw hr hS h
  · exact t_breakOne1 hM hBW hw hr hS h
  · exact t_breakOne2 hM hBW hw hr hS h
  · exact t_breakOne3 hM hBW hw hr hS h
  · exact t_breakOne4 hM hBW hw hr hS h
  · exact t_breakOne5 hM hBW hw hr hS h


-- the model's tests of laws: by program (wip/whole/spec39.py)
set_option maxRecDepth 20000 in
theorem t_lies0 {G : GG} {f : Nat → Nat → Nat} {l : Nat → Nat → Int64} {n : Nat} {v : Int64} (hk : n = 0) : Spec G mX10_lies [.int (nI n), .long v] 114 (f, l, refT) (some (.long (asLane n v))) 114 (f, l, refT) := by
  refine Spec.of ok_X10_lies.1 ⟨Nat.le_refl _, Nat.le_refl _⟩ (Nat.le_of_ble_eq_true rfl) ?_
  show Pm G RX10 cX10_lies 3 (KM G mX10_lies 114 114 (some (.long (asLane n v))) (f, l, refT)) 0 [some (.int (nI n)), some (.long v), none] [] f l
  refine P.iload_n dX10_lies_0 rfl rfl ?_
  subst hk
  refine P.tableIn (off := 35) (tgt := 36) dX10_lies_1 (by decide) (by decide) rfl (by decide) ?_
  refine P.lload_n dX10_lies_36 rfl rfl ?_
  refine P.l2i dX10_lies_37 ?_
  refine P.i2b dX10_lies_38 ?_
  refine P.i2l dX10_lies_39 rfl ?_
  exact P.lret rfl dX10_lies_40 rfl rfl

set_option maxRecDepth 20000 in
theorem t_lies1 {G : GG} {f : Nat → Nat → Nat} {l : Nat → Nat → Int64} {n : Nat} {v : Int64} (hk : n = 1) : Spec G mX10_lies [.int (nI n), .long v] 114 (f, l, refT) (some (.long (asLane n v))) 114 (f, l, refT) := by
  refine Spec.of ok_X10_lies.1 ⟨Nat.le_refl _, Nat.le_refl _⟩ (Nat.le_of_ble_eq_true rfl) ?_
  show Pm G RX10 cX10_lies 3 (KM G mX10_lies 114 114 (some (.long (asLane n v))) (f, l, refT)) 0 [some (.int (nI n)), some (.long v), none] [] f l
  refine P.iload_n dX10_lies_0 rfl rfl ?_
  subst hk
  refine P.tableIn (off := 40) (tgt := 41) dX10_lies_1 (by decide) (by decide) rfl (by decide) ?_
  refine P.lload_n dX10_lies_41 rfl rfl ?_
  refine P.l2i dX10_lies_42 ?_
  refine P.i2s dX10_lies_43 ?_
  refine P.i2l dX10_lies_44 rfl ?_
  exact P.lret rfl dX10_lies_45 rfl rfl

set_option maxRecDepth 20000 in
theorem t_lies2 {G : GG} {f : Nat → Nat → Nat} {l : Nat → Nat → Int64} {n : Nat} {v : Int64} (hk : n = 2) : Spec G mX10_lies [.int (nI n), .long v] 114 (f, l, refT) (some (.long (asLane n v))) 114 (f, l, refT) := by
  refine Spec.of ok_X10_lies.1 ⟨Nat.le_refl _, Nat.le_refl _⟩ (Nat.le_of_ble_eq_true rfl) ?_
  show Pm G RX10 cX10_lies 3 (KM G mX10_lies 114 114 (some (.long (asLane n v))) (f, l, refT)) 0 [some (.int (nI n)), some (.long v), none] [] f l
  refine P.iload_n dX10_lies_0 rfl rfl ?_
  subst hk
  refine P.tableIn (off := 45) (tgt := 46) dX10_lies_1 (by decide) (by decide) rfl (by decide) ?_
  refine P.lload_n dX10_lies_46 rfl rfl ?_
  refine P.l2i dX10_lies_47 ?_
  refine P.i2c dX10_lies_48 ?_
  refine P.i2l dX10_lies_49 rfl ?_
  exact P.lret rfl dX10_lies_50 rfl rfl

set_option maxRecDepth 20000 in
theorem t_lies3 {G : GG} {f : Nat → Nat → Nat} {l : Nat → Nat → Int64} {n : Nat} {v : Int64} (hk : n = 3) : Spec G mX10_lies [.int (nI n), .long v] 114 (f, l, refT) (some (.long (asLane n v))) 114 (f, l, refT) := by
  refine Spec.of ok_X10_lies.1 ⟨Nat.le_refl _, Nat.le_refl _⟩ (Nat.le_of_ble_eq_true rfl) ?_
  show Pm G RX10 cX10_lies 3 (KM G mX10_lies 114 114 (some (.long (asLane n v))) (f, l, refT)) 0 [some (.int (nI n)), some (.long v), none] [] f l
  refine P.iload_n dX10_lies_0 rfl rfl ?_
  subst hk
  refine P.tableIn (off := 50) (tgt := 51) dX10_lies_1 (by decide) (by decide) rfl (by decide) ?_
  refine P.lload_n dX10_lies_51 rfl rfl ?_
  refine P.l2i dX10_lies_52 ?_
  refine P.i2l dX10_lies_53 rfl ?_
  exact P.lret rfl dX10_lies_54 rfl rfl

set_option maxRecDepth 20000 in
theorem t_lies4 {G : GG} {f : Nat → Nat → Nat} {l : Nat → Nat → Int64} {n : Nat} {v : Int64} (hk : n = 4) : Spec G mX10_lies [.int (nI n), .long v] 114 (f, l, refT) (some (.long (asLane n v))) 114 (f, l, refT) := by
  refine Spec.of ok_X10_lies.1 ⟨Nat.le_refl _, Nat.le_refl _⟩ (Nat.le_of_ble_eq_true rfl) ?_
  show Pm G RX10 cX10_lies 3 (KM G mX10_lies 114 114 (some (.long (asLane n v))) (f, l, refT)) 0 [some (.int (nI n)), some (.long v), none] [] f l
  refine P.iload_n dX10_lies_0 rfl rfl ?_
  subst hk
  refine P.tableIn (off := 54) (tgt := 55) dX10_lies_1 (by decide) (by decide) rfl (by decide) ?_
  refine P.lload_n dX10_lies_55 rfl rfl ?_
  exact P.lret rfl dX10_lies_56 rfl rfl

set_option maxRecDepth 20000 in
theorem t_lies5 {G : GG} {f : Nat → Nat → Nat} {l : Nat → Nat → Int64} {n : Nat} {v : Int64} (hk : n = 5) : Spec G mX10_lies [.int (nI n), .long v] 114 (f, l, refT) (some (.long (asLane n v))) 114 (f, l, refT) := by
  refine Spec.of ok_X10_lies.1 ⟨Nat.le_refl _, Nat.le_refl _⟩ (Nat.le_of_ble_eq_true rfl) ?_
  show Pm G RX10 cX10_lies 3 (KM G mX10_lies 114 114 (some (.long (asLane n v))) (f, l, refT)) 0 [some (.int (nI n)), some (.long v), none] [] f l
  refine P.iload_n dX10_lies_0 rfl rfl ?_
  subst hk
  refine P.tableOut (tgt := 57) dX10_lies_1 (by decide) (by decide) ?_
  refine P.lload_n dX10_lies_57 rfl rfl ?_
  refine P.l2d dX10_lies_58 ?_
  refine P.d2l dX10_lies_59 ?_
  exact P.lret rfl dX10_lies_60 rfl rfl

theorem t_lies {G : GG} {f : Nat → Nat → Nat} {l : Nat → Nat → Int64} {n : Nat} {v : Int64} (hn : n < 6) : Spec G mX10_lies [.int (nI n), .long v] 114 (f, l, refT) (some (.long (asLane n v))) 114 (f, l, refT) := by
  rcases (show n = 0 ∨ n = 1 ∨ n = 2 ∨ n = 3 ∨ n = 4 ∨ n = 5 by omega) with h | h | h | h | h | h
  · exact t_lies0 h
  · exact t_lies1 h
  · exact t_lies2 h
  · exact t_lies3 h
  · exact t_lies4 h
  · exact t_lies5 h

set_option maxRecDepth 20000 in
theorem t_breakTwo0 {G : GG} {f : Nat → Nat → Nat} {l : Nat → Nat → Int64} {D : DB} {W : LB} {U : QB} {T : TB} {N : Nat} (hM : MV f l D W U T N) (hBW : BW D W U T) {w r q : Nat} (hw : w < W.1) (hr : r < 12) (hq : q < 12) (h0 : W.2.1 w 0 = 0) : Spec G mX10_breakTwo [.ref (ad G 86), .int (nI w), .int (nI r), .int (nI q)] 114 (f, l, refT) (some (.int (bI (br2 D W w r q)))) 114 (f, l, refT) := by
  obtain ⟨hD, hLW, hUW, hTW⟩ := id hBW
  have hR := hD.1
  have hW1 := hLW.1
  have hU1 := hUW.1
  have hJ1 := hUW.2.1
  obtain ⟨hw0, hw1, hw2, hw3, hw4, -⟩ := hLW.2 w hw
  have hk1 : W.2.1 w 0 ≠ 1 := by omega
  have hk3 : W.2.1 w 0 ≠ 3 := by omega
  have hk5 : W.2.1 w 0 ≠ 5 := by omega
  refine Spec.of ok_X10_breakTwo.1 ⟨Nat.le_refl _, Nat.le_refl _⟩ (Nat.le_of_ble_eq_true rfl) ?_
  show Pm G RX10 cX10_breakTwo 12 (KM G mX10_breakTwo 114 114 (some (.int (bI (br2 D W w r q)))) (f, l, refT)) 0 [some (.ref (ad G 86)), some (.int (nI w)), some (.int (nI r)), some (.int (nI q)), none, none, none, none, none, none, none, none] [] f l
  refine P.aload_n dX10_breakTwo_0 rfl rfl ?_
  refine g_X10_colA (q := 96) ly_86 (by decide) (by decide) fl_X10_39 dX10_breakTwo_1 ?_
  refine P.iload_n dX10_breakTwo_4 rfl rfl ?_
  refine a_ia ly_96 (by decide) (by omega) (by decide) dX10_breakTwo_5 ?_
  refine Pm.topn (b := W.2.1 w 2) ((hM.fst w (by omega))) ?_
  refine P.istore dX10_breakTwo_6 (by decide) ?_
  refine P.aload_n dX10_breakTwo_8 rfl rfl ?_
  refine g_X10_colB (q := 97) ly_86 (by decide) (by decide) fl_X10_42 dX10_breakTwo_9 ?_
  refine P.iload_n dX10_breakTwo_12 rfl rfl ?_
  refine a_ia ly_97 (by decide) (by omega) (by decide) dX10_breakTwo_13 ?_
  refine Pm.topn (b := W.2.1 w 3) ((hM.snd w (by omega) hk1 hk3)) ?_
  refine P.istore dX10_breakTwo_14 (by decide) ?_
  refine P.aload_n dX10_breakTwo_16 rfl rfl ?_
  refine P.iload_n dX10_breakTwo_17 rfl rfl ?_
  refine P.iload dX10_breakTwo_18 rfl ?_
  refine P.iload_n dX10_breakTwo_20 rfl rfl ?_
  refine P.iload dX10_breakTwo_21 rfl ?_
  refine P.callV (As := [.int (nI r), .int (nI (W.2.1 w 2)), .int (nI q), .int (nI (W.2.1 w 2))]) (rest := []) (t_isLike (r := r) (c := (W.2.1 w 2)) (q := q) (d := (W.2.1 w 2)) hM hBW (by omega) (by omega) (by omega) (by omega)) ok_X10_isLike ⟨Nat.le_of_ble_eq_true rfl, Nat.le_of_ble_eq_true rfl, Nat.le_refl _, Nat.le_refl _⟩ rfl ml_X10_150 ly_86 (by decide) (by decide) rfl rfl (Nat.le_of_ble_eq_true rfl) dX10_breakTwo_23 ?_
  refine P.if_eq_b (tgt := 59) dX10_breakTwo_26 (by decide) (fun c_26 => ?_) (fun c_26 => ?_)
  · refine P.iconst dX10_breakTwo_59 ic_0 ?_
    exact P.bret rfl dX10_breakTwo_60 (by rw [show br2 D W w r q = false from by simp [br2, near, dist, h0, c_26]]; rfl) rfl
  refine P.aload_n dX10_breakTwo_29 rfl rfl ?_
  refine g_X10_isThere (q := 92) ly_86 (by decide) (by decide) fl_X10_26 dX10_breakTwo_30 ?_
  refine P.bipush (v := nI 6) dX10_breakTwo_33 rfl ?_
  refine P.iload_n dX10_breakTwo_35 rfl rfl ?_
  refine P.imul_n dX10_breakTwo_36 (pk_mul _ _) ?_
  refine P.iload dX10_breakTwo_37 rfl ?_
  refine P.iadd_n dX10_breakTwo_39 (nI_add _ _) ?_
  refine a_za ly_92 (by decide) (by omega) (by decide) dX10_breakTwo_40 ?_
  refine Pm.topn (b := D.2.2.1 r (W.2.1 w 3)) ((hM.the r (by omega) (W.2.1 w 3) (by omega))) ?_
  refine P.if_eq_n (tgt := 59) dX10_breakTwo_41 (by decide) (hD.2.2.1 _ _) (fun c_41 => ?_) (fun c_41 => ?_)
  · refine P.iconst dX10_breakTwo_59 ic_0 ?_
    exact P.bret rfl dX10_breakTwo_60 (by rw [show br2 D W w r q = false from by simp [br2, near, dist, h0, c_26, c_41]]; rfl) rfl
  refine P.aload_n dX10_breakTwo_44 rfl rfl ?_
  refine g_X10_isThere (q := 92) ly_86 (by decide) (by decide) fl_X10_26 dX10_breakTwo_45 ?_
  refine P.bipush (v := nI 6) dX10_breakTwo_48 rfl ?_
  refine P.iload_n dX10_breakTwo_50 rfl rfl ?_
  refine P.imul_n dX10_breakTwo_51 (pk_mul _ _) ?_
  refine P.iload dX10_breakTwo_52 rfl ?_
  refine P.iadd_n dX10_breakTwo_54 (nI_add _ _) ?_
  refine a_za ly_92 (by decide) (by omega) (by decide) dX10_breakTwo_55 ?_
  refine Pm.topn (b := D.2.2.1 q (W.2.1 w 3)) ((hM.the q (by omega) (W.2.1 w 3) (by omega))) ?_
  refine P.if_ne_n (tgt := 61) dX10_breakTwo_56 (by decide) (hD.2.2.1 _ _) (fun c_56 => ?_) (fun c_56 => ?_)
  · refine P.aload_n dX10_breakTwo_61 rfl rfl ?_
    refine g_X10_told (q := 93) ly_86 (by decide) (by decide) fl_X10_29 dX10_breakTwo_62 ?_
    refine P.bipush (v := nI 6) dX10_breakTwo_65 rfl ?_
    refine P.iload_n dX10_breakTwo_67 rfl rfl ?_
    refine P.imul_n dX10_breakTwo_68 (pk_mul _ _) ?_
    refine P.iload dX10_breakTwo_69 rfl ?_
    refine P.iadd_n dX10_breakTwo_71 (nI_add _ _) ?_
    refine a_la ly_93 (by decide) (by omega) (by decide) dX10_breakTwo_72 ?_
    refine Pm.topl (b := D.2.2.2 r (W.2.1 w 3)) ((hM.num r (by omega) (W.2.1 w 3) (by omega))) ?_
    refine P.lstore dX10_breakTwo_73 (by decide) (Nat.le_of_ble_eq_true rfl) ?_
    refine P.aload_n dX10_breakTwo_75 rfl rfl ?_
    refine g_X10_told (q := 93) ly_86 (by decide) (by decide) fl_X10_29 dX10_breakTwo_76 ?_
    refine P.bipush (v := nI 6) dX10_breakTwo_79 rfl ?_
    refine P.iload_n dX10_breakTwo_81 rfl rfl ?_
    refine P.imul_n dX10_breakTwo_82 (pk_mul _ _) ?_
    refine P.iload dX10_breakTwo_83 rfl ?_
    refine P.iadd_n dX10_breakTwo_85 (nI_add _ _) ?_
    refine a_la ly_93 (by decide) (by omega) (by decide) dX10_breakTwo_86 ?_
    refine Pm.topl (b := D.2.2.2 q (W.2.1 w 3)) ((hM.num q (by omega) (W.2.1 w 3) (by omega))) ?_
    refine P.lstore dX10_breakTwo_87 (by decide) (Nat.le_of_ble_eq_true rfl) ?_
    refine P.aload_n dX10_breakTwo_89 rfl rfl ?_
    refine g_X10_kind (q := 94) ly_86 (by decide) (by decide) fl_X10_33 dX10_breakTwo_90 ?_
    refine P.iload_n dX10_breakTwo_93 rfl rfl ?_
    refine a_ia ly_94 (by decide) (by omega) (by decide) dX10_breakTwo_94 ?_
    refine Pm.topn (b := W.2.1 w 0) ((hM.knd w (by omega))) ?_
    refine P.if_ne_n (tgt := 112) dX10_breakTwo_95 (by decide) (by omega) (fun c_95 => ?_) (fun c_95 => ?_)
    · exfalso; omega
    refine P.lload dX10_breakTwo_98 rfl ?_
    refine P.lload dX10_breakTwo_100 rfl ?_
    refine P.lc_eq (tgt := 110) dX10_breakTwo_102 dX10_breakTwo_103 (by decide) (fun c_102 => ?_) (fun c_102 => ?_)
    · refine P.iconst dX10_breakTwo_110 ic_0 ?_
      exact P.bret rfl dX10_breakTwo_111 (by rw [show br2 D W w r q = false from by simp [br2, near, dist, h0, c_26, c_41, c_56, c_95, c_102]]; rfl) rfl
    refine P.iconst dX10_breakTwo_106 ic_1 ?_
    refine P.goto (tgt := 111) dX10_breakTwo_107 (by decide) ?_
    exact P.bret rfl dX10_breakTwo_111 (by rw [show br2 D W w r q = true from by simp [br2, near, dist, h0, c_26, c_41, c_56, c_95, c_102]]; rfl) rfl
  refine P.iconst dX10_breakTwo_59 ic_0 ?_
  exact P.bret rfl dX10_breakTwo_60 (by rw [show br2 D W w r q = false from by simp [br2, near, dist, h0, c_26, c_41, c_56]]; rfl) rfl

set_option maxRecDepth 20000 in
theorem t_breakTwo2 {G : GG} {f : Nat → Nat → Nat} {l : Nat → Nat → Int64} {D : DB} {W : LB} {U : QB} {T : TB} {N : Nat} (hM : MV f l D W U T N) (hBW : BW D W U T) {w r q : Nat} (hw : w < W.1) (hr : r < 12) (hq : q < 12) (h0 : W.2.1 w 0 = 2) : Spec G mX10_breakTwo [.ref (ad G 86), .int (nI w), .int (nI r), .int (nI q)] 114 (f, l, refT) (some (.int (bI (br2 D W w r q)))) 114 (f, l, refT) := by
  obtain ⟨hD, hLW, hUW, hTW⟩ := id hBW
  have hR := hD.1
  have hW1 := hLW.1
  have hU1 := hUW.1
  have hJ1 := hUW.2.1
  obtain ⟨hw0, hw1, hw2, hw3, hw4, -⟩ := hLW.2 w hw
  have hk1 : W.2.1 w 0 ≠ 1 := by omega
  have hk3 : W.2.1 w 0 ≠ 3 := by omega
  have hk5 : W.2.1 w 0 ≠ 5 := by omega
  refine Spec.of ok_X10_breakTwo.1 ⟨Nat.le_refl _, Nat.le_refl _⟩ (Nat.le_of_ble_eq_true rfl) ?_
  show Pm G RX10 cX10_breakTwo 12 (KM G mX10_breakTwo 114 114 (some (.int (bI (br2 D W w r q)))) (f, l, refT)) 0 [some (.ref (ad G 86)), some (.int (nI w)), some (.int (nI r)), some (.int (nI q)), none, none, none, none, none, none, none, none] [] f l
  refine P.aload_n dX10_breakTwo_0 rfl rfl ?_
  refine g_X10_colA (q := 96) ly_86 (by decide) (by decide) fl_X10_39 dX10_breakTwo_1 ?_
  refine P.iload_n dX10_breakTwo_4 rfl rfl ?_
  refine a_ia ly_96 (by decide) (by omega) (by decide) dX10_breakTwo_5 ?_
  refine Pm.topn (b := W.2.1 w 2) ((hM.fst w (by omega))) ?_
  refine P.istore dX10_breakTwo_6 (by decide) ?_
  refine P.aload_n dX10_breakTwo_8 rfl rfl ?_
  refine g_X10_colB (q := 97) ly_86 (by decide) (by decide) fl_X10_42 dX10_breakTwo_9 ?_
  refine P.iload_n dX10_breakTwo_12 rfl rfl ?_
  refine a_ia ly_97 (by decide) (by omega) (by decide) dX10_breakTwo_13 ?_
  refine Pm.topn (b := W.2.1 w 3) ((hM.snd w (by omega) hk1 hk3)) ?_
  refine P.istore dX10_breakTwo_14 (by decide) ?_
  refine P.aload_n dX10_breakTwo_16 rfl rfl ?_
  refine P.iload_n dX10_breakTwo_17 rfl rfl ?_
  refine P.iload dX10_breakTwo_18 rfl ?_
  refine P.iload_n dX10_breakTwo_20 rfl rfl ?_
  refine P.iload dX10_breakTwo_21 rfl ?_
  refine P.callV (As := [.int (nI r), .int (nI (W.2.1 w 2)), .int (nI q), .int (nI (W.2.1 w 2))]) (rest := []) (t_isLike (r := r) (c := (W.2.1 w 2)) (q := q) (d := (W.2.1 w 2)) hM hBW (by omega) (by omega) (by omega) (by omega)) ok_X10_isLike ⟨Nat.le_of_ble_eq_true rfl, Nat.le_of_ble_eq_true rfl, Nat.le_refl _, Nat.le_refl _⟩ rfl ml_X10_150 ly_86 (by decide) (by decide) rfl rfl (Nat.le_of_ble_eq_true rfl) dX10_breakTwo_23 ?_
  refine P.if_eq_b (tgt := 59) dX10_breakTwo_26 (by decide) (fun c_26 => ?_) (fun c_26 => ?_)
  · refine P.iconst dX10_breakTwo_59 ic_0 ?_
    exact P.bret rfl dX10_breakTwo_60 (by rw [show br2 D W w r q = false from by simp [br2, near, dist, h0, c_26]]; rfl) rfl
  refine P.aload_n dX10_breakTwo_29 rfl rfl ?_
  refine g_X10_isThere (q := 92) ly_86 (by decide) (by decide) fl_X10_26 dX10_breakTwo_30 ?_
  refine P.bipush (v := nI 6) dX10_breakTwo_33 rfl ?_
  refine P.iload_n dX10_breakTwo_35 rfl rfl ?_
  refine P.imul_n dX10_breakTwo_36 (pk_mul _ _) ?_
  refine P.iload dX10_breakTwo_37 rfl ?_
  refine P.iadd_n dX10_breakTwo_39 (nI_add _ _) ?_
  refine a_za ly_92 (by decide) (by omega) (by decide) dX10_breakTwo_40 ?_
  refine Pm.topn (b := D.2.2.1 r (W.2.1 w 3)) ((hM.the r (by omega) (W.2.1 w 3) (by omega))) ?_
  refine P.if_eq_n (tgt := 59) dX10_breakTwo_41 (by decide) (hD.2.2.1 _ _) (fun c_41 => ?_) (fun c_41 => ?_)
  · refine P.iconst dX10_breakTwo_59 ic_0 ?_
    exact P.bret rfl dX10_breakTwo_60 (by rw [show br2 D W w r q = false from by simp [br2, near, dist, h0, c_26, c_41]]; rfl) rfl
  refine P.aload_n dX10_breakTwo_44 rfl rfl ?_
  refine g_X10_isThere (q := 92) ly_86 (by decide) (by decide) fl_X10_26 dX10_breakTwo_45 ?_
  refine P.bipush (v := nI 6) dX10_breakTwo_48 rfl ?_
  refine P.iload_n dX10_breakTwo_50 rfl rfl ?_
  refine P.imul_n dX10_breakTwo_51 (pk_mul _ _) ?_
  refine P.iload dX10_breakTwo_52 rfl ?_
  refine P.iadd_n dX10_breakTwo_54 (nI_add _ _) ?_
  refine a_za ly_92 (by decide) (by omega) (by decide) dX10_breakTwo_55 ?_
  refine Pm.topn (b := D.2.2.1 q (W.2.1 w 3)) ((hM.the q (by omega) (W.2.1 w 3) (by omega))) ?_
  refine P.if_ne_n (tgt := 61) dX10_breakTwo_56 (by decide) (hD.2.2.1 _ _) (fun c_56 => ?_) (fun c_56 => ?_)
  · refine P.aload_n dX10_breakTwo_61 rfl rfl ?_
    refine g_X10_told (q := 93) ly_86 (by decide) (by decide) fl_X10_29 dX10_breakTwo_62 ?_
    refine P.bipush (v := nI 6) dX10_breakTwo_65 rfl ?_
    refine P.iload_n dX10_breakTwo_67 rfl rfl ?_
    refine P.imul_n dX10_breakTwo_68 (pk_mul _ _) ?_
    refine P.iload dX10_breakTwo_69 rfl ?_
    refine P.iadd_n dX10_breakTwo_71 (nI_add _ _) ?_
    refine a_la ly_93 (by decide) (by omega) (by decide) dX10_breakTwo_72 ?_
    refine Pm.topl (b := D.2.2.2 r (W.2.1 w 3)) ((hM.num r (by omega) (W.2.1 w 3) (by omega))) ?_
    refine P.lstore dX10_breakTwo_73 (by decide) (Nat.le_of_ble_eq_true rfl) ?_
    refine P.aload_n dX10_breakTwo_75 rfl rfl ?_
    refine g_X10_told (q := 93) ly_86 (by decide) (by decide) fl_X10_29 dX10_breakTwo_76 ?_
    refine P.bipush (v := nI 6) dX10_breakTwo_79 rfl ?_
    refine P.iload_n dX10_breakTwo_81 rfl rfl ?_
    refine P.imul_n dX10_breakTwo_82 (pk_mul _ _) ?_
    refine P.iload dX10_breakTwo_83 rfl ?_
    refine P.iadd_n dX10_breakTwo_85 (nI_add _ _) ?_
    refine a_la ly_93 (by decide) (by omega) (by decide) dX10_breakTwo_86 ?_
    refine Pm.topl (b := D.2.2.2 q (W.2.1 w 3)) ((hM.num q (by omega) (W.2.1 w 3) (by omega))) ?_
    refine P.lstore dX10_breakTwo_87 (by decide) (Nat.le_of_ble_eq_true rfl) ?_
    refine P.aload_n dX10_breakTwo_89 rfl rfl ?_
    refine g_X10_kind (q := 94) ly_86 (by decide) (by decide) fl_X10_33 dX10_breakTwo_90 ?_
    refine P.iload_n dX10_breakTwo_93 rfl rfl ?_
    refine a_ia ly_94 (by decide) (by omega) (by decide) dX10_breakTwo_94 ?_
    refine Pm.topn (b := W.2.1 w 0) ((hM.knd w (by omega))) ?_
    refine P.if_ne_n (tgt := 112) dX10_breakTwo_95 (by decide) (by omega) (fun c_95 => ?_) (fun c_95 => ?_)
    · refine P.lload dX10_breakTwo_112 rfl ?_
      refine P.lload dX10_breakTwo_114 rfl ?_
      refine P.lc_le (tgt := 128) dX10_breakTwo_116 dX10_breakTwo_117 (by decide) (fun c_116 => ?_) (fun c_116 => ?_)
      · refine P.lload dX10_breakTwo_128 rfl ?_
        refine P.lload dX10_breakTwo_130 rfl ?_
        refine P.lsub dX10_breakTwo_132 ?_
        refine P.lstore dX10_breakTwo_133 (by decide) (Nat.le_of_ble_eq_true rfl) ?_
        refine P.lload dX10_breakTwo_135 rfl ?_
        refine P.lconst (v := 0) dX10_breakTwo_137 rfl ?_
        refine P.lc_lt (tgt := 158) dX10_breakTwo_138 dX10_breakTwo_139 (by decide) (fun c_138 => ?_) (fun c_138 => ?_)
        · refine P.iconst dX10_breakTwo_158 ic_0 ?_
          exact P.bret rfl dX10_breakTwo_159 (by rw [show br2 D W w r q = false from by simp [br2, near, dist, h0, c_26, c_41, c_56, c_95, c_116, (Int64.not_lt.mpr c_116), c_138, (Int64.not_le.mpr c_138)]]; rfl) rfl
        refine P.lload dX10_breakTwo_142 rfl ?_
        refine P.aload_n dX10_breakTwo_144 rfl rfl ?_
        refine g_X10_numC (q := 99) ly_86 (by decide) (by decide) fl_X10_48 dX10_breakTwo_145 ?_
        refine P.iload_n dX10_breakTwo_148 rfl rfl ?_
        refine a_la ly_99 (by decide) (by omega) (by decide) dX10_breakTwo_149 ?_
        refine Pm.topl (b := W.2.2 w 5) ((hM.lc w (by omega) hk5)) ?_
        refine P.lc_ge (tgt := 158) dX10_breakTwo_150 dX10_breakTwo_151 (by decide) (fun c_150 => ?_) (fun c_150 => ?_)
        · refine P.iconst dX10_breakTwo_158 ic_0 ?_
          exact P.bret rfl dX10_breakTwo_159 (by rw [show br2 D W w r q = false from by simp [br2, near, dist, h0, c_26, c_41, c_56, c_95, c_116, (Int64.not_lt.mpr c_116), c_138, (Int64.not_lt.mpr c_138), c_150, (Int64.not_lt.mpr c_150)]]; rfl) rfl
        refine P.iconst dX10_breakTwo_154 ic_1 ?_
        refine P.goto (tgt := 159) dX10_breakTwo_155 (by decide) ?_
        exact P.bret rfl dX10_breakTwo_159 (by rw [show br2 D W w r q = true from by simp [br2, near, dist, h0, c_26, c_41, c_56, c_95, c_116, (Int64.not_lt.mpr c_116), c_138, (Int64.not_lt.mpr c_138), c_150, (Int64.not_le.mpr c_150)]]; rfl) rfl
      refine P.lload dX10_breakTwo_120 rfl ?_
      refine P.lload dX10_breakTwo_122 rfl ?_
      refine P.lsub dX10_breakTwo_124 ?_
      refine P.goto (tgt := 133) dX10_breakTwo_125 (by decide) ?_
      refine P.lstore dX10_breakTwo_133 (by decide) (Nat.le_of_ble_eq_true rfl) ?_
      refine P.lload dX10_breakTwo_135 rfl ?_
      refine P.lconst (v := 0) dX10_breakTwo_137 rfl ?_
      refine P.lc_lt (tgt := 158) dX10_breakTwo_138 dX10_breakTwo_139 (by decide) (fun c_138 => ?_) (fun c_138 => ?_)
      · refine P.iconst dX10_breakTwo_158 ic_0 ?_
        exact P.bret rfl dX10_breakTwo_159 (by rw [show br2 D W w r q = false from by simp [br2, near, dist, h0, c_26, c_41, c_56, c_95, c_116, (Int64.not_le.mpr c_116), c_138, (Int64.not_le.mpr c_138)]]; rfl) rfl
      refine P.lload dX10_breakTwo_142 rfl ?_
      refine P.aload_n dX10_breakTwo_144 rfl rfl ?_
      refine g_X10_numC (q := 99) ly_86 (by decide) (by decide) fl_X10_48 dX10_breakTwo_145 ?_
      refine P.iload_n dX10_breakTwo_148 rfl rfl ?_
      refine a_la ly_99 (by decide) (by omega) (by decide) dX10_breakTwo_149 ?_
      refine Pm.topl (b := W.2.2 w 5) ((hM.lc w (by omega) hk5)) ?_
      refine P.lc_ge (tgt := 158) dX10_breakTwo_150 dX10_breakTwo_151 (by decide) (fun c_150 => ?_) (fun c_150 => ?_)
      · refine P.iconst dX10_breakTwo_158 ic_0 ?_
        exact P.bret rfl dX10_breakTwo_159 (by rw [show br2 D W w r q = false from by simp [br2, near, dist, h0, c_26, c_41, c_56, c_95, c_116, (Int64.not_le.mpr c_116), c_138, (Int64.not_lt.mpr c_138), c_150, (Int64.not_lt.mpr c_150)]]; rfl) rfl
      refine P.iconst dX10_breakTwo_154 ic_1 ?_
      refine P.goto (tgt := 159) dX10_breakTwo_155 (by decide) ?_
      exact P.bret rfl dX10_breakTwo_159 (by rw [show br2 D W w r q = true from by simp [br2, near, dist, h0, c_26, c_41, c_56, c_95, c_116, (Int64.not_le.mpr c_116), c_138, (Int64.not_lt.mpr c_138), c_150, (Int64.not_le.mpr c_150)]]; rfl) rfl
    · exfalso; omega
  refine P.iconst dX10_breakTwo_59 ic_0 ?_
  exact P.bret rfl dX10_breakTwo_60 (by rw [show br2 D W w r q = false from by simp [br2, near, dist, h0, c_26, c_41, c_56]]; rfl) rfl


-- the bench's face: law, among, join, count: by program (wip/whole/spec28.py)
set_option maxRecDepth 20000 in
theorem k_law_a {G : GG} {f : Nat → Nat → Nat} {l : Nat → Nat → Int64} {D : DB} {W : LB} {U : QB} {T : TB} {N : Nat} (hC : CI f l D W U T N) (hBW : BW D W U T) {c d : Int64} {x y z u : Int32} (hx : inR x 5 = false) : Spec G mX9_law [.ref (ad G 0), .int x, .int y, .int z, .int u, .long c, .long d] 114 (f, l, refT) (some (.int (-2))) 114 (f, l, refT) := by
  obtain ⟨hV, hL, hU, hT, hN, hSB⟩ := id hC
  obtain ⟨hD, hLW, hUW, hTW⟩ := id hBW
  have hR := hD.1
  have hW1 := hLW.1
  have hU1 := hUW.1
  have hJ1 := hUW.2.1
  have hx2 := inR_f.mp hx
  refine Spec.of ok_X9_law.1 ⟨Nat.le_refl _, Nat.le_refl _⟩ (Nat.le_of_ble_eq_true rfl) ?_
  show Pm G RX9 cX9_law 11 (KM G mX9_law 114 114 (some (.int (-2))) (f, l, refT)) 0 [some (.ref (ad G 0)), some (.int x), some (.int y), some (.int z), some (.int u), some (.long c), none, some (.long d), none, none, none] [] f l
  refine P.iload_n dX9_law_0 rfl rfl ?_
  refine P.if_lt_z (tgt := 21) dX9_law_1 (by decide) rfl (fun c_1 => ?_) (fun c_1 => ?_)
  · refine P.bipush (v := -2) dX9_law_21 rfl ?_
    exact P.iret rfl dX9_law_23 rfl rfl
  refine P.iload_n dX9_law_4 rfl rfl ?_
  refine P.iconst dX9_law_5 ic_4 ?_
  refine P.icmp_gt_z (tgt := 21) dX9_law_6 (by decide) rfl (zN (by omega)) (fun c_6 => ?_) (fun c_6 => ?_)
  · refine P.bipush (v := -2) dX9_law_21 rfl ?_
    exact P.iret rfl dX9_law_23 rfl rfl
  · exfalso; omega

set_option maxRecDepth 20000 in
theorem k_law_b {G : GG} {f : Nat → Nat → Nat} {l : Nat → Nat → Int64} {D : DB} {W : LB} {U : QB} {T : TB} {N : Nat} (hC : CI f l D W U T N) (hBW : BW D W U T) {c d : Int64} {y z u : Int32} (hc : c < 0) : Spec G mX9_law [.ref (ad G 0), .int (nI 4), .int y, .int z, .int u, .long c, .long d] 114 (f, l, refT) (some (.int (-2))) 114 (f, l, refT) := by
  obtain ⟨hV, hL, hU, hT, hN, hSB⟩ := id hC
  obtain ⟨hD, hLW, hUW, hTW⟩ := id hBW
  have hR := hD.1
  have hW1 := hLW.1
  have hU1 := hUW.1
  have hJ1 := hUW.2.1
  refine Spec.of ok_X9_law.1 ⟨Nat.le_refl _, Nat.le_refl _⟩ (Nat.le_of_ble_eq_true rfl) ?_
  show Pm G RX9 cX9_law 11 (KM G mX9_law 114 114 (some (.int (-2))) (f, l, refT)) 0 [some (.ref (ad G 0)), some (.int (nI 4)), some (.int y), some (.int z), some (.int u), some (.long c), none, some (.long d), none, none, none] [] f l
  refine P.iload_n dX9_law_0 rfl rfl ?_
  refine P.if_lt_z (tgt := 21) dX9_law_1 (by decide) (zN (by omega)) (fun c_1 => ?_) (fun c_1 => ?_)
  · exfalso; omega
  refine P.iload_n dX9_law_4 rfl rfl ?_
  refine P.iconst dX9_law_5 ic_4 ?_
  refine P.icmp_gt_n (tgt := 21) dX9_law_6 (by decide) (by omega) (by omega) (fun c_6 => ?_) (fun c_6 => ?_)
  · exfalso; omega
  refine P.iload_n dX9_law_9 rfl rfl ?_
  refine P.iconst dX9_law_10 ic_4 ?_
  refine P.icmp_ne_n (tgt := 24) dX9_law_11 (by decide) (by omega) (by omega) (fun c_11 => ?_) (fun c_11 => ?_)
  · exfalso; omega
  refine P.lload dX9_law_14 rfl ?_
  refine P.lconst (v := 0) dX9_law_16 rfl ?_
  refine P.lc_ge (tgt := 24) dX9_law_17 dX9_law_18 (by decide) (fun c_17 => ?_) (fun c_17 => ?_)
  · exfalso; exact absurd hc (Int64.not_lt.mpr c_17)
  refine P.bipush (v := -2) dX9_law_21 rfl ?_
  exact P.iret rfl dX9_law_23 rfl rfl

set_option maxRecDepth 20000 in
theorem k_law_c {G : GG} {f : Nat → Nat → Nat} {l : Nat → Nat → Int64} {D : DB} {W : LB} {U : QB} {T : TB} {N : Nat} (hC : CI f l D W U T N) (hBW : BW D W U T) {c d : Int64} {k : Nat} (hk : k < 5) (hk4 : k = 4 → 0 ≤ c) {y z u : Int32} (h10 : W.1 = 10) : Spec G mX9_law [.ref (ad G 0), .int (nI k), .int y, .int z, .int u, .long c, .long d] 114 (f, l, refT) (some (.int (-4))) 114 (f, l, refT) := by
  obtain ⟨hV, hL, hU, hT, hN, hSB⟩ := id hC
  obtain ⟨hD, hLW, hUW, hTW⟩ := id hBW
  have hR := hD.1
  have hW1 := hLW.1
  have hU1 := hUW.1
  have hJ1 := hUW.2.1
  refine Spec.of ok_X9_law.1 ⟨Nat.le_refl _, Nat.le_refl _⟩ (Nat.le_of_ble_eq_true rfl) ?_
  show Pm G RX9 cX9_law 11 (KM G mX9_law 114 114 (some (.int (-4))) (f, l, refT)) 0 [some (.ref (ad G 0)), some (.int (nI k)), some (.int y), some (.int z), some (.int u), some (.long c), none, some (.long d), none, none, none] [] f l
  refine P.iload_n dX9_law_0 rfl rfl ?_
  refine P.if_lt_z (tgt := 21) dX9_law_1 (by decide) (zN (by omega)) (fun c_1 => ?_) (fun c_1 => ?_)
  · exfalso; omega
  refine P.iload_n dX9_law_4 rfl rfl ?_
  refine P.iconst dX9_law_5 ic_4 ?_
  refine P.icmp_gt_n (tgt := 21) dX9_law_6 (by decide) (by omega) (by omega) (fun c_6 => ?_) (fun c_6 => ?_)
  · exfalso; omega
  refine P.iload_n dX9_law_9 rfl rfl ?_
  refine P.iconst dX9_law_10 ic_4 ?_
  refine P.icmp_ne_n (tgt := 24) dX9_law_11 (by decide) (by omega) (by omega) (fun c_11 => ?_) (fun c_11 => ?_)
  · refine P.aload_n dX9_law_24 rfl rfl ?_
    refine g_X9_laws (q := 40) ly_0 (by decide) (by decide) fl_X9_27 dX9_law_25 ?_
    refine g_X2_many ly_40 (by decide) fl_X9_126 dX9_law_28 ?_
    refine Pm.topn (b := W.1) (hL.1) ?_
    refine P.bipush (v := nI 10) dX9_law_31 rfl ?_
    refine P.icmp_lt_n (tgt := 39) dX9_law_33 (by decide) (by omega) (by omega) (fun c_33 => ?_) (fun c_33 => ?_)
    · exfalso; omega
    refine P.bipush (v := -4) dX9_law_36 rfl ?_
    exact P.iret rfl dX9_law_38 rfl rfl
  refine P.lload dX9_law_14 rfl ?_
  refine P.lconst (v := 0) dX9_law_16 rfl ?_
  refine P.lc_ge (tgt := 24) dX9_law_17 dX9_law_18 (by decide) (fun c_17 => ?_) (fun c_17 => ?_)
  · refine P.aload_n dX9_law_24 rfl rfl ?_
    refine g_X9_laws (q := 40) ly_0 (by decide) (by decide) fl_X9_27 dX9_law_25 ?_
    refine g_X2_many ly_40 (by decide) fl_X9_126 dX9_law_28 ?_
    refine Pm.topn (b := W.1) (hL.1) ?_
    refine P.bipush (v := nI 10) dX9_law_31 rfl ?_
    refine P.icmp_lt_n (tgt := 39) dX9_law_33 (by decide) (by omega) (by omega) (fun c_33 => ?_) (fun c_33 => ?_)
    · exfalso; omega
    refine P.bipush (v := -4) dX9_law_36 rfl ?_
    exact P.iret rfl dX9_law_38 rfl rfl
  · exfalso; exact absurd (hk4 c_11) (Int64.not_le.mpr c_17)

set_option maxRecDepth 20000 in
theorem k_law_d {G : GG} {f : Nat → Nat → Nat} {l : Nat → Nat → Int64} {D : DB} {W : LB} {U : QB} {T : TB} {N : Nat} (hC : CI f l D W U T N) (hBW : BW D W U T) {c d : Int64} {k : Nat} (hk : k < 5) (hk4 : k = 4 → 0 ≤ c) (h10 : W.1 < 10) {x : Int32} (hx : inR x 4 = false) {z u : Int32} : Spec G mX9_law [.ref (ad G 0), .int (nI k), .int x, .int z, .int u, .long c, .long d] 114 (f, l, refT) (some (.int (-12))) 114 (uf f 0 5 (N + 1), l, refT) := by
  obtain ⟨hV, hL, hU, hT, hN, hSB⟩ := id hC
  obtain ⟨hD, hLW, hUW, hTW⟩ := id hBW
  have hR := hD.1
  have hW1 := hLW.1
  have hU1 := hUW.1
  have hJ1 := hUW.2.1
  refine Spec.of ok_X9_law.1 ⟨Nat.le_refl _, Nat.le_refl _⟩ (Nat.le_of_ble_eq_true rfl) ?_
  show Pm G RX9 cX9_law 11 (KM G mX9_law 114 114 (some (.int (-12))) (uf f 0 5 (N + 1), l, refT)) 0 [some (.ref (ad G 0)), some (.int (nI k)), some (.int x), some (.int z), some (.int u), some (.long c), none, some (.long d), none, none, none] [] f l
  refine P.iload_n dX9_law_0 rfl rfl ?_
  refine P.if_lt_z (tgt := 21) dX9_law_1 (by decide) (zN (by omega)) (fun c_1 => ?_) (fun c_1 => ?_)
  · exfalso; omega
  refine P.iload_n dX9_law_4 rfl rfl ?_
  refine P.iconst dX9_law_5 ic_4 ?_
  refine P.icmp_gt_n (tgt := 21) dX9_law_6 (by decide) (by omega) (by omega) (fun c_6 => ?_) (fun c_6 => ?_)
  · exfalso; omega
  refine P.iload_n dX9_law_9 rfl rfl ?_
  refine P.iconst dX9_law_10 ic_4 ?_
  refine P.icmp_ne_n (tgt := 24) dX9_law_11 (by decide) (by omega) (by omega) (fun c_11 => ?_) (fun c_11 => ?_)
  · refine P.aload_n dX9_law_24 rfl rfl ?_
    refine g_X9_laws (q := 40) ly_0 (by decide) (by decide) fl_X9_27 dX9_law_25 ?_
    refine g_X2_many ly_40 (by decide) fl_X9_126 dX9_law_28 ?_
    refine Pm.topn (b := W.1) (hL.1) ?_
    refine P.bipush (v := nI 10) dX9_law_31 rfl ?_
    refine P.icmp_lt_n (tgt := 39) dX9_law_33 (by decide) (by omega) (by omega) (fun c_33 => ?_) (fun c_33 => ?_)
    · refine P.aload_n dX9_law_39 rfl rfl ?_
      refine P.iload_n dX9_law_40 rfl rfl ?_
      refine P.iload_n dX9_law_41 rfl rfl ?_
      refine P.callV (As := [.int x, .int z]) (rest := []) (s_fCin_out hN hx) ok_X9_faultOfColumnIn ⟨Nat.le_of_ble_eq_true rfl, Nat.le_of_ble_eq_true rfl, Nat.le_refl _, Nat.le_refl _⟩ rfl ml_X9_127 ly_0 (by decide) (by decide) rfl rfl (Nat.le_of_ble_eq_true rfl) dX9_law_42 ?_
      refine P.istore dX9_law_45 (by decide) ?_
      refine P.iload dX9_law_47 rfl ?_
      refine P.if_ne_z (tgt := 68) dX9_law_49 (by decide) (show (-12 : Int32).toInt = -12 from rfl) (fun c_49 => ?_) (fun c_49 => ?_)
      · refine P.iload dX9_law_68 rfl ?_
        refine P.if_eq_z (tgt := 76) dX9_law_70 (by decide) (show (-12 : Int32).toInt = -12 from rfl) (fun c_70 => ?_) (fun c_70 => ?_)
        · exfalso; revert c_70; decide
        refine P.iload dX9_law_73 rfl ?_
        exact P.iret rfl dX9_law_75 rfl rfl
      · exfalso; revert c_49; decide
    · exfalso; omega
  refine P.lload dX9_law_14 rfl ?_
  refine P.lconst (v := 0) dX9_law_16 rfl ?_
  refine P.lc_ge (tgt := 24) dX9_law_17 dX9_law_18 (by decide) (fun c_17 => ?_) (fun c_17 => ?_)
  · refine P.aload_n dX9_law_24 rfl rfl ?_
    refine g_X9_laws (q := 40) ly_0 (by decide) (by decide) fl_X9_27 dX9_law_25 ?_
    refine g_X2_many ly_40 (by decide) fl_X9_126 dX9_law_28 ?_
    refine Pm.topn (b := W.1) (hL.1) ?_
    refine P.bipush (v := nI 10) dX9_law_31 rfl ?_
    refine P.icmp_lt_n (tgt := 39) dX9_law_33 (by decide) (by omega) (by omega) (fun c_33 => ?_) (fun c_33 => ?_)
    · refine P.aload_n dX9_law_39 rfl rfl ?_
      refine P.iload_n dX9_law_40 rfl rfl ?_
      refine P.iload_n dX9_law_41 rfl rfl ?_
      refine P.callV (As := [.int x, .int z]) (rest := []) (s_fCin_out hN hx) ok_X9_faultOfColumnIn ⟨Nat.le_of_ble_eq_true rfl, Nat.le_of_ble_eq_true rfl, Nat.le_refl _, Nat.le_refl _⟩ rfl ml_X9_127 ly_0 (by decide) (by decide) rfl rfl (Nat.le_of_ble_eq_true rfl) dX9_law_42 ?_
      refine P.istore dX9_law_45 (by decide) ?_
      refine P.iload dX9_law_47 rfl ?_
      refine P.if_ne_z (tgt := 68) dX9_law_49 (by decide) (show (-12 : Int32).toInt = -12 from rfl) (fun c_49 => ?_) (fun c_49 => ?_)
      · refine P.iload dX9_law_68 rfl ?_
        refine P.if_eq_z (tgt := 76) dX9_law_70 (by decide) (show (-12 : Int32).toInt = -12 from rfl) (fun c_70 => ?_) (fun c_70 => ?_)
        · exfalso; revert c_70; decide
        refine P.iload dX9_law_73 rfl ?_
        exact P.iret rfl dX9_law_75 rfl rfl
      · exfalso; revert c_49; decide
    · exfalso; omega
  · exfalso; exact absurd (hk4 c_11) (Int64.not_le.mpr c_17)

set_option maxRecDepth 20000 in
theorem k_law_e {G : GG} {f : Nat → Nat → Nat} {l : Nat → Nat → Int64} {D : DB} {W : LB} {U : QB} {T : TB} {N : Nat} (hC : CI f l D W U T N) (hBW : BW D W U T) {c d : Int64} {k : Nat} (hk : k < 5) (hk4 : k = 4 → 0 ≤ c) (h10 : W.1 < 10) {t : Nat} (ht : t < 4) (h0 : T.1 t = 0) {z u : Int32} : Spec G mX9_law [.ref (ad G 0), .int (nI k), .int (nI t), .int z, .int u, .long c, .long d] 114 (f, l, refT) (some (.int (-11))) 114 (uf f 0 5 (N + 1), l, refT) := by
  obtain ⟨hV, hL, hU, hT, hN, hSB⟩ := id hC
  obtain ⟨hD, hLW, hUW, hTW⟩ := id hBW
  have hR := hD.1
  have hW1 := hLW.1
  have hU1 := hUW.1
  have hJ1 := hUW.2.1
  refine Spec.of ok_X9_law.1 ⟨Nat.le_refl _, Nat.le_refl _⟩ (Nat.le_of_ble_eq_true rfl) ?_
  show Pm G RX9 cX9_law 11 (KM G mX9_law 114 114 (some (.int (-11))) (uf f 0 5 (N + 1), l, refT)) 0 [some (.ref (ad G 0)), some (.int (nI k)), some (.int (nI t)), some (.int z), some (.int u), some (.long c), none, some (.long d), none, none, none] [] f l
  refine P.iload_n dX9_law_0 rfl rfl ?_
  refine P.if_lt_z (tgt := 21) dX9_law_1 (by decide) (zN (by omega)) (fun c_1 => ?_) (fun c_1 => ?_)
  · exfalso; omega
  refine P.iload_n dX9_law_4 rfl rfl ?_
  refine P.iconst dX9_law_5 ic_4 ?_
  refine P.icmp_gt_n (tgt := 21) dX9_law_6 (by decide) (by omega) (by omega) (fun c_6 => ?_) (fun c_6 => ?_)
  · exfalso; omega
  refine P.iload_n dX9_law_9 rfl rfl ?_
  refine P.iconst dX9_law_10 ic_4 ?_
  refine P.icmp_ne_n (tgt := 24) dX9_law_11 (by decide) (by omega) (by omega) (fun c_11 => ?_) (fun c_11 => ?_)
  · refine P.aload_n dX9_law_24 rfl rfl ?_
    refine g_X9_laws (q := 40) ly_0 (by decide) (by decide) fl_X9_27 dX9_law_25 ?_
    refine g_X2_many ly_40 (by decide) fl_X9_126 dX9_law_28 ?_
    refine Pm.topn (b := W.1) (hL.1) ?_
    refine P.bipush (v := nI 10) dX9_law_31 rfl ?_
    refine P.icmp_lt_n (tgt := 39) dX9_law_33 (by decide) (by omega) (by omega) (fun c_33 => ?_) (fun c_33 => ?_)
    · refine P.aload_n dX9_law_39 rfl rfl ?_
      refine P.iload_n dX9_law_40 rfl rfl ?_
      refine P.iload_n dX9_law_41 rfl rfl ?_
      refine P.callV (As := [.int (nI t), .int z]) (rest := []) (s_fCin_null hT hTW hN ht h0) ok_X9_faultOfColumnIn ⟨Nat.le_of_ble_eq_true rfl, Nat.le_of_ble_eq_true rfl, Nat.le_refl _, Nat.le_refl _⟩ rfl ml_X9_127 ly_0 (by decide) (by decide) rfl rfl (Nat.le_of_ble_eq_true rfl) dX9_law_42 ?_
      refine P.istore dX9_law_45 (by decide) ?_
      refine P.iload dX9_law_47 rfl ?_
      refine P.if_ne_z (tgt := 68) dX9_law_49 (by decide) (show (-11 : Int32).toInt = -11 from rfl) (fun c_49 => ?_) (fun c_49 => ?_)
      · refine P.iload dX9_law_68 rfl ?_
        refine P.if_eq_z (tgt := 76) dX9_law_70 (by decide) (show (-11 : Int32).toInt = -11 from rfl) (fun c_70 => ?_) (fun c_70 => ?_)
        · exfalso; revert c_70; decide
        refine P.iload dX9_law_73 rfl ?_
        exact P.iret rfl dX9_law_75 rfl rfl
      · exfalso; revert c_49; decide
    · exfalso; omega
  refine P.lload dX9_law_14 rfl ?_
  refine P.lconst (v := 0) dX9_law_16 rfl ?_
  refine P.lc_ge (tgt := 24) dX9_law_17 dX9_law_18 (by decide) (fun c_17 => ?_) (fun c_17 => ?_)
  · refine P.aload_n dX9_law_24 rfl rfl ?_
    refine g_X9_laws (q := 40) ly_0 (by decide) (by decide) fl_X9_27 dX9_law_25 ?_
    refine g_X2_many ly_40 (by decide) fl_X9_126 dX9_law_28 ?_
    refine Pm.topn (b := W.1) (hL.1) ?_
    refine P.bipush (v := nI 10) dX9_law_31 rfl ?_
    refine P.icmp_lt_n (tgt := 39) dX9_law_33 (by decide) (by omega) (by omega) (fun c_33 => ?_) (fun c_33 => ?_)
    · refine P.aload_n dX9_law_39 rfl rfl ?_
      refine P.iload_n dX9_law_40 rfl rfl ?_
      refine P.iload_n dX9_law_41 rfl rfl ?_
      refine P.callV (As := [.int (nI t), .int z]) (rest := []) (s_fCin_null hT hTW hN ht h0) ok_X9_faultOfColumnIn ⟨Nat.le_of_ble_eq_true rfl, Nat.le_of_ble_eq_true rfl, Nat.le_refl _, Nat.le_refl _⟩ rfl ml_X9_127 ly_0 (by decide) (by decide) rfl rfl (Nat.le_of_ble_eq_true rfl) dX9_law_42 ?_
      refine P.istore dX9_law_45 (by decide) ?_
      refine P.iload dX9_law_47 rfl ?_
      refine P.if_ne_z (tgt := 68) dX9_law_49 (by decide) (show (-11 : Int32).toInt = -11 from rfl) (fun c_49 => ?_) (fun c_49 => ?_)
      · refine P.iload dX9_law_68 rfl ?_
        refine P.if_eq_z (tgt := 76) dX9_law_70 (by decide) (show (-11 : Int32).toInt = -11 from rfl) (fun c_70 => ?_) (fun c_70 => ?_)
        · exfalso; revert c_70; decide
        refine P.iload dX9_law_73 rfl ?_
        exact P.iret rfl dX9_law_75 rfl rfl
      · exfalso; revert c_49; decide
    · exfalso; omega
  · exfalso; exact absurd (hk4 c_11) (Int64.not_le.mpr c_17)

set_option maxRecDepth 20000 in
theorem k_law_f {G : GG} {f : Nat → Nat → Nat} {l : Nat → Nat → Int64} {D : DB} {W : LB} {U : QB} {T : TB} {N : Nat} (hC : CI f l D W U T N) (hBW : BW D W U T) {c d : Int64} {k : Nat} (hk : k < 5) (hk4 : k = 4 → 0 ≤ c) (h10 : W.1 < 10) {t : Nat} (ht : t < 4) (h0 : T.1 t ≠ 0) {y : Int32} (hy : inR y (T.1 t) = false) {u : Int32} : Spec G mX9_law [.ref (ad G 0), .int (nI k), .int (nI t), .int y, .int u, .long c, .long d] 114 (f, l, refT) (some (.int (-12))) 114 (uf f 0 5 (N + 1), l, refT) := by
  obtain ⟨hV, hL, hU, hT, hN, hSB⟩ := id hC
  obtain ⟨hD, hLW, hUW, hTW⟩ := id hBW
  have hR := hD.1
  have hW1 := hLW.1
  have hU1 := hUW.1
  have hJ1 := hUW.2.1
  refine Spec.of ok_X9_law.1 ⟨Nat.le_refl _, Nat.le_refl _⟩ (Nat.le_of_ble_eq_true rfl) ?_
  show Pm G RX9 cX9_law 11 (KM G mX9_law 114 114 (some (.int (-12))) (uf f 0 5 (N + 1), l, refT)) 0 [some (.ref (ad G 0)), some (.int (nI k)), some (.int (nI t)), some (.int y), some (.int u), some (.long c), none, some (.long d), none, none, none] [] f l
  refine P.iload_n dX9_law_0 rfl rfl ?_
  refine P.if_lt_z (tgt := 21) dX9_law_1 (by decide) (zN (by omega)) (fun c_1 => ?_) (fun c_1 => ?_)
  · exfalso; omega
  refine P.iload_n dX9_law_4 rfl rfl ?_
  refine P.iconst dX9_law_5 ic_4 ?_
  refine P.icmp_gt_n (tgt := 21) dX9_law_6 (by decide) (by omega) (by omega) (fun c_6 => ?_) (fun c_6 => ?_)
  · exfalso; omega
  refine P.iload_n dX9_law_9 rfl rfl ?_
  refine P.iconst dX9_law_10 ic_4 ?_
  refine P.icmp_ne_n (tgt := 24) dX9_law_11 (by decide) (by omega) (by omega) (fun c_11 => ?_) (fun c_11 => ?_)
  · refine P.aload_n dX9_law_24 rfl rfl ?_
    refine g_X9_laws (q := 40) ly_0 (by decide) (by decide) fl_X9_27 dX9_law_25 ?_
    refine g_X2_many ly_40 (by decide) fl_X9_126 dX9_law_28 ?_
    refine Pm.topn (b := W.1) (hL.1) ?_
    refine P.bipush (v := nI 10) dX9_law_31 rfl ?_
    refine P.icmp_lt_n (tgt := 39) dX9_law_33 (by decide) (by omega) (by omega) (fun c_33 => ?_) (fun c_33 => ?_)
    · refine P.aload_n dX9_law_39 rfl rfl ?_
      refine P.iload_n dX9_law_40 rfl rfl ?_
      refine P.iload_n dX9_law_41 rfl rfl ?_
      refine P.callV (As := [.int (nI t), .int y]) (rest := []) (s_fCin_col hT hTW hN ht h0 hy) ok_X9_faultOfColumnIn ⟨Nat.le_of_ble_eq_true rfl, Nat.le_of_ble_eq_true rfl, Nat.le_refl _, Nat.le_refl _⟩ rfl ml_X9_127 ly_0 (by decide) (by decide) rfl rfl (Nat.le_of_ble_eq_true rfl) dX9_law_42 ?_
      refine P.istore dX9_law_45 (by decide) ?_
      refine P.iload dX9_law_47 rfl ?_
      refine P.if_ne_z (tgt := 68) dX9_law_49 (by decide) (show (-12 : Int32).toInt = -12 from rfl) (fun c_49 => ?_) (fun c_49 => ?_)
      · refine P.iload dX9_law_68 rfl ?_
        refine P.if_eq_z (tgt := 76) dX9_law_70 (by decide) (show (-12 : Int32).toInt = -12 from rfl) (fun c_70 => ?_) (fun c_70 => ?_)
        · exfalso; revert c_70; decide
        refine P.iload dX9_law_73 rfl ?_
        exact P.iret rfl dX9_law_75 rfl rfl
      · exfalso; revert c_49; decide
    · exfalso; omega
  refine P.lload dX9_law_14 rfl ?_
  refine P.lconst (v := 0) dX9_law_16 rfl ?_
  refine P.lc_ge (tgt := 24) dX9_law_17 dX9_law_18 (by decide) (fun c_17 => ?_) (fun c_17 => ?_)
  · refine P.aload_n dX9_law_24 rfl rfl ?_
    refine g_X9_laws (q := 40) ly_0 (by decide) (by decide) fl_X9_27 dX9_law_25 ?_
    refine g_X2_many ly_40 (by decide) fl_X9_126 dX9_law_28 ?_
    refine Pm.topn (b := W.1) (hL.1) ?_
    refine P.bipush (v := nI 10) dX9_law_31 rfl ?_
    refine P.icmp_lt_n (tgt := 39) dX9_law_33 (by decide) (by omega) (by omega) (fun c_33 => ?_) (fun c_33 => ?_)
    · refine P.aload_n dX9_law_39 rfl rfl ?_
      refine P.iload_n dX9_law_40 rfl rfl ?_
      refine P.iload_n dX9_law_41 rfl rfl ?_
      refine P.callV (As := [.int (nI t), .int y]) (rest := []) (s_fCin_col hT hTW hN ht h0 hy) ok_X9_faultOfColumnIn ⟨Nat.le_of_ble_eq_true rfl, Nat.le_of_ble_eq_true rfl, Nat.le_refl _, Nat.le_refl _⟩ rfl ml_X9_127 ly_0 (by decide) (by decide) rfl rfl (Nat.le_of_ble_eq_true rfl) dX9_law_42 ?_
      refine P.istore dX9_law_45 (by decide) ?_
      refine P.iload dX9_law_47 rfl ?_
      refine P.if_ne_z (tgt := 68) dX9_law_49 (by decide) (show (-12 : Int32).toInt = -12 from rfl) (fun c_49 => ?_) (fun c_49 => ?_)
      · refine P.iload dX9_law_68 rfl ?_
        refine P.if_eq_z (tgt := 76) dX9_law_70 (by decide) (show (-12 : Int32).toInt = -12 from rfl) (fun c_70 => ?_) (fun c_70 => ?_)
        · exfalso; revert c_70; decide
        refine P.iload dX9_law_73 rfl ?_
        exact P.iret rfl dX9_law_75 rfl rfl
      · exfalso; revert c_49; decide
    · exfalso; omega
  · exfalso; exact absurd (hk4 c_11) (Int64.not_le.mpr c_17)

set_option maxRecDepth 20000 in
theorem k_law_g {G : GG} {f : Nat → Nat → Nat} {l : Nat → Nat → Int64} {D : DB} {W : LB} {U : QB} {T : TB} {N : Nat} (hC : CI f l D W U T N) (hBW : BW D W U T) {c d : Int64} {k : Nat} (hk : k < 5) (hk4 : k = 4 → 0 ≤ c) (h10 : W.1 < 10) {t : Nat} (ht : t < 4) (h0 : T.1 t ≠ 0) {a : Nat} (hc : a < T.1 t) (h2 : two k = true) {z : Int32} (hz : inR z (T.1 t) = false) : Spec G mX9_law [.ref (ad G 0), .int (nI k), .int (nI t), .int (nI a), .int z, .long c, .long d] 114 (f, l, refT) (some (.int (-12))) 114 (uf f 0 5 (N + 1), l, refT) := by
  obtain ⟨hV, hL, hU, hT, hN, hSB⟩ := id hC
  obtain ⟨hD, hLW, hUW, hTW⟩ := id hBW
  have hR := hD.1
  have hW1 := hLW.1
  have hU1 := hUW.1
  have hJ1 := hUW.2.1
  refine Spec.of ok_X9_law.1 ⟨Nat.le_refl _, Nat.le_refl _⟩ (Nat.le_of_ble_eq_true rfl) ?_
  show Pm G RX9 cX9_law 11 (KM G mX9_law 114 114 (some (.int (-12))) (uf f 0 5 (N + 1), l, refT)) 0 [some (.ref (ad G 0)), some (.int (nI k)), some (.int (nI t)), some (.int (nI a)), some (.int z), some (.long c), none, some (.long d), none, none, none] [] f l
  refine P.iload_n dX9_law_0 rfl rfl ?_
  refine P.if_lt_z (tgt := 21) dX9_law_1 (by decide) (zN (by omega)) (fun c_1 => ?_) (fun c_1 => ?_)
  · exfalso; omega
  refine P.iload_n dX9_law_4 rfl rfl ?_
  refine P.iconst dX9_law_5 ic_4 ?_
  refine P.icmp_gt_n (tgt := 21) dX9_law_6 (by decide) (by omega) (by omega) (fun c_6 => ?_) (fun c_6 => ?_)
  · exfalso; omega
  refine P.iload_n dX9_law_9 rfl rfl ?_
  refine P.iconst dX9_law_10 ic_4 ?_
  refine P.icmp_ne_n (tgt := 24) dX9_law_11 (by decide) (by omega) (by omega) (fun c_11 => ?_) (fun c_11 => ?_)
  · refine P.aload_n dX9_law_24 rfl rfl ?_
    refine g_X9_laws (q := 40) ly_0 (by decide) (by decide) fl_X9_27 dX9_law_25 ?_
    refine g_X2_many ly_40 (by decide) fl_X9_126 dX9_law_28 ?_
    refine Pm.topn (b := W.1) (hL.1) ?_
    refine P.bipush (v := nI 10) dX9_law_31 rfl ?_
    refine P.icmp_lt_n (tgt := 39) dX9_law_33 (by decide) (by omega) (by omega) (fun c_33 => ?_) (fun c_33 => ?_)
    · refine P.aload_n dX9_law_39 rfl rfl ?_
      refine P.iload_n dX9_law_40 rfl rfl ?_
      refine P.iload_n dX9_law_41 rfl rfl ?_
      refine P.callV (As := [.int (nI t), .int (nI a)]) (rest := []) (s_fCin_ok hT hTW ht h0 hc) ok_X9_faultOfColumnIn ⟨Nat.le_of_ble_eq_true rfl, Nat.le_of_ble_eq_true rfl, Nat.le_refl _, Nat.le_refl _⟩ rfl ml_X9_127 ly_0 (by decide) (by decide) rfl rfl (Nat.le_of_ble_eq_true rfl) dX9_law_42 ?_
      refine P.istore dX9_law_45 (by decide) ?_
      refine P.iload dX9_law_47 rfl ?_
      refine P.if_ne_n (tgt := 68) dX9_law_49 (by decide) (by omega) (fun c_49 => ?_) (fun c_49 => ?_)
      · exfalso; omega
      refine P.iload_n dX9_law_52 rfl rfl ?_
      refine P.callS (As := [.int (nI k)]) (rest := []) (by have h := s_looks (G := G) (f := f) (l := l) hk; rw [h2] at h; exact h) ok_X9_looksAtTwo ⟨Nat.le_of_ble_eq_true rfl, Nat.le_of_ble_eq_true rfl, Nat.le_refl _, Nat.le_refl _⟩ rfl ml_X9_130 rfl (Nat.le_of_ble_eq_true rfl) dX9_law_53 ?_
      refine P.if_eq_b (tgt := 68) dX9_law_56 (by decide) (fun c_56 => ?_) (fun c_56 => ?_)
      · exfalso; revert c_56; decide
      refine P.aload_n dX9_law_59 rfl rfl ?_
      refine P.iload_n dX9_law_60 rfl rfl ?_
      refine P.iload dX9_law_61 rfl ?_
      refine P.callV (As := [.int (nI t), .int z]) (rest := []) (s_fCol_out hT hTW hN ht hz) ok_X9_faultOfColumn ⟨Nat.le_of_ble_eq_true rfl, Nat.le_of_ble_eq_true rfl, Nat.le_refl _, Nat.le_refl _⟩ rfl ml_X9_110 ly_0 (by decide) (by decide) rfl rfl (Nat.le_of_ble_eq_true rfl) dX9_law_63 ?_
      refine P.istore dX9_law_66 (by decide) ?_
      refine P.iload dX9_law_68 rfl ?_
      refine P.if_eq_z (tgt := 76) dX9_law_70 (by decide) (show (-12 : Int32).toInt = -12 from rfl) (fun c_70 => ?_) (fun c_70 => ?_)
      · exfalso; revert c_70; decide
      refine P.iload dX9_law_73 rfl ?_
      exact P.iret rfl dX9_law_75 rfl rfl
    · exfalso; omega
  refine P.lload dX9_law_14 rfl ?_
  refine P.lconst (v := 0) dX9_law_16 rfl ?_
  refine P.lc_ge (tgt := 24) dX9_law_17 dX9_law_18 (by decide) (fun c_17 => ?_) (fun c_17 => ?_)
  · refine P.aload_n dX9_law_24 rfl rfl ?_
    refine g_X9_laws (q := 40) ly_0 (by decide) (by decide) fl_X9_27 dX9_law_25 ?_
    refine g_X2_many ly_40 (by decide) fl_X9_126 dX9_law_28 ?_
    refine Pm.topn (b := W.1) (hL.1) ?_
    refine P.bipush (v := nI 10) dX9_law_31 rfl ?_
    refine P.icmp_lt_n (tgt := 39) dX9_law_33 (by decide) (by omega) (by omega) (fun c_33 => ?_) (fun c_33 => ?_)
    · refine P.aload_n dX9_law_39 rfl rfl ?_
      refine P.iload_n dX9_law_40 rfl rfl ?_
      refine P.iload_n dX9_law_41 rfl rfl ?_
      refine P.callV (As := [.int (nI t), .int (nI a)]) (rest := []) (s_fCin_ok hT hTW ht h0 hc) ok_X9_faultOfColumnIn ⟨Nat.le_of_ble_eq_true rfl, Nat.le_of_ble_eq_true rfl, Nat.le_refl _, Nat.le_refl _⟩ rfl ml_X9_127 ly_0 (by decide) (by decide) rfl rfl (Nat.le_of_ble_eq_true rfl) dX9_law_42 ?_
      refine P.istore dX9_law_45 (by decide) ?_
      refine P.iload dX9_law_47 rfl ?_
      refine P.if_ne_n (tgt := 68) dX9_law_49 (by decide) (by omega) (fun c_49 => ?_) (fun c_49 => ?_)
      · exfalso; omega
      refine P.iload_n dX9_law_52 rfl rfl ?_
      refine P.callS (As := [.int (nI k)]) (rest := []) (by have h := s_looks (G := G) (f := f) (l := l) hk; rw [h2] at h; exact h) ok_X9_looksAtTwo ⟨Nat.le_of_ble_eq_true rfl, Nat.le_of_ble_eq_true rfl, Nat.le_refl _, Nat.le_refl _⟩ rfl ml_X9_130 rfl (Nat.le_of_ble_eq_true rfl) dX9_law_53 ?_
      refine P.if_eq_b (tgt := 68) dX9_law_56 (by decide) (fun c_56 => ?_) (fun c_56 => ?_)
      · exfalso; revert c_56; decide
      refine P.aload_n dX9_law_59 rfl rfl ?_
      refine P.iload_n dX9_law_60 rfl rfl ?_
      refine P.iload dX9_law_61 rfl ?_
      refine P.callV (As := [.int (nI t), .int z]) (rest := []) (s_fCol_out hT hTW hN ht hz) ok_X9_faultOfColumn ⟨Nat.le_of_ble_eq_true rfl, Nat.le_of_ble_eq_true rfl, Nat.le_refl _, Nat.le_refl _⟩ rfl ml_X9_110 ly_0 (by decide) (by decide) rfl rfl (Nat.le_of_ble_eq_true rfl) dX9_law_63 ?_
      refine P.istore dX9_law_66 (by decide) ?_
      refine P.iload dX9_law_68 rfl ?_
      refine P.if_eq_z (tgt := 76) dX9_law_70 (by decide) (show (-12 : Int32).toInt = -12 from rfl) (fun c_70 => ?_) (fun c_70 => ?_)
      · exfalso; revert c_70; decide
      refine P.iload dX9_law_73 rfl ?_
      exact P.iret rfl dX9_law_75 rfl rfl
    · exfalso; omega
  · exfalso; exact absurd (hk4 c_11) (Int64.not_le.mpr c_17)

set_option maxRecDepth 20000 in
theorem k_law_h {G : GG} {f : Nat → Nat → Nat} {l : Nat → Nat → Int64} {D : DB} {W : LB} {U : QB} {T : TB} {N : Nat} (hC : CI f l D W U T N) (hBW : BW D W U T) {c d : Int64} {k : Nat} (hk : k < 5) (hk4 : k = 4 → 0 ≤ c) (h10 : W.1 < 10) {t : Nat} (ht : t < 4) (h0 : T.1 t ≠ 0) {a : Nat} (hc : a < T.1 t) (h2 : two k = true) {b : Nat} (hb : b < T.1 t) : Spec G mX9_law [.ref (ad G 0), .int (nI k), .int (nI t), .int (nI a), .int (nI b), .long c, .long d] 114 (f, l, refT) (some (.int (nI W.1))) 114 (uf (uf (uf (uf (uf (uf f (43 + W.1) 0 k) (43 + W.1) 1 t) (43 + W.1) 7 1) 40 2 (W.1 + 1)) (43 + W.1) 2 a) (43 + W.1) 3 b, uf (uf l (43 + W.1) 5 c) (43 + W.1) 6 d, refT) := by
  obtain ⟨hV, hL, hU, hT, hN, hSB⟩ := id hC
  obtain ⟨hD, hLW, hUW, hTW⟩ := id hBW
  have hR := hD.1
  have hW1 := hLW.1
  have hU1 := hUW.1
  have hJ1 := hUW.2.1
  have htc := hTW.1 t ht
  refine Spec.of ok_X9_law.1 ⟨Nat.le_refl _, Nat.le_refl _⟩ (Nat.le_of_ble_eq_true rfl) ?_
  show Pm G RX9 cX9_law 11 (KM G mX9_law 114 114 (some (.int (nI W.1))) (uf (uf (uf (uf (uf (uf f (43 + W.1) 0 k) (43 + W.1) 1 t) (43 + W.1) 7 1) 40 2 (W.1 + 1)) (43 + W.1) 2 a) (43 + W.1) 3 b, uf (uf l (43 + W.1) 5 c) (43 + W.1) 6 d, refT)) 0 [some (.ref (ad G 0)), some (.int (nI k)), some (.int (nI t)), some (.int (nI a)), some (.int (nI b)), some (.long c), none, some (.long d), none, none, none] [] f l
  refine P.iload_n dX9_law_0 rfl rfl ?_
  refine P.if_lt_z (tgt := 21) dX9_law_1 (by decide) (zN (by omega)) (fun c_1 => ?_) (fun c_1 => ?_)
  · exfalso; omega
  refine P.iload_n dX9_law_4 rfl rfl ?_
  refine P.iconst dX9_law_5 ic_4 ?_
  refine P.icmp_gt_n (tgt := 21) dX9_law_6 (by decide) (by omega) (by omega) (fun c_6 => ?_) (fun c_6 => ?_)
  · exfalso; omega
  refine P.iload_n dX9_law_9 rfl rfl ?_
  refine P.iconst dX9_law_10 ic_4 ?_
  refine P.icmp_ne_n (tgt := 24) dX9_law_11 (by decide) (by omega) (by omega) (fun c_11 => ?_) (fun c_11 => ?_)
  · refine P.aload_n dX9_law_24 rfl rfl ?_
    refine g_X9_laws (q := 40) ly_0 (by decide) (by decide) fl_X9_27 dX9_law_25 ?_
    refine g_X2_many ly_40 (by decide) fl_X9_126 dX9_law_28 ?_
    refine Pm.topn (b := W.1) (hL.1) ?_
    refine P.bipush (v := nI 10) dX9_law_31 rfl ?_
    refine P.icmp_lt_n (tgt := 39) dX9_law_33 (by decide) (by omega) (by omega) (fun c_33 => ?_) (fun c_33 => ?_)
    · refine P.aload_n dX9_law_39 rfl rfl ?_
      refine P.iload_n dX9_law_40 rfl rfl ?_
      refine P.iload_n dX9_law_41 rfl rfl ?_
      refine P.callV (As := [.int (nI t), .int (nI a)]) (rest := []) (s_fCin_ok hT hTW ht h0 hc) ok_X9_faultOfColumnIn ⟨Nat.le_of_ble_eq_true rfl, Nat.le_of_ble_eq_true rfl, Nat.le_refl _, Nat.le_refl _⟩ rfl ml_X9_127 ly_0 (by decide) (by decide) rfl rfl (Nat.le_of_ble_eq_true rfl) dX9_law_42 ?_
      refine P.istore dX9_law_45 (by decide) ?_
      refine P.iload dX9_law_47 rfl ?_
      refine P.if_ne_n (tgt := 68) dX9_law_49 (by decide) (by omega) (fun c_49 => ?_) (fun c_49 => ?_)
      · exfalso; omega
      refine P.iload_n dX9_law_52 rfl rfl ?_
      refine P.callS (As := [.int (nI k)]) (rest := []) (by have h := s_looks (G := G) (f := f) (l := l) hk; rw [h2] at h; exact h) ok_X9_looksAtTwo ⟨Nat.le_of_ble_eq_true rfl, Nat.le_of_ble_eq_true rfl, Nat.le_refl _, Nat.le_refl _⟩ rfl ml_X9_130 rfl (Nat.le_of_ble_eq_true rfl) dX9_law_53 ?_
      refine P.if_eq_b (tgt := 68) dX9_law_56 (by decide) (fun c_56 => ?_) (fun c_56 => ?_)
      · exfalso; revert c_56; decide
      refine P.aload_n dX9_law_59 rfl rfl ?_
      refine P.iload_n dX9_law_60 rfl rfl ?_
      refine P.iload dX9_law_61 rfl ?_
      refine P.callV (As := [.int (nI t), .int (nI b)]) (rest := []) (s_fCol_ok hT hTW ht hb) ok_X9_faultOfColumn ⟨Nat.le_of_ble_eq_true rfl, Nat.le_of_ble_eq_true rfl, Nat.le_refl _, Nat.le_refl _⟩ rfl ml_X9_110 ly_0 (by decide) (by decide) rfl rfl (Nat.le_of_ble_eq_true rfl) dX9_law_63 ?_
      refine P.istore dX9_law_66 (by decide) ?_
      refine P.iload dX9_law_68 rfl ?_
      refine P.if_eq_n (tgt := 76) dX9_law_70 (by decide) (by omega) (fun c_70 => ?_) (fun c_70 => ?_)
      · refine P.aload_n dX9_law_76 rfl rfl ?_
        refine g_X9_laws (q := 40) ly_0 (by decide) (by decide) fl_X9_27 dX9_law_77 ?_
        refine P.iload_n dX9_law_80 rfl rfl ?_
        refine P.iload_n dX9_law_81 rfl rfl ?_
        refine P.callV (As := [.int (nI k), .int (nI t)]) (rest := []) (s_lawAdd hV hD hL h10 (by omega) ht) ok_X2_add ⟨Nat.le_of_ble_eq_true rfl, Nat.le_of_ble_eq_true rfl, Nat.le_refl _, Nat.le_refl _⟩ rfl ml_X9_133 ly_40 (by decide) (by decide) rfl rfl (Nat.le_of_ble_eq_true rfl) dX9_law_82 ?_
        refine P.astore dX9_law_85 (by decide) ?_
        refine P.aload dX9_law_87 rfl ?_
        refine P.iload_n dX9_law_89 rfl rfl ?_
        refine p_X1_first (a := a) (ly_law (r := W.1) (by omega)) (by omega) fl_X9_136 dX9_law_90 rfl ?_
        refine P.aload dX9_law_93 rfl ?_
        refine P.iload_n dX9_law_95 rfl rfl ?_
        refine P.callS (As := [.int (nI k)]) (rest := [.ref (ad G (43 + W.1))]) (by have h := s_looks (G := G) (f := (uf (uf (uf (uf (uf f (43 + W.1) 0 k) (43 + W.1) 1 t) (43 + W.1) 7 1) 40 2 (W.1 + 1)) (43 + W.1) 2 a)) (l := l) hk; rw [h2] at h; exact h) ok_X9_looksAtTwo ⟨Nat.le_of_ble_eq_true rfl, Nat.le_of_ble_eq_true rfl, Nat.le_refl _, Nat.le_refl _⟩ rfl ml_X9_130 rfl (Nat.le_of_ble_eq_true rfl) dX9_law_96 ?_
        refine P.if_eq_b (tgt := 107) dX9_law_99 (by decide) (fun c_99 => ?_) (fun c_99 => ?_)
        · exfalso; revert c_99; decide
        refine P.iload dX9_law_102 rfl ?_
        refine P.goto (tgt := 108) dX9_law_104 (by decide) ?_
        refine p_X1_second (a := b) (ly_law (r := W.1) (by omega)) (by omega) fl_X9_141 dX9_law_108 rfl ?_
        refine P.aload dX9_law_111 rfl ?_
        refine P.lload dX9_law_113 rfl ?_
        refine p_X1_c (ly_law (r := W.1) (by omega)) (by omega) fl_X9_144 dX9_law_115 ?_
        refine P.aload dX9_law_118 rfl ?_
        refine P.lload dX9_law_120 rfl ?_
        refine p_X1_d (ly_law (r := W.1) (by omega)) (by omega) fl_X9_148 dX9_law_122 ?_
        refine P.aload_n dX9_law_125 rfl rfl ?_
        refine g_X9_laws (q := 40) ly_0 (by decide) (by decide) fl_X9_27 dX9_law_126 ?_
        refine g_X2_many ly_40 (by decide) fl_X9_126 dX9_law_129 ?_
        refine Pm.topn (b := (W.1 + 1)) ((uf_ne _ _ (Or.inr (by decide))).trans ((uf_ne _ _ (Or.inl (by omega))).trans ((uf_self _ _ _ _)))) ?_
        refine P.iconst dX9_law_132 ic_1 ?_
        refine P.isub_n dX9_law_133 (pk_sub (by omega)) ?_
        exact P.iret rfl dX9_law_134 rfl rfl
      · exfalso; omega
    · exfalso; omega
  refine P.lload dX9_law_14 rfl ?_
  refine P.lconst (v := 0) dX9_law_16 rfl ?_
  refine P.lc_ge (tgt := 24) dX9_law_17 dX9_law_18 (by decide) (fun c_17 => ?_) (fun c_17 => ?_)
  · refine P.aload_n dX9_law_24 rfl rfl ?_
    refine g_X9_laws (q := 40) ly_0 (by decide) (by decide) fl_X9_27 dX9_law_25 ?_
    refine g_X2_many ly_40 (by decide) fl_X9_126 dX9_law_28 ?_
    refine Pm.topn (b := W.1) (hL.1) ?_
    refine P.bipush (v := nI 10) dX9_law_31 rfl ?_
    refine P.icmp_lt_n (tgt := 39) dX9_law_33 (by decide) (by omega) (by omega) (fun c_33 => ?_) (fun c_33 => ?_)
    · refine P.aload_n dX9_law_39 rfl rfl ?_
      refine P.iload_n dX9_law_40 rfl rfl ?_
      refine P.iload_n dX9_law_41 rfl rfl ?_
      refine P.callV (As := [.int (nI t), .int (nI a)]) (rest := []) (s_fCin_ok hT hTW ht h0 hc) ok_X9_faultOfColumnIn ⟨Nat.le_of_ble_eq_true rfl, Nat.le_of_ble_eq_true rfl, Nat.le_refl _, Nat.le_refl _⟩ rfl ml_X9_127 ly_0 (by decide) (by decide) rfl rfl (Nat.le_of_ble_eq_true rfl) dX9_law_42 ?_
      refine P.istore dX9_law_45 (by decide) ?_
      refine P.iload dX9_law_47 rfl ?_
      refine P.if_ne_n (tgt := 68) dX9_law_49 (by decide) (by omega) (fun c_49 => ?_) (fun c_49 => ?_)
      · exfalso; omega
      refine P.iload_n dX9_law_52 rfl rfl ?_
      refine P.callS (As := [.int (nI k)]) (rest := []) (by have h := s_looks (G := G) (f := f) (l := l) hk; rw [h2] at h; exact h) ok_X9_looksAtTwo ⟨Nat.le_of_ble_eq_true rfl, Nat.le_of_ble_eq_true rfl, Nat.le_refl _, Nat.le_refl _⟩ rfl ml_X9_130 rfl (Nat.le_of_ble_eq_true rfl) dX9_law_53 ?_
      refine P.if_eq_b (tgt := 68) dX9_law_56 (by decide) (fun c_56 => ?_) (fun c_56 => ?_)
      · exfalso; revert c_56; decide
      refine P.aload_n dX9_law_59 rfl rfl ?_
      refine P.iload_n dX9_law_60 rfl rfl ?_
      refine P.iload dX9_law_61 rfl ?_
      refine P.callV (As := [.int (nI t), .int (nI b)]) (rest := []) (s_fCol_ok hT hTW ht hb) ok_X9_faultOfColumn ⟨Nat.le_of_ble_eq_true rfl, Nat.le_of_ble_eq_true rfl, Nat.le_refl _, Nat.le_refl _⟩ rfl ml_X9_110 ly_0 (by decide) (by decide) rfl rfl (Nat.le_of_ble_eq_true rfl) dX9_law_63 ?_
      refine P.istore dX9_law_66 (by decide) ?_
      refine P.iload dX9_law_68 rfl ?_
      refine P.if_eq_n (tgt := 76) dX9_law_70 (by decide) (by omega) (fun c_70 => ?_) (fun c_70 => ?_)
      · refine P.aload_n dX9_law_76 rfl rfl ?_
        refine g_X9_laws (q := 40) ly_0 (by decide) (by decide) fl_X9_27 dX9_law_77 ?_
        refine P.iload_n dX9_law_80 rfl rfl ?_
        refine P.iload_n dX9_law_81 rfl rfl ?_
        refine P.callV (As := [.int (nI k), .int (nI t)]) (rest := []) (s_lawAdd hV hD hL h10 (by omega) ht) ok_X2_add ⟨Nat.le_of_ble_eq_true rfl, Nat.le_of_ble_eq_true rfl, Nat.le_refl _, Nat.le_refl _⟩ rfl ml_X9_133 ly_40 (by decide) (by decide) rfl rfl (Nat.le_of_ble_eq_true rfl) dX9_law_82 ?_
        refine P.astore dX9_law_85 (by decide) ?_
        refine P.aload dX9_law_87 rfl ?_
        refine P.iload_n dX9_law_89 rfl rfl ?_
        refine p_X1_first (a := a) (ly_law (r := W.1) (by omega)) (by omega) fl_X9_136 dX9_law_90 rfl ?_
        refine P.aload dX9_law_93 rfl ?_
        refine P.iload_n dX9_law_95 rfl rfl ?_
        refine P.callS (As := [.int (nI k)]) (rest := [.ref (ad G (43 + W.1))]) (by have h := s_looks (G := G) (f := (uf (uf (uf (uf (uf f (43 + W.1) 0 k) (43 + W.1) 1 t) (43 + W.1) 7 1) 40 2 (W.1 + 1)) (43 + W.1) 2 a)) (l := l) hk; rw [h2] at h; exact h) ok_X9_looksAtTwo ⟨Nat.le_of_ble_eq_true rfl, Nat.le_of_ble_eq_true rfl, Nat.le_refl _, Nat.le_refl _⟩ rfl ml_X9_130 rfl (Nat.le_of_ble_eq_true rfl) dX9_law_96 ?_
        refine P.if_eq_b (tgt := 107) dX9_law_99 (by decide) (fun c_99 => ?_) (fun c_99 => ?_)
        · exfalso; revert c_99; decide
        refine P.iload dX9_law_102 rfl ?_
        refine P.goto (tgt := 108) dX9_law_104 (by decide) ?_
        refine p_X1_second (a := b) (ly_law (r := W.1) (by omega)) (by omega) fl_X9_141 dX9_law_108 rfl ?_
        refine P.aload dX9_law_111 rfl ?_
        refine P.lload dX9_law_113 rfl ?_
        refine p_X1_c (ly_law (r := W.1) (by omega)) (by omega) fl_X9_144 dX9_law_115 ?_
        refine P.aload dX9_law_118 rfl ?_
        refine P.lload dX9_law_120 rfl ?_
        refine p_X1_d (ly_law (r := W.1) (by omega)) (by omega) fl_X9_148 dX9_law_122 ?_
        refine P.aload_n dX9_law_125 rfl rfl ?_
        refine g_X9_laws (q := 40) ly_0 (by decide) (by decide) fl_X9_27 dX9_law_126 ?_
        refine g_X2_many ly_40 (by decide) fl_X9_126 dX9_law_129 ?_
        refine Pm.topn (b := (W.1 + 1)) ((uf_ne _ _ (Or.inr (by decide))).trans ((uf_ne _ _ (Or.inl (by omega))).trans ((uf_self _ _ _ _)))) ?_
        refine P.iconst dX9_law_132 ic_1 ?_
        refine P.isub_n dX9_law_133 (pk_sub (by omega)) ?_
        exact P.iret rfl dX9_law_134 rfl rfl
      · exfalso; omega
    · exfalso; omega
  · exfalso; exact absurd (hk4 c_11) (Int64.not_le.mpr c_17)

set_option maxRecDepth 20000 in
theorem k_law_i {G : GG} {f : Nat → Nat → Nat} {l : Nat → Nat → Int64} {D : DB} {W : LB} {U : QB} {T : TB} {N : Nat} (hC : CI f l D W U T N) (hBW : BW D W U T) {c d : Int64} {k : Nat} (hk : k < 5) (hk4 : k = 4 → 0 ≤ c) (h10 : W.1 < 10) {t : Nat} (ht : t < 4) (h0 : T.1 t ≠ 0) {a : Nat} (hc : a < T.1 t) (h2 : two k = false) {z : Int32} : Spec G mX9_law [.ref (ad G 0), .int (nI k), .int (nI t), .int (nI a), .int z, .long c, .long d] 114 (f, l, refT) (some (.int (nI W.1))) 114 (uf (uf (uf (uf (uf (uf f (43 + W.1) 0 k) (43 + W.1) 1 t) (43 + W.1) 7 1) 40 2 (W.1 + 1)) (43 + W.1) 2 a) (43 + W.1) 3 a, uf (uf l (43 + W.1) 5 c) (43 + W.1) 6 d, refT) := by
  obtain ⟨hV, hL, hU, hT, hN, hSB⟩ := id hC
  obtain ⟨hD, hLW, hUW, hTW⟩ := id hBW
  have hR := hD.1
  have hW1 := hLW.1
  have hU1 := hUW.1
  have hJ1 := hUW.2.1
  have htc := hTW.1 t ht
  refine Spec.of ok_X9_law.1 ⟨Nat.le_refl _, Nat.le_refl _⟩ (Nat.le_of_ble_eq_true rfl) ?_
  show Pm G RX9 cX9_law 11 (KM G mX9_law 114 114 (some (.int (nI W.1))) (uf (uf (uf (uf (uf (uf f (43 + W.1) 0 k) (43 + W.1) 1 t) (43 + W.1) 7 1) 40 2 (W.1 + 1)) (43 + W.1) 2 a) (43 + W.1) 3 a, uf (uf l (43 + W.1) 5 c) (43 + W.1) 6 d, refT)) 0 [some (.ref (ad G 0)), some (.int (nI k)), some (.int (nI t)), some (.int (nI a)), some (.int z), some (.long c), none, some (.long d), none, none, none] [] f l
  refine P.iload_n dX9_law_0 rfl rfl ?_
  refine P.if_lt_z (tgt := 21) dX9_law_1 (by decide) (zN (by omega)) (fun c_1 => ?_) (fun c_1 => ?_)
  · exfalso; omega
  refine P.iload_n dX9_law_4 rfl rfl ?_
  refine P.iconst dX9_law_5 ic_4 ?_
  refine P.icmp_gt_n (tgt := 21) dX9_law_6 (by decide) (by omega) (by omega) (fun c_6 => ?_) (fun c_6 => ?_)
  · exfalso; omega
  refine P.iload_n dX9_law_9 rfl rfl ?_
  refine P.iconst dX9_law_10 ic_4 ?_
  refine P.icmp_ne_n (tgt := 24) dX9_law_11 (by decide) (by omega) (by omega) (fun c_11 => ?_) (fun c_11 => ?_)
  · refine P.aload_n dX9_law_24 rfl rfl ?_
    refine g_X9_laws (q := 40) ly_0 (by decide) (by decide) fl_X9_27 dX9_law_25 ?_
    refine g_X2_many ly_40 (by decide) fl_X9_126 dX9_law_28 ?_
    refine Pm.topn (b := W.1) (hL.1) ?_
    refine P.bipush (v := nI 10) dX9_law_31 rfl ?_
    refine P.icmp_lt_n (tgt := 39) dX9_law_33 (by decide) (by omega) (by omega) (fun c_33 => ?_) (fun c_33 => ?_)
    · refine P.aload_n dX9_law_39 rfl rfl ?_
      refine P.iload_n dX9_law_40 rfl rfl ?_
      refine P.iload_n dX9_law_41 rfl rfl ?_
      refine P.callV (As := [.int (nI t), .int (nI a)]) (rest := []) (s_fCin_ok hT hTW ht h0 hc) ok_X9_faultOfColumnIn ⟨Nat.le_of_ble_eq_true rfl, Nat.le_of_ble_eq_true rfl, Nat.le_refl _, Nat.le_refl _⟩ rfl ml_X9_127 ly_0 (by decide) (by decide) rfl rfl (Nat.le_of_ble_eq_true rfl) dX9_law_42 ?_
      refine P.istore dX9_law_45 (by decide) ?_
      refine P.iload dX9_law_47 rfl ?_
      refine P.if_ne_n (tgt := 68) dX9_law_49 (by decide) (by omega) (fun c_49 => ?_) (fun c_49 => ?_)
      · exfalso; omega
      refine P.iload_n dX9_law_52 rfl rfl ?_
      refine P.callS (As := [.int (nI k)]) (rest := []) (by have h := s_looks (G := G) (f := f) (l := l) hk; rw [h2] at h; exact h) ok_X9_looksAtTwo ⟨Nat.le_of_ble_eq_true rfl, Nat.le_of_ble_eq_true rfl, Nat.le_refl _, Nat.le_refl _⟩ rfl ml_X9_130 rfl (Nat.le_of_ble_eq_true rfl) dX9_law_53 ?_
      refine P.if_eq_b (tgt := 68) dX9_law_56 (by decide) (fun c_56 => ?_) (fun c_56 => ?_)
      · refine P.iload dX9_law_68 rfl ?_
        refine P.if_eq_n (tgt := 76) dX9_law_70 (by decide) (by omega) (fun c_70 => ?_) (fun c_70 => ?_)
        · refine P.aload_n dX9_law_76 rfl rfl ?_
          refine g_X9_laws (q := 40) ly_0 (by decide) (by decide) fl_X9_27 dX9_law_77 ?_
          refine P.iload_n dX9_law_80 rfl rfl ?_
          refine P.iload_n dX9_law_81 rfl rfl ?_
          refine P.callV (As := [.int (nI k), .int (nI t)]) (rest := []) (s_lawAdd hV hD hL h10 (by omega) ht) ok_X2_add ⟨Nat.le_of_ble_eq_true rfl, Nat.le_of_ble_eq_true rfl, Nat.le_refl _, Nat.le_refl _⟩ rfl ml_X9_133 ly_40 (by decide) (by decide) rfl rfl (Nat.le_of_ble_eq_true rfl) dX9_law_82 ?_
          refine P.astore dX9_law_85 (by decide) ?_
          refine P.aload dX9_law_87 rfl ?_
          refine P.iload_n dX9_law_89 rfl rfl ?_
          refine p_X1_first (a := a) (ly_law (r := W.1) (by omega)) (by omega) fl_X9_136 dX9_law_90 rfl ?_
          refine P.aload dX9_law_93 rfl ?_
          refine P.iload_n dX9_law_95 rfl rfl ?_
          refine P.callS (As := [.int (nI k)]) (rest := [.ref (ad G (43 + W.1))]) (by have h := s_looks (G := G) (f := (uf (uf (uf (uf (uf f (43 + W.1) 0 k) (43 + W.1) 1 t) (43 + W.1) 7 1) 40 2 (W.1 + 1)) (43 + W.1) 2 a)) (l := l) hk; rw [h2] at h; exact h) ok_X9_looksAtTwo ⟨Nat.le_of_ble_eq_true rfl, Nat.le_of_ble_eq_true rfl, Nat.le_refl _, Nat.le_refl _⟩ rfl ml_X9_130 rfl (Nat.le_of_ble_eq_true rfl) dX9_law_96 ?_
          refine P.if_eq_b (tgt := 107) dX9_law_99 (by decide) (fun c_99 => ?_) (fun c_99 => ?_)
          · refine P.iload_n dX9_law_107 rfl rfl ?_
            refine p_X1_second (a := a) (ly_law (r := W.1) (by omega)) (by omega) fl_X9_141 dX9_law_108 rfl ?_
            refine P.aload dX9_law_111 rfl ?_
            refine P.lload dX9_law_113 rfl ?_
            refine p_X1_c (ly_law (r := W.1) (by omega)) (by omega) fl_X9_144 dX9_law_115 ?_
            refine P.aload dX9_law_118 rfl ?_
            refine P.lload dX9_law_120 rfl ?_
            refine p_X1_d (ly_law (r := W.1) (by omega)) (by omega) fl_X9_148 dX9_law_122 ?_
            refine P.aload_n dX9_law_125 rfl rfl ?_
            refine g_X9_laws (q := 40) ly_0 (by decide) (by decide) fl_X9_27 dX9_law_126 ?_
            refine g_X2_many ly_40 (by decide) fl_X9_126 dX9_law_129 ?_
            refine Pm.topn (b := (W.1 + 1)) ((uf_ne _ _ (Or.inr (by decide))).trans ((uf_ne _ _ (Or.inl (by omega))).trans ((uf_self _ _ _ _)))) ?_
            refine P.iconst dX9_law_132 ic_1 ?_
            refine P.isub_n dX9_law_133 (pk_sub (by omega)) ?_
            exact P.iret rfl dX9_law_134 rfl rfl
          · exfalso; revert c_99; decide
        · exfalso; omega
      · exfalso; revert c_56; decide
    · exfalso; omega
  refine P.lload dX9_law_14 rfl ?_
  refine P.lconst (v := 0) dX9_law_16 rfl ?_
  refine P.lc_ge (tgt := 24) dX9_law_17 dX9_law_18 (by decide) (fun c_17 => ?_) (fun c_17 => ?_)
  · refine P.aload_n dX9_law_24 rfl rfl ?_
    refine g_X9_laws (q := 40) ly_0 (by decide) (by decide) fl_X9_27 dX9_law_25 ?_
    refine g_X2_many ly_40 (by decide) fl_X9_126 dX9_law_28 ?_
    refine Pm.topn (b := W.1) (hL.1) ?_
    refine P.bipush (v := nI 10) dX9_law_31 rfl ?_
    refine P.icmp_lt_n (tgt := 39) dX9_law_33 (by decide) (by omega) (by omega) (fun c_33 => ?_) (fun c_33 => ?_)
    · refine P.aload_n dX9_law_39 rfl rfl ?_
      refine P.iload_n dX9_law_40 rfl rfl ?_
      refine P.iload_n dX9_law_41 rfl rfl ?_
      refine P.callV (As := [.int (nI t), .int (nI a)]) (rest := []) (s_fCin_ok hT hTW ht h0 hc) ok_X9_faultOfColumnIn ⟨Nat.le_of_ble_eq_true rfl, Nat.le_of_ble_eq_true rfl, Nat.le_refl _, Nat.le_refl _⟩ rfl ml_X9_127 ly_0 (by decide) (by decide) rfl rfl (Nat.le_of_ble_eq_true rfl) dX9_law_42 ?_
      refine P.istore dX9_law_45 (by decide) ?_
      refine P.iload dX9_law_47 rfl ?_
      refine P.if_ne_n (tgt := 68) dX9_law_49 (by decide) (by omega) (fun c_49 => ?_) (fun c_49 => ?_)
      · exfalso; omega
      refine P.iload_n dX9_law_52 rfl rfl ?_
      refine P.callS (As := [.int (nI k)]) (rest := []) (by have h := s_looks (G := G) (f := f) (l := l) hk; rw [h2] at h; exact h) ok_X9_looksAtTwo ⟨Nat.le_of_ble_eq_true rfl, Nat.le_of_ble_eq_true rfl, Nat.le_refl _, Nat.le_refl _⟩ rfl ml_X9_130 rfl (Nat.le_of_ble_eq_true rfl) dX9_law_53 ?_
      refine P.if_eq_b (tgt := 68) dX9_law_56 (by decide) (fun c_56 => ?_) (fun c_56 => ?_)
      · refine P.iload dX9_law_68 rfl ?_
        refine P.if_eq_n (tgt := 76) dX9_law_70 (by decide) (by omega) (fun c_70 => ?_) (fun c_70 => ?_)
        · refine P.aload_n dX9_law_76 rfl rfl ?_
          refine g_X9_laws (q := 40) ly_0 (by decide) (by decide) fl_X9_27 dX9_law_77 ?_
          refine P.iload_n dX9_law_80 rfl rfl ?_
          refine P.iload_n dX9_law_81 rfl rfl ?_
          refine P.callV (As := [.int (nI k), .int (nI t)]) (rest := []) (s_lawAdd hV hD hL h10 (by omega) ht) ok_X2_add ⟨Nat.le_of_ble_eq_true rfl, Nat.le_of_ble_eq_true rfl, Nat.le_refl _, Nat.le_refl _⟩ rfl ml_X9_133 ly_40 (by decide) (by decide) rfl rfl (Nat.le_of_ble_eq_true rfl) dX9_law_82 ?_
          refine P.astore dX9_law_85 (by decide) ?_
          refine P.aload dX9_law_87 rfl ?_
          refine P.iload_n dX9_law_89 rfl rfl ?_
          refine p_X1_first (a := a) (ly_law (r := W.1) (by omega)) (by omega) fl_X9_136 dX9_law_90 rfl ?_
          refine P.aload dX9_law_93 rfl ?_
          refine P.iload_n dX9_law_95 rfl rfl ?_
          refine P.callS (As := [.int (nI k)]) (rest := [.ref (ad G (43 + W.1))]) (by have h := s_looks (G := G) (f := (uf (uf (uf (uf (uf f (43 + W.1) 0 k) (43 + W.1) 1 t) (43 + W.1) 7 1) 40 2 (W.1 + 1)) (43 + W.1) 2 a)) (l := l) hk; rw [h2] at h; exact h) ok_X9_looksAtTwo ⟨Nat.le_of_ble_eq_true rfl, Nat.le_of_ble_eq_true rfl, Nat.le_refl _, Nat.le_refl _⟩ rfl ml_X9_130 rfl (Nat.le_of_ble_eq_true rfl) dX9_law_96 ?_
          refine P.if_eq_b (tgt := 107) dX9_law_99 (by decide) (fun c_99 => ?_) (fun c_99 => ?_)
          · refine P.iload_n dX9_law_107 rfl rfl ?_
            refine p_X1_second (a := a) (ly_law (r := W.1) (by omega)) (by omega) fl_X9_141 dX9_law_108 rfl ?_
            refine P.aload dX9_law_111 rfl ?_
            refine P.lload dX9_law_113 rfl ?_
            refine p_X1_c (ly_law (r := W.1) (by omega)) (by omega) fl_X9_144 dX9_law_115 ?_
            refine P.aload dX9_law_118 rfl ?_
            refine P.lload dX9_law_120 rfl ?_
            refine p_X1_d (ly_law (r := W.1) (by omega)) (by omega) fl_X9_148 dX9_law_122 ?_
            refine P.aload_n dX9_law_125 rfl rfl ?_
            refine g_X9_laws (q := 40) ly_0 (by decide) (by decide) fl_X9_27 dX9_law_126 ?_
            refine g_X2_many ly_40 (by decide) fl_X9_126 dX9_law_129 ?_
            refine Pm.topn (b := (W.1 + 1)) ((uf_ne _ _ (Or.inr (by decide))).trans ((uf_ne _ _ (Or.inl (by omega))).trans ((uf_self _ _ _ _)))) ?_
            refine P.iconst dX9_law_132 ic_1 ?_
            refine P.isub_n dX9_law_133 (pk_sub (by omega)) ?_
            exact P.iret rfl dX9_law_134 rfl rfl
          · exfalso; revert c_99; decide
        · exfalso; omega
      · exfalso; revert c_56; decide
    · exfalso; omega
  · exfalso; exact absurd (hk4 c_11) (Int64.not_le.mpr c_17)

set_option maxRecDepth 20000 in
theorem k_among_a {G : GG} {f : Nat → Nat → Nat} {l : Nat → Nat → Int64} {D : DB} {W : LB} {U : QB} {T : TB} {N : Nat} (hC : CI f l D W U T N) (hBW : BW D W U T) {x y z u : Int32} (h10 : W.1 = 10) : Spec G mX9_among [.ref (ad G 0), .int x, .int y, .int z, .int u] 114 (f, l, refT) (some (.int (-4))) 114 (f, l, refT) := by
  obtain ⟨hV, hL, hU, hT, hN, hSB⟩ := id hC
  obtain ⟨hD, hLW, hUW, hTW⟩ := id hBW
  have hR := hD.1
  have hW1 := hLW.1
  have hU1 := hUW.1
  have hJ1 := hUW.2.1
  refine Spec.of ok_X9_among.1 ⟨Nat.le_refl _, Nat.le_refl _⟩ (Nat.le_of_ble_eq_true rfl) ?_
  show Pm G RX9 cX9_among 7 (KM G mX9_among 114 114 (some (.int (-4))) (f, l, refT)) 0 [some (.ref (ad G 0)), some (.int x), some (.int y), some (.int z), some (.int u), none, none] [] f l
  refine P.aload_n dX9_among_0 rfl rfl ?_
  refine g_X9_laws (q := 40) ly_0 (by decide) (by decide) fl_X9_27 dX9_among_1 ?_
  refine g_X2_many ly_40 (by decide) fl_X9_126 dX9_among_4 ?_
  refine Pm.topn (b := W.1) (hL.1) ?_
  refine P.bipush (v := nI 10) dX9_among_7 rfl ?_
  refine P.icmp_lt_n (tgt := 15) dX9_among_9 (by decide) (by omega) (by omega) (fun c_9 => ?_) (fun c_9 => ?_)
  · exfalso; omega
  refine P.bipush (v := -4) dX9_among_12 rfl ?_
  exact P.iret rfl dX9_among_14 rfl rfl

set_option maxRecDepth 20000 in
theorem k_among_b {G : GG} {f : Nat → Nat → Nat} {l : Nat → Nat → Int64} {D : DB} {W : LB} {U : QB} {T : TB} {N : Nat} (hC : CI f l D W U T N) (hBW : BW D W U T) (h10 : W.1 < 10) {x : Int32} (hx : inR x 4 = false) {y z u : Int32} : Spec G mX9_among [.ref (ad G 0), .int x, .int y, .int z, .int u] 114 (f, l, refT) (some (.int (-12))) 114 (uf f 0 5 (N + 1), l, refT) := by
  obtain ⟨hV, hL, hU, hT, hN, hSB⟩ := id hC
  obtain ⟨hD, hLW, hUW, hTW⟩ := id hBW
  have hR := hD.1
  have hW1 := hLW.1
  have hU1 := hUW.1
  have hJ1 := hUW.2.1
  refine Spec.of ok_X9_among.1 ⟨Nat.le_refl _, Nat.le_refl _⟩ (Nat.le_of_ble_eq_true rfl) ?_
  show Pm G RX9 cX9_among 7 (KM G mX9_among 114 114 (some (.int (-12))) (uf f 0 5 (N + 1), l, refT)) 0 [some (.ref (ad G 0)), some (.int x), some (.int y), some (.int z), some (.int u), none, none] [] f l
  refine P.aload_n dX9_among_0 rfl rfl ?_
  refine g_X9_laws (q := 40) ly_0 (by decide) (by decide) fl_X9_27 dX9_among_1 ?_
  refine g_X2_many ly_40 (by decide) fl_X9_126 dX9_among_4 ?_
  refine Pm.topn (b := W.1) (hL.1) ?_
  refine P.bipush (v := nI 10) dX9_among_7 rfl ?_
  refine P.icmp_lt_n (tgt := 15) dX9_among_9 (by decide) (by omega) (by omega) (fun c_9 => ?_) (fun c_9 => ?_)
  · refine P.aload_n dX9_among_15 rfl rfl ?_
    refine P.iload_n dX9_among_16 rfl rfl ?_
    refine P.iload_n dX9_among_17 rfl rfl ?_
    refine P.callV (As := [.int x, .int y]) (rest := []) (s_fCin_out hN hx) ok_X9_faultOfColumnIn ⟨Nat.le_of_ble_eq_true rfl, Nat.le_of_ble_eq_true rfl, Nat.le_refl _, Nat.le_refl _⟩ rfl ml_X9_127 ly_0 (by decide) (by decide) rfl rfl (Nat.le_of_ble_eq_true rfl) dX9_among_18 ?_
    refine P.istore dX9_among_21 (by decide) ?_
    refine P.iload dX9_among_23 rfl ?_
    refine P.if_ne_z (tgt := 37) dX9_among_25 (by decide) (show (-12 : Int32).toInt = -12 from rfl) (fun c_25 => ?_) (fun c_25 => ?_)
    · refine P.iload dX9_among_37 rfl ?_
      refine P.if_eq_z (tgt := 45) dX9_among_39 (by decide) (show (-12 : Int32).toInt = -12 from rfl) (fun c_39 => ?_) (fun c_39 => ?_)
      · exfalso; revert c_39; decide
      refine P.iload dX9_among_42 rfl ?_
      exact P.iret rfl dX9_among_44 rfl rfl
    · exfalso; revert c_25; decide
  · exfalso; omega

set_option maxRecDepth 20000 in
theorem k_among_c {G : GG} {f : Nat → Nat → Nat} {l : Nat → Nat → Int64} {D : DB} {W : LB} {U : QB} {T : TB} {N : Nat} (hC : CI f l D W U T N) (hBW : BW D W U T) (h10 : W.1 < 10) {t : Nat} (ht : t < 4) (h0 : T.1 t = 0) {y z u : Int32} : Spec G mX9_among [.ref (ad G 0), .int (nI t), .int y, .int z, .int u] 114 (f, l, refT) (some (.int (-11))) 114 (uf f 0 5 (N + 1), l, refT) := by
  obtain ⟨hV, hL, hU, hT, hN, hSB⟩ := id hC
  obtain ⟨hD, hLW, hUW, hTW⟩ := id hBW
  have hR := hD.1
  have hW1 := hLW.1
  have hU1 := hUW.1
  have hJ1 := hUW.2.1
  refine Spec.of ok_X9_among.1 ⟨Nat.le_refl _, Nat.le_refl _⟩ (Nat.le_of_ble_eq_true rfl) ?_
  show Pm G RX9 cX9_among 7 (KM G mX9_among 114 114 (some (.int (-11))) (uf f 0 5 (N + 1), l, refT)) 0 [some (.ref (ad G 0)), some (.int (nI t)), some (.int y), some (.int z), some (.int u), none, none] [] f l
  refine P.aload_n dX9_among_0 rfl rfl ?_
  refine g_X9_laws (q := 40) ly_0 (by decide) (by decide) fl_X9_27 dX9_among_1 ?_
  refine g_X2_many ly_40 (by decide) fl_X9_126 dX9_among_4 ?_
  refine Pm.topn (b := W.1) (hL.1) ?_
  refine P.bipush (v := nI 10) dX9_among_7 rfl ?_
  refine P.icmp_lt_n (tgt := 15) dX9_among_9 (by decide) (by omega) (by omega) (fun c_9 => ?_) (fun c_9 => ?_)
  · refine P.aload_n dX9_among_15 rfl rfl ?_
    refine P.iload_n dX9_among_16 rfl rfl ?_
    refine P.iload_n dX9_among_17 rfl rfl ?_
    refine P.callV (As := [.int (nI t), .int y]) (rest := []) (s_fCin_null hT hTW hN ht h0) ok_X9_faultOfColumnIn ⟨Nat.le_of_ble_eq_true rfl, Nat.le_of_ble_eq_true rfl, Nat.le_refl _, Nat.le_refl _⟩ rfl ml_X9_127 ly_0 (by decide) (by decide) rfl rfl (Nat.le_of_ble_eq_true rfl) dX9_among_18 ?_
    refine P.istore dX9_among_21 (by decide) ?_
    refine P.iload dX9_among_23 rfl ?_
    refine P.if_ne_z (tgt := 37) dX9_among_25 (by decide) (show (-11 : Int32).toInt = -11 from rfl) (fun c_25 => ?_) (fun c_25 => ?_)
    · refine P.iload dX9_among_37 rfl ?_
      refine P.if_eq_z (tgt := 45) dX9_among_39 (by decide) (show (-11 : Int32).toInt = -11 from rfl) (fun c_39 => ?_) (fun c_39 => ?_)
      · exfalso; revert c_39; decide
      refine P.iload dX9_among_42 rfl ?_
      exact P.iret rfl dX9_among_44 rfl rfl
    · exfalso; revert c_25; decide
  · exfalso; omega

set_option maxRecDepth 20000 in
theorem k_among_d {G : GG} {f : Nat → Nat → Nat} {l : Nat → Nat → Int64} {D : DB} {W : LB} {U : QB} {T : TB} {N : Nat} (hC : CI f l D W U T N) (hBW : BW D W U T) (h10 : W.1 < 10) {t : Nat} (ht : t < 4) (h0 : T.1 t ≠ 0) {y : Int32} (hy : inR y (T.1 t) = false) {z u : Int32} : Spec G mX9_among [.ref (ad G 0), .int (nI t), .int y, .int z, .int u] 114 (f, l, refT) (some (.int (-12))) 114 (uf f 0 5 (N + 1), l, refT) := by
  obtain ⟨hV, hL, hU, hT, hN, hSB⟩ := id hC
  obtain ⟨hD, hLW, hUW, hTW⟩ := id hBW
  have hR := hD.1
  have hW1 := hLW.1
  have hU1 := hUW.1
  have hJ1 := hUW.2.1
  refine Spec.of ok_X9_among.1 ⟨Nat.le_refl _, Nat.le_refl _⟩ (Nat.le_of_ble_eq_true rfl) ?_
  show Pm G RX9 cX9_among 7 (KM G mX9_among 114 114 (some (.int (-12))) (uf f 0 5 (N + 1), l, refT)) 0 [some (.ref (ad G 0)), some (.int (nI t)), some (.int y), some (.int z), some (.int u), none, none] [] f l
  refine P.aload_n dX9_among_0 rfl rfl ?_
  refine g_X9_laws (q := 40) ly_0 (by decide) (by decide) fl_X9_27 dX9_among_1 ?_
  refine g_X2_many ly_40 (by decide) fl_X9_126 dX9_among_4 ?_
  refine Pm.topn (b := W.1) (hL.1) ?_
  refine P.bipush (v := nI 10) dX9_among_7 rfl ?_
  refine P.icmp_lt_n (tgt := 15) dX9_among_9 (by decide) (by omega) (by omega) (fun c_9 => ?_) (fun c_9 => ?_)
  · refine P.aload_n dX9_among_15 rfl rfl ?_
    refine P.iload_n dX9_among_16 rfl rfl ?_
    refine P.iload_n dX9_among_17 rfl rfl ?_
    refine P.callV (As := [.int (nI t), .int y]) (rest := []) (s_fCin_col hT hTW hN ht h0 hy) ok_X9_faultOfColumnIn ⟨Nat.le_of_ble_eq_true rfl, Nat.le_of_ble_eq_true rfl, Nat.le_refl _, Nat.le_refl _⟩ rfl ml_X9_127 ly_0 (by decide) (by decide) rfl rfl (Nat.le_of_ble_eq_true rfl) dX9_among_18 ?_
    refine P.istore dX9_among_21 (by decide) ?_
    refine P.iload dX9_among_23 rfl ?_
    refine P.if_ne_z (tgt := 37) dX9_among_25 (by decide) (show (-12 : Int32).toInt = -12 from rfl) (fun c_25 => ?_) (fun c_25 => ?_)
    · refine P.iload dX9_among_37 rfl ?_
      refine P.if_eq_z (tgt := 45) dX9_among_39 (by decide) (show (-12 : Int32).toInt = -12 from rfl) (fun c_39 => ?_) (fun c_39 => ?_)
      · exfalso; revert c_39; decide
      refine P.iload dX9_among_42 rfl ?_
      exact P.iret rfl dX9_among_44 rfl rfl
    · exfalso; revert c_25; decide
  · exfalso; omega

set_option maxRecDepth 20000 in
theorem k_among_e {G : GG} {f : Nat → Nat → Nat} {l : Nat → Nat → Int64} {D : DB} {W : LB} {U : QB} {T : TB} {N : Nat} (hC : CI f l D W U T N) (hBW : BW D W U T) (h10 : W.1 < 10) {t : Nat} (ht : t < 4) (h0 : T.1 t ≠ 0) {c : Nat} (hc : c < T.1 t) {x : Int32} (hx : inR x 4 = false) {z : Int32} : Spec G mX9_among [.ref (ad G 0), .int (nI t), .int (nI c), .int x, .int z] 114 (f, l, refT) (some (.int (-12))) 114 (uf f 0 5 (N + 1), l, refT) := by
  obtain ⟨hV, hL, hU, hT, hN, hSB⟩ := id hC
  obtain ⟨hD, hLW, hUW, hTW⟩ := id hBW
  have hR := hD.1
  have hW1 := hLW.1
  have hU1 := hUW.1
  have hJ1 := hUW.2.1
  refine Spec.of ok_X9_among.1 ⟨Nat.le_refl _, Nat.le_refl _⟩ (Nat.le_of_ble_eq_true rfl) ?_
  show Pm G RX9 cX9_among 7 (KM G mX9_among 114 114 (some (.int (-12))) (uf f 0 5 (N + 1), l, refT)) 0 [some (.ref (ad G 0)), some (.int (nI t)), some (.int (nI c)), some (.int x), some (.int z), none, none] [] f l
  refine P.aload_n dX9_among_0 rfl rfl ?_
  refine g_X9_laws (q := 40) ly_0 (by decide) (by decide) fl_X9_27 dX9_among_1 ?_
  refine g_X2_many ly_40 (by decide) fl_X9_126 dX9_among_4 ?_
  refine Pm.topn (b := W.1) (hL.1) ?_
  refine P.bipush (v := nI 10) dX9_among_7 rfl ?_
  refine P.icmp_lt_n (tgt := 15) dX9_among_9 (by decide) (by omega) (by omega) (fun c_9 => ?_) (fun c_9 => ?_)
  · refine P.aload_n dX9_among_15 rfl rfl ?_
    refine P.iload_n dX9_among_16 rfl rfl ?_
    refine P.iload_n dX9_among_17 rfl rfl ?_
    refine P.callV (As := [.int (nI t), .int (nI c)]) (rest := []) (s_fCin_ok hT hTW ht h0 hc) ok_X9_faultOfColumnIn ⟨Nat.le_of_ble_eq_true rfl, Nat.le_of_ble_eq_true rfl, Nat.le_refl _, Nat.le_refl _⟩ rfl ml_X9_127 ly_0 (by decide) (by decide) rfl rfl (Nat.le_of_ble_eq_true rfl) dX9_among_18 ?_
    refine P.istore dX9_among_21 (by decide) ?_
    refine P.iload dX9_among_23 rfl ?_
    refine P.if_ne_n (tgt := 37) dX9_among_25 (by decide) (by omega) (fun c_25 => ?_) (fun c_25 => ?_)
    · exfalso; omega
    refine P.aload_n dX9_among_28 rfl rfl ?_
    refine P.iload_n dX9_among_29 rfl rfl ?_
    refine P.iload dX9_among_30 rfl ?_
    refine P.callV (As := [.int x, .int z]) (rest := []) (s_fCin_out hN hx) ok_X9_faultOfColumnIn ⟨Nat.le_of_ble_eq_true rfl, Nat.le_of_ble_eq_true rfl, Nat.le_refl _, Nat.le_refl _⟩ rfl ml_X9_127 ly_0 (by decide) (by decide) rfl rfl (Nat.le_of_ble_eq_true rfl) dX9_among_32 ?_
    refine P.istore dX9_among_35 (by decide) ?_
    refine P.iload dX9_among_37 rfl ?_
    refine P.if_eq_z (tgt := 45) dX9_among_39 (by decide) (show (-12 : Int32).toInt = -12 from rfl) (fun c_39 => ?_) (fun c_39 => ?_)
    · exfalso; revert c_39; decide
    refine P.iload dX9_among_42 rfl ?_
    exact P.iret rfl dX9_among_44 rfl rfl
  · exfalso; omega

set_option maxRecDepth 20000 in
theorem k_among_f {G : GG} {f : Nat → Nat → Nat} {l : Nat → Nat → Int64} {D : DB} {W : LB} {U : QB} {T : TB} {N : Nat} (hC : CI f l D W U T N) (hBW : BW D W U T) (h10 : W.1 < 10) {t : Nat} (ht : t < 4) (h0 : T.1 t ≠ 0) {c : Nat} (hc : c < T.1 t) {u : Nat} (hu : u < 4) (hu0 : T.1 u = 0) {z : Int32} : Spec G mX9_among [.ref (ad G 0), .int (nI t), .int (nI c), .int (nI u), .int z] 114 (f, l, refT) (some (.int (-11))) 114 (uf f 0 5 (N + 1), l, refT) := by
  obtain ⟨hV, hL, hU, hT, hN, hSB⟩ := id hC
  obtain ⟨hD, hLW, hUW, hTW⟩ := id hBW
  have hR := hD.1
  have hW1 := hLW.1
  have hU1 := hUW.1
  have hJ1 := hUW.2.1
  refine Spec.of ok_X9_among.1 ⟨Nat.le_refl _, Nat.le_refl _⟩ (Nat.le_of_ble_eq_true rfl) ?_
  show Pm G RX9 cX9_among 7 (KM G mX9_among 114 114 (some (.int (-11))) (uf f 0 5 (N + 1), l, refT)) 0 [some (.ref (ad G 0)), some (.int (nI t)), some (.int (nI c)), some (.int (nI u)), some (.int z), none, none] [] f l
  refine P.aload_n dX9_among_0 rfl rfl ?_
  refine g_X9_laws (q := 40) ly_0 (by decide) (by decide) fl_X9_27 dX9_among_1 ?_
  refine g_X2_many ly_40 (by decide) fl_X9_126 dX9_among_4 ?_
  refine Pm.topn (b := W.1) (hL.1) ?_
  refine P.bipush (v := nI 10) dX9_among_7 rfl ?_
  refine P.icmp_lt_n (tgt := 15) dX9_among_9 (by decide) (by omega) (by omega) (fun c_9 => ?_) (fun c_9 => ?_)
  · refine P.aload_n dX9_among_15 rfl rfl ?_
    refine P.iload_n dX9_among_16 rfl rfl ?_
    refine P.iload_n dX9_among_17 rfl rfl ?_
    refine P.callV (As := [.int (nI t), .int (nI c)]) (rest := []) (s_fCin_ok hT hTW ht h0 hc) ok_X9_faultOfColumnIn ⟨Nat.le_of_ble_eq_true rfl, Nat.le_of_ble_eq_true rfl, Nat.le_refl _, Nat.le_refl _⟩ rfl ml_X9_127 ly_0 (by decide) (by decide) rfl rfl (Nat.le_of_ble_eq_true rfl) dX9_among_18 ?_
    refine P.istore dX9_among_21 (by decide) ?_
    refine P.iload dX9_among_23 rfl ?_
    refine P.if_ne_n (tgt := 37) dX9_among_25 (by decide) (by omega) (fun c_25 => ?_) (fun c_25 => ?_)
    · exfalso; omega
    refine P.aload_n dX9_among_28 rfl rfl ?_
    refine P.iload_n dX9_among_29 rfl rfl ?_
    refine P.iload dX9_among_30 rfl ?_
    refine P.callV (As := [.int (nI u), .int z]) (rest := []) (s_fCin_null hT hTW hN hu hu0) ok_X9_faultOfColumnIn ⟨Nat.le_of_ble_eq_true rfl, Nat.le_of_ble_eq_true rfl, Nat.le_refl _, Nat.le_refl _⟩ rfl ml_X9_127 ly_0 (by decide) (by decide) rfl rfl (Nat.le_of_ble_eq_true rfl) dX9_among_32 ?_
    refine P.istore dX9_among_35 (by decide) ?_
    refine P.iload dX9_among_37 rfl ?_
    refine P.if_eq_z (tgt := 45) dX9_among_39 (by decide) (show (-11 : Int32).toInt = -11 from rfl) (fun c_39 => ?_) (fun c_39 => ?_)
    · exfalso; revert c_39; decide
    refine P.iload dX9_among_42 rfl ?_
    exact P.iret rfl dX9_among_44 rfl rfl
  · exfalso; omega

set_option maxRecDepth 20000 in
theorem k_among_g {G : GG} {f : Nat → Nat → Nat} {l : Nat → Nat → Int64} {D : DB} {W : LB} {U : QB} {T : TB} {N : Nat} (hC : CI f l D W U T N) (hBW : BW D W U T) (h10 : W.1 < 10) {t : Nat} (ht : t < 4) (h0 : T.1 t ≠ 0) {c : Nat} (hc : c < T.1 t) {u : Nat} (hu : u < 4) (hu0 : T.1 u ≠ 0) {y : Int32} (hy : inR y (T.1 u) = false) : Spec G mX9_among [.ref (ad G 0), .int (nI t), .int (nI c), .int (nI u), .int y] 114 (f, l, refT) (some (.int (-12))) 114 (uf f 0 5 (N + 1), l, refT) := by
  obtain ⟨hV, hL, hU, hT, hN, hSB⟩ := id hC
  obtain ⟨hD, hLW, hUW, hTW⟩ := id hBW
  have hR := hD.1
  have hW1 := hLW.1
  have hU1 := hUW.1
  have hJ1 := hUW.2.1
  refine Spec.of ok_X9_among.1 ⟨Nat.le_refl _, Nat.le_refl _⟩ (Nat.le_of_ble_eq_true rfl) ?_
  show Pm G RX9 cX9_among 7 (KM G mX9_among 114 114 (some (.int (-12))) (uf f 0 5 (N + 1), l, refT)) 0 [some (.ref (ad G 0)), some (.int (nI t)), some (.int (nI c)), some (.int (nI u)), some (.int y), none, none] [] f l
  refine P.aload_n dX9_among_0 rfl rfl ?_
  refine g_X9_laws (q := 40) ly_0 (by decide) (by decide) fl_X9_27 dX9_among_1 ?_
  refine g_X2_many ly_40 (by decide) fl_X9_126 dX9_among_4 ?_
  refine Pm.topn (b := W.1) (hL.1) ?_
  refine P.bipush (v := nI 10) dX9_among_7 rfl ?_
  refine P.icmp_lt_n (tgt := 15) dX9_among_9 (by decide) (by omega) (by omega) (fun c_9 => ?_) (fun c_9 => ?_)
  · refine P.aload_n dX9_among_15 rfl rfl ?_
    refine P.iload_n dX9_among_16 rfl rfl ?_
    refine P.iload_n dX9_among_17 rfl rfl ?_
    refine P.callV (As := [.int (nI t), .int (nI c)]) (rest := []) (s_fCin_ok hT hTW ht h0 hc) ok_X9_faultOfColumnIn ⟨Nat.le_of_ble_eq_true rfl, Nat.le_of_ble_eq_true rfl, Nat.le_refl _, Nat.le_refl _⟩ rfl ml_X9_127 ly_0 (by decide) (by decide) rfl rfl (Nat.le_of_ble_eq_true rfl) dX9_among_18 ?_
    refine P.istore dX9_among_21 (by decide) ?_
    refine P.iload dX9_among_23 rfl ?_
    refine P.if_ne_n (tgt := 37) dX9_among_25 (by decide) (by omega) (fun c_25 => ?_) (fun c_25 => ?_)
    · exfalso; omega
    refine P.aload_n dX9_among_28 rfl rfl ?_
    refine P.iload_n dX9_among_29 rfl rfl ?_
    refine P.iload dX9_among_30 rfl ?_
    refine P.callV (As := [.int (nI u), .int y]) (rest := []) (s_fCin_col hT hTW hN hu hu0 hy) ok_X9_faultOfColumnIn ⟨Nat.le_of_ble_eq_true rfl, Nat.le_of_ble_eq_true rfl, Nat.le_refl _, Nat.le_refl _⟩ rfl ml_X9_127 ly_0 (by decide) (by decide) rfl rfl (Nat.le_of_ble_eq_true rfl) dX9_among_32 ?_
    refine P.istore dX9_among_35 (by decide) ?_
    refine P.iload dX9_among_37 rfl ?_
    refine P.if_eq_z (tgt := 45) dX9_among_39 (by decide) (show (-12 : Int32).toInt = -12 from rfl) (fun c_39 => ?_) (fun c_39 => ?_)
    · exfalso; revert c_39; decide
    refine P.iload dX9_among_42 rfl ?_
    exact P.iret rfl dX9_among_44 rfl rfl
  · exfalso; omega

set_option maxRecDepth 20000 in
theorem k_among_h {G : GG} {f : Nat → Nat → Nat} {l : Nat → Nat → Int64} {D : DB} {W : LB} {U : QB} {T : TB} {N : Nat} (hC : CI f l D W U T N) (hBW : BW D W U T) (h10 : W.1 < 10) {t : Nat} (ht : t < 4) (h0 : T.1 t ≠ 0) {c : Nat} (hc : c < T.1 t) {u : Nat} (hu : u < 4) (hu0 : T.1 u ≠ 0) {d : Nat} (hd : d < T.1 u) : Spec G mX9_among [.ref (ad G 0), .int (nI t), .int (nI c), .int (nI u), .int (nI d)] 114 (f, l, refT) (some (.int (nI W.1))) 114 (uf (uf (uf (uf (uf (uf (uf f (43 + W.1) 0 5) (43 + W.1) 1 t) (43 + W.1) 7 1) 40 2 (W.1 + 1)) (43 + W.1) 2 c) (43 + W.1) 4 u) (43 + W.1) 3 d, l, refT) := by
  obtain ⟨hV, hL, hU, hT, hN, hSB⟩ := id hC
  obtain ⟨hD, hLW, hUW, hTW⟩ := id hBW
  have hR := hD.1
  have hW1 := hLW.1
  have hU1 := hUW.1
  have hJ1 := hUW.2.1
  have htc := hTW.1 t ht
  have huc := hTW.1 u hu
  refine Spec.of ok_X9_among.1 ⟨Nat.le_refl _, Nat.le_refl _⟩ (Nat.le_of_ble_eq_true rfl) ?_
  show Pm G RX9 cX9_among 7 (KM G mX9_among 114 114 (some (.int (nI W.1))) (uf (uf (uf (uf (uf (uf (uf f (43 + W.1) 0 5) (43 + W.1) 1 t) (43 + W.1) 7 1) 40 2 (W.1 + 1)) (43 + W.1) 2 c) (43 + W.1) 4 u) (43 + W.1) 3 d, l, refT)) 0 [some (.ref (ad G 0)), some (.int (nI t)), some (.int (nI c)), some (.int (nI u)), some (.int (nI d)), none, none] [] f l
  refine P.aload_n dX9_among_0 rfl rfl ?_
  refine g_X9_laws (q := 40) ly_0 (by decide) (by decide) fl_X9_27 dX9_among_1 ?_
  refine g_X2_many ly_40 (by decide) fl_X9_126 dX9_among_4 ?_
  refine Pm.topn (b := W.1) (hL.1) ?_
  refine P.bipush (v := nI 10) dX9_among_7 rfl ?_
  refine P.icmp_lt_n (tgt := 15) dX9_among_9 (by decide) (by omega) (by omega) (fun c_9 => ?_) (fun c_9 => ?_)
  · refine P.aload_n dX9_among_15 rfl rfl ?_
    refine P.iload_n dX9_among_16 rfl rfl ?_
    refine P.iload_n dX9_among_17 rfl rfl ?_
    refine P.callV (As := [.int (nI t), .int (nI c)]) (rest := []) (s_fCin_ok hT hTW ht h0 hc) ok_X9_faultOfColumnIn ⟨Nat.le_of_ble_eq_true rfl, Nat.le_of_ble_eq_true rfl, Nat.le_refl _, Nat.le_refl _⟩ rfl ml_X9_127 ly_0 (by decide) (by decide) rfl rfl (Nat.le_of_ble_eq_true rfl) dX9_among_18 ?_
    refine P.istore dX9_among_21 (by decide) ?_
    refine P.iload dX9_among_23 rfl ?_
    refine P.if_ne_n (tgt := 37) dX9_among_25 (by decide) (by omega) (fun c_25 => ?_) (fun c_25 => ?_)
    · exfalso; omega
    refine P.aload_n dX9_among_28 rfl rfl ?_
    refine P.iload_n dX9_among_29 rfl rfl ?_
    refine P.iload dX9_among_30 rfl ?_
    refine P.callV (As := [.int (nI u), .int (nI d)]) (rest := []) (s_fCin_ok hT hTW hu hu0 hd) ok_X9_faultOfColumnIn ⟨Nat.le_of_ble_eq_true rfl, Nat.le_of_ble_eq_true rfl, Nat.le_refl _, Nat.le_refl _⟩ rfl ml_X9_127 ly_0 (by decide) (by decide) rfl rfl (Nat.le_of_ble_eq_true rfl) dX9_among_32 ?_
    refine P.istore dX9_among_35 (by decide) ?_
    refine P.iload dX9_among_37 rfl ?_
    refine P.if_eq_n (tgt := 45) dX9_among_39 (by decide) (by omega) (fun c_39 => ?_) (fun c_39 => ?_)
    · refine P.aload_n dX9_among_45 rfl rfl ?_
      refine g_X9_laws (q := 40) ly_0 (by decide) (by decide) fl_X9_27 dX9_among_46 ?_
      refine P.iconst dX9_among_49 ic_5 ?_
      refine P.iload_n dX9_among_50 rfl rfl ?_
      refine P.callV (As := [.int (nI 5), .int (nI t)]) (rest := []) (s_lawAdd hV hD hL h10 (by decide) ht) ok_X2_add ⟨Nat.le_of_ble_eq_true rfl, Nat.le_of_ble_eq_true rfl, Nat.le_refl _, Nat.le_refl _⟩ rfl ml_X9_133 ly_40 (by decide) (by decide) rfl rfl (Nat.le_of_ble_eq_true rfl) dX9_among_51 ?_
      refine P.astore dX9_among_54 (by decide) ?_
      refine P.aload dX9_among_56 rfl ?_
      refine P.iload_n dX9_among_58 rfl rfl ?_
      refine p_X1_first (a := c) (ly_law (r := W.1) (by omega)) (by omega) fl_X9_136 dX9_among_59 rfl ?_
      refine P.aload dX9_among_62 rfl ?_
      refine P.iload_n dX9_among_64 rfl rfl ?_
      refine p_X1_other (a := u) (ly_law (r := W.1) (by omega)) (by omega) fl_X9_151 dX9_among_65 rfl ?_
      refine P.aload dX9_among_68 rfl ?_
      refine P.iload dX9_among_70 rfl ?_
      refine p_X1_second (a := d) (ly_law (r := W.1) (by omega)) (by omega) fl_X9_141 dX9_among_72 rfl ?_
      refine P.aload_n dX9_among_75 rfl rfl ?_
      refine g_X9_laws (q := 40) ly_0 (by decide) (by decide) fl_X9_27 dX9_among_76 ?_
      refine g_X2_many ly_40 (by decide) fl_X9_126 dX9_among_79 ?_
      refine Pm.topn (b := (W.1 + 1)) ((uf_ne _ _ (Or.inr (by decide))).trans ((uf_ne _ _ (Or.inr (by decide))).trans ((uf_ne _ _ (Or.inl (by omega))).trans ((uf_self _ _ _ _))))) ?_
      refine P.iconst dX9_among_82 ic_1 ?_
      refine P.isub_n dX9_among_83 (pk_sub (by omega)) ?_
      exact P.iret rfl dX9_among_84 rfl rfl
    · exfalso; omega
  · exfalso; omega

set_option maxRecDepth 20000 in
theorem k_join_a {G : GG} {f : Nat → Nat → Nat} {l : Nat → Nat → Int64} {D : DB} {W : LB} {U : QB} {T : TB} {N : Nat} (hC : CI f l D W U T N) (hBW : BW D W U T) {x y z u : Int32} (hx : inR x U.1 = false) : Spec G mX9_join [.ref (ad G 0), .int x, .int y, .int z, .int u] 114 (f, l, refT) (some (.int (-1))) 114 (f, l, refT) := by
  obtain ⟨hV, hL, hU, hT, hN, hSB⟩ := id hC
  obtain ⟨hD, hLW, hUW, hTW⟩ := id hBW
  have hR := hD.1
  have hW1 := hLW.1
  have hU1 := hUW.1
  have hJ1 := hUW.2.1
  refine Spec.of ok_X9_join.1 ⟨Nat.le_refl _, Nat.le_refl _⟩ (Nat.le_of_ble_eq_true rfl) ?_
  show Pm G RX9 cX9_join 6 (KM G mX9_join 114 114 (some (.int (-1))) (f, l, refT)) 0 [some (.ref (ad G 0)), some (.int x), some (.int y), some (.int z), some (.int u), none] [] f l
  refine P.aload_n dX9_join_0 rfl rfl ?_
  refine P.iload_n dX9_join_1 rfl rfl ?_
  refine P.callV (As := [.int x]) (rest := []) (s_isPart_f hU hUW hx) ok_X9_isPart ⟨Nat.le_of_ble_eq_true rfl, Nat.le_of_ble_eq_true rfl, Nat.le_refl _, Nat.le_refl _⟩ rfl ml_X9_241 ly_0 (by decide) (by decide) rfl rfl (Nat.le_of_ble_eq_true rfl) dX9_join_2 ?_
  refine P.if_eq_b (tgt := 16) dX9_join_5 (by decide) (fun c_5 => ?_) (fun c_5 => ?_)
  · refine P.iconst (v := -1) dX9_join_16 rfl ?_
    exact P.iret rfl dX9_join_17 rfl rfl
  · exfalso; revert c_5; decide

set_option maxRecDepth 20000 in
theorem k_join_b {G : GG} {f : Nat → Nat → Nat} {l : Nat → Nat → Int64} {D : DB} {W : LB} {U : QB} {T : TB} {N : Nat} (hC : CI f l D W U T N) (hBW : BW D W U T) {p : Nat} (hp : p < U.1) {x y u : Int32} (hx : inR x U.1 = false) : Spec G mX9_join [.ref (ad G 0), .int (nI p), .int y, .int x, .int u] 114 (f, l, refT) (some (.int (-1))) 114 (f, l, refT) := by
  obtain ⟨hV, hL, hU, hT, hN, hSB⟩ := id hC
  obtain ⟨hD, hLW, hUW, hTW⟩ := id hBW
  have hR := hD.1
  have hW1 := hLW.1
  have hU1 := hUW.1
  have hJ1 := hUW.2.1
  refine Spec.of ok_X9_join.1 ⟨Nat.le_refl _, Nat.le_refl _⟩ (Nat.le_of_ble_eq_true rfl) ?_
  show Pm G RX9 cX9_join 6 (KM G mX9_join 114 114 (some (.int (-1))) (f, l, refT)) 0 [some (.ref (ad G 0)), some (.int (nI p)), some (.int y), some (.int x), some (.int u), none] [] f l
  refine P.aload_n dX9_join_0 rfl rfl ?_
  refine P.iload_n dX9_join_1 rfl rfl ?_
  refine P.callV (As := [.int (nI p)]) (rest := []) (s_isPart_t hU hUW hp) ok_X9_isPart ⟨Nat.le_of_ble_eq_true rfl, Nat.le_of_ble_eq_true rfl, Nat.le_refl _, Nat.le_refl _⟩ rfl ml_X9_241 ly_0 (by decide) (by decide) rfl rfl (Nat.le_of_ble_eq_true rfl) dX9_join_2 ?_
  refine P.if_eq_b (tgt := 16) dX9_join_5 (by decide) (fun c_5 => ?_) (fun c_5 => ?_)
  · exfalso; revert c_5; decide
  refine P.aload_n dX9_join_8 rfl rfl ?_
  refine P.iload_n dX9_join_9 rfl rfl ?_
  refine P.callV (As := [.int x]) (rest := []) (s_isPart_f hU hUW hx) ok_X9_isPart ⟨Nat.le_of_ble_eq_true rfl, Nat.le_of_ble_eq_true rfl, Nat.le_refl _, Nat.le_refl _⟩ rfl ml_X9_241 ly_0 (by decide) (by decide) rfl rfl (Nat.le_of_ble_eq_true rfl) dX9_join_10 ?_
  refine P.if_ne_b (tgt := 18) dX9_join_13 (by decide) (fun c_13 => ?_) (fun c_13 => ?_)
  · exfalso; revert c_13; decide
  refine P.iconst (v := -1) dX9_join_16 rfl ?_
  exact P.iret rfl dX9_join_17 rfl rfl

set_option maxRecDepth 20000 in
theorem k_join_c {G : GG} {f : Nat → Nat → Nat} {l : Nat → Nat → Int64} {D : DB} {W : LB} {U : QB} {T : TB} {N : Nat} (hC : CI f l D W U T N) (hBW : BW D W U T) {p q : Nat} (hp : p < U.1) (hq : q < U.1) {y u : Int32} (hy : inR y (T.1 (U.2.1 p)) = false) : Spec G mX9_join [.ref (ad G 0), .int (nI p), .int y, .int (nI q), .int u] 114 (f, l, refT) (some (.int (-12))) 114 (uf f 0 5 (N + 1), l, refT) := by
  obtain ⟨hV, hL, hU, hT, hN, hSB⟩ := id hC
  obtain ⟨hD, hLW, hUW, hTW⟩ := id hBW
  have hR := hD.1
  have hW1 := hLW.1
  have hU1 := hUW.1
  have hJ1 := hUW.2.1
  refine Spec.of ok_X9_join.1 ⟨Nat.le_refl _, Nat.le_refl _⟩ (Nat.le_of_ble_eq_true rfl) ?_
  show Pm G RX9 cX9_join 6 (KM G mX9_join 114 114 (some (.int (-12))) (uf f 0 5 (N + 1), l, refT)) 0 [some (.ref (ad G 0)), some (.int (nI p)), some (.int y), some (.int (nI q)), some (.int u), none] [] f l
  refine P.aload_n dX9_join_0 rfl rfl ?_
  refine P.iload_n dX9_join_1 rfl rfl ?_
  refine P.callV (As := [.int (nI p)]) (rest := []) (s_isPart_t hU hUW hp) ok_X9_isPart ⟨Nat.le_of_ble_eq_true rfl, Nat.le_of_ble_eq_true rfl, Nat.le_refl _, Nat.le_refl _⟩ rfl ml_X9_241 ly_0 (by decide) (by decide) rfl rfl (Nat.le_of_ble_eq_true rfl) dX9_join_2 ?_
  refine P.if_eq_b (tgt := 16) dX9_join_5 (by decide) (fun c_5 => ?_) (fun c_5 => ?_)
  · exfalso; revert c_5; decide
  refine P.aload_n dX9_join_8 rfl rfl ?_
  refine P.iload_n dX9_join_9 rfl rfl ?_
  refine P.callV (As := [.int (nI q)]) (rest := []) (s_isPart_t hU hUW hq) ok_X9_isPart ⟨Nat.le_of_ble_eq_true rfl, Nat.le_of_ble_eq_true rfl, Nat.le_refl _, Nat.le_refl _⟩ rfl ml_X9_241 ly_0 (by decide) (by decide) rfl rfl (Nat.le_of_ble_eq_true rfl) dX9_join_10 ?_
  refine P.if_ne_b (tgt := 18) dX9_join_13 (by decide) (fun c_13 => ?_) (fun c_13 => ?_)
  · refine P.aload_n dX9_join_18 rfl rfl ?_
    refine P.iload_n dX9_join_19 rfl rfl ?_
    refine P.iload_n dX9_join_20 rfl rfl ?_
    refine P.callV (As := [.int (nI p), .int y]) (rest := []) (s_fPart_col hU hUW hT hTW hN hp hy) ok_X9_faultOfPart ⟨Nat.le_of_ble_eq_true rfl, Nat.le_of_ble_eq_true rfl, Nat.le_refl _, Nat.le_refl _⟩ rfl ml_X9_228 ly_0 (by decide) (by decide) rfl rfl (Nat.le_of_ble_eq_true rfl) dX9_join_21 ?_
    refine P.istore dX9_join_24 (by decide) ?_
    refine P.iload dX9_join_26 rfl ?_
    refine P.if_ne_z (tgt := 40) dX9_join_28 (by decide) (show (-12 : Int32).toInt = -12 from rfl) (fun c_28 => ?_) (fun c_28 => ?_)
    · refine P.iload dX9_join_40 rfl ?_
      refine P.if_eq_z (tgt := 48) dX9_join_42 (by decide) (show (-12 : Int32).toInt = -12 from rfl) (fun c_42 => ?_) (fun c_42 => ?_)
      · exfalso; revert c_42; decide
      refine P.iload dX9_join_45 rfl ?_
      exact P.iret rfl dX9_join_47 rfl rfl
    · exfalso; revert c_28; decide
  · exfalso; revert c_13; decide

set_option maxRecDepth 20000 in
theorem k_join_d {G : GG} {f : Nat → Nat → Nat} {l : Nat → Nat → Int64} {D : DB} {W : LB} {U : QB} {T : TB} {N : Nat} (hC : CI f l D W U T N) (hBW : BW D W U T) {p q : Nat} (hp : p < U.1) (hq : q < U.1) {c : Nat} (hc : c < T.1 (U.2.1 p)) {y : Int32} (hy : inR y (T.1 (U.2.1 q)) = false) : Spec G mX9_join [.ref (ad G 0), .int (nI p), .int (nI c), .int (nI q), .int y] 114 (f, l, refT) (some (.int (-12))) 114 (uf f 0 5 (N + 1), l, refT) := by
  obtain ⟨hV, hL, hU, hT, hN, hSB⟩ := id hC
  obtain ⟨hD, hLW, hUW, hTW⟩ := id hBW
  have hR := hD.1
  have hW1 := hLW.1
  have hU1 := hUW.1
  have hJ1 := hUW.2.1
  refine Spec.of ok_X9_join.1 ⟨Nat.le_refl _, Nat.le_refl _⟩ (Nat.le_of_ble_eq_true rfl) ?_
  show Pm G RX9 cX9_join 6 (KM G mX9_join 114 114 (some (.int (-12))) (uf f 0 5 (N + 1), l, refT)) 0 [some (.ref (ad G 0)), some (.int (nI p)), some (.int (nI c)), some (.int (nI q)), some (.int y), none] [] f l
  refine P.aload_n dX9_join_0 rfl rfl ?_
  refine P.iload_n dX9_join_1 rfl rfl ?_
  refine P.callV (As := [.int (nI p)]) (rest := []) (s_isPart_t hU hUW hp) ok_X9_isPart ⟨Nat.le_of_ble_eq_true rfl, Nat.le_of_ble_eq_true rfl, Nat.le_refl _, Nat.le_refl _⟩ rfl ml_X9_241 ly_0 (by decide) (by decide) rfl rfl (Nat.le_of_ble_eq_true rfl) dX9_join_2 ?_
  refine P.if_eq_b (tgt := 16) dX9_join_5 (by decide) (fun c_5 => ?_) (fun c_5 => ?_)
  · exfalso; revert c_5; decide
  refine P.aload_n dX9_join_8 rfl rfl ?_
  refine P.iload_n dX9_join_9 rfl rfl ?_
  refine P.callV (As := [.int (nI q)]) (rest := []) (s_isPart_t hU hUW hq) ok_X9_isPart ⟨Nat.le_of_ble_eq_true rfl, Nat.le_of_ble_eq_true rfl, Nat.le_refl _, Nat.le_refl _⟩ rfl ml_X9_241 ly_0 (by decide) (by decide) rfl rfl (Nat.le_of_ble_eq_true rfl) dX9_join_10 ?_
  refine P.if_ne_b (tgt := 18) dX9_join_13 (by decide) (fun c_13 => ?_) (fun c_13 => ?_)
  · refine P.aload_n dX9_join_18 rfl rfl ?_
    refine P.iload_n dX9_join_19 rfl rfl ?_
    refine P.iload_n dX9_join_20 rfl rfl ?_
    refine P.callV (As := [.int (nI p), .int (nI c)]) (rest := []) (s_fPart_ok hU hUW hT hTW hp hc) ok_X9_faultOfPart ⟨Nat.le_of_ble_eq_true rfl, Nat.le_of_ble_eq_true rfl, Nat.le_refl _, Nat.le_refl _⟩ rfl ml_X9_228 ly_0 (by decide) (by decide) rfl rfl (Nat.le_of_ble_eq_true rfl) dX9_join_21 ?_
    refine P.istore dX9_join_24 (by decide) ?_
    refine P.iload dX9_join_26 rfl ?_
    refine P.if_ne_n (tgt := 40) dX9_join_28 (by decide) (by omega) (fun c_28 => ?_) (fun c_28 => ?_)
    · exfalso; omega
    refine P.aload_n dX9_join_31 rfl rfl ?_
    refine P.iload_n dX9_join_32 rfl rfl ?_
    refine P.iload dX9_join_33 rfl ?_
    refine P.callV (As := [.int (nI q), .int y]) (rest := []) (s_fPart_col hU hUW hT hTW hN hq hy) ok_X9_faultOfPart ⟨Nat.le_of_ble_eq_true rfl, Nat.le_of_ble_eq_true rfl, Nat.le_refl _, Nat.le_refl _⟩ rfl ml_X9_228 ly_0 (by decide) (by decide) rfl rfl (Nat.le_of_ble_eq_true rfl) dX9_join_35 ?_
    refine P.istore dX9_join_38 (by decide) ?_
    refine P.iload dX9_join_40 rfl ?_
    refine P.if_eq_z (tgt := 48) dX9_join_42 (by decide) (show (-12 : Int32).toInt = -12 from rfl) (fun c_42 => ?_) (fun c_42 => ?_)
    · exfalso; revert c_42; decide
    refine P.iload dX9_join_45 rfl ?_
    exact P.iret rfl dX9_join_47 rfl rfl
  · exfalso; revert c_13; decide

set_option maxRecDepth 20000 in
theorem k_join_e {G : GG} {f : Nat → Nat → Nat} {l : Nat → Nat → Int64} {D : DB} {W : LB} {U : QB} {T : TB} {N : Nat} (hC : CI f l D W U T N) (hBW : BW D W U T) {p q : Nat} (hp : p < U.1) (hq : q < U.1) {c : Nat} (hc : c < T.1 (U.2.1 p)) {d : Nat} (hd : d < T.1 (U.2.1 q)) (hj : U.2.2.2.2.1 = 6) : Spec G mX9_join [.ref (ad G 0), .int (nI p), .int (nI c), .int (nI q), .int (nI d)] 114 (f, l, refT) (some (.int (-4))) 114 (f, l, refT) := by
  obtain ⟨hV, hL, hU, hT, hN, hSB⟩ := id hC
  obtain ⟨hD, hLW, hUW, hTW⟩ := id hBW
  have hR := hD.1
  have hW1 := hLW.1
  have hU1 := hUW.1
  have hJ1 := hUW.2.1
  refine Spec.of ok_X9_join.1 ⟨Nat.le_refl _, Nat.le_refl _⟩ (Nat.le_of_ble_eq_true rfl) ?_
  show Pm G RX9 cX9_join 6 (KM G mX9_join 114 114 (some (.int (-4))) (f, l, refT)) 0 [some (.ref (ad G 0)), some (.int (nI p)), some (.int (nI c)), some (.int (nI q)), some (.int (nI d)), none] [] f l
  refine P.aload_n dX9_join_0 rfl rfl ?_
  refine P.iload_n dX9_join_1 rfl rfl ?_
  refine P.callV (As := [.int (nI p)]) (rest := []) (s_isPart_t hU hUW hp) ok_X9_isPart ⟨Nat.le_of_ble_eq_true rfl, Nat.le_of_ble_eq_true rfl, Nat.le_refl _, Nat.le_refl _⟩ rfl ml_X9_241 ly_0 (by decide) (by decide) rfl rfl (Nat.le_of_ble_eq_true rfl) dX9_join_2 ?_
  refine P.if_eq_b (tgt := 16) dX9_join_5 (by decide) (fun c_5 => ?_) (fun c_5 => ?_)
  · exfalso; revert c_5; decide
  refine P.aload_n dX9_join_8 rfl rfl ?_
  refine P.iload_n dX9_join_9 rfl rfl ?_
  refine P.callV (As := [.int (nI q)]) (rest := []) (s_isPart_t hU hUW hq) ok_X9_isPart ⟨Nat.le_of_ble_eq_true rfl, Nat.le_of_ble_eq_true rfl, Nat.le_refl _, Nat.le_refl _⟩ rfl ml_X9_241 ly_0 (by decide) (by decide) rfl rfl (Nat.le_of_ble_eq_true rfl) dX9_join_10 ?_
  refine P.if_ne_b (tgt := 18) dX9_join_13 (by decide) (fun c_13 => ?_) (fun c_13 => ?_)
  · refine P.aload_n dX9_join_18 rfl rfl ?_
    refine P.iload_n dX9_join_19 rfl rfl ?_
    refine P.iload_n dX9_join_20 rfl rfl ?_
    refine P.callV (As := [.int (nI p), .int (nI c)]) (rest := []) (s_fPart_ok hU hUW hT hTW hp hc) ok_X9_faultOfPart ⟨Nat.le_of_ble_eq_true rfl, Nat.le_of_ble_eq_true rfl, Nat.le_refl _, Nat.le_refl _⟩ rfl ml_X9_228 ly_0 (by decide) (by decide) rfl rfl (Nat.le_of_ble_eq_true rfl) dX9_join_21 ?_
    refine P.istore dX9_join_24 (by decide) ?_
    refine P.iload dX9_join_26 rfl ?_
    refine P.if_ne_n (tgt := 40) dX9_join_28 (by decide) (by omega) (fun c_28 => ?_) (fun c_28 => ?_)
    · exfalso; omega
    refine P.aload_n dX9_join_31 rfl rfl ?_
    refine P.iload_n dX9_join_32 rfl rfl ?_
    refine P.iload dX9_join_33 rfl ?_
    refine P.callV (As := [.int (nI q), .int (nI d)]) (rest := []) (s_fPart_ok hU hUW hT hTW hq hd) ok_X9_faultOfPart ⟨Nat.le_of_ble_eq_true rfl, Nat.le_of_ble_eq_true rfl, Nat.le_refl _, Nat.le_refl _⟩ rfl ml_X9_228 ly_0 (by decide) (by decide) rfl rfl (Nat.le_of_ble_eq_true rfl) dX9_join_35 ?_
    refine P.istore dX9_join_38 (by decide) ?_
    refine P.iload dX9_join_40 rfl ?_
    refine P.if_eq_n (tgt := 48) dX9_join_42 (by decide) (by omega) (fun c_42 => ?_) (fun c_42 => ?_)
    · refine P.aload_n dX9_join_48 rfl rfl ?_
      refine g_X9_question (q := 57) ly_0 (by decide) (by decide) fl_X9_43 dX9_join_49 ?_
      refine g_X5_manyJoins ly_57 (by decide) fl_X9_244 dX9_join_52 ?_
      refine Pm.topn (b := U.2.2.2.2.1) (hU.2.2.2.2.1) ?_
      refine P.bipush (v := nI 6) dX9_join_55 rfl ?_
      refine P.icmp_lt_n (tgt := 63) dX9_join_57 (by decide) (by omega) (by omega) (fun c_57 => ?_) (fun c_57 => ?_)
      · exfalso; omega
      refine P.bipush (v := -4) dX9_join_60 rfl ?_
      exact P.iret rfl dX9_join_62 rfl rfl
    · exfalso; omega
  · exfalso; revert c_13; decide

set_option maxRecDepth 20000 in
theorem k_join_f {G : GG} {f : Nat → Nat → Nat} {l : Nat → Nat → Int64} {D : DB} {W : LB} {U : QB} {T : TB} {N : Nat} (hC : CI f l D W U T N) (hBW : BW D W U T) {p q : Nat} (hp : p < U.1) (hq : q < U.1) {c : Nat} (hc : c < T.1 (U.2.1 p)) {d : Nat} (hd : d < T.1 (U.2.1 q)) (hj : U.2.2.2.2.1 < 6) : Spec G mX9_join [.ref (ad G 0), .int (nI p), .int (nI c), .int (nI q), .int (nI d)] 114 (f, l, refT) (some (.int (nI (U.2.2.2.2.1 + 1)))) 114 (uf (uf (uf (uf (uf f (72 + U.2.2.2.2.1) 0 p) (72 + U.2.2.2.2.1) 1 c) (72 + U.2.2.2.2.1) 2 q) (72 + U.2.2.2.2.1) 3 d) 57 4 (U.2.2.2.2.1 + 1), l, refT) := by
  obtain ⟨hV, hL, hU, hT, hN, hSB⟩ := id hC
  obtain ⟨hD, hLW, hUW, hTW⟩ := id hBW
  have hR := hD.1
  have hW1 := hLW.1
  have hU1 := hUW.1
  have hJ1 := hUW.2.1
  refine Spec.of ok_X9_join.1 ⟨Nat.le_refl _, Nat.le_refl _⟩ (Nat.le_of_ble_eq_true rfl) ?_
  show Pm G RX9 cX9_join 6 (KM G mX9_join 114 114 (some (.int (nI (U.2.2.2.2.1 + 1)))) (uf (uf (uf (uf (uf f (72 + U.2.2.2.2.1) 0 p) (72 + U.2.2.2.2.1) 1 c) (72 + U.2.2.2.2.1) 2 q) (72 + U.2.2.2.2.1) 3 d) 57 4 (U.2.2.2.2.1 + 1), l, refT)) 0 [some (.ref (ad G 0)), some (.int (nI p)), some (.int (nI c)), some (.int (nI q)), some (.int (nI d)), none] [] f l
  refine P.aload_n dX9_join_0 rfl rfl ?_
  refine P.iload_n dX9_join_1 rfl rfl ?_
  refine P.callV (As := [.int (nI p)]) (rest := []) (s_isPart_t hU hUW hp) ok_X9_isPart ⟨Nat.le_of_ble_eq_true rfl, Nat.le_of_ble_eq_true rfl, Nat.le_refl _, Nat.le_refl _⟩ rfl ml_X9_241 ly_0 (by decide) (by decide) rfl rfl (Nat.le_of_ble_eq_true rfl) dX9_join_2 ?_
  refine P.if_eq_b (tgt := 16) dX9_join_5 (by decide) (fun c_5 => ?_) (fun c_5 => ?_)
  · exfalso; revert c_5; decide
  refine P.aload_n dX9_join_8 rfl rfl ?_
  refine P.iload_n dX9_join_9 rfl rfl ?_
  refine P.callV (As := [.int (nI q)]) (rest := []) (s_isPart_t hU hUW hq) ok_X9_isPart ⟨Nat.le_of_ble_eq_true rfl, Nat.le_of_ble_eq_true rfl, Nat.le_refl _, Nat.le_refl _⟩ rfl ml_X9_241 ly_0 (by decide) (by decide) rfl rfl (Nat.le_of_ble_eq_true rfl) dX9_join_10 ?_
  refine P.if_ne_b (tgt := 18) dX9_join_13 (by decide) (fun c_13 => ?_) (fun c_13 => ?_)
  · refine P.aload_n dX9_join_18 rfl rfl ?_
    refine P.iload_n dX9_join_19 rfl rfl ?_
    refine P.iload_n dX9_join_20 rfl rfl ?_
    refine P.callV (As := [.int (nI p), .int (nI c)]) (rest := []) (s_fPart_ok hU hUW hT hTW hp hc) ok_X9_faultOfPart ⟨Nat.le_of_ble_eq_true rfl, Nat.le_of_ble_eq_true rfl, Nat.le_refl _, Nat.le_refl _⟩ rfl ml_X9_228 ly_0 (by decide) (by decide) rfl rfl (Nat.le_of_ble_eq_true rfl) dX9_join_21 ?_
    refine P.istore dX9_join_24 (by decide) ?_
    refine P.iload dX9_join_26 rfl ?_
    refine P.if_ne_n (tgt := 40) dX9_join_28 (by decide) (by omega) (fun c_28 => ?_) (fun c_28 => ?_)
    · exfalso; omega
    refine P.aload_n dX9_join_31 rfl rfl ?_
    refine P.iload_n dX9_join_32 rfl rfl ?_
    refine P.iload dX9_join_33 rfl ?_
    refine P.callV (As := [.int (nI q), .int (nI d)]) (rest := []) (s_fPart_ok hU hUW hT hTW hq hd) ok_X9_faultOfPart ⟨Nat.le_of_ble_eq_true rfl, Nat.le_of_ble_eq_true rfl, Nat.le_refl _, Nat.le_refl _⟩ rfl ml_X9_228 ly_0 (by decide) (by decide) rfl rfl (Nat.le_of_ble_eq_true rfl) dX9_join_35 ?_
    refine P.istore dX9_join_38 (by decide) ?_
    refine P.iload dX9_join_40 rfl ?_
    refine P.if_eq_n (tgt := 48) dX9_join_42 (by decide) (by omega) (fun c_42 => ?_) (fun c_42 => ?_)
    · refine P.aload_n dX9_join_48 rfl rfl ?_
      refine g_X9_question (q := 57) ly_0 (by decide) (by decide) fl_X9_43 dX9_join_49 ?_
      refine g_X5_manyJoins ly_57 (by decide) fl_X9_244 dX9_join_52 ?_
      refine Pm.topn (b := U.2.2.2.2.1) (hU.2.2.2.2.1) ?_
      refine P.bipush (v := nI 6) dX9_join_55 rfl ?_
      refine P.icmp_lt_n (tgt := 63) dX9_join_57 (by decide) (by omega) (by omega) (fun c_57 => ?_) (fun c_57 => ?_)
      · refine P.aload_n dX9_join_63 rfl rfl ?_
        refine g_X9_question (q := 57) ly_0 (by decide) (by decide) fl_X9_43 dX9_join_64 ?_
        refine P.iload_n dX9_join_67 rfl rfl ?_
        refine P.iload_n dX9_join_68 rfl rfl ?_
        refine P.iload_n dX9_join_69 rfl rfl ?_
        refine P.iload dX9_join_70 rfl ?_
        refine P.callV (As := [.int (nI p), .int (nI c), .int (nI q), .int (nI d)]) (rest := []) (s_addJoin hU hj) ok_X5_addJoin ⟨Nat.le_of_ble_eq_true rfl, Nat.le_of_ble_eq_true rfl, Nat.le_refl _, Nat.le_refl _⟩ rfl ml_X9_247 ly_57 (by decide) (by decide) rfl rfl (Nat.le_of_ble_eq_true rfl) dX9_join_72 ?_
        exact P.iret rfl dX9_join_75 rfl rfl
      · exfalso; omega
    · exfalso; omega
  · exfalso; revert c_13; decide

set_option maxRecDepth 20000 in
theorem s_bitCount {G : GG} {f : Nat → Nat → Nat} {l : Nat → Nat → Int64} {s : Nat} (hs : s < 4096) : Spec G mJ6_bitCount_0f7a4 [.int (nI s)] 114 (f, l, refT) (some (.int (nI (bitsN s)))) 114 (f, l, refT) := by
  refine Spec.of ok_J6_bitCount_0f7a4.1 ⟨Nat.le_refl _, Nat.le_refl _⟩ (Nat.le_of_ble_eq_true rfl) ?_
  show Pm G RJ6 cJ6_bitCount_0f7a4 1 (KM G mJ6_bitCount_0f7a4 114 114 (some (.int (nI (bitsN s)))) (f, l, refT)) 0 [some (.int (nI s))] [] f l
  refine P.iload_n dJ6_bitCount_0f7a4_0 rfl rfl ?_
  refine P.iload_n dJ6_bitCount_0f7a4_1 rfl rfl ?_
  refine P.iconst dJ6_bitCount_0f7a4_2 ic_1 ?_
  refine P.iushr dJ6_bitCount_0f7a4_3 rfl ?_
  refine P.ldcw dJ6_bitCount_0f7a4_4 co_J6_265 ?_
  refine P.iand dJ6_bitCount_0f7a4_7 ?_
  refine P.isub dJ6_bitCount_0f7a4_8 ?_
  refine P.istore_n dJ6_bitCount_0f7a4_9 rfl (by decide) ?_
  refine P.iload_n dJ6_bitCount_0f7a4_10 rfl rfl ?_
  refine P.ldcw dJ6_bitCount_0f7a4_11 co_J6_266 ?_
  refine P.iand dJ6_bitCount_0f7a4_14 ?_
  refine P.iload_n dJ6_bitCount_0f7a4_15 rfl rfl ?_
  refine P.iconst dJ6_bitCount_0f7a4_16 ic_2 ?_
  refine P.iushr dJ6_bitCount_0f7a4_17 rfl ?_
  refine P.ldcw dJ6_bitCount_0f7a4_18 co_J6_266 ?_
  refine P.iand dJ6_bitCount_0f7a4_21 ?_
  refine P.iadd dJ6_bitCount_0f7a4_22 ?_
  refine P.istore_n dJ6_bitCount_0f7a4_23 rfl (by decide) ?_
  refine P.iload_n dJ6_bitCount_0f7a4_24 rfl rfl ?_
  refine P.iload_n dJ6_bitCount_0f7a4_25 rfl rfl ?_
  refine P.iconst dJ6_bitCount_0f7a4_26 ic_4 ?_
  refine P.iushr dJ6_bitCount_0f7a4_27 rfl ?_
  refine P.iadd dJ6_bitCount_0f7a4_28 ?_
  refine P.ldcw dJ6_bitCount_0f7a4_29 co_J6_267 ?_
  refine P.iand dJ6_bitCount_0f7a4_32 ?_
  refine P.istore_n dJ6_bitCount_0f7a4_33 rfl (by decide) ?_
  refine P.iload_n dJ6_bitCount_0f7a4_34 rfl rfl ?_
  refine P.iload_n dJ6_bitCount_0f7a4_35 rfl rfl ?_
  refine P.bipush (v := nI 8) dJ6_bitCount_0f7a4_36 rfl ?_
  refine P.iushr dJ6_bitCount_0f7a4_38 rfl ?_
  refine P.iadd dJ6_bitCount_0f7a4_39 ?_
  refine P.istore_n dJ6_bitCount_0f7a4_40 rfl (by decide) ?_
  refine P.iload_n dJ6_bitCount_0f7a4_41 rfl rfl ?_
  refine P.iload_n dJ6_bitCount_0f7a4_42 rfl rfl ?_
  refine P.bipush (v := nI 16) dJ6_bitCount_0f7a4_43 rfl ?_
  refine P.iushr dJ6_bitCount_0f7a4_45 rfl ?_
  refine P.iadd dJ6_bitCount_0f7a4_46 ?_
  refine P.istore_n dJ6_bitCount_0f7a4_47 rfl (by decide) ?_
  refine P.iload_n dJ6_bitCount_0f7a4_48 rfl rfl ?_
  refine P.bipush (v := nI 63) dJ6_bitCount_0f7a4_49 rfl ?_
  refine P.iand dJ6_bitCount_0f7a4_51 ?_
  exact P.iret rfl dJ6_bitCount_0f7a4_52 (bc_all s hs) rfl

set_option maxRecDepth 20000 in
theorem k_count_0 {G : GG} {f : Nat → Nat → Nat} {l : Nat → Nat → Int64} {D : DB} {W : LB} {U : QB} {T : TB} {N : Nat} (hC : CI f l D W U T N) (hBW : BW D W U T)  : Spec G mX9_count [.ref (ad G 0), .int (nI 0)] 114 (f, l, refT) (some (.int (nI D.1))) 114 (f, l, refT) := by
  obtain ⟨hV, hL, hU, hT, hN, hSB⟩ := id hC
  obtain ⟨hD, hLW, hUW, hTW⟩ := id hBW
  have hR := hD.1
  have hW1 := hLW.1
  have hU1 := hUW.1
  have hJ1 := hUW.2.1
  refine Spec.of ok_X9_count.1 ⟨Nat.le_refl _, Nat.le_refl _⟩ (Nat.le_of_ble_eq_true rfl) ?_
  show Pm G RX9 cX9_count 2 (KM G mX9_count 114 114 (some (.int (nI D.1))) (f, l, refT)) 0 [some (.ref (ad G 0)), some (.int (nI 0))] [] f l
  refine P.iload_n dX9_count_0 rfl rfl ?_
  refine P.tableIn (off := 43) (tgt := 44) dX9_count_1 (by decide) (by decide) rfl (by decide) ?_
  refine P.aload_n dX9_count_44 rfl rfl ?_
  refine g_X9_rows (q := 2) ly_0 (by decide) (by decide) fl_X9_18 dX9_count_45 ?_
  refine g_X7_many ly_2 (by decide) fl_X9_71 dX9_count_48 ?_
  refine Pm.topn (b := D.1) (hV.1) ?_
  exact P.iret rfl dX9_count_51 rfl rfl

set_option maxRecDepth 20000 in
theorem k_count_1 {G : GG} {f : Nat → Nat → Nat} {l : Nat → Nat → Int64} {D : DB} {W : LB} {U : QB} {T : TB} {N : Nat} (hC : CI f l D W U T N) (hBW : BW D W U T)  : Spec G mX9_count [.ref (ad G 0), .int (nI 1)] 114 (f, l, refT) (some (.int (nI W.1))) 114 (f, l, refT) := by
  obtain ⟨hV, hL, hU, hT, hN, hSB⟩ := id hC
  obtain ⟨hD, hLW, hUW, hTW⟩ := id hBW
  have hR := hD.1
  have hW1 := hLW.1
  have hU1 := hUW.1
  have hJ1 := hUW.2.1
  refine Spec.of ok_X9_count.1 ⟨Nat.le_refl _, Nat.le_refl _⟩ (Nat.le_of_ble_eq_true rfl) ?_
  show Pm G RX9 cX9_count 2 (KM G mX9_count 114 114 (some (.int (nI W.1))) (f, l, refT)) 0 [some (.ref (ad G 0)), some (.int (nI 1))] [] f l
  refine P.iload_n dX9_count_0 rfl rfl ?_
  refine P.tableIn (off := 51) (tgt := 52) dX9_count_1 (by decide) (by decide) rfl (by decide) ?_
  refine P.aload_n dX9_count_52 rfl rfl ?_
  refine g_X9_laws (q := 40) ly_0 (by decide) (by decide) fl_X9_27 dX9_count_53 ?_
  refine g_X2_many ly_40 (by decide) fl_X9_126 dX9_count_56 ?_
  refine Pm.topn (b := W.1) (hL.1) ?_
  exact P.iret rfl dX9_count_59 rfl rfl

set_option maxRecDepth 20000 in
theorem k_count_2 {G : GG} {f : Nat → Nat → Nat} {l : Nat → Nat → Int64} {D : DB} {W : LB} {U : QB} {T : TB} {N : Nat} (hC : CI f l D W U T N) (hBW : BW D W U T)  : Spec G mX9_count [.ref (ad G 0), .int (nI 2)] 114 (f, l, refT) (some (.int (nI U.1))) 114 (f, l, refT) := by
  obtain ⟨hV, hL, hU, hT, hN, hSB⟩ := id hC
  obtain ⟨hD, hLW, hUW, hTW⟩ := id hBW
  have hR := hD.1
  have hW1 := hLW.1
  have hU1 := hUW.1
  have hJ1 := hUW.2.1
  refine Spec.of ok_X9_count.1 ⟨Nat.le_refl _, Nat.le_refl _⟩ (Nat.le_of_ble_eq_true rfl) ?_
  show Pm G RX9 cX9_count 2 (KM G mX9_count 114 114 (some (.int (nI U.1))) (f, l, refT)) 0 [some (.ref (ad G 0)), some (.int (nI 2))] [] f l
  refine P.iload_n dX9_count_0 rfl rfl ?_
  refine P.tableIn (off := 59) (tgt := 60) dX9_count_1 (by decide) (by decide) rfl (by decide) ?_
  refine P.aload_n dX9_count_60 rfl rfl ?_
  refine g_X9_question (q := 57) ly_0 (by decide) (by decide) fl_X9_43 dX9_count_61 ?_
  refine g_X5_manyParts ly_57 (by decide) fl_X9_219 dX9_count_64 ?_
  refine Pm.topn (b := U.1) (hU.1) ?_
  exact P.iret rfl dX9_count_67 rfl rfl

set_option maxRecDepth 20000 in
theorem k_count_3 {G : GG} {f : Nat → Nat → Nat} {l : Nat → Nat → Int64} {D : DB} {W : LB} {U : QB} {T : TB} {N : Nat} (hC : CI f l D W U T N) (hBW : BW D W U T)  : Spec G mX9_count [.ref (ad G 0), .int (nI 3)] 114 (f, l, refT) (some (.int (nI U.2.2.2.2.1))) 114 (f, l, refT) := by
  obtain ⟨hV, hL, hU, hT, hN, hSB⟩ := id hC
  obtain ⟨hD, hLW, hUW, hTW⟩ := id hBW
  have hR := hD.1
  have hW1 := hLW.1
  have hU1 := hUW.1
  have hJ1 := hUW.2.1
  refine Spec.of ok_X9_count.1 ⟨Nat.le_refl _, Nat.le_refl _⟩ (Nat.le_of_ble_eq_true rfl) ?_
  show Pm G RX9 cX9_count 2 (KM G mX9_count 114 114 (some (.int (nI U.2.2.2.2.1))) (f, l, refT)) 0 [some (.ref (ad G 0)), some (.int (nI 3))] [] f l
  refine P.iload_n dX9_count_0 rfl rfl ?_
  refine P.tableIn (off := 67) (tgt := 68) dX9_count_1 (by decide) (by decide) rfl (by decide) ?_
  refine P.aload_n dX9_count_68 rfl rfl ?_
  refine g_X9_question (q := 57) ly_0 (by decide) (by decide) fl_X9_43 dX9_count_69 ?_
  refine g_X5_manyJoins ly_57 (by decide) fl_X9_244 dX9_count_72 ?_
  refine Pm.topn (b := U.2.2.2.2.1) (hU.2.2.2.2.1) ?_
  exact P.iret rfl dX9_count_75 rfl rfl

set_option maxRecDepth 20000 in
theorem k_count_4 {G : GG} {f : Nat → Nat → Nat} {l : Nat → Nat → Int64} {D : DB} {W : LB} {U : QB} {T : TB} {N : Nat} (hC : CI f l D W U T N) (hBW : BW D W U T)  : Spec G mX9_count [.ref (ad G 0), .int (nI 4)] 114 (f, l, refT) (some (.int (nI N))) 114 (f, l, refT) := by
  obtain ⟨hV, hL, hU, hT, hN, hSB⟩ := id hC
  obtain ⟨hD, hLW, hUW, hTW⟩ := id hBW
  have hR := hD.1
  have hW1 := hLW.1
  have hU1 := hUW.1
  have hJ1 := hUW.2.1
  refine Spec.of ok_X9_count.1 ⟨Nat.le_refl _, Nat.le_refl _⟩ (Nat.le_of_ble_eq_true rfl) ?_
  show Pm G RX9 cX9_count 2 (KM G mX9_count 114 114 (some (.int (nI N))) (f, l, refT)) 0 [some (.ref (ad G 0)), some (.int (nI 4))] [] f l
  refine P.iload_n dX9_count_0 rfl rfl ?_
  refine P.tableIn (off := 75) (tgt := 76) dX9_count_1 (by decide) (by decide) rfl (by decide) ?_
  refine P.aload_n dX9_count_76 rfl rfl ?_
  refine g_X9_findings ly_0 (by decide) fl_X9_265 dX9_count_77 ?_
  refine Pm.topn (b := N) (hN) ?_
  exact P.iret rfl dX9_count_80 rfl rfl

set_option maxRecDepth 20000 in
theorem k_count_5 {G : GG} {f : Nat → Nat → Nat} {l : Nat → Nat → Int64} {D : DB} {W : LB} {U : QB} {T : TB} {N : Nat} (hC : CI f l D W U T N) (hBW : BW D W U T)  : Spec G mX9_count [.ref (ad G 0), .int (nI 5)] 114 (f, l, refT) (some (.int (nI (bitsN (keptD D))))) 114 (f, l, refT) := by
  obtain ⟨hV, hL, hU, hT, hN, hSB⟩ := id hC
  obtain ⟨hD, hLW, hUW, hTW⟩ := id hBW
  have hR := hD.1
  have hW1 := hLW.1
  have hU1 := hUW.1
  have hJ1 := hUW.2.1
  refine Spec.of ok_X9_count.1 ⟨Nat.le_refl _, Nat.le_refl _⟩ (Nat.le_of_ble_eq_true rfl) ?_
  show Pm G RX9 cX9_count 2 (KM G mX9_count 114 114 (some (.int (nI (bitsN (keptD D))))) (f, l, refT)) 0 [some (.ref (ad G 0)), some (.int (nI 5))] [] f l
  refine P.iload_n dX9_count_0 rfl rfl ?_
  refine P.tableIn (off := 80) (tgt := 81) dX9_count_1 (by decide) (by decide) rfl (by decide) ?_
  refine P.aload_n dX9_count_81 rfl rfl ?_
  refine g_X9_rows (q := 2) ly_0 (by decide) (by decide) fl_X9_18 dX9_count_82 ?_
  refine P.callV (As := []) (rest := []) (s_kept hV hD) ok_X7_kept ⟨Nat.le_of_ble_eq_true rfl, Nat.le_of_ble_eq_true rfl, Nat.le_refl _, Nat.le_refl _⟩ rfl ml_X9_168 ly_2 (by decide) (by decide) rfl rfl (Nat.le_of_ble_eq_true rfl) dX9_count_85 ?_
  refine P.callS (As := [.int (nI (keptD D))]) (rest := []) (s_bitCount (keptD_lt hD)) ok_J6_bitCount_0f7a4 ⟨Nat.le_of_ble_eq_true rfl, Nat.le_of_ble_eq_true rfl, Nat.le_refl _, Nat.le_refl _⟩ rfl ml_X9_209 rfl (Nat.le_of_ble_eq_true rfl) dX9_count_88 ?_
  exact P.iret rfl dX9_count_91 rfl rfl

set_option maxRecDepth 20000 in
theorem k_count_6 {G : GG} {f : Nat → Nat → Nat} {l : Nat → Nat → Int64} {D : DB} {W : LB} {U : QB} {T : TB} {N : Nat} (hC : CI f l D W U T N) (hBW : BW D W U T)  : Spec G mX9_count [.ref (ad G 0), .int (nI 6)] 114 (f, l, refT) (some (.int (nI (tabsN T)))) 114 (f, l, refT) := by
  obtain ⟨hV, hL, hU, hT, hN, hSB⟩ := id hC
  obtain ⟨hD, hLW, hUW, hTW⟩ := id hBW
  have hR := hD.1
  have hW1 := hLW.1
  have hU1 := hUW.1
  have hJ1 := hUW.2.1
  refine Spec.of ok_X9_count.1 ⟨Nat.le_refl _, Nat.le_refl _⟩ (Nat.le_of_ble_eq_true rfl) ?_
  show Pm G RX9 cX9_count 2 (KM G mX9_count 114 114 (some (.int (nI (tabsN T)))) (f, l, refT)) 0 [some (.ref (ad G 0)), some (.int (nI 6))] [] f l
  refine P.iload_n dX9_count_0 rfl rfl ?_
  refine P.tableIn (off := 91) (tgt := 92) dX9_count_1 (by decide) (by decide) rfl (by decide) ?_
  refine P.aload_n dX9_count_92 rfl rfl ?_
  refine P.callV (As := []) (rest := []) (s_manyTables hT hTW) ok_X9_manyTables ⟨Nat.le_of_ble_eq_true rfl, Nat.le_of_ble_eq_true rfl, Nat.le_refl _, Nat.le_refl _⟩ rfl ml_X9_268 ly_0 (by decide) (by decide) rfl rfl (Nat.le_of_ble_eq_true rfl) dX9_count_93 ?_
  exact P.iret rfl dX9_count_96 rfl rfl

set_option maxRecDepth 20000 in
theorem k_count_x {G : GG} {f : Nat → Nat → Nat} {l : Nat → Nat → Int64} {D : DB} {W : LB} {U : QB} {T : TB} {N : Nat} (hC : CI f l D W U T N) (hBW : BW D W U T) {x : Int32} (hx : inR x 7 = false) : Spec G mX9_count [.ref (ad G 0), .int x] 114 (f, l, refT) (some (.int (-2))) 114 (f, l, refT) := by
  obtain ⟨hV, hL, hU, hT, hN, hSB⟩ := id hC
  obtain ⟨hD, hLW, hUW, hTW⟩ := id hBW
  have hR := hD.1
  have hW1 := hLW.1
  have hU1 := hUW.1
  have hJ1 := hUW.2.1
  refine Spec.of ok_X9_count.1 ⟨Nat.le_refl _, Nat.le_refl _⟩ (Nat.le_of_ble_eq_true rfl) ?_
  show Pm G RX9 cX9_count 2 (KM G mX9_count 114 114 (some (.int (-2))) (f, l, refT)) 0 [some (.ref (ad G 0)), some (.int x)] [] f l
  refine P.iload_n dX9_count_0 rfl rfl ?_
  refine P.tableOut (tgt := 97) dX9_count_1 (by have := inR_f.mp hx; omega) (by decide) ?_
  refine P.bipush (v := -2) dX9_count_97 rfl ?_
  exact P.iret rfl dX9_count_99 rfl rfl


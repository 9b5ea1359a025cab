-- the bench's face, simple calls, a case each: by program (wip/whole/spec27.py)
set_option maxRecDepth 20000 in
theorem k_table_a {G : GG} {f : Nat → Nat → Nat} {l : Nat → Nat → Int64} {D : DB} {W : LB} {U : QB} {T : TB} {N : Nat} (hC : CI f l D W U T N) (hBW : BW D W U T) {x : Int32} (hx : inR x 4 = false) {y z : Int32} : Spec G mX9_table [.ref (ad G 0), .int x, .int y, .int z] 114 (f, l, refT) (some (.int (-12))) 114 (uf f 0 5 (N + 1), l, refT) := by
  obtain ⟨hV, hL, hU, hT, hN, hSB⟩ := id hC
  obtain ⟨hD, hLW, hUW, hTW⟩ := id hBW
  have hR := hD.1
  have hW1 := hLW.1
  have hU1 := hUW.1
  have hJ1 := hUW.2.1
  have hx2 := inR_f.mp hx
  refine Spec.of ok_X9_table.1 ⟨Nat.le_refl _, Nat.le_refl _⟩ (Nat.le_of_ble_eq_true rfl) ?_
  show Pm G RX9 cX9_table 4 (KM G mX9_table 114 114 (some (.int (-12))) (uf f 0 5 (N + 1), l, refT)) 0 [some (.ref (ad G 0)), some (.int x), some (.int y), some (.int z)] [] f l
  refine P.iload_n dX9_table_0 rfl rfl ?_
  refine P.if_lt_z (tgt := 9) dX9_table_1 (by decide) rfl (fun c_1 => ?_) (fun c_1 => ?_)
  · refine P.aload_n dX9_table_9 rfl rfl ?_
    refine P.bipush (v := -12) dX9_table_10 rfl ?_
    refine P.callV (As := [.int (-12)]) (rest := []) (s_found hN) ok_X9_found ⟨Nat.le_of_ble_eq_true rfl, Nat.le_of_ble_eq_true rfl, Nat.le_refl _, Nat.le_refl _⟩ rfl ml_X9_48 ly_0 (by decide) (by decide) rfl rfl (Nat.le_of_ble_eq_true rfl) dX9_table_12 ?_
    exact P.iret rfl dX9_table_15 rfl rfl
  refine P.iload_n dX9_table_4 rfl rfl ?_
  refine P.iconst dX9_table_5 ic_4 ?_
  refine P.icmp_lt_z (tgt := 16) dX9_table_6 (by decide) rfl (zN (by omega)) (fun c_6 => ?_) (fun c_6 => ?_)
  · exfalso; omega
  refine P.aload_n dX9_table_9 rfl rfl ?_
  refine P.bipush (v := -12) dX9_table_10 rfl ?_
  refine P.callV (As := [.int (-12)]) (rest := []) (s_found hN) ok_X9_found ⟨Nat.le_of_ble_eq_true rfl, Nat.le_of_ble_eq_true rfl, Nat.le_refl _, Nat.le_refl _⟩ rfl ml_X9_48 ly_0 (by decide) (by decide) rfl rfl (Nat.le_of_ble_eq_true rfl) dX9_table_12 ?_
  exact P.iret rfl dX9_table_15 rfl rfl

set_option maxRecDepth 20000 in
theorem k_table_b {G : GG} {f : Nat → Nat → Nat} {l : Nat → Nat → Int64} {D : DB} {W : LB} {U : QB} {T : TB} {N : Nat} (hC : CI f l D W U T N) (hBW : BW D W U T) {t : Nat} (ht : t < 4) {y z : Int32} (hy : y.toInt < 0) : Spec G mX9_table [.ref (ad G 0), .int (nI t), .int y, .int z] 114 (f, l, refT) (some (.int (-14))) 114 (uf f 0 5 (N + 1), l, refT) := by
  obtain ⟨hV, hL, hU, hT, hN, hSB⟩ := id hC
  obtain ⟨hD, hLW, hUW, hTW⟩ := id hBW
  have hR := hD.1
  have hW1 := hLW.1
  have hU1 := hUW.1
  have hJ1 := hUW.2.1
  refine Spec.of ok_X9_table.1 ⟨Nat.le_refl _, Nat.le_refl _⟩ (Nat.le_of_ble_eq_true rfl) ?_
  show Pm G RX9 cX9_table 4 (KM G mX9_table 114 114 (some (.int (-14))) (uf f 0 5 (N + 1), l, refT)) 0 [some (.ref (ad G 0)), some (.int (nI t)), some (.int y), some (.int z)] [] f l
  refine P.iload_n dX9_table_0 rfl rfl ?_
  refine P.if_lt_z (tgt := 9) dX9_table_1 (by decide) (zN (by omega)) (fun c_1 => ?_) (fun c_1 => ?_)
  · exfalso; omega
  refine P.iload_n dX9_table_4 rfl rfl ?_
  refine P.iconst dX9_table_5 ic_4 ?_
  refine P.icmp_lt_n (tgt := 16) dX9_table_6 (by decide) (by omega) (by omega) (fun c_6 => ?_) (fun c_6 => ?_)
  · refine P.iload_n dX9_table_16 rfl rfl ?_
    refine P.if_ge_z (tgt := 27) dX9_table_17 (by decide) rfl (fun c_17 => ?_) (fun c_17 => ?_)
    · exfalso; omega
    refine P.aload_n dX9_table_20 rfl rfl ?_
    refine P.bipush (v := -14) dX9_table_21 rfl ?_
    refine P.callV (As := [.int (-14)]) (rest := []) (s_found hN) ok_X9_found ⟨Nat.le_of_ble_eq_true rfl, Nat.le_of_ble_eq_true rfl, Nat.le_refl _, Nat.le_refl _⟩ rfl ml_X9_48 ly_0 (by decide) (by decide) rfl rfl (Nat.le_of_ble_eq_true rfl) dX9_table_23 ?_
    exact P.iret rfl dX9_table_26 rfl rfl
  · exfalso; omega

set_option maxRecDepth 20000 in
theorem k_table_c0 {G : GG} {f : Nat → Nat → Nat} {l : Nat → Nat → Int64} {D : DB} {W : LB} {U : QB} {T : TB} {N : Nat} (hC : CI f l D W U T N) (hBW : BW D W U T) {t : Nat} (ht : t < 4) {z : Int32} : Spec G mX9_table [.ref (ad G 0), .int (nI t), .int (nI 0), .int z] 114 (f, l, refT) (some (.int (-2))) 114 (f, l, refT) := by
  obtain ⟨hV, hL, hU, hT, hN, hSB⟩ := id hC
  obtain ⟨hD, hLW, hUW, hTW⟩ := id hBW
  have hR := hD.1
  have hW1 := hLW.1
  have hU1 := hUW.1
  have hJ1 := hUW.2.1
  refine Spec.of ok_X9_table.1 ⟨Nat.le_refl _, Nat.le_refl _⟩ (Nat.le_of_ble_eq_true rfl) ?_
  show Pm G RX9 cX9_table 4 (KM G mX9_table 114 114 (some (.int (-2))) (f, l, refT)) 0 [some (.ref (ad G 0)), some (.int (nI t)), some (.int (nI 0)), some (.int z)] [] f l
  refine P.iload_n dX9_table_0 rfl rfl ?_
  refine P.if_lt_z (tgt := 9) dX9_table_1 (by decide) (zN (by omega)) (fun c_1 => ?_) (fun c_1 => ?_)
  · exfalso; omega
  refine P.iload_n dX9_table_4 rfl rfl ?_
  refine P.iconst dX9_table_5 ic_4 ?_
  refine P.icmp_lt_n (tgt := 16) dX9_table_6 (by decide) (by omega) (by omega) (fun c_6 => ?_) (fun c_6 => ?_)
  · refine P.iload_n dX9_table_16 rfl rfl ?_
    refine P.if_ge_z (tgt := 27) dX9_table_17 (by decide) (zN (by omega)) (fun c_17 => ?_) (fun c_17 => ?_)
    · refine P.iload_n dX9_table_27 rfl rfl ?_
      refine P.if_eq_n (tgt := 45) dX9_table_28 (by decide) (by omega) (fun c_28 => ?_) (fun c_28 => ?_)
      · refine P.bipush (v := -2) dX9_table_45 rfl ?_
        exact P.iret rfl dX9_table_47 rfl rfl
      · exfalso; omega
    · exfalso; omega
  · exfalso; omega

set_option maxRecDepth 20000 in
theorem k_table_c {G : GG} {f : Nat → Nat → Nat} {l : Nat → Nat → Int64} {D : DB} {W : LB} {U : QB} {T : TB} {N : Nat} (hC : CI f l D W U T N) (hBW : BW D W U T) {t : Nat} (ht : t < 4) {y z : Int32} (hy : 6 < y.toInt) : Spec G mX9_table [.ref (ad G 0), .int (nI t), .int y, .int z] 114 (f, l, refT) (some (.int (-2))) 114 (f, l, refT) := by
  obtain ⟨hV, hL, hU, hT, hN, hSB⟩ := id hC
  obtain ⟨hD, hLW, hUW, hTW⟩ := id hBW
  have hR := hD.1
  have hW1 := hLW.1
  have hU1 := hUW.1
  have hJ1 := hUW.2.1
  refine Spec.of ok_X9_table.1 ⟨Nat.le_refl _, Nat.le_refl _⟩ (Nat.le_of_ble_eq_true rfl) ?_
  show Pm G RX9 cX9_table 4 (KM G mX9_table 114 114 (some (.int (-2))) (f, l, refT)) 0 [some (.ref (ad G 0)), some (.int (nI t)), some (.int y), some (.int z)] [] f l
  refine P.iload_n dX9_table_0 rfl rfl ?_
  refine P.if_lt_z (tgt := 9) dX9_table_1 (by decide) (zN (by omega)) (fun c_1 => ?_) (fun c_1 => ?_)
  · exfalso; omega
  refine P.iload_n dX9_table_4 rfl rfl ?_
  refine P.iconst dX9_table_5 ic_4 ?_
  refine P.icmp_lt_n (tgt := 16) dX9_table_6 (by decide) (by omega) (by omega) (fun c_6 => ?_) (fun c_6 => ?_)
  · refine P.iload_n dX9_table_16 rfl rfl ?_
    refine P.if_ge_z (tgt := 27) dX9_table_17 (by decide) rfl (fun c_17 => ?_) (fun c_17 => ?_)
    · refine P.iload_n dX9_table_27 rfl rfl ?_
      refine P.if_eq_z (tgt := 45) dX9_table_28 (by decide) rfl (fun c_28 => ?_) (fun c_28 => ?_)
      · exfalso; omega
      refine P.iload_n dX9_table_31 rfl rfl ?_
      refine P.bipush (v := nI 6) dX9_table_32 rfl ?_
      refine P.icmp_gt_z (tgt := 45) dX9_table_34 (by decide) rfl (zN (by omega)) (fun c_34 => ?_) (fun c_34 => ?_)
      · refine P.bipush (v := -2) dX9_table_45 rfl ?_
        exact P.iret rfl dX9_table_47 rfl rfl
      · exfalso; omega
    · exfalso; omega
  · exfalso; omega

set_option maxRecDepth 20000 in
theorem k_table_d {G : GG} {f : Nat → Nat → Nat} {l : Nat → Nat → Int64} {D : DB} {W : LB} {U : QB} {T : TB} {N : Nat} (hC : CI f l D W U T N) (hBW : BW D W U T) {t : Nat} (ht : t < 4) {k : Nat} (hk1 : 1 ≤ k) (hk6 : k ≤ 6) {z : Int32} (hz : z.toInt < 0) : Spec G mX9_table [.ref (ad G 0), .int (nI t), .int (nI k), .int z] 114 (f, l, refT) (some (.int (-2))) 114 (f, l, refT) := by
  obtain ⟨hV, hL, hU, hT, hN, hSB⟩ := id hC
  obtain ⟨hD, hLW, hUW, hTW⟩ := id hBW
  have hR := hD.1
  have hW1 := hLW.1
  have hU1 := hUW.1
  have hJ1 := hUW.2.1
  refine Spec.of ok_X9_table.1 ⟨Nat.le_refl _, Nat.le_refl _⟩ (Nat.le_of_ble_eq_true rfl) ?_
  show Pm G RX9 cX9_table 4 (KM G mX9_table 114 114 (some (.int (-2))) (f, l, refT)) 0 [some (.ref (ad G 0)), some (.int (nI t)), some (.int (nI k)), some (.int z)] [] f l
  refine P.iload_n dX9_table_0 rfl rfl ?_
  refine P.if_lt_z (tgt := 9) dX9_table_1 (by decide) (zN (by omega)) (fun c_1 => ?_) (fun c_1 => ?_)
  · exfalso; omega
  refine P.iload_n dX9_table_4 rfl rfl ?_
  refine P.iconst dX9_table_5 ic_4 ?_
  refine P.icmp_lt_n (tgt := 16) dX9_table_6 (by decide) (by omega) (by omega) (fun c_6 => ?_) (fun c_6 => ?_)
  · refine P.iload_n dX9_table_16 rfl rfl ?_
    refine P.if_ge_z (tgt := 27) dX9_table_17 (by decide) (zN (by omega)) (fun c_17 => ?_) (fun c_17 => ?_)
    · refine P.iload_n dX9_table_27 rfl rfl ?_
      refine P.if_eq_n (tgt := 45) dX9_table_28 (by decide) (by omega) (fun c_28 => ?_) (fun c_28 => ?_)
      · exfalso; omega
      refine P.iload_n dX9_table_31 rfl rfl ?_
      refine P.bipush (v := nI 6) dX9_table_32 rfl ?_
      refine P.icmp_gt_n (tgt := 45) dX9_table_34 (by decide) (by omega) (by omega) (fun c_34 => ?_) (fun c_34 => ?_)
      · exfalso; omega
      refine P.iload_n dX9_table_37 rfl rfl ?_
      refine P.iload_n dX9_table_38 rfl rfl ?_
      refine P.callS (As := [.int (nI k), .int z]) (rest := []) (s_areLanes_neg hk1 hk6 hz) ok_X9_areLanes ⟨Nat.le_of_ble_eq_true rfl, Nat.le_of_ble_eq_true rfl, Nat.le_refl _, Nat.le_refl _⟩ rfl ml_X9_52 rfl (Nat.le_of_ble_eq_true rfl) dX9_table_39 ?_
      refine P.if_ne_b (tgt := 48) dX9_table_42 (by decide) (fun c_42 => ?_) (fun c_42 => ?_)
      · exfalso; revert c_42; decide
      refine P.bipush (v := -2) dX9_table_45 rfl ?_
      exact P.iret rfl dX9_table_47 rfl rfl
    · exfalso; omega
  · exfalso; omega

set_option maxRecDepth 20000 in
theorem k_table_e {G : GG} {f : Nat → Nat → Nat} {l : Nat → Nat → Int64} {D : DB} {W : LB} {U : QB} {T : TB} {N : Nat} (hC : CI f l D W U T N) (hBW : BW D W U T) {t : Nat} (ht : t < 4) {k : Nat} (hk1 : 1 ≤ k) (hk6 : k ≤ 6) {m : Nat} (hm : m < 2147483648) (hlb : lanesB k m = false) : Spec G mX9_table [.ref (ad G 0), .int (nI t), .int (nI k), .int (nI m)] 114 (f, l, refT) (some (.int (-2))) 114 (f, l, refT) := by
  obtain ⟨hV, hL, hU, hT, hN, hSB⟩ := id hC
  obtain ⟨hD, hLW, hUW, hTW⟩ := id hBW
  have hR := hD.1
  have hW1 := hLW.1
  have hU1 := hUW.1
  have hJ1 := hUW.2.1
  refine Spec.of ok_X9_table.1 ⟨Nat.le_refl _, Nat.le_refl _⟩ (Nat.le_of_ble_eq_true rfl) ?_
  show Pm G RX9 cX9_table 4 (KM G mX9_table 114 114 (some (.int (-2))) (f, l, refT)) 0 [some (.ref (ad G 0)), some (.int (nI t)), some (.int (nI k)), some (.int (nI m))] [] f l
  refine P.iload_n dX9_table_0 rfl rfl ?_
  refine P.if_lt_z (tgt := 9) dX9_table_1 (by decide) (zN (by omega)) (fun c_1 => ?_) (fun c_1 => ?_)
  · exfalso; omega
  refine P.iload_n dX9_table_4 rfl rfl ?_
  refine P.iconst dX9_table_5 ic_4 ?_
  refine P.icmp_lt_n (tgt := 16) dX9_table_6 (by decide) (by omega) (by omega) (fun c_6 => ?_) (fun c_6 => ?_)
  · refine P.iload_n dX9_table_16 rfl rfl ?_
    refine P.if_ge_z (tgt := 27) dX9_table_17 (by decide) (zN (by omega)) (fun c_17 => ?_) (fun c_17 => ?_)
    · refine P.iload_n dX9_table_27 rfl rfl ?_
      refine P.if_eq_n (tgt := 45) dX9_table_28 (by decide) (by omega) (fun c_28 => ?_) (fun c_28 => ?_)
      · exfalso; omega
      refine P.iload_n dX9_table_31 rfl rfl ?_
      refine P.bipush (v := nI 6) dX9_table_32 rfl ?_
      refine P.icmp_gt_n (tgt := 45) dX9_table_34 (by decide) (by omega) (by omega) (fun c_34 => ?_) (fun c_34 => ?_)
      · exfalso; omega
      refine P.iload_n dX9_table_37 rfl rfl ?_
      refine P.iload_n dX9_table_38 rfl rfl ?_
      refine P.callS (As := [.int (nI k), .int (nI m)]) (rest := []) (by have h := s_areLanes (G := G) (f := f) (l := l) (k := k) (m := m) hk6 hm; rw [hlb] at h; exact h) ok_X9_areLanes ⟨Nat.le_of_ble_eq_true rfl, Nat.le_of_ble_eq_true rfl, Nat.le_refl _, Nat.le_refl _⟩ rfl ml_X9_52 rfl (Nat.le_of_ble_eq_true rfl) dX9_table_39 ?_
      refine P.if_ne_b (tgt := 48) dX9_table_42 (by decide) (fun c_42 => ?_) (fun c_42 => ?_)
      · exfalso; revert c_42; decide
      refine P.bipush (v := -2) dX9_table_45 rfl ?_
      exact P.iret rfl dX9_table_47 rfl rfl
    · exfalso; omega
  · exfalso; omega

set_option maxRecDepth 20000 in
theorem k_table_f {G : GG} {f : Nat → Nat → Nat} {l : Nat → Nat → Int64} {D : DB} {W : LB} {U : QB} {T : TB} {N : Nat} (hC : CI f l D W U T N) (hBW : BW D W U T) {t : Nat} (ht : t < 4) (h0 : T.1 t ≠ 0) {k : Nat} (hk1 : 1 ≤ k) (hk6 : k ≤ 6) {m : Nat} (hm : m < 2147483648) (hlb : lanesB k m = true) : Spec G mX9_table [.ref (ad G 0), .int (nI t), .int (nI k), .int (nI m)] 114 (f, l, refT) (some (.int (-3))) 114 (f, l, refT) := by
  obtain ⟨hV, hL, hU, hT, hN, hSB⟩ := id hC
  obtain ⟨hD, hLW, hUW, hTW⟩ := id hBW
  have hR := hD.1
  have hW1 := hLW.1
  have hU1 := hUW.1
  have hJ1 := hUW.2.1
  refine Spec.of ok_X9_table.1 ⟨Nat.le_refl _, Nat.le_refl _⟩ (Nat.le_of_ble_eq_true rfl) ?_
  show Pm G RX9 cX9_table 4 (KM G mX9_table 114 114 (some (.int (-3))) (f, l, refT)) 0 [some (.ref (ad G 0)), some (.int (nI t)), some (.int (nI k)), some (.int (nI m))] [] f l
  refine P.iload_n dX9_table_0 rfl rfl ?_
  refine P.if_lt_z (tgt := 9) dX9_table_1 (by decide) (zN (by omega)) (fun c_1 => ?_) (fun c_1 => ?_)
  · exfalso; omega
  refine P.iload_n dX9_table_4 rfl rfl ?_
  refine P.iconst dX9_table_5 ic_4 ?_
  refine P.icmp_lt_n (tgt := 16) dX9_table_6 (by decide) (by omega) (by omega) (fun c_6 => ?_) (fun c_6 => ?_)
  · refine P.iload_n dX9_table_16 rfl rfl ?_
    refine P.if_ge_z (tgt := 27) dX9_table_17 (by decide) (zN (by omega)) (fun c_17 => ?_) (fun c_17 => ?_)
    · refine P.iload_n dX9_table_27 rfl rfl ?_
      refine P.if_eq_n (tgt := 45) dX9_table_28 (by decide) (by omega) (fun c_28 => ?_) (fun c_28 => ?_)
      · exfalso; omega
      refine P.iload_n dX9_table_31 rfl rfl ?_
      refine P.bipush (v := nI 6) dX9_table_32 rfl ?_
      refine P.icmp_gt_n (tgt := 45) dX9_table_34 (by decide) (by omega) (by omega) (fun c_34 => ?_) (fun c_34 => ?_)
      · exfalso; omega
      refine P.iload_n dX9_table_37 rfl rfl ?_
      refine P.iload_n dX9_table_38 rfl rfl ?_
      refine P.callS (As := [.int (nI k), .int (nI m)]) (rest := []) (by have h := s_areLanes (G := G) (f := f) (l := l) (k := k) (m := m) hk6 hm; rw [hlb] at h; exact h) ok_X9_areLanes ⟨Nat.le_of_ble_eq_true rfl, Nat.le_of_ble_eq_true rfl, Nat.le_refl _, Nat.le_refl _⟩ rfl ml_X9_52 rfl (Nat.le_of_ble_eq_true rfl) dX9_table_39 ?_
      refine P.if_ne_b (tgt := 48) dX9_table_42 (by decide) (fun c_42 => ?_) (fun c_42 => ?_)
      · refine P.aload_n dX9_table_48 rfl rfl ?_
        refine g_X9_tables (q := 1) ly_0 (by decide) (by decide) fl_X9_11 dX9_table_49 ?_
        refine P.iload_n dX9_table_52 rfl rfl ?_
        refine a_r8 (q := 78 + 2 * t) ly_1 (by decide) (by omega) (by decide) (rt_tab (r := t) (by omega)) dX9_table_53 ?_
        refine g_X8_columns (ly_tab (r := t) (by omega)) (by omega) fl_X9_56 dX9_table_54 ?_
        refine Pm.topn (b := T.1 t) ((hT.1 t (by omega))) ?_
        refine P.if_eq_n (tgt := 63) dX9_table_57 (by decide) (by have := hTW.1 _ (by assumption); omega) (fun c_57 => ?_) (fun c_57 => ?_)
        · exfalso; omega
        refine P.bipush (v := -3) dX9_table_60 rfl ?_
        exact P.iret rfl dX9_table_62 rfl rfl
      · exfalso; revert c_42; decide
    · exfalso; omega
  · exfalso; omega

set_option maxRecDepth 20000 in
theorem k_table_g {G : GG} {f : Nat → Nat → Nat} {l : Nat → Nat → Int64} {D : DB} {W : LB} {U : QB} {T : TB} {N : Nat} (hC : CI f l D W U T N) (hBW : BW D W U T) {t : Nat} (ht : t < 4) (h0 : T.1 t = 0) {k : Nat} (hk1 : 1 ≤ k) (hk6 : k ≤ 6) {m : Nat} (hm : m < 2147483648) (hlb : lanesB k m = true) : Spec G mX9_table [.ref (ad G 0), .int (nI t), .int (nI k), .int (nI m)] 114 (f, l, refT) (some (.int (nI k))) 114 (mkl (uf f (78 + 2 * t) 1 k) t m k, l, refT) := by
  obtain ⟨hV, hL, hU, hT, hN, hSB⟩ := id hC
  obtain ⟨hD, hLW, hUW, hTW⟩ := id hBW
  have hR := hD.1
  have hW1 := hLW.1
  have hU1 := hUW.1
  have hJ1 := hUW.2.1
  refine Spec.of ok_X9_table.1 ⟨Nat.le_refl _, Nat.le_refl _⟩ (Nat.le_of_ble_eq_true rfl) ?_
  show Pm G RX9 cX9_table 4 (KM G mX9_table 114 114 (some (.int (nI k))) (mkl (uf f (78 + 2 * t) 1 k) t m k, l, refT)) 0 [some (.ref (ad G 0)), some (.int (nI t)), some (.int (nI k)), some (.int (nI m))] [] f l
  refine P.iload_n dX9_table_0 rfl rfl ?_
  refine P.if_lt_z (tgt := 9) dX9_table_1 (by decide) (zN (by omega)) (fun c_1 => ?_) (fun c_1 => ?_)
  · exfalso; omega
  refine P.iload_n dX9_table_4 rfl rfl ?_
  refine P.iconst dX9_table_5 ic_4 ?_
  refine P.icmp_lt_n (tgt := 16) dX9_table_6 (by decide) (by omega) (by omega) (fun c_6 => ?_) (fun c_6 => ?_)
  · refine P.iload_n dX9_table_16 rfl rfl ?_
    refine P.if_ge_z (tgt := 27) dX9_table_17 (by decide) (zN (by omega)) (fun c_17 => ?_) (fun c_17 => ?_)
    · refine P.iload_n dX9_table_27 rfl rfl ?_
      refine P.if_eq_n (tgt := 45) dX9_table_28 (by decide) (by omega) (fun c_28 => ?_) (fun c_28 => ?_)
      · exfalso; omega
      refine P.iload_n dX9_table_31 rfl rfl ?_
      refine P.bipush (v := nI 6) dX9_table_32 rfl ?_
      refine P.icmp_gt_n (tgt := 45) dX9_table_34 (by decide) (by omega) (by omega) (fun c_34 => ?_) (fun c_34 => ?_)
      · exfalso; omega
      refine P.iload_n dX9_table_37 rfl rfl ?_
      refine P.iload_n dX9_table_38 rfl rfl ?_
      refine P.callS (As := [.int (nI k), .int (nI m)]) (rest := []) (by have h := s_areLanes (G := G) (f := f) (l := l) (k := k) (m := m) hk6 hm; rw [hlb] at h; exact h) ok_X9_areLanes ⟨Nat.le_of_ble_eq_true rfl, Nat.le_of_ble_eq_true rfl, Nat.le_refl _, Nat.le_refl _⟩ rfl ml_X9_52 rfl (Nat.le_of_ble_eq_true rfl) dX9_table_39 ?_
      refine P.if_ne_b (tgt := 48) dX9_table_42 (by decide) (fun c_42 => ?_) (fun c_42 => ?_)
      · refine P.aload_n dX9_table_48 rfl rfl ?_
        refine g_X9_tables (q := 1) ly_0 (by decide) (by decide) fl_X9_11 dX9_table_49 ?_
        refine P.iload_n dX9_table_52 rfl rfl ?_
        refine a_r8 (q := 78 + 2 * t) ly_1 (by decide) (by omega) (by decide) (rt_tab (r := t) (by omega)) dX9_table_53 ?_
        refine g_X8_columns (ly_tab (r := t) (by omega)) (by omega) fl_X9_56 dX9_table_54 ?_
        refine Pm.topn (b := T.1 t) ((hT.1 t (by omega))) ?_
        refine P.if_eq_n (tgt := 63) dX9_table_57 (by decide) (by have := hTW.1 _ (by assumption); omega) (fun c_57 => ?_) (fun c_57 => ?_)
        · refine P.aload_n dX9_table_63 rfl rfl ?_
          refine g_X9_tables (q := 1) ly_0 (by decide) (by decide) fl_X9_11 dX9_table_64 ?_
          refine P.iload_n dX9_table_67 rfl rfl ?_
          refine a_r8 (q := 78 + 2 * t) ly_1 (by decide) (by omega) (by decide) (rt_tab (r := t) (by omega)) dX9_table_68 ?_
          refine P.iload_n dX9_table_69 rfl rfl ?_
          refine P.iload_n dX9_table_70 rfl rfl ?_
          refine P.callV (As := [.int (nI k), .int (nI m)]) (rest := []) (s_make ht hk6 hm) ok_X8_make ⟨Nat.le_of_ble_eq_true rfl, Nat.le_of_ble_eq_true rfl, Nat.le_refl _, Nat.le_refl _⟩ rfl ml_X9_60 (ly_tab (r := t) (by omega)) (by decide) (by omega) rfl rfl (Nat.le_of_ble_eq_true rfl) dX9_table_71 ?_
          refine P.iload_n dX9_table_74 rfl rfl ?_
          exact P.iret rfl dX9_table_75 rfl rfl
        · exfalso; omega
      · exfalso; revert c_42; decide
    · exfalso; omega
  · exfalso; omega

set_option maxRecDepth 20000 in
theorem k_row_a {G : GG} {f : Nat → Nat → Nat} {l : Nat → Nat → Int64} {D : DB} {W : LB} {U : QB} {T : TB} {N : Nat} (hC : CI f l D W U T N) (hBW : BW D W U T) {x : Int32} (hx : inR x 4 = false) {y : Int32} : Spec G mX9_row [.ref (ad G 0), .int x, .int y] 114 (f, l, refT) (some (.int (-12))) 114 (uf f 0 5 (N + 1), l, refT) := by
  obtain ⟨hV, hL, hU, hT, hN, hSB⟩ := id hC
  obtain ⟨hD, hLW, hUW, hTW⟩ := id hBW
  have hR := hD.1
  have hW1 := hLW.1
  have hU1 := hUW.1
  have hJ1 := hUW.2.1
  refine Spec.of ok_X9_row.1 ⟨Nat.le_refl _, Nat.le_refl _⟩ (Nat.le_of_ble_eq_true rfl) ?_
  show Pm G RX9 cX9_row 4 (KM G mX9_row 114 114 (some (.int (-12))) (uf f 0 5 (N + 1), l, refT)) 0 [some (.ref (ad G 0)), some (.int x), some (.int y), none] [] f l
  refine P.aload_n dX9_row_0 rfl rfl ?_
  refine P.iload_n dX9_row_1 rfl rfl ?_
  refine P.callV (As := [.int x]) (rest := []) (s_fTab_out hN hx) ok_X9_faultOfTable ⟨Nat.le_of_ble_eq_true rfl, Nat.le_of_ble_eq_true rfl, Nat.le_refl _, Nat.le_refl _⟩ rfl ml_X9_64 ly_0 (by decide) (by decide) rfl rfl (Nat.le_of_ble_eq_true rfl) dX9_row_2 ?_
  refine P.istore_n dX9_row_5 rfl (by decide) ?_
  refine P.iload_n dX9_row_6 rfl rfl ?_
  refine P.if_eq_z (tgt := 12) dX9_row_7 (by decide) rfl (fun c_7 => ?_) (fun c_7 => ?_)
  · exfalso; revert c_7; decide
  refine P.iload_n dX9_row_10 rfl rfl ?_
  exact P.iret rfl dX9_row_11 rfl rfl

set_option maxRecDepth 20000 in
theorem k_row_b {G : GG} {f : Nat → Nat → Nat} {l : Nat → Nat → Int64} {D : DB} {W : LB} {U : QB} {T : TB} {N : Nat} (hC : CI f l D W U T N) (hBW : BW D W U T) {t : Nat} (ht : t < 4) (h0 : T.1 t = 0) {y : Int32} : Spec G mX9_row [.ref (ad G 0), .int (nI t), .int y] 114 (f, l, refT) (some (.int (-11))) 114 (uf f 0 5 (N + 1), l, refT) := by
  obtain ⟨hV, hL, hU, hT, hN, hSB⟩ := id hC
  obtain ⟨hD, hLW, hUW, hTW⟩ := id hBW
  have hR := hD.1
  have hW1 := hLW.1
  have hU1 := hUW.1
  have hJ1 := hUW.2.1
  refine Spec.of ok_X9_row.1 ⟨Nat.le_refl _, Nat.le_refl _⟩ (Nat.le_of_ble_eq_true rfl) ?_
  show Pm G RX9 cX9_row 4 (KM G mX9_row 114 114 (some (.int (-11))) (uf f 0 5 (N + 1), l, refT)) 0 [some (.ref (ad G 0)), some (.int (nI t)), some (.int y), none] [] f l
  refine P.aload_n dX9_row_0 rfl rfl ?_
  refine P.iload_n dX9_row_1 rfl rfl ?_
  refine P.callV (As := [.int (nI t)]) (rest := []) (s_fTab_null hT hTW hN ht h0) ok_X9_faultOfTable ⟨Nat.le_of_ble_eq_true rfl, Nat.le_of_ble_eq_true rfl, Nat.le_refl _, Nat.le_refl _⟩ rfl ml_X9_64 ly_0 (by decide) (by decide) rfl rfl (Nat.le_of_ble_eq_true rfl) dX9_row_2 ?_
  refine P.istore_n dX9_row_5 rfl (by decide) ?_
  refine P.iload_n dX9_row_6 rfl rfl ?_
  refine P.if_eq_z (tgt := 12) dX9_row_7 (by decide) rfl (fun c_7 => ?_) (fun c_7 => ?_)
  · exfalso; revert c_7; decide
  refine P.iload_n dX9_row_10 rfl rfl ?_
  exact P.iret rfl dX9_row_11 rfl rfl

set_option maxRecDepth 20000 in
theorem k_row_c {G : GG} {f : Nat → Nat → Nat} {l : Nat → Nat → Int64} {D : DB} {W : LB} {U : QB} {T : TB} {N : Nat} (hC : CI f l D W U T N) (hBW : BW D W U T) {t : Nat} (ht : t < 4) (h0 : T.1 t ≠ 0) {y : Int32} (hy : trOK y = false) : Spec G mX9_row [.ref (ad G 0), .int (nI t), .int y] 114 (f, l, refT) (some (.int (-2))) 114 (f, l, refT) := by
  obtain ⟨hV, hL, hU, hT, hN, hSB⟩ := id hC
  obtain ⟨hD, hLW, hUW, hTW⟩ := id hBW
  have hR := hD.1
  have hW1 := hLW.1
  have hU1 := hUW.1
  have hJ1 := hUW.2.1
  refine Spec.of ok_X9_row.1 ⟨Nat.le_refl _, Nat.le_refl _⟩ (Nat.le_of_ble_eq_true rfl) ?_
  show Pm G RX9 cX9_row 4 (KM G mX9_row 114 114 (some (.int (-2))) (f, l, refT)) 0 [some (.ref (ad G 0)), some (.int (nI t)), some (.int y), none] [] f l
  refine P.aload_n dX9_row_0 rfl rfl ?_
  refine P.iload_n dX9_row_1 rfl rfl ?_
  refine P.callV (As := [.int (nI t)]) (rest := []) (s_fTab_ok hT hTW ht h0) ok_X9_faultOfTable ⟨Nat.le_of_ble_eq_true rfl, Nat.le_of_ble_eq_true rfl, Nat.le_refl _, Nat.le_refl _⟩ rfl ml_X9_64 ly_0 (by decide) (by decide) rfl rfl (Nat.le_of_ble_eq_true rfl) dX9_row_2 ?_
  refine P.istore_n dX9_row_5 rfl (by decide) ?_
  refine P.iload_n dX9_row_6 rfl rfl ?_
  refine P.if_eq_n (tgt := 12) dX9_row_7 (by decide) (by omega) (fun c_7 => ?_) (fun c_7 => ?_)
  · refine P.iload_n dX9_row_12 rfl rfl ?_
    refine P.callS (As := [.int y]) (rest := []) (s_isTrust_f hy) ok_X9_isTrust ⟨Nat.le_of_ble_eq_true rfl, Nat.le_of_ble_eq_true rfl, Nat.le_refl _, Nat.le_refl _⟩ rfl ml_X9_67 rfl (Nat.le_of_ble_eq_true rfl) dX9_row_13 ?_
    refine P.if_ne_b (tgt := 22) dX9_row_16 (by decide) (fun c_16 => ?_) (fun c_16 => ?_)
    · exfalso; revert c_16; decide
    refine P.bipush (v := -2) dX9_row_19 rfl ?_
    exact P.iret rfl dX9_row_21 rfl rfl
  · exfalso; omega

set_option maxRecDepth 20000 in
theorem k_row_d {G : GG} {f : Nat → Nat → Nat} {l : Nat → Nat → Int64} {D : DB} {W : LB} {U : QB} {T : TB} {N : Nat} (hC : CI f l D W U T N) (hBW : BW D W U T) {t : Nat} (ht : t < 4) (h0 : T.1 t ≠ 0) {a : Nat} (ha1 : 1 ≤ a) (ha2 : a ≤ 100) (h12 : D.1 = 12) : Spec G mX9_row [.ref (ad G 0), .int (nI t), .int (nI a)] 114 (f, l, refT) (some (.int (-4))) 114 (f, l, refT) := by
  obtain ⟨hV, hL, hU, hT, hN, hSB⟩ := id hC
  obtain ⟨hD, hLW, hUW, hTW⟩ := id hBW
  have hR := hD.1
  have hW1 := hLW.1
  have hU1 := hUW.1
  have hJ1 := hUW.2.1
  refine Spec.of ok_X9_row.1 ⟨Nat.le_refl _, Nat.le_refl _⟩ (Nat.le_of_ble_eq_true rfl) ?_
  show Pm G RX9 cX9_row 4 (KM G mX9_row 114 114 (some (.int (-4))) (f, l, refT)) 0 [some (.ref (ad G 0)), some (.int (nI t)), some (.int (nI a)), none] [] f l
  refine P.aload_n dX9_row_0 rfl rfl ?_
  refine P.iload_n dX9_row_1 rfl rfl ?_
  refine P.callV (As := [.int (nI t)]) (rest := []) (s_fTab_ok hT hTW ht h0) ok_X9_faultOfTable ⟨Nat.le_of_ble_eq_true rfl, Nat.le_of_ble_eq_true rfl, Nat.le_refl _, Nat.le_refl _⟩ rfl ml_X9_64 ly_0 (by decide) (by decide) rfl rfl (Nat.le_of_ble_eq_true rfl) dX9_row_2 ?_
  refine P.istore_n dX9_row_5 rfl (by decide) ?_
  refine P.iload_n dX9_row_6 rfl rfl ?_
  refine P.if_eq_n (tgt := 12) dX9_row_7 (by decide) (by omega) (fun c_7 => ?_) (fun c_7 => ?_)
  · refine P.iload_n dX9_row_12 rfl rfl ?_
    refine P.callS (As := [.int (nI a)]) (rest := []) (s_isTrust_t ha1 ha2) ok_X9_isTrust ⟨Nat.le_of_ble_eq_true rfl, Nat.le_of_ble_eq_true rfl, Nat.le_refl _, Nat.le_refl _⟩ rfl ml_X9_67 rfl (Nat.le_of_ble_eq_true rfl) dX9_row_13 ?_
    refine P.if_ne_b (tgt := 22) dX9_row_16 (by decide) (fun c_16 => ?_) (fun c_16 => ?_)
    · refine P.aload_n dX9_row_22 rfl rfl ?_
      refine g_X9_rows (q := 2) ly_0 (by decide) (by decide) fl_X9_18 dX9_row_23 ?_
      refine g_X7_many ly_2 (by decide) fl_X9_71 dX9_row_26 ?_
      refine Pm.topn (b := D.1) (hV.1) ?_
      refine P.bipush (v := nI 12) dX9_row_29 rfl ?_
      refine P.icmp_lt_n (tgt := 37) dX9_row_31 (by decide) (by omega) (by omega) (fun c_31 => ?_) (fun c_31 => ?_)
      · exfalso; omega
      refine P.bipush (v := -4) dX9_row_34 rfl ?_
      exact P.iret rfl dX9_row_36 rfl rfl
    · exfalso; revert c_16; decide
  · exfalso; omega

set_option maxRecDepth 20000 in
theorem k_row_e {G : GG} {f : Nat → Nat → Nat} {l : Nat → Nat → Int64} {D : DB} {W : LB} {U : QB} {T : TB} {N : Nat} (hC : CI f l D W U T N) (hBW : BW D W U T) {t : Nat} (ht : t < 4) (h0 : T.1 t ≠ 0) {a : Nat} (ha1 : 1 ≤ a) (ha2 : a ≤ 100) (h12 : D.1 < 12) : Spec G mX9_row [.ref (ad G 0), .int (nI t), .int (nI a)] 114 (f, l, refT) (some (.int (nI D.1))) 114 (uf (uf (uf (uf f (4 + 3 * D.1) 2 t) (4 + 3 * D.1) 3 a) (4 + 3 * D.1) 4 1) 2 1 (D.1 + 1), l, refT) := by
  obtain ⟨hV, hL, hU, hT, hN, hSB⟩ := id hC
  obtain ⟨hD, hLW, hUW, hTW⟩ := id hBW
  have hR := hD.1
  have hW1 := hLW.1
  have hU1 := hUW.1
  have hJ1 := hUW.2.1
  refine Spec.of ok_X9_row.1 ⟨Nat.le_refl _, Nat.le_refl _⟩ (Nat.le_of_ble_eq_true rfl) ?_
  show Pm G RX9 cX9_row 4 (KM G mX9_row 114 114 (some (.int (nI D.1))) (uf (uf (uf (uf f (4 + 3 * D.1) 2 t) (4 + 3 * D.1) 3 a) (4 + 3 * D.1) 4 1) 2 1 (D.1 + 1), l, refT)) 0 [some (.ref (ad G 0)), some (.int (nI t)), some (.int (nI a)), none] [] f l
  refine P.aload_n dX9_row_0 rfl rfl ?_
  refine P.iload_n dX9_row_1 rfl rfl ?_
  refine P.callV (As := [.int (nI t)]) (rest := []) (s_fTab_ok hT hTW ht h0) ok_X9_faultOfTable ⟨Nat.le_of_ble_eq_true rfl, Nat.le_of_ble_eq_true rfl, Nat.le_refl _, Nat.le_refl _⟩ rfl ml_X9_64 ly_0 (by decide) (by decide) rfl rfl (Nat.le_of_ble_eq_true rfl) dX9_row_2 ?_
  refine P.istore_n dX9_row_5 rfl (by decide) ?_
  refine P.iload_n dX9_row_6 rfl rfl ?_
  refine P.if_eq_n (tgt := 12) dX9_row_7 (by decide) (by omega) (fun c_7 => ?_) (fun c_7 => ?_)
  · refine P.iload_n dX9_row_12 rfl rfl ?_
    refine P.callS (As := [.int (nI a)]) (rest := []) (s_isTrust_t ha1 ha2) ok_X9_isTrust ⟨Nat.le_of_ble_eq_true rfl, Nat.le_of_ble_eq_true rfl, Nat.le_refl _, Nat.le_refl _⟩ rfl ml_X9_67 rfl (Nat.le_of_ble_eq_true rfl) dX9_row_13 ?_
    refine P.if_ne_b (tgt := 22) dX9_row_16 (by decide) (fun c_16 => ?_) (fun c_16 => ?_)
    · refine P.aload_n dX9_row_22 rfl rfl ?_
      refine g_X9_rows (q := 2) ly_0 (by decide) (by decide) fl_X9_18 dX9_row_23 ?_
      refine g_X7_many ly_2 (by decide) fl_X9_71 dX9_row_26 ?_
      refine Pm.topn (b := D.1) (hV.1) ?_
      refine P.bipush (v := nI 12) dX9_row_29 rfl ?_
      refine P.icmp_lt_n (tgt := 37) dX9_row_31 (by decide) (by omega) (by omega) (fun c_31 => ?_) (fun c_31 => ?_)
      · refine P.aload_n dX9_row_37 rfl rfl ?_
        refine g_X9_rows (q := 2) ly_0 (by decide) (by decide) fl_X9_18 dX9_row_38 ?_
        refine P.iload_n dX9_row_41 rfl rfl ?_
        refine P.iload_n dX9_row_42 rfl rfl ?_
        refine P.callV (As := [.int (nI t), .int (nI a)]) (rest := []) (s_rowAdd hV hD h12 ht (by omega)) ok_X7_add ⟨Nat.le_of_ble_eq_true rfl, Nat.le_of_ble_eq_true rfl, Nat.le_refl _, Nat.le_refl _⟩ rfl ml_X9_74 ly_2 (by decide) (by decide) rfl rfl (Nat.le_of_ble_eq_true rfl) dX9_row_43 ?_
        exact P.iret rfl dX9_row_46 rfl rfl
      · exfalso; omega
    · exfalso; revert c_16; decide
  · exfalso; omega

set_option maxRecDepth 20000 in
theorem k_put_a {G : GG} {f : Nat → Nat → Nat} {l : Nat → Nat → Int64} {D : DB} {W : LB} {U : QB} {T : TB} {N : Nat} (hC : CI f l D W U T N) (hBW : BW D W U T) {x : Int32} (hx : inR x D.1 = false) {y : Int32} {v : Int64} : Spec G mX9_put [.ref (ad G 0), .int x, .int y, .long v] 114 (f, l, refT) (some (.int (-1))) 114 (f, l, refT) := by
  obtain ⟨hV, hL, hU, hT, hN, hSB⟩ := id hC
  obtain ⟨hD, hLW, hUW, hTW⟩ := id hBW
  have hR := hD.1
  have hW1 := hLW.1
  have hU1 := hUW.1
  have hJ1 := hUW.2.1
  refine Spec.of ok_X9_put.1 ⟨Nat.le_refl _, Nat.le_refl _⟩ (Nat.le_of_ble_eq_true rfl) ?_
  show Pm G RX9 cX9_put 7 (KM G mX9_put 114 114 (some (.int (-1))) (f, l, refT)) 0 [some (.ref (ad G 0)), some (.int x), some (.int y), some (.long v), none, none, none] [] f l
  refine P.aload_n dX9_put_0 rfl rfl ?_
  refine P.iload_n dX9_put_1 rfl rfl ?_
  refine P.iload_n dX9_put_2 rfl rfl ?_
  refine P.callV (As := [.int x, .int y]) (rest := []) (s_fCell_row hV hD hx) ok_X9_faultOfCell ⟨Nat.le_of_ble_eq_true rfl, Nat.le_of_ble_eq_true rfl, Nat.le_refl _, Nat.le_refl _⟩ rfl ml_X9_78 ly_0 (by decide) (by decide) rfl rfl (Nat.le_of_ble_eq_true rfl) dX9_put_3 ?_
  refine P.istore dX9_put_6 (by decide) ?_
  refine P.iload dX9_put_8 rfl ?_
  refine P.if_eq_z (tgt := 16) dX9_put_10 (by decide) rfl (fun c_10 => ?_) (fun c_10 => ?_)
  · exfalso; revert c_10; decide
  refine P.iload dX9_put_13 rfl ?_
  exact P.iret rfl dX9_put_15 rfl rfl

set_option maxRecDepth 20000 in
theorem k_put_b {G : GG} {f : Nat → Nat → Nat} {l : Nat → Nat → Int64} {D : DB} {W : LB} {U : QB} {T : TB} {N : Nat} (hC : CI f l D W U T N) (hBW : BW D W U T) {r : Nat} (hr : r < D.1) {y : Int32} (hy : inR y (T.1 (D.2.1 r 2)) = false) {v : Int64} : Spec G mX9_put [.ref (ad G 0), .int (nI r), .int y, .long v] 114 (f, l, refT) (some (.int (-12))) 114 (uf f 0 5 (N + 1), l, refT) := by
  obtain ⟨hV, hL, hU, hT, hN, hSB⟩ := id hC
  obtain ⟨hD, hLW, hUW, hTW⟩ := id hBW
  have hR := hD.1
  have hW1 := hLW.1
  have hU1 := hUW.1
  have hJ1 := hUW.2.1
  refine Spec.of ok_X9_put.1 ⟨Nat.le_refl _, Nat.le_refl _⟩ (Nat.le_of_ble_eq_true rfl) ?_
  show Pm G RX9 cX9_put 7 (KM G mX9_put 114 114 (some (.int (-12))) (uf f 0 5 (N + 1), l, refT)) 0 [some (.ref (ad G 0)), some (.int (nI r)), some (.int y), some (.long v), none, none, none] [] f l
  refine P.aload_n dX9_put_0 rfl rfl ?_
  refine P.iload_n dX9_put_1 rfl rfl ?_
  refine P.iload_n dX9_put_2 rfl rfl ?_
  refine P.callV (As := [.int (nI r), .int y]) (rest := []) (s_fCell_col hV hD hT hTW hN hr hy) ok_X9_faultOfCell ⟨Nat.le_of_ble_eq_true rfl, Nat.le_of_ble_eq_true rfl, Nat.le_refl _, Nat.le_refl _⟩ rfl ml_X9_78 ly_0 (by decide) (by decide) rfl rfl (Nat.le_of_ble_eq_true rfl) dX9_put_3 ?_
  refine P.istore dX9_put_6 (by decide) ?_
  refine P.iload dX9_put_8 rfl ?_
  refine P.if_eq_z (tgt := 16) dX9_put_10 (by decide) rfl (fun c_10 => ?_) (fun c_10 => ?_)
  · exfalso; revert c_10; decide
  refine P.iload dX9_put_13 rfl ?_
  exact P.iret rfl dX9_put_15 rfl rfl

set_option maxRecDepth 20000 in
theorem k_put_c {G : GG} {f : Nat → Nat → Nat} {l : Nat → Nat → Int64} {D : DB} {W : LB} {U : QB} {T : TB} {N : Nat} (hC : CI f l D W U T N) (hBW : BW D W U T) {r : Nat} (hr : r < D.1) {c : Nat} (hc : c < T.1 (D.2.1 r 2)) {v : Int64} : Spec G mX9_put [.ref (ad G 0), .int (nI r), .int (nI c), .long v] 114 (f, l, refT) (some (.int (nI 1))) 114 (uf f (6 + 3 * r) c 1, uf l (5 + 3 * r) c (asLane (T.2 (D.2.1 r 2) c) v), refT) := by
  obtain ⟨hV, hL, hU, hT, hN, hSB⟩ := id hC
  obtain ⟨hD, hLW, hUW, hTW⟩ := id hBW
  have hR := hD.1
  have hW1 := hLW.1
  have hU1 := hUW.1
  have hJ1 := hUW.2.1
  have htb : D.2.1 r 2 < 4 := (hD.2.2.2 r hr).1
  have htc := hTW.1 _ htb
  have hb2 := (hD.2.2.2 r hr).2.2.2.2 c
  refine Spec.of ok_X9_put.1 ⟨Nat.le_refl _, Nat.le_refl _⟩ (Nat.le_of_ble_eq_true rfl) ?_
  show Pm G RX9 cX9_put 7 (KM G mX9_put 114 114 (some (.int (nI 1))) (uf f (6 + 3 * r) c 1, uf l (5 + 3 * r) c (asLane (T.2 (D.2.1 r 2) c) v), refT)) 0 [some (.ref (ad G 0)), some (.int (nI r)), some (.int (nI c)), some (.long v), none, none, none] [] f l
  refine P.aload_n dX9_put_0 rfl rfl ?_
  refine P.iload_n dX9_put_1 rfl rfl ?_
  refine P.iload_n dX9_put_2 rfl rfl ?_
  refine P.callV (As := [.int (nI r), .int (nI c)]) (rest := []) (s_fCell_ok hV hD hT hTW hr hc) ok_X9_faultOfCell ⟨Nat.le_of_ble_eq_true rfl, Nat.le_of_ble_eq_true rfl, Nat.le_refl _, Nat.le_refl _⟩ rfl ml_X9_78 ly_0 (by decide) (by decide) rfl rfl (Nat.le_of_ble_eq_true rfl) dX9_put_3 ?_
  refine P.istore dX9_put_6 (by decide) ?_
  refine P.iload dX9_put_8 rfl ?_
  refine P.if_eq_n (tgt := 16) dX9_put_10 (by decide) (by omega) (fun c_10 => ?_) (fun c_10 => ?_)
  · refine P.aload_n dX9_put_16 rfl rfl ?_
    refine g_X9_rows (q := 2) ly_0 (by decide) (by decide) fl_X9_18 dX9_put_17 ?_
    refine g_X7_list (q := 3) ly_2 (by decide) (by decide) fl_X9_81 dX9_put_20 ?_
    refine P.iload_n dX9_put_23 rfl rfl ?_
    refine a_r6 (q := 4 + 3 * r) ly_3 (by decide) (by omega) (by decide) (rt_row (r := r) (by omega)) dX9_put_24 ?_
    refine P.astore dX9_put_25 (by decide) ?_
    refine P.aload dX9_put_27 rfl ?_
    refine g_X6_numbers (q := 5 + 3 * r) (ly_row (r := r) (by omega)) (by omega) (rt_num (r := r) (by omega)) fl_X9_85 dX9_put_29 ?_
    refine P.iload_n dX9_put_32 rfl rfl ?_
    refine P.aload_n dX9_put_33 rfl rfl ?_
    refine g_X9_tables (q := 1) ly_0 (by decide) (by decide) fl_X9_11 dX9_put_34 ?_
    refine P.aload dX9_put_37 rfl ?_
    refine g_X6_table (ly_row (r := r) (by omega)) (by omega) fl_X9_91 dX9_put_39 ?_
    refine Pm.topn (b := D.2.1 r 2) ((hV.2.1 r (by omega) 2)) ?_
    refine a_r8 (q := 78 + 2 * (D.2.1 r 2)) ly_1 (by decide) (by omega) (by decide) (rt_tab (r := (D.2.1 r 2)) (by omega)) dX9_put_42 ?_
    refine g_X8_lanes (q := 79 + 2 * (D.2.1 r 2)) (ly_tab (r := (D.2.1 r 2)) (by omega)) (by omega) (rt_lan (r := (D.2.1 r 2)) (by omega)) fl_X9_94 dX9_put_43 ?_
    refine P.iload_n dX9_put_46 rfl rfl ?_
    refine a_ia (ly_lan (r := (D.2.1 r 2)) (by omega)) (by omega) (by omega) (by decide) dX9_put_47 ?_
    refine Pm.topn (b := T.2 (D.2.1 r 2) c) ((hT.2 (D.2.1 r 2) (by omega) c)) ?_
    refine P.lload_n dX9_put_48 rfl rfl ?_
    refine P.callS (As := [.int (nI (T.2 (D.2.1 r 2) c)), .long v]) (rest := [.int (nI c), .ref (ad G (5 + 3 * r))]) (s_asLane (hTW.2 _ htb c)) ok_X9_asLane ⟨Nat.le_of_ble_eq_true rfl, Nat.le_of_ble_eq_true rfl, Nat.le_refl _, Nat.le_refl _⟩ rfl ml_X9_98 rfl (Nat.le_of_ble_eq_true rfl) dX9_put_49 ?_
    refine s_la (ly_num (r := r) (by omega)) (by omega) (by omega) (by decide) dX9_put_52 ?_
    refine P.aload dX9_put_53 rfl ?_
    refine g_X6_there (q := 6 + 3 * r) (ly_row (r := r) (by omega)) (by omega) (rt_the (r := r) (by omega)) fl_X9_102 dX9_put_55 ?_
    refine P.iload_n dX9_put_58 rfl rfl ?_
    refine P.iconst dX9_put_59 ic_1 ?_
    refine s_za (a := 1) (ly_the (r := r) (by omega)) (by omega) (by omega) (by decide) dX9_put_60 rfl (by omega) ?_
    refine P.iconst dX9_put_61 ic_1 ?_
    exact P.iret rfl dX9_put_62 rfl rfl
  · exfalso; omega

set_option maxRecDepth 20000 in
theorem k_miss_a {G : GG} {f : Nat → Nat → Nat} {l : Nat → Nat → Int64} {D : DB} {W : LB} {U : QB} {T : TB} {N : Nat} (hC : CI f l D W U T N) (hBW : BW D W U T) {x : Int32} (hx : inR x D.1 = false) {y : Int32}  : Spec G mX9_miss [.ref (ad G 0), .int x, .int y] 114 (f, l, refT) (some (.int (-1))) 114 (f, l, refT) := by
  obtain ⟨hV, hL, hU, hT, hN, hSB⟩ := id hC
  obtain ⟨hD, hLW, hUW, hTW⟩ := id hBW
  have hR := hD.1
  have hW1 := hLW.1
  have hU1 := hUW.1
  have hJ1 := hUW.2.1
  refine Spec.of ok_X9_miss.1 ⟨Nat.le_refl _, Nat.le_refl _⟩ (Nat.le_of_ble_eq_true rfl) ?_
  show Pm G RX9 cX9_miss 6 (KM G mX9_miss 114 114 (some (.int (-1))) (f, l, refT)) 0 [some (.ref (ad G 0)), some (.int x), some (.int y), none, none, none] [] f l
  refine P.aload_n dX9_miss_0 rfl rfl ?_
  refine P.iload_n dX9_miss_1 rfl rfl ?_
  refine P.iload_n dX9_miss_2 rfl rfl ?_
  refine P.callV (As := [.int x, .int y]) (rest := []) (s_fCell_row hV hD hx) ok_X9_faultOfCell ⟨Nat.le_of_ble_eq_true rfl, Nat.le_of_ble_eq_true rfl, Nat.le_refl _, Nat.le_refl _⟩ rfl ml_X9_78 ly_0 (by decide) (by decide) rfl rfl (Nat.le_of_ble_eq_true rfl) dX9_miss_3 ?_
  refine P.istore_n dX9_miss_6 rfl (by decide) ?_
  refine P.iload_n dX9_miss_7 rfl rfl ?_
  refine P.if_eq_z (tgt := 13) dX9_miss_8 (by decide) rfl (fun c_8 => ?_) (fun c_8 => ?_)
  · exfalso; revert c_8; decide
  refine P.iload_n dX9_miss_11 rfl rfl ?_
  exact P.iret rfl dX9_miss_12 rfl rfl

set_option maxRecDepth 20000 in
theorem k_miss_b {G : GG} {f : Nat → Nat → Nat} {l : Nat → Nat → Int64} {D : DB} {W : LB} {U : QB} {T : TB} {N : Nat} (hC : CI f l D W U T N) (hBW : BW D W U T) {r : Nat} (hr : r < D.1) {y : Int32} (hy : inR y (T.1 (D.2.1 r 2)) = false)  : Spec G mX9_miss [.ref (ad G 0), .int (nI r), .int y] 114 (f, l, refT) (some (.int (-12))) 114 (uf f 0 5 (N + 1), l, refT) := by
  obtain ⟨hV, hL, hU, hT, hN, hSB⟩ := id hC
  obtain ⟨hD, hLW, hUW, hTW⟩ := id hBW
  have hR := hD.1
  have hW1 := hLW.1
  have hU1 := hUW.1
  have hJ1 := hUW.2.1
  refine Spec.of ok_X9_miss.1 ⟨Nat.le_refl _, Nat.le_refl _⟩ (Nat.le_of_ble_eq_true rfl) ?_
  show Pm G RX9 cX9_miss 6 (KM G mX9_miss 114 114 (some (.int (-12))) (uf f 0 5 (N + 1), l, refT)) 0 [some (.ref (ad G 0)), some (.int (nI r)), some (.int y), none, none, none] [] f l
  refine P.aload_n dX9_miss_0 rfl rfl ?_
  refine P.iload_n dX9_miss_1 rfl rfl ?_
  refine P.iload_n dX9_miss_2 rfl rfl ?_
  refine P.callV (As := [.int (nI r), .int y]) (rest := []) (s_fCell_col hV hD hT hTW hN hr hy) ok_X9_faultOfCell ⟨Nat.le_of_ble_eq_true rfl, Nat.le_of_ble_eq_true rfl, Nat.le_refl _, Nat.le_refl _⟩ rfl ml_X9_78 ly_0 (by decide) (by decide) rfl rfl (Nat.le_of_ble_eq_true rfl) dX9_miss_3 ?_
  refine P.istore_n dX9_miss_6 rfl (by decide) ?_
  refine P.iload_n dX9_miss_7 rfl rfl ?_
  refine P.if_eq_z (tgt := 13) dX9_miss_8 (by decide) rfl (fun c_8 => ?_) (fun c_8 => ?_)
  · exfalso; revert c_8; decide
  refine P.iload_n dX9_miss_11 rfl rfl ?_
  exact P.iret rfl dX9_miss_12 rfl rfl

set_option maxRecDepth 20000 in
theorem k_miss_c {G : GG} {f : Nat → Nat → Nat} {l : Nat → Nat → Int64} {D : DB} {W : LB} {U : QB} {T : TB} {N : Nat} (hC : CI f l D W U T N) (hBW : BW D W U T) {r : Nat} (hr : r < D.1) {c : Nat} (hc : c < T.1 (D.2.1 r 2))  : Spec G mX9_miss [.ref (ad G 0), .int (nI r), .int (nI c)] 114 (f, l, refT) (some (.int (nI (bN (D.2.2.1 r c == 0))))) 114 (uf f (6 + 3 * r) c 0, uf l (5 + 3 * r) c 0, refT) := by
  obtain ⟨hV, hL, hU, hT, hN, hSB⟩ := id hC
  obtain ⟨hD, hLW, hUW, hTW⟩ := id hBW
  have hR := hD.1
  have hW1 := hLW.1
  have hU1 := hUW.1
  have hJ1 := hUW.2.1
  have htb : D.2.1 r 2 < 4 := (hD.2.2.2 r hr).1
  have htc := hTW.1 _ htb
  have hb2 := (hD.2.2.2 r hr).2.2.2.2 c
  refine Spec.of ok_X9_miss.1 ⟨Nat.le_refl _, Nat.le_refl _⟩ (Nat.le_of_ble_eq_true rfl) ?_
  show Pm G RX9 cX9_miss 6 (KM G mX9_miss 114 114 (some (.int (nI (bN (D.2.2.1 r c == 0))))) (uf f (6 + 3 * r) c 0, uf l (5 + 3 * r) c 0, refT)) 0 [some (.ref (ad G 0)), some (.int (nI r)), some (.int (nI c)), none, none, none] [] f l
  refine P.aload_n dX9_miss_0 rfl rfl ?_
  refine P.iload_n dX9_miss_1 rfl rfl ?_
  refine P.iload_n dX9_miss_2 rfl rfl ?_
  refine P.callV (As := [.int (nI r), .int (nI c)]) (rest := []) (s_fCell_ok hV hD hT hTW hr hc) ok_X9_faultOfCell ⟨Nat.le_of_ble_eq_true rfl, Nat.le_of_ble_eq_true rfl, Nat.le_refl _, Nat.le_refl _⟩ rfl ml_X9_78 ly_0 (by decide) (by decide) rfl rfl (Nat.le_of_ble_eq_true rfl) dX9_miss_3 ?_
  refine P.istore_n dX9_miss_6 rfl (by decide) ?_
  refine P.iload_n dX9_miss_7 rfl rfl ?_
  refine P.if_eq_n (tgt := 13) dX9_miss_8 (by decide) (by omega) (fun c_8 => ?_) (fun c_8 => ?_)
  · refine P.aload_n dX9_miss_13 rfl rfl ?_
    refine g_X9_rows (q := 2) ly_0 (by decide) (by decide) fl_X9_18 dX9_miss_14 ?_
    refine g_X7_list (q := 3) ly_2 (by decide) (by decide) fl_X9_81 dX9_miss_17 ?_
    refine P.iload_n dX9_miss_20 rfl rfl ?_
    refine a_r6 (q := 4 + 3 * r) ly_3 (by decide) (by omega) (by decide) (rt_row (r := r) (by omega)) dX9_miss_21 ?_
    refine P.astore dX9_miss_22 (by decide) ?_
    refine P.aload dX9_miss_24 rfl ?_
    refine g_X6_there (q := 6 + 3 * r) (ly_row (r := r) (by omega)) (by omega) (rt_the (r := r) (by omega)) fl_X9_102 dX9_miss_26 ?_
    refine P.iload_n dX9_miss_29 rfl rfl ?_
    refine a_za (ly_the (r := r) (by omega)) (by omega) (by omega) (by decide) dX9_miss_30 ?_
    refine Pm.topn (b := D.2.2.1 r c) ((hV.2.2.1 r (by omega) c)) ?_
    refine P.if_ne_n (tgt := 38) dX9_miss_31 (by decide) (hD.2.2.1 _ _) (fun c_31 => ?_) (fun c_31 => ?_)
    · refine P.iconst dX9_miss_38 ic_0 ?_
      refine P.callS (As := [.int (nI 0)]) (rest := []) (s_oneIf (by decide)) ok_X9_oneIf ⟨Nat.le_of_ble_eq_true rfl, Nat.le_of_ble_eq_true rfl, Nat.le_refl _, Nat.le_refl _⟩ rfl ml_X9_106 rfl (Nat.le_of_ble_eq_true rfl) dX9_miss_39 ?_
      refine P.istore dX9_miss_42 (by decide) ?_
      refine P.aload dX9_miss_44 rfl ?_
      refine g_X6_numbers (q := 5 + 3 * r) (ly_row (r := r) (by omega)) (by omega) (rt_num (r := r) (by omega)) fl_X9_85 dX9_miss_46 ?_
      refine P.iload_n dX9_miss_49 rfl rfl ?_
      refine P.lconst (v := 0) dX9_miss_50 rfl ?_
      refine s_la (ly_num (r := r) (by omega)) (by omega) (by omega) (by decide) dX9_miss_51 ?_
      refine P.aload dX9_miss_52 rfl ?_
      refine g_X6_there (q := 6 + 3 * r) (ly_row (r := r) (by omega)) (by omega) (rt_the (r := r) (by omega)) fl_X9_102 dX9_miss_54 ?_
      refine P.iload_n dX9_miss_57 rfl rfl ?_
      refine P.iconst dX9_miss_58 ic_0 ?_
      refine s_za (a := 0) (ly_the (r := r) (by omega)) (by omega) (by omega) (by decide) dX9_miss_59 rfl (by omega) ?_
      refine P.iload dX9_miss_60 rfl ?_
      exact P.iret rfl dX9_miss_62 (by simp [bN, c_31]) rfl
    refine P.iconst dX9_miss_34 ic_1 ?_
    refine P.goto (tgt := 39) dX9_miss_35 (by decide) ?_
    refine P.callS (As := [.int (nI 1)]) (rest := []) (s_oneIf (by decide)) ok_X9_oneIf ⟨Nat.le_of_ble_eq_true rfl, Nat.le_of_ble_eq_true rfl, Nat.le_refl _, Nat.le_refl _⟩ rfl ml_X9_106 rfl (Nat.le_of_ble_eq_true rfl) dX9_miss_39 ?_
    refine P.istore dX9_miss_42 (by decide) ?_
    refine P.aload dX9_miss_44 rfl ?_
    refine g_X6_numbers (q := 5 + 3 * r) (ly_row (r := r) (by omega)) (by omega) (rt_num (r := r) (by omega)) fl_X9_85 dX9_miss_46 ?_
    refine P.iload_n dX9_miss_49 rfl rfl ?_
    refine P.lconst (v := 0) dX9_miss_50 rfl ?_
    refine s_la (ly_num (r := r) (by omega)) (by omega) (by omega) (by decide) dX9_miss_51 ?_
    refine P.aload dX9_miss_52 rfl ?_
    refine g_X6_there (q := 6 + 3 * r) (ly_row (r := r) (by omega)) (by omega) (rt_the (r := r) (by omega)) fl_X9_102 dX9_miss_54 ?_
    refine P.iload_n dX9_miss_57 rfl rfl ?_
    refine P.iconst dX9_miss_58 ic_0 ?_
    refine s_za (a := 0) (ly_the (r := r) (by omega)) (by omega) (by omega) (by decide) dX9_miss_59 rfl (by omega) ?_
    refine P.iload dX9_miss_60 rfl ?_
    exact P.iret rfl dX9_miss_62 (by simp [bN, c_31]) rfl
  · exfalso; omega

set_option maxRecDepth 20000 in
theorem k_has_a {G : GG} {f : Nat → Nat → Nat} {l : Nat → Nat → Int64} {D : DB} {W : LB} {U : QB} {T : TB} {N : Nat} (hC : CI f l D W U T N) (hBW : BW D W U T) {x : Int32} (hx : inR x D.1 = false) {y : Int32}  : Spec G mX9_has [.ref (ad G 0), .int x, .int y] 114 (f, l, refT) (some (.int (-1))) 114 (f, l, refT) := by
  obtain ⟨hV, hL, hU, hT, hN, hSB⟩ := id hC
  obtain ⟨hD, hLW, hUW, hTW⟩ := id hBW
  have hR := hD.1
  have hW1 := hLW.1
  have hU1 := hUW.1
  have hJ1 := hUW.2.1
  refine Spec.of ok_X9_has.1 ⟨Nat.le_refl _, Nat.le_refl _⟩ (Nat.le_of_ble_eq_true rfl) ?_
  show Pm G RX9 cX9_has 4 (KM G mX9_has 114 114 (some (.int (-1))) (f, l, refT)) 0 [some (.ref (ad G 0)), some (.int x), some (.int y), none] [] f l
  refine P.aload_n dX9_has_0 rfl rfl ?_
  refine P.iload_n dX9_has_1 rfl rfl ?_
  refine P.iload_n dX9_has_2 rfl rfl ?_
  refine P.callV (As := [.int x, .int y]) (rest := []) (s_fCell_row hV hD hx) ok_X9_faultOfCell ⟨Nat.le_of_ble_eq_true rfl, Nat.le_of_ble_eq_true rfl, Nat.le_refl _, Nat.le_refl _⟩ rfl ml_X9_78 ly_0 (by decide) (by decide) rfl rfl (Nat.le_of_ble_eq_true rfl) dX9_has_3 ?_
  refine P.istore_n dX9_has_6 rfl (by decide) ?_
  refine P.iload_n dX9_has_7 rfl rfl ?_
  refine P.if_eq_z (tgt := 13) dX9_has_8 (by decide) rfl (fun c_8 => ?_) (fun c_8 => ?_)
  · exfalso; revert c_8; decide
  refine P.iload_n dX9_has_11 rfl rfl ?_
  exact P.iret rfl dX9_has_12 rfl rfl

set_option maxRecDepth 20000 in
theorem k_has_b {G : GG} {f : Nat → Nat → Nat} {l : Nat → Nat → Int64} {D : DB} {W : LB} {U : QB} {T : TB} {N : Nat} (hC : CI f l D W U T N) (hBW : BW D W U T) {r : Nat} (hr : r < D.1) {y : Int32} (hy : inR y (T.1 (D.2.1 r 2)) = false)  : Spec G mX9_has [.ref (ad G 0), .int (nI r), .int y] 114 (f, l, refT) (some (.int (-12))) 114 (uf f 0 5 (N + 1), l, refT) := by
  obtain ⟨hV, hL, hU, hT, hN, hSB⟩ := id hC
  obtain ⟨hD, hLW, hUW, hTW⟩ := id hBW
  have hR := hD.1
  have hW1 := hLW.1
  have hU1 := hUW.1
  have hJ1 := hUW.2.1
  refine Spec.of ok_X9_has.1 ⟨Nat.le_refl _, Nat.le_refl _⟩ (Nat.le_of_ble_eq_true rfl) ?_
  show Pm G RX9 cX9_has 4 (KM G mX9_has 114 114 (some (.int (-12))) (uf f 0 5 (N + 1), l, refT)) 0 [some (.ref (ad G 0)), some (.int (nI r)), some (.int y), none] [] f l
  refine P.aload_n dX9_has_0 rfl rfl ?_
  refine P.iload_n dX9_has_1 rfl rfl ?_
  refine P.iload_n dX9_has_2 rfl rfl ?_
  refine P.callV (As := [.int (nI r), .int y]) (rest := []) (s_fCell_col hV hD hT hTW hN hr hy) ok_X9_faultOfCell ⟨Nat.le_of_ble_eq_true rfl, Nat.le_of_ble_eq_true rfl, Nat.le_refl _, Nat.le_refl _⟩ rfl ml_X9_78 ly_0 (by decide) (by decide) rfl rfl (Nat.le_of_ble_eq_true rfl) dX9_has_3 ?_
  refine P.istore_n dX9_has_6 rfl (by decide) ?_
  refine P.iload_n dX9_has_7 rfl rfl ?_
  refine P.if_eq_z (tgt := 13) dX9_has_8 (by decide) rfl (fun c_8 => ?_) (fun c_8 => ?_)
  · exfalso; revert c_8; decide
  refine P.iload_n dX9_has_11 rfl rfl ?_
  exact P.iret rfl dX9_has_12 rfl rfl

set_option maxRecDepth 20000 in
theorem k_has_c {G : GG} {f : Nat → Nat → Nat} {l : Nat → Nat → Int64} {D : DB} {W : LB} {U : QB} {T : TB} {N : Nat} (hC : CI f l D W U T N) (hBW : BW D W U T) {r : Nat} (hr : r < D.1) {c : Nat} (hc : c < T.1 (D.2.1 r 2))  : Spec G mX9_has [.ref (ad G 0), .int (nI r), .int (nI c)] 114 (f, l, refT) (some (.int (nI (D.2.2.1 r c)))) 114 (f, l, refT) := by
  obtain ⟨hV, hL, hU, hT, hN, hSB⟩ := id hC
  obtain ⟨hD, hLW, hUW, hTW⟩ := id hBW
  have hR := hD.1
  have hW1 := hLW.1
  have hU1 := hUW.1
  have hJ1 := hUW.2.1
  have htb : D.2.1 r 2 < 4 := (hD.2.2.2 r hr).1
  have htc := hTW.1 _ htb
  have hb2 := (hD.2.2.2 r hr).2.2.2.2 c
  refine Spec.of ok_X9_has.1 ⟨Nat.le_refl _, Nat.le_refl _⟩ (Nat.le_of_ble_eq_true rfl) ?_
  show Pm G RX9 cX9_has 4 (KM G mX9_has 114 114 (some (.int (nI (D.2.2.1 r c)))) (f, l, refT)) 0 [some (.ref (ad G 0)), some (.int (nI r)), some (.int (nI c)), none] [] f l
  refine P.aload_n dX9_has_0 rfl rfl ?_
  refine P.iload_n dX9_has_1 rfl rfl ?_
  refine P.iload_n dX9_has_2 rfl rfl ?_
  refine P.callV (As := [.int (nI r), .int (nI c)]) (rest := []) (s_fCell_ok hV hD hT hTW hr hc) ok_X9_faultOfCell ⟨Nat.le_of_ble_eq_true rfl, Nat.le_of_ble_eq_true rfl, Nat.le_refl _, Nat.le_refl _⟩ rfl ml_X9_78 ly_0 (by decide) (by decide) rfl rfl (Nat.le_of_ble_eq_true rfl) dX9_has_3 ?_
  refine P.istore_n dX9_has_6 rfl (by decide) ?_
  refine P.iload_n dX9_has_7 rfl rfl ?_
  refine P.if_eq_n (tgt := 13) dX9_has_8 (by decide) (by omega) (fun c_8 => ?_) (fun c_8 => ?_)
  · refine P.aload_n dX9_has_13 rfl rfl ?_
    refine g_X9_rows (q := 2) ly_0 (by decide) (by decide) fl_X9_18 dX9_has_14 ?_
    refine g_X7_list (q := 3) ly_2 (by decide) (by decide) fl_X9_81 dX9_has_17 ?_
    refine P.iload_n dX9_has_20 rfl rfl ?_
    refine a_r6 (q := 4 + 3 * r) ly_3 (by decide) (by omega) (by decide) (rt_row (r := r) (by omega)) dX9_has_21 ?_
    refine g_X6_there (q := 6 + 3 * r) (ly_row (r := r) (by omega)) (by omega) (rt_the (r := r) (by omega)) fl_X9_102 dX9_has_22 ?_
    refine P.iload_n dX9_has_25 rfl rfl ?_
    refine a_za (ly_the (r := r) (by omega)) (by omega) (by omega) (by decide) dX9_has_26 ?_
    refine Pm.topn (b := D.2.2.1 r c) ((hV.2.2.1 r (by omega) c)) ?_
    refine P.callS (As := [.int (nI (D.2.2.1 r c))]) (rest := []) (s_oneIf hb2) ok_X9_oneIf ⟨Nat.le_of_ble_eq_true rfl, Nat.le_of_ble_eq_true rfl, Nat.le_refl _, Nat.le_refl _⟩ rfl ml_X9_106 rfl (Nat.le_of_ble_eq_true rfl) dX9_has_27 ?_
    exact P.iret rfl dX9_has_30 rfl rfl
  · exfalso; omega

set_option maxRecDepth 20000 in
theorem k_cell_a {G : GG} {f : Nat → Nat → Nat} {l : Nat → Nat → Int64} {D : DB} {W : LB} {U : QB} {T : TB} {N : Nat} (hC : CI f l D W U T N) (hBW : BW D W U T) {x : Int32} (hx : inR x D.1 = false) {y : Int32}  : Spec G mX9_cell [.ref (ad G 0), .int x, .int y] 114 (f, l, refT) (some (.long (-1))) 114 (f, l, refT) := by
  obtain ⟨hV, hL, hU, hT, hN, hSB⟩ := id hC
  obtain ⟨hD, hLW, hUW, hTW⟩ := id hBW
  have hR := hD.1
  have hW1 := hLW.1
  have hU1 := hUW.1
  have hJ1 := hUW.2.1
  refine Spec.of ok_X9_cell.1 ⟨Nat.le_refl _, Nat.le_refl _⟩ (Nat.le_of_ble_eq_true rfl) ?_
  show Pm G RX9 cX9_cell 4 (KM G mX9_cell 114 114 (some (.long (-1))) (f, l, refT)) 0 [some (.ref (ad G 0)), some (.int x), some (.int y), none] [] f l
  refine P.aload_n dX9_cell_0 rfl rfl ?_
  refine P.iload_n dX9_cell_1 rfl rfl ?_
  refine P.iload_n dX9_cell_2 rfl rfl ?_
  refine P.callV (As := [.int x, .int y]) (rest := []) (s_fCell_row hV hD hx) ok_X9_faultOfCell ⟨Nat.le_of_ble_eq_true rfl, Nat.le_of_ble_eq_true rfl, Nat.le_refl _, Nat.le_refl _⟩ rfl ml_X9_78 ly_0 (by decide) (by decide) rfl rfl (Nat.le_of_ble_eq_true rfl) dX9_cell_3 ?_
  refine P.istore_n dX9_cell_6 rfl (by decide) ?_
  refine P.iload_n dX9_cell_7 rfl rfl ?_
  refine P.if_eq_z (tgt := 14) dX9_cell_8 (by decide) rfl (fun c_8 => ?_) (fun c_8 => ?_)
  · exfalso; revert c_8; decide
  refine P.iload_n dX9_cell_11 rfl rfl ?_
  refine P.i2l dX9_cell_12 rfl ?_
  exact P.lret rfl dX9_cell_13 rfl rfl

set_option maxRecDepth 20000 in
theorem k_cell_b {G : GG} {f : Nat → Nat → Nat} {l : Nat → Nat → Int64} {D : DB} {W : LB} {U : QB} {T : TB} {N : Nat} (hC : CI f l D W U T N) (hBW : BW D W U T) {r : Nat} (hr : r < D.1) {y : Int32} (hy : inR y (T.1 (D.2.1 r 2)) = false)  : Spec G mX9_cell [.ref (ad G 0), .int (nI r), .int y] 114 (f, l, refT) (some (.long (-12))) 114 (uf f 0 5 (N + 1), l, refT) := by
  obtain ⟨hV, hL, hU, hT, hN, hSB⟩ := id hC
  obtain ⟨hD, hLW, hUW, hTW⟩ := id hBW
  have hR := hD.1
  have hW1 := hLW.1
  have hU1 := hUW.1
  have hJ1 := hUW.2.1
  refine Spec.of ok_X9_cell.1 ⟨Nat.le_refl _, Nat.le_refl _⟩ (Nat.le_of_ble_eq_true rfl) ?_
  show Pm G RX9 cX9_cell 4 (KM G mX9_cell 114 114 (some (.long (-12))) (uf f 0 5 (N + 1), l, refT)) 0 [some (.ref (ad G 0)), some (.int (nI r)), some (.int y), none] [] f l
  refine P.aload_n dX9_cell_0 rfl rfl ?_
  refine P.iload_n dX9_cell_1 rfl rfl ?_
  refine P.iload_n dX9_cell_2 rfl rfl ?_
  refine P.callV (As := [.int (nI r), .int y]) (rest := []) (s_fCell_col hV hD hT hTW hN hr hy) ok_X9_faultOfCell ⟨Nat.le_of_ble_eq_true rfl, Nat.le_of_ble_eq_true rfl, Nat.le_refl _, Nat.le_refl _⟩ rfl ml_X9_78 ly_0 (by decide) (by decide) rfl rfl (Nat.le_of_ble_eq_true rfl) dX9_cell_3 ?_
  refine P.istore_n dX9_cell_6 rfl (by decide) ?_
  refine P.iload_n dX9_cell_7 rfl rfl ?_
  refine P.if_eq_z (tgt := 14) dX9_cell_8 (by decide) rfl (fun c_8 => ?_) (fun c_8 => ?_)
  · exfalso; revert c_8; decide
  refine P.iload_n dX9_cell_11 rfl rfl ?_
  refine P.i2l dX9_cell_12 rfl ?_
  exact P.lret rfl dX9_cell_13 rfl rfl

set_option maxRecDepth 20000 in
theorem k_cell_c {G : GG} {f : Nat → Nat → Nat} {l : Nat → Nat → Int64} {D : DB} {W : LB} {U : QB} {T : TB} {N : Nat} (hC : CI f l D W U T N) (hBW : BW D W U T) {r : Nat} (hr : r < D.1) {c : Nat} (hc : c < T.1 (D.2.1 r 2))  : Spec G mX9_cell [.ref (ad G 0), .int (nI r), .int (nI c)] 114 (f, l, refT) (some (.long (D.2.2.2 r c))) 114 (f, l, refT) := by
  obtain ⟨hV, hL, hU, hT, hN, hSB⟩ := id hC
  obtain ⟨hD, hLW, hUW, hTW⟩ := id hBW
  have hR := hD.1
  have hW1 := hLW.1
  have hU1 := hUW.1
  have hJ1 := hUW.2.1
  have htb : D.2.1 r 2 < 4 := (hD.2.2.2 r hr).1
  have htc := hTW.1 _ htb
  have hb2 := (hD.2.2.2 r hr).2.2.2.2 c
  refine Spec.of ok_X9_cell.1 ⟨Nat.le_refl _, Nat.le_refl _⟩ (Nat.le_of_ble_eq_true rfl) ?_
  show Pm G RX9 cX9_cell 4 (KM G mX9_cell 114 114 (some (.long (D.2.2.2 r c))) (f, l, refT)) 0 [some (.ref (ad G 0)), some (.int (nI r)), some (.int (nI c)), none] [] f l
  refine P.aload_n dX9_cell_0 rfl rfl ?_
  refine P.iload_n dX9_cell_1 rfl rfl ?_
  refine P.iload_n dX9_cell_2 rfl rfl ?_
  refine P.callV (As := [.int (nI r), .int (nI c)]) (rest := []) (s_fCell_ok hV hD hT hTW hr hc) ok_X9_faultOfCell ⟨Nat.le_of_ble_eq_true rfl, Nat.le_of_ble_eq_true rfl, Nat.le_refl _, Nat.le_refl _⟩ rfl ml_X9_78 ly_0 (by decide) (by decide) rfl rfl (Nat.le_of_ble_eq_true rfl) dX9_cell_3 ?_
  refine P.istore_n dX9_cell_6 rfl (by decide) ?_
  refine P.iload_n dX9_cell_7 rfl rfl ?_
  refine P.if_eq_n (tgt := 14) dX9_cell_8 (by decide) (by omega) (fun c_8 => ?_) (fun c_8 => ?_)
  · refine P.aload_n dX9_cell_14 rfl rfl ?_
    refine g_X9_rows (q := 2) ly_0 (by decide) (by decide) fl_X9_18 dX9_cell_15 ?_
    refine g_X7_list (q := 3) ly_2 (by decide) (by decide) fl_X9_81 dX9_cell_18 ?_
    refine P.iload_n dX9_cell_21 rfl rfl ?_
    refine a_r6 (q := 4 + 3 * r) ly_3 (by decide) (by omega) (by decide) (rt_row (r := r) (by omega)) dX9_cell_22 ?_
    refine g_X6_numbers (q := 5 + 3 * r) (ly_row (r := r) (by omega)) (by omega) (rt_num (r := r) (by omega)) fl_X9_85 dX9_cell_23 ?_
    refine P.iload_n dX9_cell_26 rfl rfl ?_
    refine a_la (ly_num (r := r) (by omega)) (by omega) (by omega) (by decide) dX9_cell_27 ?_
    refine Pm.topl (b := D.2.2.2 r c) ((hV.2.2.2 r (by omega) c)) ?_
    exact P.lret rfl dX9_cell_28 rfl rfl
  · exfalso; omega

set_option maxRecDepth 20000 in
theorem k_column_a {G : GG} {f : Nat → Nat → Nat} {l : Nat → Nat → Int64} {D : DB} {W : LB} {U : QB} {T : TB} {N : Nat} (hC : CI f l D W U T N) (hBW : BW D W U T) {x : Int32} (hx : inR x 4 = false) {y z : Int32} : Spec G mX9_column [.ref (ad G 0), .int x, .int y, .int z] 114 (f, l, refT) (some (.int (-12))) 114 (uf f 0 5 (N + 1), l, refT) := by
  obtain ⟨hV, hL, hU, hT, hN, hSB⟩ := id hC
  obtain ⟨hD, hLW, hUW, hTW⟩ := id hBW
  have hR := hD.1
  have hW1 := hLW.1
  have hU1 := hUW.1
  have hJ1 := hUW.2.1
  refine Spec.of ok_X9_column.1 ⟨Nat.le_refl _, Nat.le_refl _⟩ (Nat.le_of_ble_eq_true rfl) ?_
  show Pm G RX9 cX9_column 5 (KM G mX9_column 114 114 (some (.int (-12))) (uf f 0 5 (N + 1), l, refT)) 0 [some (.ref (ad G 0)), some (.int x), some (.int y), some (.int z), none] [] f l
  refine P.aload_n dX9_column_0 rfl rfl ?_
  refine P.iload_n dX9_column_1 rfl rfl ?_
  refine P.callV (As := [.int x]) (rest := []) (s_fTab_out hN hx) ok_X9_faultOfTable ⟨Nat.le_of_ble_eq_true rfl, Nat.le_of_ble_eq_true rfl, Nat.le_refl _, Nat.le_refl _⟩ rfl ml_X9_64 ly_0 (by decide) (by decide) rfl rfl (Nat.le_of_ble_eq_true rfl) dX9_column_2 ?_
  refine P.istore dX9_column_5 (by decide) ?_
  refine P.iload dX9_column_7 rfl ?_
  refine P.if_eq_z (tgt := 15) dX9_column_9 (by decide) rfl (fun c_9 => ?_) (fun c_9 => ?_)
  · exfalso; revert c_9; decide
  refine P.iload dX9_column_12 rfl ?_
  exact P.iret rfl dX9_column_14 rfl rfl

set_option maxRecDepth 20000 in
theorem k_column_b {G : GG} {f : Nat → Nat → Nat} {l : Nat → Nat → Int64} {D : DB} {W : LB} {U : QB} {T : TB} {N : Nat} (hC : CI f l D W U T N) (hBW : BW D W U T) {t : Nat} (ht : t < 4) (h0 : T.1 t = 0) {y z : Int32} : Spec G mX9_column [.ref (ad G 0), .int (nI t), .int y, .int z] 114 (f, l, refT) (some (.int (-11))) 114 (uf f 0 5 (N + 1), l, refT) := by
  obtain ⟨hV, hL, hU, hT, hN, hSB⟩ := id hC
  obtain ⟨hD, hLW, hUW, hTW⟩ := id hBW
  have hR := hD.1
  have hW1 := hLW.1
  have hU1 := hUW.1
  have hJ1 := hUW.2.1
  refine Spec.of ok_X9_column.1 ⟨Nat.le_refl _, Nat.le_refl _⟩ (Nat.le_of_ble_eq_true rfl) ?_
  show Pm G RX9 cX9_column 5 (KM G mX9_column 114 114 (some (.int (-11))) (uf f 0 5 (N + 1), l, refT)) 0 [some (.ref (ad G 0)), some (.int (nI t)), some (.int y), some (.int z), none] [] f l
  refine P.aload_n dX9_column_0 rfl rfl ?_
  refine P.iload_n dX9_column_1 rfl rfl ?_
  refine P.callV (As := [.int (nI t)]) (rest := []) (s_fTab_null hT hTW hN ht h0) ok_X9_faultOfTable ⟨Nat.le_of_ble_eq_true rfl, Nat.le_of_ble_eq_true rfl, Nat.le_refl _, Nat.le_refl _⟩ rfl ml_X9_64 ly_0 (by decide) (by decide) rfl rfl (Nat.le_of_ble_eq_true rfl) dX9_column_2 ?_
  refine P.istore dX9_column_5 (by decide) ?_
  refine P.iload dX9_column_7 rfl ?_
  refine P.if_eq_z (tgt := 15) dX9_column_9 (by decide) rfl (fun c_9 => ?_) (fun c_9 => ?_)
  · exfalso; revert c_9; decide
  refine P.iload dX9_column_12 rfl ?_
  exact P.iret rfl dX9_column_14 rfl rfl

set_option maxRecDepth 20000 in
theorem k_column_c {G : GG} {f : Nat → Nat → Nat} {l : Nat → Nat → Int64} {D : DB} {W : LB} {U : QB} {T : TB} {N : Nat} (hC : CI f l D W U T N) (hBW : BW D W U T) {t : Nat} (ht : t < 4) (h0 : T.1 t ≠ 0) {y z : Int32} (hz : inR z 6 = false) : Spec G mX9_column [.ref (ad G 0), .int (nI t), .int y, .int z] 114 (f, l, refT) (some (.int (-2))) 114 (f, l, refT) := by
  obtain ⟨hV, hL, hU, hT, hN, hSB⟩ := id hC
  obtain ⟨hD, hLW, hUW, hTW⟩ := id hBW
  have hR := hD.1
  have hW1 := hLW.1
  have hU1 := hUW.1
  have hJ1 := hUW.2.1
  have hz2 := inR_f.mp hz
  refine Spec.of ok_X9_column.1 ⟨Nat.le_refl _, Nat.le_refl _⟩ (Nat.le_of_ble_eq_true rfl) ?_
  show Pm G RX9 cX9_column 5 (KM G mX9_column 114 114 (some (.int (-2))) (f, l, refT)) 0 [some (.ref (ad G 0)), some (.int (nI t)), some (.int y), some (.int z), none] [] f l
  refine P.aload_n dX9_column_0 rfl rfl ?_
  refine P.iload_n dX9_column_1 rfl rfl ?_
  refine P.callV (As := [.int (nI t)]) (rest := []) (s_fTab_ok hT hTW ht h0) ok_X9_faultOfTable ⟨Nat.le_of_ble_eq_true rfl, Nat.le_of_ble_eq_true rfl, Nat.le_refl _, Nat.le_refl _⟩ rfl ml_X9_64 ly_0 (by decide) (by decide) rfl rfl (Nat.le_of_ble_eq_true rfl) dX9_column_2 ?_
  refine P.istore dX9_column_5 (by decide) ?_
  refine P.iload dX9_column_7 rfl ?_
  refine P.if_eq_n (tgt := 15) dX9_column_9 (by decide) (by omega) (fun c_9 => ?_) (fun c_9 => ?_)
  · refine P.iload_n dX9_column_15 rfl rfl ?_
    refine P.if_lt_z (tgt := 24) dX9_column_16 (by decide) rfl (fun c_16 => ?_) (fun c_16 => ?_)
    · refine P.bipush (v := -2) dX9_column_24 rfl ?_
      exact P.iret rfl dX9_column_26 rfl rfl
    refine P.iload_n dX9_column_19 rfl rfl ?_
    refine P.iconst dX9_column_20 ic_5 ?_
    refine P.icmp_le_z (tgt := 27) dX9_column_21 (by decide) rfl (zN (by omega)) (fun c_21 => ?_) (fun c_21 => ?_)
    · exfalso; omega
    refine P.bipush (v := -2) dX9_column_24 rfl ?_
    exact P.iret rfl dX9_column_26 rfl rfl
  · exfalso; omega

set_option maxRecDepth 20000 in
theorem k_column_d {G : GG} {f : Nat → Nat → Nat} {l : Nat → Nat → Int64} {D : DB} {W : LB} {U : QB} {T : TB} {N : Nat} (hC : CI f l D W U T N) (hBW : BW D W U T) {t : Nat} (ht : t < 4) (h0 : T.1 t ≠ 0) {k : Nat} (hk : k < 6) {y : Int32} (hy : inR y (T.1 t) = false)  : Spec G mX9_column [.ref (ad G 0), .int (nI t), .int y, .int (nI k)] 114 (f, l, refT) (some (.int (-12))) 114 (uf f 0 5 (N + 1), l, refT) := by
  obtain ⟨hV, hL, hU, hT, hN, hSB⟩ := id hC
  obtain ⟨hD, hLW, hUW, hTW⟩ := id hBW
  have hR := hD.1
  have hW1 := hLW.1
  have hU1 := hUW.1
  have hJ1 := hUW.2.1
  refine Spec.of ok_X9_column.1 ⟨Nat.le_refl _, Nat.le_refl _⟩ (Nat.le_of_ble_eq_true rfl) ?_
  show Pm G RX9 cX9_column 5 (KM G mX9_column 114 114 (some (.int (-12))) (uf f 0 5 (N + 1), l, refT)) 0 [some (.ref (ad G 0)), some (.int (nI t)), some (.int y), some (.int (nI k)), none] [] f l
  refine P.aload_n dX9_column_0 rfl rfl ?_
  refine P.iload_n dX9_column_1 rfl rfl ?_
  refine P.callV (As := [.int (nI t)]) (rest := []) (s_fTab_ok hT hTW ht h0) ok_X9_faultOfTable ⟨Nat.le_of_ble_eq_true rfl, Nat.le_of_ble_eq_true rfl, Nat.le_refl _, Nat.le_refl _⟩ rfl ml_X9_64 ly_0 (by decide) (by decide) rfl rfl (Nat.le_of_ble_eq_true rfl) dX9_column_2 ?_
  refine P.istore dX9_column_5 (by decide) ?_
  refine P.iload dX9_column_7 rfl ?_
  refine P.if_eq_n (tgt := 15) dX9_column_9 (by decide) (by omega) (fun c_9 => ?_) (fun c_9 => ?_)
  · refine P.iload_n dX9_column_15 rfl rfl ?_
    refine P.if_lt_z (tgt := 24) dX9_column_16 (by decide) (zN (by omega)) (fun c_16 => ?_) (fun c_16 => ?_)
    · exfalso; omega
    refine P.iload_n dX9_column_19 rfl rfl ?_
    refine P.iconst dX9_column_20 ic_5 ?_
    refine P.icmp_le_n (tgt := 27) dX9_column_21 (by decide) (by omega) (by omega) (fun c_21 => ?_) (fun c_21 => ?_)
    · refine P.aload_n dX9_column_27 rfl rfl ?_
      refine P.iload_n dX9_column_28 rfl rfl ?_
      refine P.iload_n dX9_column_29 rfl rfl ?_
      refine P.callV (As := [.int (nI t), .int y]) (rest := []) (s_fCol_out hT hTW hN ht hy) ok_X9_faultOfColumn ⟨Nat.le_of_ble_eq_true rfl, Nat.le_of_ble_eq_true rfl, Nat.le_refl _, Nat.le_refl _⟩ rfl ml_X9_110 ly_0 (by decide) (by decide) rfl rfl (Nat.le_of_ble_eq_true rfl) dX9_column_30 ?_
      refine P.istore dX9_column_33 (by decide) ?_
      refine P.iload dX9_column_35 rfl ?_
      refine P.if_eq_z (tgt := 43) dX9_column_37 (by decide) rfl (fun c_37 => ?_) (fun c_37 => ?_)
      · exfalso; revert c_37; decide
      refine P.iload dX9_column_40 rfl ?_
      exact P.iret rfl dX9_column_42 rfl rfl
    · exfalso; omega
  · exfalso; omega

set_option maxRecDepth 20000 in
theorem k_column_e {G : GG} {f : Nat → Nat → Nat} {l : Nat → Nat → Int64} {D : DB} {W : LB} {U : QB} {T : TB} {N : Nat} (hC : CI f l D W U T N) (hBW : BW D W U T) {t : Nat} (ht : t < 4) (h0 : T.1 t ≠ 0) {k : Nat} (hk : k < 6) {c : Nat} (hc : c < T.1 t) (hne : T.2 t c ≠ k) : Spec G mX9_column [.ref (ad G 0), .int (nI t), .int (nI c), .int (nI k)] 114 (f, l, refT) (some (.int (-13))) 114 (uf f 0 5 (N + 1), l, refT) := by
  obtain ⟨hV, hL, hU, hT, hN, hSB⟩ := id hC
  obtain ⟨hD, hLW, hUW, hTW⟩ := id hBW
  have hR := hD.1
  have hW1 := hLW.1
  have hU1 := hUW.1
  have hJ1 := hUW.2.1
  have htc := hTW.1 t ht
  have hla := hTW.2 t ht c
  refine Spec.of ok_X9_column.1 ⟨Nat.le_refl _, Nat.le_refl _⟩ (Nat.le_of_ble_eq_true rfl) ?_
  show Pm G RX9 cX9_column 5 (KM G mX9_column 114 114 (some (.int (-13))) (uf f 0 5 (N + 1), l, refT)) 0 [some (.ref (ad G 0)), some (.int (nI t)), some (.int (nI c)), some (.int (nI k)), none] [] f l
  refine P.aload_n dX9_column_0 rfl rfl ?_
  refine P.iload_n dX9_column_1 rfl rfl ?_
  refine P.callV (As := [.int (nI t)]) (rest := []) (s_fTab_ok hT hTW ht h0) ok_X9_faultOfTable ⟨Nat.le_of_ble_eq_true rfl, Nat.le_of_ble_eq_true rfl, Nat.le_refl _, Nat.le_refl _⟩ rfl ml_X9_64 ly_0 (by decide) (by decide) rfl rfl (Nat.le_of_ble_eq_true rfl) dX9_column_2 ?_
  refine P.istore dX9_column_5 (by decide) ?_
  refine P.iload dX9_column_7 rfl ?_
  refine P.if_eq_n (tgt := 15) dX9_column_9 (by decide) (by omega) (fun c_9 => ?_) (fun c_9 => ?_)
  · refine P.iload_n dX9_column_15 rfl rfl ?_
    refine P.if_lt_z (tgt := 24) dX9_column_16 (by decide) (zN (by omega)) (fun c_16 => ?_) (fun c_16 => ?_)
    · exfalso; omega
    refine P.iload_n dX9_column_19 rfl rfl ?_
    refine P.iconst dX9_column_20 ic_5 ?_
    refine P.icmp_le_n (tgt := 27) dX9_column_21 (by decide) (by omega) (by omega) (fun c_21 => ?_) (fun c_21 => ?_)
    · refine P.aload_n dX9_column_27 rfl rfl ?_
      refine P.iload_n dX9_column_28 rfl rfl ?_
      refine P.iload_n dX9_column_29 rfl rfl ?_
      refine P.callV (As := [.int (nI t), .int (nI c)]) (rest := []) (s_fCol_ok hT hTW ht hc) ok_X9_faultOfColumn ⟨Nat.le_of_ble_eq_true rfl, Nat.le_of_ble_eq_true rfl, Nat.le_refl _, Nat.le_refl _⟩ rfl ml_X9_110 ly_0 (by decide) (by decide) rfl rfl (Nat.le_of_ble_eq_true rfl) dX9_column_30 ?_
      refine P.istore dX9_column_33 (by decide) ?_
      refine P.iload dX9_column_35 rfl ?_
      refine P.if_eq_n (tgt := 43) dX9_column_37 (by decide) (by omega) (fun c_37 => ?_) (fun c_37 => ?_)
      · refine P.aload_n dX9_column_43 rfl rfl ?_
        refine g_X9_tables (q := 1) ly_0 (by decide) (by decide) fl_X9_11 dX9_column_44 ?_
        refine P.iload_n dX9_column_47 rfl rfl ?_
        refine a_r8 (q := 78 + 2 * t) ly_1 (by decide) (by omega) (by decide) (rt_tab (r := t) (by omega)) dX9_column_48 ?_
        refine g_X8_lanes (q := 79 + 2 * t) (ly_tab (r := t) (by omega)) (by omega) (rt_lan (r := t) (by omega)) fl_X9_94 dX9_column_49 ?_
        refine P.iload_n dX9_column_52 rfl rfl ?_
        refine a_ia (ly_lan (r := t) (by omega)) (by omega) (by omega) (by decide) dX9_column_53 ?_
        refine Pm.topn (b := T.2 t c) ((hT.2 t (by omega) c)) ?_
        refine P.iload_n dX9_column_54 rfl rfl ?_
        refine P.icmp_eq_n (tgt := 65) dX9_column_55 (by decide) (by omega) (by omega) (fun c_55 => ?_) (fun c_55 => ?_)
        · exfalso; omega
        refine P.aload_n dX9_column_58 rfl rfl ?_
        refine P.bipush (v := -13) dX9_column_59 rfl ?_
        refine P.callV (As := [.int (-13)]) (rest := []) (s_found hN) ok_X9_found ⟨Nat.le_of_ble_eq_true rfl, Nat.le_of_ble_eq_true rfl, Nat.le_refl _, Nat.le_refl _⟩ rfl ml_X9_48 ly_0 (by decide) (by decide) rfl rfl (Nat.le_of_ble_eq_true rfl) dX9_column_61 ?_
        exact P.iret rfl dX9_column_64 rfl rfl
      · exfalso; omega
    · exfalso; omega
  · exfalso; omega

set_option maxRecDepth 20000 in
theorem k_column_f {G : GG} {f : Nat → Nat → Nat} {l : Nat → Nat → Int64} {D : DB} {W : LB} {U : QB} {T : TB} {N : Nat} (hC : CI f l D W U T N) (hBW : BW D W U T) {t : Nat} (ht : t < 4) (h0 : T.1 t ≠ 0) {k : Nat} (hk : k < 6) {c : Nat} (hc : c < T.1 t) (hne : T.2 t c = k) : Spec G mX9_column [.ref (ad G 0), .int (nI t), .int (nI c), .int (nI k)] 114 (f, l, refT) (some (.int (nI (manyD D t)))) 114 (f, l, refT) := by
  obtain ⟨hV, hL, hU, hT, hN, hSB⟩ := id hC
  obtain ⟨hD, hLW, hUW, hTW⟩ := id hBW
  have hR := hD.1
  have hW1 := hLW.1
  have hU1 := hUW.1
  have hJ1 := hUW.2.1
  have htc := hTW.1 t ht
  have hla := hTW.2 t ht c
  refine Spec.of ok_X9_column.1 ⟨Nat.le_refl _, Nat.le_refl _⟩ (Nat.le_of_ble_eq_true rfl) ?_
  show Pm G RX9 cX9_column 5 (KM G mX9_column 114 114 (some (.int (nI (manyD D t)))) (f, l, refT)) 0 [some (.ref (ad G 0)), some (.int (nI t)), some (.int (nI c)), some (.int (nI k)), none] [] f l
  refine P.aload_n dX9_column_0 rfl rfl ?_
  refine P.iload_n dX9_column_1 rfl rfl ?_
  refine P.callV (As := [.int (nI t)]) (rest := []) (s_fTab_ok hT hTW ht h0) ok_X9_faultOfTable ⟨Nat.le_of_ble_eq_true rfl, Nat.le_of_ble_eq_true rfl, Nat.le_refl _, Nat.le_refl _⟩ rfl ml_X9_64 ly_0 (by decide) (by decide) rfl rfl (Nat.le_of_ble_eq_true rfl) dX9_column_2 ?_
  refine P.istore dX9_column_5 (by decide) ?_
  refine P.iload dX9_column_7 rfl ?_
  refine P.if_eq_n (tgt := 15) dX9_column_9 (by decide) (by omega) (fun c_9 => ?_) (fun c_9 => ?_)
  · refine P.iload_n dX9_column_15 rfl rfl ?_
    refine P.if_lt_z (tgt := 24) dX9_column_16 (by decide) (zN (by omega)) (fun c_16 => ?_) (fun c_16 => ?_)
    · exfalso; omega
    refine P.iload_n dX9_column_19 rfl rfl ?_
    refine P.iconst dX9_column_20 ic_5 ?_
    refine P.icmp_le_n (tgt := 27) dX9_column_21 (by decide) (by omega) (by omega) (fun c_21 => ?_) (fun c_21 => ?_)
    · refine P.aload_n dX9_column_27 rfl rfl ?_
      refine P.iload_n dX9_column_28 rfl rfl ?_
      refine P.iload_n dX9_column_29 rfl rfl ?_
      refine P.callV (As := [.int (nI t), .int (nI c)]) (rest := []) (s_fCol_ok hT hTW ht hc) ok_X9_faultOfColumn ⟨Nat.le_of_ble_eq_true rfl, Nat.le_of_ble_eq_true rfl, Nat.le_refl _, Nat.le_refl _⟩ rfl ml_X9_110 ly_0 (by decide) (by decide) rfl rfl (Nat.le_of_ble_eq_true rfl) dX9_column_30 ?_
      refine P.istore dX9_column_33 (by decide) ?_
      refine P.iload dX9_column_35 rfl ?_
      refine P.if_eq_n (tgt := 43) dX9_column_37 (by decide) (by omega) (fun c_37 => ?_) (fun c_37 => ?_)
      · refine P.aload_n dX9_column_43 rfl rfl ?_
        refine g_X9_tables (q := 1) ly_0 (by decide) (by decide) fl_X9_11 dX9_column_44 ?_
        refine P.iload_n dX9_column_47 rfl rfl ?_
        refine a_r8 (q := 78 + 2 * t) ly_1 (by decide) (by omega) (by decide) (rt_tab (r := t) (by omega)) dX9_column_48 ?_
        refine g_X8_lanes (q := 79 + 2 * t) (ly_tab (r := t) (by omega)) (by omega) (rt_lan (r := t) (by omega)) fl_X9_94 dX9_column_49 ?_
        refine P.iload_n dX9_column_52 rfl rfl ?_
        refine a_ia (ly_lan (r := t) (by omega)) (by omega) (by omega) (by decide) dX9_column_53 ?_
        refine Pm.topn (b := T.2 t c) ((hT.2 t (by omega) c)) ?_
        refine P.iload_n dX9_column_54 rfl rfl ?_
        refine P.icmp_eq_n (tgt := 65) dX9_column_55 (by decide) (by omega) (by omega) (fun c_55 => ?_) (fun c_55 => ?_)
        · refine P.aload_n dX9_column_65 rfl rfl ?_
          refine g_X9_rows (q := 2) ly_0 (by decide) (by decide) fl_X9_18 dX9_column_66 ?_
          refine P.iload_n dX9_column_69 rfl rfl ?_
          refine P.callV (As := [.int (nI t)]) (rest := []) (s_manyOf hV hD ht) ok_X7_manyOf ⟨Nat.le_of_ble_eq_true rfl, Nat.le_of_ble_eq_true rfl, Nat.le_refl _, Nat.le_refl _⟩ rfl ml_X9_113 ly_2 (by decide) (by decide) rfl rfl (Nat.le_of_ble_eq_true rfl) dX9_column_70 ?_
          exact P.iret rfl dX9_column_73 rfl rfl
        · exfalso; omega
      · exfalso; omega
    · exfalso; omega
  · exfalso; omega

set_option maxRecDepth 20000 in
theorem k_trust_a {G : GG} {f : Nat → Nat → Nat} {l : Nat → Nat → Int64} {D : DB} {W : LB} {U : QB} {T : TB} {N : Nat} (hC : CI f l D W U T N) (hBW : BW D W U T) {x : Int32} (hx : inR x D.1 = false) {y : Int32} : Spec G mX9_trust [.ref (ad G 0), .int x, .int y] 114 (f, l, refT) (some (.int (-1))) 114 (f, l, refT) := by
  obtain ⟨hV, hL, hU, hT, hN, hSB⟩ := id hC
  obtain ⟨hD, hLW, hUW, hTW⟩ := id hBW
  have hR := hD.1
  have hW1 := hLW.1
  have hU1 := hUW.1
  have hJ1 := hUW.2.1
  refine Spec.of ok_X9_trust.1 ⟨Nat.le_refl _, Nat.le_refl _⟩ (Nat.le_of_ble_eq_true rfl) ?_
  show Pm G RX9 cX9_trust 4 (KM G mX9_trust 114 114 (some (.int (-1))) (f, l, refT)) 0 [some (.ref (ad G 0)), some (.int x), some (.int y), none] [] f l
  refine P.aload_n dX9_trust_0 rfl rfl ?_
  refine P.iload_n dX9_trust_1 rfl rfl ?_
  refine P.callV (As := [.int x]) (rest := []) (s_isRow_f hV hD hx) ok_X9_isRow ⟨Nat.le_of_ble_eq_true rfl, Nat.le_of_ble_eq_true rfl, Nat.le_refl _, Nat.le_refl _⟩ rfl ml_X9_116 ly_0 (by decide) (by decide) rfl rfl (Nat.le_of_ble_eq_true rfl) dX9_trust_2 ?_
  refine P.if_ne_b (tgt := 10) dX9_trust_5 (by decide) (fun c_5 => ?_) (fun c_5 => ?_)
  · exfalso; revert c_5; decide
  refine P.iconst (v := -1) dX9_trust_8 rfl ?_
  exact P.iret rfl dX9_trust_9 rfl rfl

set_option maxRecDepth 20000 in
theorem k_trust_b {G : GG} {f : Nat → Nat → Nat} {l : Nat → Nat → Int64} {D : DB} {W : LB} {U : QB} {T : TB} {N : Nat} (hC : CI f l D W U T N) (hBW : BW D W U T) {r : Nat} (hr : r < D.1) {y : Int32} (hy : trOK y = false) : Spec G mX9_trust [.ref (ad G 0), .int (nI r), .int y] 114 (f, l, refT) (some (.int (-2))) 114 (f, l, refT) := by
  obtain ⟨hV, hL, hU, hT, hN, hSB⟩ := id hC
  obtain ⟨hD, hLW, hUW, hTW⟩ := id hBW
  have hR := hD.1
  have hW1 := hLW.1
  have hU1 := hUW.1
  have hJ1 := hUW.2.1
  refine Spec.of ok_X9_trust.1 ⟨Nat.le_refl _, Nat.le_refl _⟩ (Nat.le_of_ble_eq_true rfl) ?_
  show Pm G RX9 cX9_trust 4 (KM G mX9_trust 114 114 (some (.int (-2))) (f, l, refT)) 0 [some (.ref (ad G 0)), some (.int (nI r)), some (.int y), none] [] f l
  refine P.aload_n dX9_trust_0 rfl rfl ?_
  refine P.iload_n dX9_trust_1 rfl rfl ?_
  refine P.callV (As := [.int (nI r)]) (rest := []) (s_isRow_t hV hD hr) ok_X9_isRow ⟨Nat.le_of_ble_eq_true rfl, Nat.le_of_ble_eq_true rfl, Nat.le_refl _, Nat.le_refl _⟩ rfl ml_X9_116 ly_0 (by decide) (by decide) rfl rfl (Nat.le_of_ble_eq_true rfl) dX9_trust_2 ?_
  refine P.if_ne_b (tgt := 10) dX9_trust_5 (by decide) (fun c_5 => ?_) (fun c_5 => ?_)
  · refine P.iload_n dX9_trust_10 rfl rfl ?_
    refine P.callS (As := [.int y]) (rest := []) (s_isTrust_f hy) ok_X9_isTrust ⟨Nat.le_of_ble_eq_true rfl, Nat.le_of_ble_eq_true rfl, Nat.le_refl _, Nat.le_refl _⟩ rfl ml_X9_67 rfl (Nat.le_of_ble_eq_true rfl) dX9_trust_11 ?_
    refine P.if_ne_b (tgt := 20) dX9_trust_14 (by decide) (fun c_14 => ?_) (fun c_14 => ?_)
    · exfalso; revert c_14; decide
    refine P.bipush (v := -2) dX9_trust_17 rfl ?_
    exact P.iret rfl dX9_trust_19 rfl rfl
  · exfalso; revert c_5; decide

set_option maxRecDepth 20000 in
theorem k_trust_c {G : GG} {f : Nat → Nat → Nat} {l : Nat → Nat → Int64} {D : DB} {W : LB} {U : QB} {T : TB} {N : Nat} (hC : CI f l D W U T N) (hBW : BW D W U T) {r : Nat} (hr : r < D.1) {a : Nat} (ha1 : 1 ≤ a) (ha2 : a ≤ 100)  : Spec G mX9_trust [.ref (ad G 0), .int (nI r), .int (nI a)] 114 (f, l, refT) (some (.int (nI (D.2.1 r 3)))) 114 (uf f (4 + 3 * r) 3 a, l, refT) := by
  obtain ⟨hV, hL, hU, hT, hN, hSB⟩ := id hC
  obtain ⟨hD, hLW, hUW, hTW⟩ := id hBW
  have hR := hD.1
  have hW1 := hLW.1
  have hU1 := hUW.1
  have hJ1 := hUW.2.1
  refine Spec.of ok_X9_trust.1 ⟨Nat.le_refl _, Nat.le_refl _⟩ (Nat.le_of_ble_eq_true rfl) ?_
  show Pm G RX9 cX9_trust 4 (KM G mX9_trust 114 114 (some (.int (nI (D.2.1 r 3)))) (uf f (4 + 3 * r) 3 a, l, refT)) 0 [some (.ref (ad G 0)), some (.int (nI r)), some (.int (nI a)), none] [] f l
  refine P.aload_n dX9_trust_0 rfl rfl ?_
  refine P.iload_n dX9_trust_1 rfl rfl ?_
  refine P.callV (As := [.int (nI r)]) (rest := []) (s_isRow_t hV hD hr) ok_X9_isRow ⟨Nat.le_of_ble_eq_true rfl, Nat.le_of_ble_eq_true rfl, Nat.le_refl _, Nat.le_refl _⟩ rfl ml_X9_116 ly_0 (by decide) (by decide) rfl rfl (Nat.le_of_ble_eq_true rfl) dX9_trust_2 ?_
  refine P.if_ne_b (tgt := 10) dX9_trust_5 (by decide) (fun c_5 => ?_) (fun c_5 => ?_)
  · refine P.iload_n dX9_trust_10 rfl rfl ?_
    refine P.callS (As := [.int (nI a)]) (rest := []) (s_isTrust_t ha1 ha2) ok_X9_isTrust ⟨Nat.le_of_ble_eq_true rfl, Nat.le_of_ble_eq_true rfl, Nat.le_refl _, Nat.le_refl _⟩ rfl ml_X9_67 rfl (Nat.le_of_ble_eq_true rfl) dX9_trust_11 ?_
    refine P.if_ne_b (tgt := 20) dX9_trust_14 (by decide) (fun c_14 => ?_) (fun c_14 => ?_)
    · refine P.aload_n dX9_trust_20 rfl rfl ?_
      refine g_X9_rows (q := 2) ly_0 (by decide) (by decide) fl_X9_18 dX9_trust_21 ?_
      refine g_X7_list (q := 3) ly_2 (by decide) (by decide) fl_X9_81 dX9_trust_24 ?_
      refine P.iload_n dX9_trust_27 rfl rfl ?_
      refine a_r6 (q := 4 + 3 * r) ly_3 (by decide) (by omega) (by decide) (rt_row (r := r) (by omega)) dX9_trust_28 ?_
      refine g_X6_trust (ly_row (r := r) (by omega)) (by omega) fl_X9_119 dX9_trust_29 ?_
      refine Pm.topn (b := D.2.1 r 3) ((hV.2.1 r (by omega) 3)) ?_
      refine P.istore_n dX9_trust_32 rfl (by decide) ?_
      refine P.aload_n dX9_trust_33 rfl rfl ?_
      refine g_X9_rows (q := 2) ly_0 (by decide) (by decide) fl_X9_18 dX9_trust_34 ?_
      refine g_X7_list (q := 3) ly_2 (by decide) (by decide) fl_X9_81 dX9_trust_37 ?_
      refine P.iload_n dX9_trust_40 rfl rfl ?_
      refine a_r6 (q := 4 + 3 * r) ly_3 (by decide) (by omega) (by decide) (rt_row (r := r) (by omega)) dX9_trust_41 ?_
      refine P.iload_n dX9_trust_42 rfl rfl ?_
      refine p_X6_trust (a := a) (ly_row (r := r) (by omega)) (by omega) fl_X9_119 dX9_trust_43 rfl ?_
      refine P.iload_n dX9_trust_46 rfl rfl ?_
      exact P.iret rfl dX9_trust_47 rfl rfl
    · exfalso; revert c_14; decide
  · exfalso; revert c_5; decide

set_option maxRecDepth 20000 in
theorem k_keep_a {G : GG} {f : Nat → Nat → Nat} {l : Nat → Nat → Int64} {D : DB} {W : LB} {U : QB} {T : TB} {N : Nat} (hC : CI f l D W U T N) (hBW : BW D W U T) {x : Int32} (hx : inR x D.1 = false) {b : Nat} (hb : b < 2) : Spec G mX9_keep [.ref (ad G 0), .int x, .int (nI b)] 114 (f, l, refT) (some (.int (-1))) 114 (f, l, refT) := by
  obtain ⟨hV, hL, hU, hT, hN, hSB⟩ := id hC
  obtain ⟨hD, hLW, hUW, hTW⟩ := id hBW
  have hR := hD.1
  have hW1 := hLW.1
  have hU1 := hUW.1
  have hJ1 := hUW.2.1
  refine Spec.of ok_X9_keep.1 ⟨Nat.le_refl _, Nat.le_refl _⟩ (Nat.le_of_ble_eq_true rfl) ?_
  show Pm G RX9 cX9_keep 4 (KM G mX9_keep 114 114 (some (.int (-1))) (f, l, refT)) 0 [some (.ref (ad G 0)), some (.int x), some (.int (nI b)), none] [] f l
  refine P.aload_n dX9_keep_0 rfl rfl ?_
  refine P.iload_n dX9_keep_1 rfl rfl ?_
  refine P.callV (As := [.int x]) (rest := []) (s_isRow_f hV hD hx) ok_X9_isRow ⟨Nat.le_of_ble_eq_true rfl, Nat.le_of_ble_eq_true rfl, Nat.le_refl _, Nat.le_refl _⟩ rfl ml_X9_116 ly_0 (by decide) (by decide) rfl rfl (Nat.le_of_ble_eq_true rfl) dX9_keep_2 ?_
  refine P.if_ne_b (tgt := 10) dX9_keep_5 (by decide) (fun c_5 => ?_) (fun c_5 => ?_)
  · exfalso; revert c_5; decide
  refine P.iconst (v := -1) dX9_keep_8 rfl ?_
  exact P.iret rfl dX9_keep_9 rfl rfl

set_option maxRecDepth 20000 in
theorem k_keep_b {G : GG} {f : Nat → Nat → Nat} {l : Nat → Nat → Int64} {D : DB} {W : LB} {U : QB} {T : TB} {N : Nat} (hC : CI f l D W U T N) (hBW : BW D W U T) {r : Nat} (hr : r < D.1) {b : Nat} (hb : b < 2) : Spec G mX9_keep [.ref (ad G 0), .int (nI r), .int (nI b)] 114 (f, l, refT) (some (.int (nI (D.2.1 r 4)))) 114 (uf f (4 + 3 * r) 4 b, l, refT) := by
  obtain ⟨hV, hL, hU, hT, hN, hSB⟩ := id hC
  obtain ⟨hD, hLW, hUW, hTW⟩ := id hBW
  have hR := hD.1
  have hW1 := hLW.1
  have hU1 := hUW.1
  have hJ1 := hUW.2.1
  have hb2 := (hD.2.2.2 r hr).2.2.2.1
  refine Spec.of ok_X9_keep.1 ⟨Nat.le_refl _, Nat.le_refl _⟩ (Nat.le_of_ble_eq_true rfl) ?_
  show Pm G RX9 cX9_keep 4 (KM G mX9_keep 114 114 (some (.int (nI (D.2.1 r 4)))) (uf f (4 + 3 * r) 4 b, l, refT)) 0 [some (.ref (ad G 0)), some (.int (nI r)), some (.int (nI b)), none] [] f l
  refine P.aload_n dX9_keep_0 rfl rfl ?_
  refine P.iload_n dX9_keep_1 rfl rfl ?_
  refine P.callV (As := [.int (nI r)]) (rest := []) (s_isRow_t hV hD hr) ok_X9_isRow ⟨Nat.le_of_ble_eq_true rfl, Nat.le_of_ble_eq_true rfl, Nat.le_refl _, Nat.le_refl _⟩ rfl ml_X9_116 ly_0 (by decide) (by decide) rfl rfl (Nat.le_of_ble_eq_true rfl) dX9_keep_2 ?_
  refine P.if_ne_b (tgt := 10) dX9_keep_5 (by decide) (fun c_5 => ?_) (fun c_5 => ?_)
  · refine P.aload_n dX9_keep_10 rfl rfl ?_
    refine g_X9_rows (q := 2) ly_0 (by decide) (by decide) fl_X9_18 dX9_keep_11 ?_
    refine g_X7_list (q := 3) ly_2 (by decide) (by decide) fl_X9_81 dX9_keep_14 ?_
    refine P.iload_n dX9_keep_17 rfl rfl ?_
    refine a_r6 (q := 4 + 3 * r) ly_3 (by decide) (by omega) (by decide) (rt_row (r := r) (by omega)) dX9_keep_18 ?_
    refine g_X6_kept (ly_row (r := r) (by omega)) (by omega) fl_X9_122 dX9_keep_19 ?_
    refine Pm.topn (b := D.2.1 r 4) ((hV.2.1 r (by omega) 4)) ?_
    refine P.callS (As := [.int (nI (D.2.1 r 4))]) (rest := []) (s_oneIf hb2) ok_X9_oneIf ⟨Nat.le_of_ble_eq_true rfl, Nat.le_of_ble_eq_true rfl, Nat.le_refl _, Nat.le_refl _⟩ rfl ml_X9_106 rfl (Nat.le_of_ble_eq_true rfl) dX9_keep_22 ?_
    refine P.istore_n dX9_keep_25 rfl (by decide) ?_
    refine P.aload_n dX9_keep_26 rfl rfl ?_
    refine g_X9_rows (q := 2) ly_0 (by decide) (by decide) fl_X9_18 dX9_keep_27 ?_
    refine g_X7_list (q := 3) ly_2 (by decide) (by decide) fl_X9_81 dX9_keep_30 ?_
    refine P.iload_n dX9_keep_33 rfl rfl ?_
    refine a_r6 (q := 4 + 3 * r) ly_3 (by decide) (by omega) (by decide) (rt_row (r := r) (by omega)) dX9_keep_34 ?_
    refine P.iload_n dX9_keep_35 rfl rfl ?_
    refine p_X6_kept (a := b) (ly_row (r := r) (by omega)) (by omega) fl_X9_122 dX9_keep_36 rfl (by omega) ?_
    refine P.iload_n dX9_keep_39 rfl rfl ?_
    exact P.iret rfl dX9_keep_40 rfl rfl
  · exfalso; revert c_5; decide

set_option maxRecDepth 20000 in
theorem k_about_a {G : GG} {f : Nat → Nat → Nat} {l : Nat → Nat → Int64} {D : DB} {W : LB} {U : QB} {T : TB} {N : Nat} (hC : CI f l D W U T N) (hBW : BW D W U T) {x : Int32} (hx : inR x D.1 = false) {y : Int32} : Spec G mX9_about [.ref (ad G 0), .int x, .int y] 114 (f, l, refT) (some (.int (-1))) 114 (f, l, refT) := by
  obtain ⟨hV, hL, hU, hT, hN, hSB⟩ := id hC
  obtain ⟨hD, hLW, hUW, hTW⟩ := id hBW
  have hR := hD.1
  have hW1 := hLW.1
  have hU1 := hUW.1
  have hJ1 := hUW.2.1
  refine Spec.of ok_X9_about.1 ⟨Nat.le_refl _, Nat.le_refl _⟩ (Nat.le_of_ble_eq_true rfl) ?_
  show Pm G RX9 cX9_about 4 (KM G mX9_about 114 114 (some (.int (-1))) (f, l, refT)) 0 [some (.ref (ad G 0)), some (.int x), some (.int y), none] [] f l
  refine P.aload_n dX9_about_0 rfl rfl ?_
  refine P.iload_n dX9_about_1 rfl rfl ?_
  refine P.callV (As := [.int x]) (rest := []) (s_isRow_f hV hD hx) ok_X9_isRow ⟨Nat.le_of_ble_eq_true rfl, Nat.le_of_ble_eq_true rfl, Nat.le_refl _, Nat.le_refl _⟩ rfl ml_X9_116 ly_0 (by decide) (by decide) rfl rfl (Nat.le_of_ble_eq_true rfl) dX9_about_2 ?_
  refine P.if_ne_b (tgt := 10) dX9_about_5 (by decide) (fun c_5 => ?_) (fun c_5 => ?_)
  · exfalso; revert c_5; decide
  refine P.iconst (v := -1) dX9_about_8 rfl ?_
  exact P.iret rfl dX9_about_9 rfl rfl

set_option maxRecDepth 20000 in
theorem k_about_b {G : GG} {f : Nat → Nat → Nat} {l : Nat → Nat → Int64} {D : DB} {W : LB} {U : QB} {T : TB} {N : Nat} (hC : CI f l D W U T N) (hBW : BW D W U T) {r : Nat} (hr : r < D.1) {y : Int32} (hy : inR y 3 = false) : Spec G mX9_about [.ref (ad G 0), .int (nI r), .int y] 114 (f, l, refT) (some (.int (-2))) 114 (f, l, refT) := by
  obtain ⟨hV, hL, hU, hT, hN, hSB⟩ := id hC
  obtain ⟨hD, hLW, hUW, hTW⟩ := id hBW
  have hR := hD.1
  have hW1 := hLW.1
  have hU1 := hUW.1
  have hJ1 := hUW.2.1
  refine Spec.of ok_X9_about.1 ⟨Nat.le_refl _, Nat.le_refl _⟩ (Nat.le_of_ble_eq_true rfl) ?_
  show Pm G RX9 cX9_about 4 (KM G mX9_about 114 114 (some (.int (-2))) (f, l, refT)) 0 [some (.ref (ad G 0)), some (.int (nI r)), some (.int y), none] [] f l
  refine P.aload_n dX9_about_0 rfl rfl ?_
  refine P.iload_n dX9_about_1 rfl rfl ?_
  refine P.callV (As := [.int (nI r)]) (rest := []) (s_isRow_t hV hD hr) ok_X9_isRow ⟨Nat.le_of_ble_eq_true rfl, Nat.le_of_ble_eq_true rfl, Nat.le_refl _, Nat.le_refl _⟩ rfl ml_X9_116 ly_0 (by decide) (by decide) rfl rfl (Nat.le_of_ble_eq_true rfl) dX9_about_2 ?_
  refine P.if_ne_b (tgt := 10) dX9_about_5 (by decide) (fun c_5 => ?_) (fun c_5 => ?_)
  · refine P.aload_n dX9_about_10 rfl rfl ?_
    refine g_X9_rows (q := 2) ly_0 (by decide) (by decide) fl_X9_18 dX9_about_11 ?_
    refine g_X7_list (q := 3) ly_2 (by decide) (by decide) fl_X9_81 dX9_about_14 ?_
    refine P.iload_n dX9_about_17 rfl rfl ?_
    refine a_r6 (q := 4 + 3 * r) ly_3 (by decide) (by omega) (by decide) (rt_row (r := r) (by omega)) dX9_about_18 ?_
    refine P.astore_n dX9_about_19 rfl (by decide) ?_
    refine P.iload_n dX9_about_20 rfl rfl ?_
    refine P.tableOut (tgt := 66) dX9_about_21 (by have := inR_f.mp hy; omega) (by decide) ?_
    refine P.bipush (v := -2) dX9_about_66 rfl ?_
    exact P.iret rfl dX9_about_68 rfl rfl
  · exfalso; revert c_5; decide

set_option maxRecDepth 20000 in
theorem k_about_0 {G : GG} {f : Nat → Nat → Nat} {l : Nat → Nat → Int64} {D : DB} {W : LB} {U : QB} {T : TB} {N : Nat} (hC : CI f l D W U T N) (hBW : BW D W U T) {r : Nat} (hr : r < D.1)  : Spec G mX9_about [.ref (ad G 0), .int (nI r), .int (nI 0)] 114 (f, l, refT) (some (.int (nI (D.2.1 r 2)))) 114 (f, l, refT) := by
  obtain ⟨hV, hL, hU, hT, hN, hSB⟩ := id hC
  obtain ⟨hD, hLW, hUW, hTW⟩ := id hBW
  have hR := hD.1
  have hW1 := hLW.1
  have hU1 := hUW.1
  have hJ1 := hUW.2.1
  have hb2 := (hD.2.2.2 r hr).2.2.2.1
  refine Spec.of ok_X9_about.1 ⟨Nat.le_refl _, Nat.le_refl _⟩ (Nat.le_of_ble_eq_true rfl) ?_
  show Pm G RX9 cX9_about 4 (KM G mX9_about 114 114 (some (.int (nI (D.2.1 r 2)))) (f, l, refT)) 0 [some (.ref (ad G 0)), some (.int (nI r)), some (.int (nI 0)), none] [] f l
  refine P.aload_n dX9_about_0 rfl rfl ?_
  refine P.iload_n dX9_about_1 rfl rfl ?_
  refine P.callV (As := [.int (nI r)]) (rest := []) (s_isRow_t hV hD hr) ok_X9_isRow ⟨Nat.le_of_ble_eq_true rfl, Nat.le_of_ble_eq_true rfl, Nat.le_refl _, Nat.le_refl _⟩ rfl ml_X9_116 ly_0 (by decide) (by decide) rfl rfl (Nat.le_of_ble_eq_true rfl) dX9_about_2 ?_
  refine P.if_ne_b (tgt := 10) dX9_about_5 (by decide) (fun c_5 => ?_) (fun c_5 => ?_)
  · refine P.aload_n dX9_about_10 rfl rfl ?_
    refine g_X9_rows (q := 2) ly_0 (by decide) (by decide) fl_X9_18 dX9_about_11 ?_
    refine g_X7_list (q := 3) ly_2 (by decide) (by decide) fl_X9_81 dX9_about_14 ?_
    refine P.iload_n dX9_about_17 rfl rfl ?_
    refine a_r6 (q := 4 + 3 * r) ly_3 (by decide) (by omega) (by decide) (rt_row (r := r) (by omega)) dX9_about_18 ?_
    refine P.astore_n dX9_about_19 rfl (by decide) ?_
    refine P.iload_n dX9_about_20 rfl rfl ?_
    refine P.tableIn (off := 27) (tgt := 48) dX9_about_21 (by decide) (by decide) rfl (by decide) ?_
    refine P.aload_n dX9_about_48 rfl rfl ?_
    refine g_X6_table (ly_row (r := r) (by omega)) (by omega) fl_X9_91 dX9_about_49 ?_
    refine Pm.topn (b := D.2.1 r 2) ((hV.2.1 r (by omega) 2)) ?_
    exact P.iret rfl dX9_about_52 rfl rfl
  · exfalso; revert c_5; decide

set_option maxRecDepth 20000 in
theorem k_about_1 {G : GG} {f : Nat → Nat → Nat} {l : Nat → Nat → Int64} {D : DB} {W : LB} {U : QB} {T : TB} {N : Nat} (hC : CI f l D W U T N) (hBW : BW D W U T) {r : Nat} (hr : r < D.1)  : Spec G mX9_about [.ref (ad G 0), .int (nI r), .int (nI 1)] 114 (f, l, refT) (some (.int (nI (D.2.1 r 3)))) 114 (f, l, refT) := by
  obtain ⟨hV, hL, hU, hT, hN, hSB⟩ := id hC
  obtain ⟨hD, hLW, hUW, hTW⟩ := id hBW
  have hR := hD.1
  have hW1 := hLW.1
  have hU1 := hUW.1
  have hJ1 := hUW.2.1
  have hb2 := (hD.2.2.2 r hr).2.2.2.1
  refine Spec.of ok_X9_about.1 ⟨Nat.le_refl _, Nat.le_refl _⟩ (Nat.le_of_ble_eq_true rfl) ?_
  show Pm G RX9 cX9_about 4 (KM G mX9_about 114 114 (some (.int (nI (D.2.1 r 3)))) (f, l, refT)) 0 [some (.ref (ad G 0)), some (.int (nI r)), some (.int (nI 1)), none] [] f l
  refine P.aload_n dX9_about_0 rfl rfl ?_
  refine P.iload_n dX9_about_1 rfl rfl ?_
  refine P.callV (As := [.int (nI r)]) (rest := []) (s_isRow_t hV hD hr) ok_X9_isRow ⟨Nat.le_of_ble_eq_true rfl, Nat.le_of_ble_eq_true rfl, Nat.le_refl _, Nat.le_refl _⟩ rfl ml_X9_116 ly_0 (by decide) (by decide) rfl rfl (Nat.le_of_ble_eq_true rfl) dX9_about_2 ?_
  refine P.if_ne_b (tgt := 10) dX9_about_5 (by decide) (fun c_5 => ?_) (fun c_5 => ?_)
  · refine P.aload_n dX9_about_10 rfl rfl ?_
    refine g_X9_rows (q := 2) ly_0 (by decide) (by decide) fl_X9_18 dX9_about_11 ?_
    refine g_X7_list (q := 3) ly_2 (by decide) (by decide) fl_X9_81 dX9_about_14 ?_
    refine P.iload_n dX9_about_17 rfl rfl ?_
    refine a_r6 (q := 4 + 3 * r) ly_3 (by decide) (by omega) (by decide) (rt_row (r := r) (by omega)) dX9_about_18 ?_
    refine P.astore_n dX9_about_19 rfl (by decide) ?_
    refine P.iload_n dX9_about_20 rfl rfl ?_
    refine P.tableIn (off := 32) (tgt := 53) dX9_about_21 (by decide) (by decide) rfl (by decide) ?_
    refine P.aload_n dX9_about_53 rfl rfl ?_
    refine g_X6_trust (ly_row (r := r) (by omega)) (by omega) fl_X9_119 dX9_about_54 ?_
    refine Pm.topn (b := D.2.1 r 3) ((hV.2.1 r (by omega) 3)) ?_
    exact P.iret rfl dX9_about_57 rfl rfl
  · exfalso; revert c_5; decide

set_option maxRecDepth 20000 in
theorem k_about_2 {G : GG} {f : Nat → Nat → Nat} {l : Nat → Nat → Int64} {D : DB} {W : LB} {U : QB} {T : TB} {N : Nat} (hC : CI f l D W U T N) (hBW : BW D W U T) {r : Nat} (hr : r < D.1)  : Spec G mX9_about [.ref (ad G 0), .int (nI r), .int (nI 2)] 114 (f, l, refT) (some (.int (nI (D.2.1 r 4)))) 114 (f, l, refT) := by
  obtain ⟨hV, hL, hU, hT, hN, hSB⟩ := id hC
  obtain ⟨hD, hLW, hUW, hTW⟩ := id hBW
  have hR := hD.1
  have hW1 := hLW.1
  have hU1 := hUW.1
  have hJ1 := hUW.2.1
  have hb2 := (hD.2.2.2 r hr).2.2.2.1
  refine Spec.of ok_X9_about.1 ⟨Nat.le_refl _, Nat.le_refl _⟩ (Nat.le_of_ble_eq_true rfl) ?_
  show Pm G RX9 cX9_about 4 (KM G mX9_about 114 114 (some (.int (nI (D.2.1 r 4)))) (f, l, refT)) 0 [some (.ref (ad G 0)), some (.int (nI r)), some (.int (nI 2)), none] [] f l
  refine P.aload_n dX9_about_0 rfl rfl ?_
  refine P.iload_n dX9_about_1 rfl rfl ?_
  refine P.callV (As := [.int (nI r)]) (rest := []) (s_isRow_t hV hD hr) ok_X9_isRow ⟨Nat.le_of_ble_eq_true rfl, Nat.le_of_ble_eq_true rfl, Nat.le_refl _, Nat.le_refl _⟩ rfl ml_X9_116 ly_0 (by decide) (by decide) rfl rfl (Nat.le_of_ble_eq_true rfl) dX9_about_2 ?_
  refine P.if_ne_b (tgt := 10) dX9_about_5 (by decide) (fun c_5 => ?_) (fun c_5 => ?_)
  · refine P.aload_n dX9_about_10 rfl rfl ?_
    refine g_X9_rows (q := 2) ly_0 (by decide) (by decide) fl_X9_18 dX9_about_11 ?_
    refine g_X7_list (q := 3) ly_2 (by decide) (by decide) fl_X9_81 dX9_about_14 ?_
    refine P.iload_n dX9_about_17 rfl rfl ?_
    refine a_r6 (q := 4 + 3 * r) ly_3 (by decide) (by omega) (by decide) (rt_row (r := r) (by omega)) dX9_about_18 ?_
    refine P.astore_n dX9_about_19 rfl (by decide) ?_
    refine P.iload_n dX9_about_20 rfl rfl ?_
    refine P.tableIn (off := 37) (tgt := 58) dX9_about_21 (by decide) (by decide) rfl (by decide) ?_
    refine P.aload_n dX9_about_58 rfl rfl ?_
    refine g_X6_kept (ly_row (r := r) (by omega)) (by omega) fl_X9_122 dX9_about_59 ?_
    refine Pm.topn (b := D.2.1 r 4) ((hV.2.1 r (by omega) 4)) ?_
    refine P.callS (As := [.int (nI (D.2.1 r 4))]) (rest := []) (s_oneIf hb2) ok_X9_oneIf ⟨Nat.le_of_ble_eq_true rfl, Nat.le_of_ble_eq_true rfl, Nat.le_refl _, Nat.le_refl _⟩ rfl ml_X9_106 rfl (Nat.le_of_ble_eq_true rfl) dX9_about_62 ?_
    exact P.iret rfl dX9_about_65 rfl rfl
  · exfalso; revert c_5; decide

set_option maxRecDepth 20000 in
theorem k_force_a {G : GG} {f : Nat → Nat → Nat} {l : Nat → Nat → Int64} {D : DB} {W : LB} {U : QB} {T : TB} {N : Nat} (hC : CI f l D W U T N) (hBW : BW D W U T) {x : Int32} (hx : inR x W.1 = false) {b : Nat} (hb : b < 2) : Spec G mX9_force [.ref (ad G 0), .int x, .int (nI b)] 114 (f, l, refT) (some (.int (-1))) 114 (f, l, refT) := by
  obtain ⟨hV, hL, hU, hT, hN, hSB⟩ := id hC
  obtain ⟨hD, hLW, hUW, hTW⟩ := id hBW
  have hR := hD.1
  have hW1 := hLW.1
  have hU1 := hUW.1
  have hJ1 := hUW.2.1
  refine Spec.of ok_X9_force.1 ⟨Nat.le_refl _, Nat.le_refl _⟩ (Nat.le_of_ble_eq_true rfl) ?_
  show Pm G RX9 cX9_force 4 (KM G mX9_force 114 114 (some (.int (-1))) (f, l, refT)) 0 [some (.ref (ad G 0)), some (.int x), some (.int (nI b)), none] [] f l
  refine P.aload_n dX9_force_0 rfl rfl ?_
  refine P.iload_n dX9_force_1 rfl rfl ?_
  refine P.callV (As := [.int x]) (rest := []) (s_isLaw_f hL hLW hx) ok_X9_isLaw ⟨Nat.le_of_ble_eq_true rfl, Nat.le_of_ble_eq_true rfl, Nat.le_refl _, Nat.le_refl _⟩ rfl ml_X9_154 ly_0 (by decide) (by decide) rfl rfl (Nat.le_of_ble_eq_true rfl) dX9_force_2 ?_
  refine P.if_ne_b (tgt := 10) dX9_force_5 (by decide) (fun c_5 => ?_) (fun c_5 => ?_)
  · exfalso; revert c_5; decide
  refine P.iconst (v := -1) dX9_force_8 rfl ?_
  exact P.iret rfl dX9_force_9 rfl rfl

set_option maxRecDepth 20000 in
theorem k_force_b {G : GG} {f : Nat → Nat → Nat} {l : Nat → Nat → Int64} {D : DB} {W : LB} {U : QB} {T : TB} {N : Nat} (hC : CI f l D W U T N) (hBW : BW D W U T) {r : Nat} (hr : r < W.1) {b : Nat} (hb : b < 2) : Spec G mX9_force [.ref (ad G 0), .int (nI r), .int (nI b)] 114 (f, l, refT) (some (.int (nI (W.2.1 r 7)))) 114 (uf f (43 + r) 7 b, l, refT) := by
  obtain ⟨hV, hL, hU, hT, hN, hSB⟩ := id hC
  obtain ⟨hD, hLW, hUW, hTW⟩ := id hBW
  have hR := hD.1
  have hW1 := hLW.1
  have hU1 := hUW.1
  have hJ1 := hUW.2.1
  have hb2 := (hLW.2 r hr).2.2.2.2.2
  refine Spec.of ok_X9_force.1 ⟨Nat.le_refl _, Nat.le_refl _⟩ (Nat.le_of_ble_eq_true rfl) ?_
  show Pm G RX9 cX9_force 4 (KM G mX9_force 114 114 (some (.int (nI (W.2.1 r 7)))) (uf f (43 + r) 7 b, l, refT)) 0 [some (.ref (ad G 0)), some (.int (nI r)), some (.int (nI b)), none] [] f l
  refine P.aload_n dX9_force_0 rfl rfl ?_
  refine P.iload_n dX9_force_1 rfl rfl ?_
  refine P.callV (As := [.int (nI r)]) (rest := []) (s_isLaw_t hL hLW hr) ok_X9_isLaw ⟨Nat.le_of_ble_eq_true rfl, Nat.le_of_ble_eq_true rfl, Nat.le_refl _, Nat.le_refl _⟩ rfl ml_X9_154 ly_0 (by decide) (by decide) rfl rfl (Nat.le_of_ble_eq_true rfl) dX9_force_2 ?_
  refine P.if_ne_b (tgt := 10) dX9_force_5 (by decide) (fun c_5 => ?_) (fun c_5 => ?_)
  · refine P.aload_n dX9_force_10 rfl rfl ?_
    refine g_X9_laws (q := 40) ly_0 (by decide) (by decide) fl_X9_27 dX9_force_11 ?_
    refine g_X2_list (q := 41) ly_40 (by decide) (by decide) fl_X9_157 dX9_force_14 ?_
    refine P.iload_n dX9_force_17 rfl rfl ?_
    refine a_r1 (q := 43 + r) ly_41 (by decide) (by omega) (by decide) (rt_law (r := r) (by omega)) dX9_force_18 ?_
    refine g_X1_inForce (ly_law (r := r) (by omega)) (by omega) fl_X9_160 dX9_force_19 ?_
    refine Pm.topn (b := W.2.1 r 7) ((hL.2.1 r (by omega) 7)) ?_
    refine P.callS (As := [.int (nI (W.2.1 r 7))]) (rest := []) (s_oneIf hb2) ok_X9_oneIf ⟨Nat.le_of_ble_eq_true rfl, Nat.le_of_ble_eq_true rfl, Nat.le_refl _, Nat.le_refl _⟩ rfl ml_X9_106 rfl (Nat.le_of_ble_eq_true rfl) dX9_force_22 ?_
    refine P.istore_n dX9_force_25 rfl (by decide) ?_
    refine P.aload_n dX9_force_26 rfl rfl ?_
    refine g_X9_laws (q := 40) ly_0 (by decide) (by decide) fl_X9_27 dX9_force_27 ?_
    refine g_X2_list (q := 41) ly_40 (by decide) (by decide) fl_X9_157 dX9_force_30 ?_
    refine P.iload_n dX9_force_33 rfl rfl ?_
    refine a_r1 (q := 43 + r) ly_41 (by decide) (by omega) (by decide) (rt_law (r := r) (by omega)) dX9_force_34 ?_
    refine P.iload_n dX9_force_35 rfl rfl ?_
    refine p_X1_inForce (a := b) (ly_law (r := r) (by omega)) (by omega) fl_X9_160 dX9_force_36 rfl (by omega) ?_
    refine P.iload_n dX9_force_39 rfl rfl ?_
    exact P.iret rfl dX9_force_40 rfl rfl
  · exfalso; revert c_5; decide

set_option maxRecDepth 20000 in
theorem k_most_a {G : GG} {f : Nat → Nat → Nat} {l : Nat → Nat → Int64} {D : DB} {W : LB} {U : QB} {T : TB} {N : Nat} (hC : CI f l D W U T N) (hBW : BW D W U T) {x : Int32} (hx : inR x W.1 = false)  : Spec G mX9_most [.ref (ad G 0), .int x] 114 (f, l, refT) (some (.long (-1))) 114 (f, l, refT) := by
  obtain ⟨hV, hL, hU, hT, hN, hSB⟩ := id hC
  obtain ⟨hD, hLW, hUW, hTW⟩ := id hBW
  have hR := hD.1
  have hW1 := hLW.1
  have hU1 := hUW.1
  have hJ1 := hUW.2.1
  refine Spec.of ok_X9_most.1 ⟨Nat.le_refl _, Nat.le_refl _⟩ (Nat.le_of_ble_eq_true rfl) ?_
  show Pm G RX9 cX9_most 2 (KM G mX9_most 114 114 (some (.long (-1))) (f, l, refT)) 0 [some (.ref (ad G 0)), some (.int x)] [] f l
  refine P.aload_n dX9_most_0 rfl rfl ?_
  refine P.iload_n dX9_most_1 rfl rfl ?_
  refine P.callV (As := [.int x]) (rest := []) (s_isLaw_f hL hLW hx) ok_X9_isLaw ⟨Nat.le_of_ble_eq_true rfl, Nat.le_of_ble_eq_true rfl, Nat.le_refl _, Nat.le_refl _⟩ rfl ml_X9_154 ly_0 (by decide) (by decide) rfl rfl (Nat.le_of_ble_eq_true rfl) dX9_most_2 ?_
  refine P.if_ne_b (tgt := 12) dX9_most_5 (by decide) (fun c_5 => ?_) (fun c_5 => ?_)
  · exfalso; revert c_5; decide
  refine P.ldc2 dX9_most_8 co_X9_163 ?_
  exact P.lret rfl dX9_most_11 rfl rfl

set_option maxRecDepth 20000 in
theorem k_most_b {G : GG} {f : Nat → Nat → Nat} {l : Nat → Nat → Int64} {D : DB} {W : LB} {U : QB} {T : TB} {N : Nat} (hC : CI f l D W U T N) (hBW : BW D W U T) {r : Nat} (hr : r < W.1) (hk : W.2.1 r 0 ≠ 4) : Spec G mX9_most [.ref (ad G 0), .int (nI r)] 114 (f, l, refT) (some (.long (-13))) 114 (uf f 0 5 (N + 1), l, refT) := by
  obtain ⟨hV, hL, hU, hT, hN, hSB⟩ := id hC
  obtain ⟨hD, hLW, hUW, hTW⟩ := id hBW
  have hR := hD.1
  have hW1 := hLW.1
  have hU1 := hUW.1
  have hJ1 := hUW.2.1
  obtain ⟨w0, w1, w2, w3, w4, w7⟩ := hLW.2 r hr
  refine Spec.of ok_X9_most.1 ⟨Nat.le_refl _, Nat.le_refl _⟩ (Nat.le_of_ble_eq_true rfl) ?_
  show Pm G RX9 cX9_most 2 (KM G mX9_most 114 114 (some (.long (-13))) (uf f 0 5 (N + 1), l, refT)) 0 [some (.ref (ad G 0)), some (.int (nI r))] [] f l
  refine P.aload_n dX9_most_0 rfl rfl ?_
  refine P.iload_n dX9_most_1 rfl rfl ?_
  refine P.callV (As := [.int (nI r)]) (rest := []) (s_isLaw_t hL hLW hr) ok_X9_isLaw ⟨Nat.le_of_ble_eq_true rfl, Nat.le_of_ble_eq_true rfl, Nat.le_refl _, Nat.le_refl _⟩ rfl ml_X9_154 ly_0 (by decide) (by decide) rfl rfl (Nat.le_of_ble_eq_true rfl) dX9_most_2 ?_
  refine P.if_ne_b (tgt := 12) dX9_most_5 (by decide) (fun c_5 => ?_) (fun c_5 => ?_)
  · refine P.aload_n dX9_most_12 rfl rfl ?_
    refine g_X9_laws (q := 40) ly_0 (by decide) (by decide) fl_X9_27 dX9_most_13 ?_
    refine g_X2_list (q := 41) ly_40 (by decide) (by decide) fl_X9_157 dX9_most_16 ?_
    refine P.iload_n dX9_most_19 rfl rfl ?_
    refine a_r1 (q := 43 + r) ly_41 (by decide) (by omega) (by decide) (rt_law (r := r) (by omega)) dX9_most_20 ?_
    refine g_X1_kind (ly_law (r := r) (by omega)) (by omega) fl_X9_165 dX9_most_21 ?_
    refine Pm.topn (b := W.2.1 r 0) ((hL.2.1 r (by omega) 0)) ?_
    refine P.iconst dX9_most_24 ic_4 ?_
    refine P.icmp_eq_n (tgt := 36) dX9_most_25 (by decide) (by omega) (by omega) (fun c_25 => ?_) (fun c_25 => ?_)
    · exfalso; omega
    refine P.aload_n dX9_most_28 rfl rfl ?_
    refine P.bipush (v := -13) dX9_most_29 rfl ?_
    refine P.callV (As := [.int (-13)]) (rest := []) (s_found hN) ok_X9_found ⟨Nat.le_of_ble_eq_true rfl, Nat.le_of_ble_eq_true rfl, Nat.le_refl _, Nat.le_refl _⟩ rfl ml_X9_48 ly_0 (by decide) (by decide) rfl rfl (Nat.le_of_ble_eq_true rfl) dX9_most_31 ?_
    refine P.i2l dX9_most_34 rfl ?_
    exact P.lret rfl dX9_most_35 rfl rfl
  · exfalso; revert c_5; decide

set_option maxRecDepth 20000 in
theorem k_most_c {G : GG} {f : Nat → Nat → Nat} {l : Nat → Nat → Int64} {D : DB} {W : LB} {U : QB} {T : TB} {N : Nat} (hC : CI f l D W U T N) (hBW : BW D W U T) {r : Nat} (hr : r < W.1) (hk : W.2.1 r 0 = 4) : Spec G mX9_most [.ref (ad G 0), .int (nI r)] 114 (f, l, refT) (some (.long (W.2.2 r 5))) 114 (f, l, refT) := by
  obtain ⟨hV, hL, hU, hT, hN, hSB⟩ := id hC
  obtain ⟨hD, hLW, hUW, hTW⟩ := id hBW
  have hR := hD.1
  have hW1 := hLW.1
  have hU1 := hUW.1
  have hJ1 := hUW.2.1
  obtain ⟨w0, w1, w2, w3, w4, w7⟩ := hLW.2 r hr
  refine Spec.of ok_X9_most.1 ⟨Nat.le_refl _, Nat.le_refl _⟩ (Nat.le_of_ble_eq_true rfl) ?_
  show Pm G RX9 cX9_most 2 (KM G mX9_most 114 114 (some (.long (W.2.2 r 5))) (f, l, refT)) 0 [some (.ref (ad G 0)), some (.int (nI r))] [] f l
  refine P.aload_n dX9_most_0 rfl rfl ?_
  refine P.iload_n dX9_most_1 rfl rfl ?_
  refine P.callV (As := [.int (nI r)]) (rest := []) (s_isLaw_t hL hLW hr) ok_X9_isLaw ⟨Nat.le_of_ble_eq_true rfl, Nat.le_of_ble_eq_true rfl, Nat.le_refl _, Nat.le_refl _⟩ rfl ml_X9_154 ly_0 (by decide) (by decide) rfl rfl (Nat.le_of_ble_eq_true rfl) dX9_most_2 ?_
  refine P.if_ne_b (tgt := 12) dX9_most_5 (by decide) (fun c_5 => ?_) (fun c_5 => ?_)
  · refine P.aload_n dX9_most_12 rfl rfl ?_
    refine g_X9_laws (q := 40) ly_0 (by decide) (by decide) fl_X9_27 dX9_most_13 ?_
    refine g_X2_list (q := 41) ly_40 (by decide) (by decide) fl_X9_157 dX9_most_16 ?_
    refine P.iload_n dX9_most_19 rfl rfl ?_
    refine a_r1 (q := 43 + r) ly_41 (by decide) (by omega) (by decide) (rt_law (r := r) (by omega)) dX9_most_20 ?_
    refine g_X1_kind (ly_law (r := r) (by omega)) (by omega) fl_X9_165 dX9_most_21 ?_
    refine Pm.topn (b := W.2.1 r 0) ((hL.2.1 r (by omega) 0)) ?_
    refine P.iconst dX9_most_24 ic_4 ?_
    refine P.icmp_eq_n (tgt := 36) dX9_most_25 (by decide) (by omega) (by omega) (fun c_25 => ?_) (fun c_25 => ?_)
    · refine P.aload_n dX9_most_36 rfl rfl ?_
      refine g_X9_laws (q := 40) ly_0 (by decide) (by decide) fl_X9_27 dX9_most_37 ?_
      refine g_X2_list (q := 41) ly_40 (by decide) (by decide) fl_X9_157 dX9_most_40 ?_
      refine P.iload_n dX9_most_43 rfl rfl ?_
      refine a_r1 (q := 43 + r) ly_41 (by decide) (by omega) (by decide) (rt_law (r := r) (by omega)) dX9_most_44 ?_
      refine g_X1_c (ly_law (r := r) (by omega)) (by omega) fl_X9_144 dX9_most_45 ?_
      refine Pm.topl (b := W.2.2 r 5) ((hL.2.2 r (by omega) 5)) ?_
      exact P.lret rfl dX9_most_48 rfl rfl
    · exfalso; omega
  · exfalso; revert c_5; decide

set_option maxRecDepth 20000 in
theorem k_ask {G : GG} {f : Nat → Nat → Nat} {l : Nat → Nat → Int64} {D : DB} {W : LB} {U : QB} {T : TB} {N : Nat} (hC : CI f l D W U T N) (hBW : BW D W U T)  : Spec G mX9_ask [.ref (ad G 0)] 114 (f, l, refT) (some (.int (nI U.1))) 114 (uf (uf f 57 2 0) 57 4 0, l, refT) := by
  obtain ⟨hV, hL, hU, hT, hN, hSB⟩ := id hC
  obtain ⟨hD, hLW, hUW, hTW⟩ := id hBW
  have hR := hD.1
  have hW1 := hLW.1
  have hU1 := hUW.1
  have hJ1 := hUW.2.1
  refine Spec.of ok_X9_ask.1 ⟨Nat.le_refl _, Nat.le_refl _⟩ (Nat.le_of_ble_eq_true rfl) ?_
  show Pm G RX9 cX9_ask 2 (KM G mX9_ask 114 114 (some (.int (nI U.1))) (uf (uf f 57 2 0) 57 4 0, l, refT)) 0 [some (.ref (ad G 0)), none] [] f l
  refine P.aload_n dX9_ask_0 rfl rfl ?_
  refine g_X9_question (q := 57) ly_0 (by decide) (by decide) fl_X9_43 dX9_ask_1 ?_
  refine g_X5_manyParts ly_57 (by decide) fl_X9_219 dX9_ask_4 ?_
  refine Pm.topn (b := U.1) (hU.1) ?_
  refine P.istore_n dX9_ask_7 rfl (by decide) ?_
  refine P.aload_n dX9_ask_8 rfl rfl ?_
  refine g_X9_question (q := 57) ly_0 (by decide) (by decide) fl_X9_43 dX9_ask_9 ?_
  refine P.callV (As := []) (rest := []) (s_qclear) ok_X5_clear ⟨Nat.le_of_ble_eq_true rfl, Nat.le_of_ble_eq_true rfl, Nat.le_refl _, Nat.le_refl _⟩ rfl ml_X9_222 ly_57 (by decide) (by decide) rfl rfl (Nat.le_of_ble_eq_true rfl) dX9_ask_12 ?_
  refine P.iload_n dX9_ask_15 rfl rfl ?_
  exact P.iret rfl dX9_ask_16 rfl rfl

set_option maxRecDepth 20000 in
theorem k_part_a {G : GG} {f : Nat → Nat → Nat} {l : Nat → Nat → Int64} {D : DB} {W : LB} {U : QB} {T : TB} {N : Nat} (hC : CI f l D W U T N) (hBW : BW D W U T) {x : Int32} (hx : inR x 4 = false)  : Spec G mX9_part [.ref (ad G 0), .int x] 114 (f, l, refT) (some (.int (-12))) 114 (uf f 0 5 (N + 1), l, refT) := by
  obtain ⟨hV, hL, hU, hT, hN, hSB⟩ := id hC
  obtain ⟨hD, hLW, hUW, hTW⟩ := id hBW
  have hR := hD.1
  have hW1 := hLW.1
  have hU1 := hUW.1
  have hJ1 := hUW.2.1
  refine Spec.of ok_X9_part.1 ⟨Nat.le_refl _, Nat.le_refl _⟩ (Nat.le_of_ble_eq_true rfl) ?_
  show Pm G RX9 cX9_part 3 (KM G mX9_part 114 114 (some (.int (-12))) (uf f 0 5 (N + 1), l, refT)) 0 [some (.ref (ad G 0)), some (.int x), none] [] f l
  refine P.aload_n dX9_part_0 rfl rfl ?_
  refine P.iload_n dX9_part_1 rfl rfl ?_
  refine P.callV (As := [.int x]) (rest := []) (s_fTab_out hN hx) ok_X9_faultOfTable ⟨Nat.le_of_ble_eq_true rfl, Nat.le_of_ble_eq_true rfl, Nat.le_refl _, Nat.le_refl _⟩ rfl ml_X9_64 ly_0 (by decide) (by decide) rfl rfl (Nat.le_of_ble_eq_true rfl) dX9_part_2 ?_
  refine P.istore_n dX9_part_5 rfl (by decide) ?_
  refine P.iload_n dX9_part_6 rfl rfl ?_
  refine P.if_eq_z (tgt := 12) dX9_part_7 (by decide) rfl (fun c_7 => ?_) (fun c_7 => ?_)
  · exfalso; revert c_7; decide
  refine P.iload_n dX9_part_10 rfl rfl ?_
  exact P.iret rfl dX9_part_11 rfl rfl

set_option maxRecDepth 20000 in
theorem k_part_b {G : GG} {f : Nat → Nat → Nat} {l : Nat → Nat → Int64} {D : DB} {W : LB} {U : QB} {T : TB} {N : Nat} (hC : CI f l D W U T N) (hBW : BW D W U T) {t : Nat} (ht : t < 4) (h0 : T.1 t = 0)  : Spec G mX9_part [.ref (ad G 0), .int (nI t)] 114 (f, l, refT) (some (.int (-11))) 114 (uf f 0 5 (N + 1), l, refT) := by
  obtain ⟨hV, hL, hU, hT, hN, hSB⟩ := id hC
  obtain ⟨hD, hLW, hUW, hTW⟩ := id hBW
  have hR := hD.1
  have hW1 := hLW.1
  have hU1 := hUW.1
  have hJ1 := hUW.2.1
  refine Spec.of ok_X9_part.1 ⟨Nat.le_refl _, Nat.le_refl _⟩ (Nat.le_of_ble_eq_true rfl) ?_
  show Pm G RX9 cX9_part 3 (KM G mX9_part 114 114 (some (.int (-11))) (uf f 0 5 (N + 1), l, refT)) 0 [some (.ref (ad G 0)), some (.int (nI t)), none] [] f l
  refine P.aload_n dX9_part_0 rfl rfl ?_
  refine P.iload_n dX9_part_1 rfl rfl ?_
  refine P.callV (As := [.int (nI t)]) (rest := []) (s_fTab_null hT hTW hN ht h0) ok_X9_faultOfTable ⟨Nat.le_of_ble_eq_true rfl, Nat.le_of_ble_eq_true rfl, Nat.le_refl _, Nat.le_refl _⟩ rfl ml_X9_64 ly_0 (by decide) (by decide) rfl rfl (Nat.le_of_ble_eq_true rfl) dX9_part_2 ?_
  refine P.istore_n dX9_part_5 rfl (by decide) ?_
  refine P.iload_n dX9_part_6 rfl rfl ?_
  refine P.if_eq_z (tgt := 12) dX9_part_7 (by decide) rfl (fun c_7 => ?_) (fun c_7 => ?_)
  · exfalso; revert c_7; decide
  refine P.iload_n dX9_part_10 rfl rfl ?_
  exact P.iret rfl dX9_part_11 rfl rfl

set_option maxRecDepth 20000 in
theorem k_part_c {G : GG} {f : Nat → Nat → Nat} {l : Nat → Nat → Int64} {D : DB} {W : LB} {U : QB} {T : TB} {N : Nat} (hC : CI f l D W U T N) (hBW : BW D W U T) {t : Nat} (ht : t < 4) (h0 : T.1 t ≠ 0) (hp : U.1 = 3) : Spec G mX9_part [.ref (ad G 0), .int (nI t)] 114 (f, l, refT) (some (.int (-4))) 114 (f, l, refT) := by
  obtain ⟨hV, hL, hU, hT, hN, hSB⟩ := id hC
  obtain ⟨hD, hLW, hUW, hTW⟩ := id hBW
  have hR := hD.1
  have hW1 := hLW.1
  have hU1 := hUW.1
  have hJ1 := hUW.2.1
  refine Spec.of ok_X9_part.1 ⟨Nat.le_refl _, Nat.le_refl _⟩ (Nat.le_of_ble_eq_true rfl) ?_
  show Pm G RX9 cX9_part 3 (KM G mX9_part 114 114 (some (.int (-4))) (f, l, refT)) 0 [some (.ref (ad G 0)), some (.int (nI t)), none] [] f l
  refine P.aload_n dX9_part_0 rfl rfl ?_
  refine P.iload_n dX9_part_1 rfl rfl ?_
  refine P.callV (As := [.int (nI t)]) (rest := []) (s_fTab_ok hT hTW ht h0) ok_X9_faultOfTable ⟨Nat.le_of_ble_eq_true rfl, Nat.le_of_ble_eq_true rfl, Nat.le_refl _, Nat.le_refl _⟩ rfl ml_X9_64 ly_0 (by decide) (by decide) rfl rfl (Nat.le_of_ble_eq_true rfl) dX9_part_2 ?_
  refine P.istore_n dX9_part_5 rfl (by decide) ?_
  refine P.iload_n dX9_part_6 rfl rfl ?_
  refine P.if_eq_n (tgt := 12) dX9_part_7 (by decide) (by omega) (fun c_7 => ?_) (fun c_7 => ?_)
  · refine P.aload_n dX9_part_12 rfl rfl ?_
    refine g_X9_question (q := 57) ly_0 (by decide) (by decide) fl_X9_43 dX9_part_13 ?_
    refine g_X5_manyParts ly_57 (by decide) fl_X9_219 dX9_part_16 ?_
    refine Pm.topn (b := U.1) (hU.1) ?_
    refine P.iconst dX9_part_19 ic_3 ?_
    refine P.icmp_lt_n (tgt := 26) dX9_part_20 (by decide) (by omega) (by omega) (fun c_20 => ?_) (fun c_20 => ?_)
    · exfalso; omega
    refine P.bipush (v := -4) dX9_part_23 rfl ?_
    exact P.iret rfl dX9_part_25 rfl rfl
  · exfalso; omega

set_option maxRecDepth 20000 in
theorem k_part_d {G : GG} {f : Nat → Nat → Nat} {l : Nat → Nat → Int64} {D : DB} {W : LB} {U : QB} {T : TB} {N : Nat} (hC : CI f l D W U T N) (hBW : BW D W U T) {t : Nat} (ht : t < 4) (h0 : T.1 t ≠ 0) (hp : U.1 < 3) : Spec G mX9_part [.ref (ad G 0), .int (nI t)] 114 (f, l, refT) (some (.int (nI U.1))) 114 (uf (unm (uf f (63 + 3 * U.1) 2 t) (64 + 3 * U.1) 6) 57 2 (U.1 + 1), l, refT) := by
  obtain ⟨hV, hL, hU, hT, hN, hSB⟩ := id hC
  obtain ⟨hD, hLW, hUW, hTW⟩ := id hBW
  have hR := hD.1
  have hW1 := hLW.1
  have hU1 := hUW.1
  have hJ1 := hUW.2.1
  refine Spec.of ok_X9_part.1 ⟨Nat.le_refl _, Nat.le_refl _⟩ (Nat.le_of_ble_eq_true rfl) ?_
  show Pm G RX9 cX9_part 3 (KM G mX9_part 114 114 (some (.int (nI U.1))) (uf (unm (uf f (63 + 3 * U.1) 2 t) (64 + 3 * U.1) 6) 57 2 (U.1 + 1), l, refT)) 0 [some (.ref (ad G 0)), some (.int (nI t)), none] [] f l
  refine P.aload_n dX9_part_0 rfl rfl ?_
  refine P.iload_n dX9_part_1 rfl rfl ?_
  refine P.callV (As := [.int (nI t)]) (rest := []) (s_fTab_ok hT hTW ht h0) ok_X9_faultOfTable ⟨Nat.le_of_ble_eq_true rfl, Nat.le_of_ble_eq_true rfl, Nat.le_refl _, Nat.le_refl _⟩ rfl ml_X9_64 ly_0 (by decide) (by decide) rfl rfl (Nat.le_of_ble_eq_true rfl) dX9_part_2 ?_
  refine P.istore_n dX9_part_5 rfl (by decide) ?_
  refine P.iload_n dX9_part_6 rfl rfl ?_
  refine P.if_eq_n (tgt := 12) dX9_part_7 (by decide) (by omega) (fun c_7 => ?_) (fun c_7 => ?_)
  · refine P.aload_n dX9_part_12 rfl rfl ?_
    refine g_X9_question (q := 57) ly_0 (by decide) (by decide) fl_X9_43 dX9_part_13 ?_
    refine g_X5_manyParts ly_57 (by decide) fl_X9_219 dX9_part_16 ?_
    refine Pm.topn (b := U.1) (hU.1) ?_
    refine P.iconst dX9_part_19 ic_3 ?_
    refine P.icmp_lt_n (tgt := 26) dX9_part_20 (by decide) (by omega) (by omega) (fun c_20 => ?_) (fun c_20 => ?_)
    · refine P.aload_n dX9_part_26 rfl rfl ?_
      refine g_X9_question (q := 57) ly_0 (by decide) (by decide) fl_X9_43 dX9_part_27 ?_
      refine P.iload_n dX9_part_30 rfl rfl ?_
      refine P.callV (As := [.int (nI t)]) (rest := []) (s_addPart hU hp) ok_X5_addPart ⟨Nat.le_of_ble_eq_true rfl, Nat.le_of_ble_eq_true rfl, Nat.le_refl _, Nat.le_refl _⟩ rfl ml_X9_225 ly_57 (by decide) (by decide) rfl rfl (Nat.le_of_ble_eq_true rfl) dX9_part_31 ?_
      exact P.iret rfl dX9_part_34 rfl rfl
    · exfalso; omega
  · exfalso; omega

set_option maxRecDepth 20000 in
theorem k_tell_a {G : GG} {f : Nat → Nat → Nat} {l : Nat → Nat → Int64} {D : DB} {W : LB} {U : QB} {T : TB} {N : Nat} (hC : CI f l D W U T N) (hBW : BW D W U T) {x : Int32} (hx : inR x U.1 = false) {y : Int32} {v : Int64} : Spec G mX9_tell [.ref (ad G 0), .int x, .int y, .long v] 114 (f, l, refT) (some (.int (-1))) 114 (f, l, refT) := by
  obtain ⟨hV, hL, hU, hT, hN, hSB⟩ := id hC
  obtain ⟨hD, hLW, hUW, hTW⟩ := id hBW
  have hR := hD.1
  have hW1 := hLW.1
  have hU1 := hUW.1
  have hJ1 := hUW.2.1
  refine Spec.of ok_X9_tell.1 ⟨Nat.le_refl _, Nat.le_refl _⟩ (Nat.le_of_ble_eq_true rfl) ?_
  show Pm G RX9 cX9_tell 6 (KM G mX9_tell 114 114 (some (.int (-1))) (f, l, refT)) 0 [some (.ref (ad G 0)), some (.int x), some (.int y), some (.long v), none, none] [] f l
  refine P.aload_n dX9_tell_0 rfl rfl ?_
  refine P.iload_n dX9_tell_1 rfl rfl ?_
  refine P.iload_n dX9_tell_2 rfl rfl ?_
  refine P.callV (As := [.int x, .int y]) (rest := []) (s_fPart_row hU hUW hx) ok_X9_faultOfPart ⟨Nat.le_of_ble_eq_true rfl, Nat.le_of_ble_eq_true rfl, Nat.le_refl _, Nat.le_refl _⟩ rfl ml_X9_228 ly_0 (by decide) (by decide) rfl rfl (Nat.le_of_ble_eq_true rfl) dX9_tell_3 ?_
  refine P.istore dX9_tell_6 (by decide) ?_
  refine P.iload dX9_tell_8 rfl ?_
  refine P.if_eq_z (tgt := 16) dX9_tell_10 (by decide) rfl (fun c_10 => ?_) (fun c_10 => ?_)
  · exfalso; revert c_10; decide
  refine P.iload dX9_tell_13 rfl ?_
  exact P.iret rfl dX9_tell_15 rfl rfl

set_option maxRecDepth 20000 in
theorem k_tell_b {G : GG} {f : Nat → Nat → Nat} {l : Nat → Nat → Int64} {D : DB} {W : LB} {U : QB} {T : TB} {N : Nat} (hC : CI f l D W U T N) (hBW : BW D W U T) {r : Nat} (hr : r < U.1) {y : Int32} (hy : inR y (T.1 (U.2.1 r)) = false) {v : Int64} : Spec G mX9_tell [.ref (ad G 0), .int (nI r), .int y, .long v] 114 (f, l, refT) (some (.int (-12))) 114 (uf f 0 5 (N + 1), l, refT) := by
  obtain ⟨hV, hL, hU, hT, hN, hSB⟩ := id hC
  obtain ⟨hD, hLW, hUW, hTW⟩ := id hBW
  have hR := hD.1
  have hW1 := hLW.1
  have hU1 := hUW.1
  have hJ1 := hUW.2.1
  refine Spec.of ok_X9_tell.1 ⟨Nat.le_refl _, Nat.le_refl _⟩ (Nat.le_of_ble_eq_true rfl) ?_
  show Pm G RX9 cX9_tell 6 (KM G mX9_tell 114 114 (some (.int (-12))) (uf f 0 5 (N + 1), l, refT)) 0 [some (.ref (ad G 0)), some (.int (nI r)), some (.int y), some (.long v), none, none] [] f l
  refine P.aload_n dX9_tell_0 rfl rfl ?_
  refine P.iload_n dX9_tell_1 rfl rfl ?_
  refine P.iload_n dX9_tell_2 rfl rfl ?_
  refine P.callV (As := [.int (nI r), .int y]) (rest := []) (s_fPart_col hU hUW hT hTW hN hr hy) ok_X9_faultOfPart ⟨Nat.le_of_ble_eq_true rfl, Nat.le_of_ble_eq_true rfl, Nat.le_refl _, Nat.le_refl _⟩ rfl ml_X9_228 ly_0 (by decide) (by decide) rfl rfl (Nat.le_of_ble_eq_true rfl) dX9_tell_3 ?_
  refine P.istore dX9_tell_6 (by decide) ?_
  refine P.iload dX9_tell_8 rfl ?_
  refine P.if_eq_z (tgt := 16) dX9_tell_10 (by decide) rfl (fun c_10 => ?_) (fun c_10 => ?_)
  · exfalso; revert c_10; decide
  refine P.iload dX9_tell_13 rfl ?_
  exact P.iret rfl dX9_tell_15 rfl rfl

set_option maxRecDepth 20000 in
theorem k_tell_c {G : GG} {f : Nat → Nat → Nat} {l : Nat → Nat → Int64} {D : DB} {W : LB} {U : QB} {T : TB} {N : Nat} (hC : CI f l D W U T N) (hBW : BW D W U T) {r : Nat} (hr : r < U.1) {c : Nat} (hc : c < T.1 (U.2.1 r)) {v : Int64} : Spec G mX9_tell [.ref (ad G 0), .int (nI r), .int (nI c), .long v] 114 (f, l, refT) (some (.int (nI 1))) 114 (uf f (64 + 3 * r) c 1, uf l (65 + 3 * r) c v, refT) := by
  obtain ⟨hV, hL, hU, hT, hN, hSB⟩ := id hC
  obtain ⟨hD, hLW, hUW, hTW⟩ := id hBW
  have hR := hD.1
  have hW1 := hLW.1
  have hU1 := hUW.1
  have hJ1 := hUW.2.1
  have htb : U.2.1 r < 4 := (hUW.2.2.1 r hr).1
  have htc := hTW.1 _ htb
  refine Spec.of ok_X9_tell.1 ⟨Nat.le_refl _, Nat.le_refl _⟩ (Nat.le_of_ble_eq_true rfl) ?_
  show Pm G RX9 cX9_tell 6 (KM G mX9_tell 114 114 (some (.int (nI 1))) (uf f (64 + 3 * r) c 1, uf l (65 + 3 * r) c v, refT)) 0 [some (.ref (ad G 0)), some (.int (nI r)), some (.int (nI c)), some (.long v), none, none] [] f l
  refine P.aload_n dX9_tell_0 rfl rfl ?_
  refine P.iload_n dX9_tell_1 rfl rfl ?_
  refine P.iload_n dX9_tell_2 rfl rfl ?_
  refine P.callV (As := [.int (nI r), .int (nI c)]) (rest := []) (s_fPart_ok hU hUW hT hTW hr hc) ok_X9_faultOfPart ⟨Nat.le_of_ble_eq_true rfl, Nat.le_of_ble_eq_true rfl, Nat.le_refl _, Nat.le_refl _⟩ rfl ml_X9_228 ly_0 (by decide) (by decide) rfl rfl (Nat.le_of_ble_eq_true rfl) dX9_tell_3 ?_
  refine P.istore dX9_tell_6 (by decide) ?_
  refine P.iload dX9_tell_8 rfl ?_
  refine P.if_eq_n (tgt := 16) dX9_tell_10 (by decide) (by omega) (fun c_10 => ?_) (fun c_10 => ?_)
  · refine P.aload_n dX9_tell_16 rfl rfl ?_
    refine g_X9_question (q := 57) ly_0 (by decide) (by decide) fl_X9_43 dX9_tell_17 ?_
    refine g_X5_parts (q := 58) ly_57 (by decide) (by decide) fl_X9_231 dX9_tell_20 ?_
    refine P.iload_n dX9_tell_23 rfl rfl ?_
    refine a_r4 (q := 63 + 3 * r) ly_58 (by decide) (by omega) (by decide) (rt_par (r := r) (by omega)) dX9_tell_24 ?_
    refine g_X4_told (q := 64 + 3 * r) (ly_par (r := r) (by omega)) (by omega) (rt_pto (r := r) (by omega)) fl_X9_235 dX9_tell_25 ?_
    refine P.iload_n dX9_tell_28 rfl rfl ?_
    refine P.iconst dX9_tell_29 ic_1 ?_
    refine s_za (a := 1) (ly_pto (r := r) (by omega)) (by omega) (by omega) (by decide) dX9_tell_30 rfl (by omega) ?_
    refine P.aload_n dX9_tell_31 rfl rfl ?_
    refine g_X9_question (q := 57) ly_0 (by decide) (by decide) fl_X9_43 dX9_tell_32 ?_
    refine g_X5_parts (q := 58) ly_57 (by decide) (by decide) fl_X9_231 dX9_tell_35 ?_
    refine P.iload_n dX9_tell_38 rfl rfl ?_
    refine a_r4 (q := 63 + 3 * r) ly_58 (by decide) (by omega) (by decide) (rt_par (r := r) (by omega)) dX9_tell_39 ?_
    refine g_X4_numbers (q := 65 + 3 * r) (ly_par (r := r) (by omega)) (by omega) (rt_pnu (r := r) (by omega)) fl_X9_240 dX9_tell_40 ?_
    refine P.iload_n dX9_tell_43 rfl rfl ?_
    refine P.lload_n dX9_tell_44 rfl rfl ?_
    refine s_la (ly_pnu (r := r) (by omega)) (by omega) (by omega) (by decide) dX9_tell_45 ?_
    refine P.iconst dX9_tell_46 ic_1 ?_
    exact P.iret rfl dX9_tell_47 rfl rfl
  · exfalso; omega


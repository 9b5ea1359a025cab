-- the bench's own small methods: by program (wip/whole/spec24.py)
set_option maxRecDepth 20000 in
theorem s_found {G : GG} {f : Nat → Nat → Nat} {l : Nat → Nat → Int64} {N : Nat} (hN : f 0 5 = N) {x : Int32} : Spec G mX9_found [.ref (ad G 0), .int x] 114 (f, l, refT) (some (.int x)) 114 (uf f 0 5 (N + 1), l, refT) := by
  refine Spec.of ok_X9_found.1 ⟨Nat.le_refl _, Nat.le_refl _⟩ (Nat.le_of_ble_eq_true rfl) ?_
  show Pm G RX9 cX9_found 2 (KM G mX9_found 114 114 (some (.int x)) (uf f 0 5 (N + 1), l, refT)) 0 [some (.ref (ad G 0)), some (.int x)] [] f l
  refine P.aload_n dX9_found_0 rfl rfl ?_
  refine P.dup dX9_found_1 rfl ?_
  refine g_X9_findings ly_0 (by decide) fl_X9_265 dX9_found_2 ?_
  refine Pm.topn (b := N) (hN) ?_
  refine P.iconst dX9_found_5 ic_1 ?_
  refine P.iadd_n dX9_found_6 (nI_add _ _) ?_
  refine p_X9_findings (a := (N + 1)) ly_0 (by decide) fl_X9_265 dX9_found_7 rfl ?_
  refine P.iload_n dX9_found_10 rfl rfl ?_
  exact P.iret rfl dX9_found_11 rfl rfl

set_option maxRecDepth 20000 in
theorem s_fTab_out {G : GG} {f : Nat → Nat → Nat} {l : Nat → Nat → Int64} {N : Nat} (hN : f 0 5 = N) {x : Int32} (hx : inR x 4 = false) : Spec G mX9_faultOfTable [.ref (ad G 0), .int x] 114 (f, l, refT) (some (.int (-12))) 114 (uf f 0 5 (N + 1), l, refT) := by
  have hx2 := inR_f.mp hx
  refine Spec.of ok_X9_faultOfTable.1 ⟨Nat.le_refl _, Nat.le_refl _⟩ (Nat.le_of_ble_eq_true rfl) ?_
  show Pm G RX9 cX9_faultOfTable 2 (KM G mX9_faultOfTable 114 114 (some (.int (-12))) (uf f 0 5 (N + 1), l, refT)) 0 [some (.ref (ad G 0)), some (.int x)] [] f l
  refine P.iload_n dX9_faultOfTable_0 rfl rfl ?_
  refine P.if_lt_z (tgt := 9) dX9_faultOfTable_1 (by decide) rfl (fun c_1 => ?_) (fun c_1 => ?_)
  · refine P.aload_n dX9_faultOfTable_9 rfl rfl ?_
    refine P.bipush (v := -12) dX9_faultOfTable_10 rfl ?_
    refine P.callV (As := [.int (-12)]) (rest := []) (s_found hN) ok_X9_found ⟨Nat.le_of_ble_eq_true rfl, Nat.le_of_ble_eq_true rfl, Nat.le_refl _, Nat.le_refl _⟩ rfl ml_X9_48 ly_0 (by decide) (by decide) rfl rfl (Nat.le_of_ble_eq_true rfl) dX9_faultOfTable_12 ?_
    exact P.iret rfl dX9_faultOfTable_15 rfl rfl
  refine P.iload_n dX9_faultOfTable_4 rfl rfl ?_
  refine P.iconst dX9_faultOfTable_5 ic_4 ?_
  refine P.icmp_lt_z (tgt := 16) dX9_faultOfTable_6 (by decide) rfl (zN (by omega)) (fun c_6 => ?_) (fun c_6 => ?_)
  · exfalso; omega
  refine P.aload_n dX9_faultOfTable_9 rfl rfl ?_
  refine P.bipush (v := -12) dX9_faultOfTable_10 rfl ?_
  refine P.callV (As := [.int (-12)]) (rest := []) (s_found hN) ok_X9_found ⟨Nat.le_of_ble_eq_true rfl, Nat.le_of_ble_eq_true rfl, Nat.le_refl _, Nat.le_refl _⟩ rfl ml_X9_48 ly_0 (by decide) (by decide) rfl rfl (Nat.le_of_ble_eq_true rfl) dX9_faultOfTable_12 ?_
  exact P.iret rfl dX9_faultOfTable_15 rfl rfl

set_option maxRecDepth 20000 in
theorem s_fTab_null {G : GG} {f : Nat → Nat → Nat} {l : Nat → Nat → Int64} {T : TB} (hT : TV f T) (hTW : TW T) {N : Nat} (hN : f 0 5 = N) {t : Nat} (ht : t < 4) (h0 : T.1 t = 0) : Spec G mX9_faultOfTable [.ref (ad G 0), .int (nI t)] 114 (f, l, refT) (some (.int (-11))) 114 (uf f 0 5 (N + 1), l, refT) := by
  refine Spec.of ok_X9_faultOfTable.1 ⟨Nat.le_refl _, Nat.le_refl _⟩ (Nat.le_of_ble_eq_true rfl) ?_
  show Pm G RX9 cX9_faultOfTable 2 (KM G mX9_faultOfTable 114 114 (some (.int (-11))) (uf f 0 5 (N + 1), l, refT)) 0 [some (.ref (ad G 0)), some (.int (nI t))] [] f l
  refine P.iload_n dX9_faultOfTable_0 rfl rfl ?_
  refine P.if_lt_z (tgt := 9) dX9_faultOfTable_1 (by decide) (zN (by omega)) (fun c_1 => ?_) (fun c_1 => ?_)
  · exfalso; omega
  refine P.iload_n dX9_faultOfTable_4 rfl rfl ?_
  refine P.iconst dX9_faultOfTable_5 ic_4 ?_
  refine P.icmp_lt_n (tgt := 16) dX9_faultOfTable_6 (by decide) (by omega) (by omega) (fun c_6 => ?_) (fun c_6 => ?_)
  · refine P.aload_n dX9_faultOfTable_16 rfl rfl ?_
    refine g_X9_tables (q := 1) ly_0 (by decide) (by decide) fl_X9_11 dX9_faultOfTable_17 ?_
    refine P.iload_n dX9_faultOfTable_20 rfl rfl ?_
    refine a_r8 (q := 78 + 2 * t) ly_1 (by decide) (by omega) (by decide) (rt_tab (r := t) (by omega)) dX9_faultOfTable_21 ?_
    refine g_X8_columns (ly_tab (r := t) (by omega)) (by omega) fl_X9_56 dX9_faultOfTable_22 ?_
    refine Pm.topn (b := T.1 t) ((hT.1 t (by omega))) ?_
    refine P.if_ne_n (tgt := 37) dX9_faultOfTable_25 (by decide) (by have := hTW.1 _ (by assumption); omega) (fun c_25 => ?_) (fun c_25 => ?_)
    · exfalso; omega
    refine P.aload_n dX9_faultOfTable_28 rfl rfl ?_
    refine P.bipush (v := -11) dX9_faultOfTable_29 rfl ?_
    refine P.callV (As := [.int (-11)]) (rest := []) (s_found hN) ok_X9_found ⟨Nat.le_of_ble_eq_true rfl, Nat.le_of_ble_eq_true rfl, Nat.le_refl _, Nat.le_refl _⟩ rfl ml_X9_48 ly_0 (by decide) (by decide) rfl rfl (Nat.le_of_ble_eq_true rfl) dX9_faultOfTable_31 ?_
    refine P.goto (tgt := 38) dX9_faultOfTable_34 (by decide) ?_
    exact P.iret rfl dX9_faultOfTable_38 rfl rfl
  · exfalso; omega

set_option maxRecDepth 20000 in
theorem s_fTab_ok {G : GG} {f : Nat → Nat → Nat} {l : Nat → Nat → Int64} {T : TB} (hT : TV f T) (hTW : TW T) {t : Nat} (ht : t < 4) (h0 : T.1 t ≠ 0) : Spec G mX9_faultOfTable [.ref (ad G 0), .int (nI t)] 114 (f, l, refT) (some (.int (nI 0))) 114 (f, l, refT) := by
  refine Spec.of ok_X9_faultOfTable.1 ⟨Nat.le_refl _, Nat.le_refl _⟩ (Nat.le_of_ble_eq_true rfl) ?_
  show Pm G RX9 cX9_faultOfTable 2 (KM G mX9_faultOfTable 114 114 (some (.int (nI 0))) (f, l, refT)) 0 [some (.ref (ad G 0)), some (.int (nI t))] [] f l
  refine P.iload_n dX9_faultOfTable_0 rfl rfl ?_
  refine P.if_lt_z (tgt := 9) dX9_faultOfTable_1 (by decide) (zN (by omega)) (fun c_1 => ?_) (fun c_1 => ?_)
  · exfalso; omega
  refine P.iload_n dX9_faultOfTable_4 rfl rfl ?_
  refine P.iconst dX9_faultOfTable_5 ic_4 ?_
  refine P.icmp_lt_n (tgt := 16) dX9_faultOfTable_6 (by decide) (by omega) (by omega) (fun c_6 => ?_) (fun c_6 => ?_)
  · refine P.aload_n dX9_faultOfTable_16 rfl rfl ?_
    refine g_X9_tables (q := 1) ly_0 (by decide) (by decide) fl_X9_11 dX9_faultOfTable_17 ?_
    refine P.iload_n dX9_faultOfTable_20 rfl rfl ?_
    refine a_r8 (q := 78 + 2 * t) ly_1 (by decide) (by omega) (by decide) (rt_tab (r := t) (by omega)) dX9_faultOfTable_21 ?_
    refine g_X8_columns (ly_tab (r := t) (by omega)) (by omega) fl_X9_56 dX9_faultOfTable_22 ?_
    refine Pm.topn (b := T.1 t) ((hT.1 t (by omega))) ?_
    refine P.if_ne_n (tgt := 37) dX9_faultOfTable_25 (by decide) (by have := hTW.1 _ (by assumption); omega) (fun c_25 => ?_) (fun c_25 => ?_)
    · refine P.iconst dX9_faultOfTable_37 ic_0 ?_
      exact P.iret rfl dX9_faultOfTable_38 rfl rfl
    · exfalso; omega
  · exfalso; omega

set_option maxRecDepth 20000 in
theorem s_fCol_out {G : GG} {f : Nat → Nat → Nat} {l : Nat → Nat → Int64} {T : TB} (hT : TV f T) (hTW : TW T) {N : Nat} (hN : f 0 5 = N) {t : Nat} {x : Int32} (ht : t < 4) (hx : inR x (T.1 t) = false) : Spec G mX9_faultOfColumn [.ref (ad G 0), .int (nI t), .int x] 114 (f, l, refT) (some (.int (-12))) 114 (uf f 0 5 (N + 1), l, refT) := by
  have hx2 := inR_f.mp hx
  have ht6 := hTW.1 t ht
  refine Spec.of ok_X9_faultOfColumn.1 ⟨Nat.le_refl _, Nat.le_refl _⟩ (Nat.le_of_ble_eq_true rfl) ?_
  show Pm G RX9 cX9_faultOfColumn 3 (KM G mX9_faultOfColumn 114 114 (some (.int (-12))) (uf f 0 5 (N + 1), l, refT)) 0 [some (.ref (ad G 0)), some (.int (nI t)), some (.int x)] [] f l
  refine P.iload_n dX9_faultOfColumn_0 rfl rfl ?_
  refine P.if_lt_z (tgt := 17) dX9_faultOfColumn_1 (by decide) rfl (fun c_1 => ?_) (fun c_1 => ?_)
  · refine P.aload_n dX9_faultOfColumn_17 rfl rfl ?_
    refine P.bipush (v := -12) dX9_faultOfColumn_18 rfl ?_
    refine P.callV (As := [.int (-12)]) (rest := []) (s_found hN) ok_X9_found ⟨Nat.le_of_ble_eq_true rfl, Nat.le_of_ble_eq_true rfl, Nat.le_refl _, Nat.le_refl _⟩ rfl ml_X9_48 ly_0 (by decide) (by decide) rfl rfl (Nat.le_of_ble_eq_true rfl) dX9_faultOfColumn_20 ?_
    refine P.goto (tgt := 27) dX9_faultOfColumn_23 (by decide) ?_
    exact P.iret rfl dX9_faultOfColumn_27 rfl rfl
  refine P.iload_n dX9_faultOfColumn_4 rfl rfl ?_
  refine P.aload_n dX9_faultOfColumn_5 rfl rfl ?_
  refine g_X9_tables (q := 1) ly_0 (by decide) (by decide) fl_X9_11 dX9_faultOfColumn_6 ?_
  refine P.iload_n dX9_faultOfColumn_9 rfl rfl ?_
  refine a_r8 (q := 78 + 2 * t) ly_1 (by decide) (by omega) (by decide) (rt_tab (r := t) (by omega)) dX9_faultOfColumn_10 ?_
  refine g_X8_columns (ly_tab (r := t) (by omega)) (by omega) fl_X9_56 dX9_faultOfColumn_11 ?_
  refine Pm.topn (b := T.1 t) ((hT.1 t (by omega))) ?_
  refine P.icmp_lt_z (tgt := 26) dX9_faultOfColumn_14 (by decide) rfl (zN (by omega)) (fun c_14 => ?_) (fun c_14 => ?_)
  · exfalso; omega
  refine P.aload_n dX9_faultOfColumn_17 rfl rfl ?_
  refine P.bipush (v := -12) dX9_faultOfColumn_18 rfl ?_
  refine P.callV (As := [.int (-12)]) (rest := []) (s_found hN) ok_X9_found ⟨Nat.le_of_ble_eq_true rfl, Nat.le_of_ble_eq_true rfl, Nat.le_refl _, Nat.le_refl _⟩ rfl ml_X9_48 ly_0 (by decide) (by decide) rfl rfl (Nat.le_of_ble_eq_true rfl) dX9_faultOfColumn_20 ?_
  refine P.goto (tgt := 27) dX9_faultOfColumn_23 (by decide) ?_
  exact P.iret rfl dX9_faultOfColumn_27 rfl rfl

set_option maxRecDepth 20000 in
theorem s_fCol_ok {G : GG} {f : Nat → Nat → Nat} {l : Nat → Nat → Int64} {T : TB} (hT : TV f T) (hTW : TW T) {t c : Nat} (ht : t < 4) (hc : c < T.1 t) : Spec G mX9_faultOfColumn [.ref (ad G 0), .int (nI t), .int (nI c)] 114 (f, l, refT) (some (.int (nI 0))) 114 (f, l, refT) := by
  have ht6 := hTW.1 t ht
  refine Spec.of ok_X9_faultOfColumn.1 ⟨Nat.le_refl _, Nat.le_refl _⟩ (Nat.le_of_ble_eq_true rfl) ?_
  show Pm G RX9 cX9_faultOfColumn 3 (KM G mX9_faultOfColumn 114 114 (some (.int (nI 0))) (f, l, refT)) 0 [some (.ref (ad G 0)), some (.int (nI t)), some (.int (nI c))] [] f l
  refine P.iload_n dX9_faultOfColumn_0 rfl rfl ?_
  refine P.if_lt_z (tgt := 17) dX9_faultOfColumn_1 (by decide) (zN (by omega)) (fun c_1 => ?_) (fun c_1 => ?_)
  · exfalso; omega
  refine P.iload_n dX9_faultOfColumn_4 rfl rfl ?_
  refine P.aload_n dX9_faultOfColumn_5 rfl rfl ?_
  refine g_X9_tables (q := 1) ly_0 (by decide) (by decide) fl_X9_11 dX9_faultOfColumn_6 ?_
  refine P.iload_n dX9_faultOfColumn_9 rfl rfl ?_
  refine a_r8 (q := 78 + 2 * t) ly_1 (by decide) (by omega) (by decide) (rt_tab (r := t) (by omega)) dX9_faultOfColumn_10 ?_
  refine g_X8_columns (ly_tab (r := t) (by omega)) (by omega) fl_X9_56 dX9_faultOfColumn_11 ?_
  refine Pm.topn (b := T.1 t) ((hT.1 t (by omega))) ?_
  refine P.icmp_lt_n (tgt := 26) dX9_faultOfColumn_14 (by decide) (by omega) (by have := hTW.1 _ (by assumption); omega) (fun c_14 => ?_) (fun c_14 => ?_)
  · refine P.iconst dX9_faultOfColumn_26 ic_0 ?_
    exact P.iret rfl dX9_faultOfColumn_27 rfl rfl
  · exfalso; omega

set_option maxRecDepth 20000 in
theorem s_fCin_out {G : GG} {f : Nat → Nat → Nat} {l : Nat → Nat → Int64} {N : Nat} (hN : f 0 5 = N) {x y : Int32} (hx : inR x 4 = false) : Spec G mX9_faultOfColumnIn [.ref (ad G 0), .int x, .int y] 114 (f, l, refT) (some (.int (-12))) 114 (uf f 0 5 (N + 1), l, refT) := by
  refine Spec.of ok_X9_faultOfColumnIn.1 ⟨Nat.le_refl _, Nat.le_refl _⟩ (Nat.le_of_ble_eq_true rfl) ?_
  show Pm G RX9 cX9_faultOfColumnIn 4 (KM G mX9_faultOfColumnIn 114 114 (some (.int (-12))) (uf f 0 5 (N + 1), l, refT)) 0 [some (.ref (ad G 0)), some (.int x), some (.int y), none] [] f l
  refine P.aload_n dX9_faultOfColumnIn_0 rfl rfl ?_
  refine P.iload_n dX9_faultOfColumnIn_1 rfl rfl ?_
  refine P.callV (As := [.int x]) (rest := []) (s_fTab_out hN hx) ok_X9_faultOfTable ⟨Nat.le_of_ble_eq_true rfl, Nat.le_of_ble_eq_true rfl, Nat.le_refl _, Nat.le_refl _⟩ rfl ml_X9_64 ly_0 (by decide) (by decide) rfl rfl (Nat.le_of_ble_eq_true rfl) dX9_faultOfColumnIn_2 ?_
  refine P.istore_n dX9_faultOfColumnIn_5 rfl (by decide) ?_
  refine P.iload_n dX9_faultOfColumnIn_6 rfl rfl ?_
  refine P.if_eq_z (tgt := 14) dX9_faultOfColumnIn_7 (by decide) rfl (fun c_7 => ?_) (fun c_7 => ?_)
  · exfalso; revert c_7; decide
  refine P.iload_n dX9_faultOfColumnIn_10 rfl rfl ?_
  refine P.goto (tgt := 20) dX9_faultOfColumnIn_11 (by decide) ?_
  exact P.iret rfl dX9_faultOfColumnIn_20 rfl rfl

set_option maxRecDepth 20000 in
theorem s_fCin_null {G : GG} {f : Nat → Nat → Nat} {l : Nat → Nat → Int64} {T : TB} (hT : TV f T) (hTW : TW T) {N : Nat} (hN : f 0 5 = N) {t : Nat} {y : Int32} (ht : t < 4) (h0 : T.1 t = 0) : Spec G mX9_faultOfColumnIn [.ref (ad G 0), .int (nI t), .int y] 114 (f, l, refT) (some (.int (-11))) 114 (uf f 0 5 (N + 1), l, refT) := by
  refine Spec.of ok_X9_faultOfColumnIn.1 ⟨Nat.le_refl _, Nat.le_refl _⟩ (Nat.le_of_ble_eq_true rfl) ?_
  show Pm G RX9 cX9_faultOfColumnIn 4 (KM G mX9_faultOfColumnIn 114 114 (some (.int (-11))) (uf f 0 5 (N + 1), l, refT)) 0 [some (.ref (ad G 0)), some (.int (nI t)), some (.int y), none] [] f l
  refine P.aload_n dX9_faultOfColumnIn_0 rfl rfl ?_
  refine P.iload_n dX9_faultOfColumnIn_1 rfl rfl ?_
  refine P.callV (As := [.int (nI t)]) (rest := []) (s_fTab_null hT hTW hN ht h0) ok_X9_faultOfTable ⟨Nat.le_of_ble_eq_true rfl, Nat.le_of_ble_eq_true rfl, Nat.le_refl _, Nat.le_refl _⟩ rfl ml_X9_64 ly_0 (by decide) (by decide) rfl rfl (Nat.le_of_ble_eq_true rfl) dX9_faultOfColumnIn_2 ?_
  refine P.istore_n dX9_faultOfColumnIn_5 rfl (by decide) ?_
  refine P.iload_n dX9_faultOfColumnIn_6 rfl rfl ?_
  refine P.if_eq_z (tgt := 14) dX9_faultOfColumnIn_7 (by decide) rfl (fun c_7 => ?_) (fun c_7 => ?_)
  · exfalso; revert c_7; decide
  refine P.iload_n dX9_faultOfColumnIn_10 rfl rfl ?_
  refine P.goto (tgt := 20) dX9_faultOfColumnIn_11 (by decide) ?_
  exact P.iret rfl dX9_faultOfColumnIn_20 rfl rfl

set_option maxRecDepth 20000 in
theorem s_fCin_col {G : GG} {f : Nat → Nat → Nat} {l : Nat → Nat → Int64} {T : TB} (hT : TV f T) (hTW : TW T) {N : Nat} (hN : f 0 5 = N) {t : Nat} {y : Int32} (ht : t < 4) (h0 : T.1 t ≠ 0) (hy : inR y (T.1 t) = false) : Spec G mX9_faultOfColumnIn [.ref (ad G 0), .int (nI t), .int y] 114 (f, l, refT) (some (.int (-12))) 114 (uf f 0 5 (N + 1), l, refT) := by
  refine Spec.of ok_X9_faultOfColumnIn.1 ⟨Nat.le_refl _, Nat.le_refl _⟩ (Nat.le_of_ble_eq_true rfl) ?_
  show Pm G RX9 cX9_faultOfColumnIn 4 (KM G mX9_faultOfColumnIn 114 114 (some (.int (-12))) (uf f 0 5 (N + 1), l, refT)) 0 [some (.ref (ad G 0)), some (.int (nI t)), some (.int y), none] [] f l
  refine P.aload_n dX9_faultOfColumnIn_0 rfl rfl ?_
  refine P.iload_n dX9_faultOfColumnIn_1 rfl rfl ?_
  refine P.callV (As := [.int (nI t)]) (rest := []) (s_fTab_ok hT hTW ht h0) ok_X9_faultOfTable ⟨Nat.le_of_ble_eq_true rfl, Nat.le_of_ble_eq_true rfl, Nat.le_refl _, Nat.le_refl _⟩ rfl ml_X9_64 ly_0 (by decide) (by decide) rfl rfl (Nat.le_of_ble_eq_true rfl) dX9_faultOfColumnIn_2 ?_
  refine P.istore_n dX9_faultOfColumnIn_5 rfl (by decide) ?_
  refine P.iload_n dX9_faultOfColumnIn_6 rfl rfl ?_
  refine P.if_eq_n (tgt := 14) dX9_faultOfColumnIn_7 (by decide) (by omega) (fun c_7 => ?_) (fun c_7 => ?_)
  · refine P.aload_n dX9_faultOfColumnIn_14 rfl rfl ?_
    refine P.iload_n dX9_faultOfColumnIn_15 rfl rfl ?_
    refine P.iload_n dX9_faultOfColumnIn_16 rfl rfl ?_
    refine P.callV (As := [.int (nI t), .int y]) (rest := []) (s_fCol_out hT hTW hN ht hy) ok_X9_faultOfColumn ⟨Nat.le_of_ble_eq_true rfl, Nat.le_of_ble_eq_true rfl, Nat.le_refl _, Nat.le_refl _⟩ rfl ml_X9_110 ly_0 (by decide) (by decide) rfl rfl (Nat.le_of_ble_eq_true rfl) dX9_faultOfColumnIn_17 ?_
    exact P.iret rfl dX9_faultOfColumnIn_20 rfl rfl
  · exfalso; omega

set_option maxRecDepth 20000 in
theorem s_fCin_ok {G : GG} {f : Nat → Nat → Nat} {l : Nat → Nat → Int64} {T : TB} (hT : TV f T) (hTW : TW T) {t c : Nat} (ht : t < 4) (h0 : T.1 t ≠ 0) (hc : c < T.1 t) : Spec G mX9_faultOfColumnIn [.ref (ad G 0), .int (nI t), .int (nI c)] 114 (f, l, refT) (some (.int (nI 0))) 114 (f, l, refT) := by
  refine Spec.of ok_X9_faultOfColumnIn.1 ⟨Nat.le_refl _, Nat.le_refl _⟩ (Nat.le_of_ble_eq_true rfl) ?_
  show Pm G RX9 cX9_faultOfColumnIn 4 (KM G mX9_faultOfColumnIn 114 114 (some (.int (nI 0))) (f, l, refT)) 0 [some (.ref (ad G 0)), some (.int (nI t)), some (.int (nI c)), none] [] f l
  refine P.aload_n dX9_faultOfColumnIn_0 rfl rfl ?_
  refine P.iload_n dX9_faultOfColumnIn_1 rfl rfl ?_
  refine P.callV (As := [.int (nI t)]) (rest := []) (s_fTab_ok hT hTW ht h0) ok_X9_faultOfTable ⟨Nat.le_of_ble_eq_true rfl, Nat.le_of_ble_eq_true rfl, Nat.le_refl _, Nat.le_refl _⟩ rfl ml_X9_64 ly_0 (by decide) (by decide) rfl rfl (Nat.le_of_ble_eq_true rfl) dX9_faultOfColumnIn_2 ?_
  refine P.istore_n dX9_faultOfColumnIn_5 rfl (by decide) ?_
  refine P.iload_n dX9_faultOfColumnIn_6 rfl rfl ?_
  refine P.if_eq_n (tgt := 14) dX9_faultOfColumnIn_7 (by decide) (by omega) (fun c_7 => ?_) (fun c_7 => ?_)
  · refine P.aload_n dX9_faultOfColumnIn_14 rfl rfl ?_
    refine P.iload_n dX9_faultOfColumnIn_15 rfl rfl ?_
    refine P.iload_n dX9_faultOfColumnIn_16 rfl rfl ?_
    refine P.callV (As := [.int (nI t), .int (nI c)]) (rest := []) (s_fCol_ok hT hTW ht hc) ok_X9_faultOfColumn ⟨Nat.le_of_ble_eq_true rfl, Nat.le_of_ble_eq_true rfl, Nat.le_refl _, Nat.le_refl _⟩ rfl ml_X9_110 ly_0 (by decide) (by decide) rfl rfl (Nat.le_of_ble_eq_true rfl) dX9_faultOfColumnIn_17 ?_
    exact P.iret rfl dX9_faultOfColumnIn_20 rfl rfl
  · exfalso; omega

set_option maxRecDepth 20000 in
theorem s_isRow_f {G : GG} {f : Nat → Nat → Nat} {l : Nat → Nat → Int64} {D : DB} (hV : RV f l D) (hD : DW D) {x : Int32} (hx : inR x D.1 = false) : Spec G mX9_isRow [.ref (ad G 0), .int x] 114 (f, l, refT) (some (.int (bI false))) 114 (f, l, refT) := by
  have hx2 := inR_f.mp hx
  have hR := hD.1
  refine Spec.of ok_X9_isRow.1 ⟨Nat.le_refl _, Nat.le_refl _⟩ (Nat.le_of_ble_eq_true rfl) ?_
  show Pm G RX9 cX9_isRow 2 (KM G mX9_isRow 114 114 (some (.int (bI false))) (f, l, refT)) 0 [some (.ref (ad G 0)), some (.int x)] [] f l
  refine P.iload_n dX9_isRow_0 rfl rfl ?_
  refine P.if_lt_z (tgt := 19) dX9_isRow_1 (by decide) rfl (fun c_1 => ?_) (fun c_1 => ?_)
  · refine P.iconst dX9_isRow_19 ic_0 ?_
    exact P.bret rfl dX9_isRow_20 rfl rfl
  refine P.iload_n dX9_isRow_4 rfl rfl ?_
  refine P.aload_n dX9_isRow_5 rfl rfl ?_
  refine g_X9_rows (q := 2) ly_0 (by decide) (by decide) fl_X9_18 dX9_isRow_6 ?_
  refine g_X7_many ly_2 (by decide) fl_X9_71 dX9_isRow_9 ?_
  refine Pm.topn (b := D.1) (hV.1) ?_
  refine P.icmp_ge_z (tgt := 19) dX9_isRow_12 (by decide) rfl (zN (by omega)) (fun c_12 => ?_) (fun c_12 => ?_)
  · refine P.iconst dX9_isRow_19 ic_0 ?_
    exact P.bret rfl dX9_isRow_20 rfl rfl
  · exfalso; omega

set_option maxRecDepth 20000 in
theorem s_isRow_t {G : GG} {f : Nat → Nat → Nat} {l : Nat → Nat → Int64} {D : DB} (hV : RV f l D) (hD : DW D) {r : Nat} (hr : r < D.1) : Spec G mX9_isRow [.ref (ad G 0), .int (nI r)] 114 (f, l, refT) (some (.int (bI true))) 114 (f, l, refT) := by
  have hR := hD.1
  refine Spec.of ok_X9_isRow.1 ⟨Nat.le_refl _, Nat.le_refl _⟩ (Nat.le_of_ble_eq_true rfl) ?_
  show Pm G RX9 cX9_isRow 2 (KM G mX9_isRow 114 114 (some (.int (bI true))) (f, l, refT)) 0 [some (.ref (ad G 0)), some (.int (nI r))] [] f l
  refine P.iload_n dX9_isRow_0 rfl rfl ?_
  refine P.if_lt_z (tgt := 19) dX9_isRow_1 (by decide) (zN (by omega)) (fun c_1 => ?_) (fun c_1 => ?_)
  · exfalso; omega
  refine P.iload_n dX9_isRow_4 rfl rfl ?_
  refine P.aload_n dX9_isRow_5 rfl rfl ?_
  refine g_X9_rows (q := 2) ly_0 (by decide) (by decide) fl_X9_18 dX9_isRow_6 ?_
  refine g_X7_many ly_2 (by decide) fl_X9_71 dX9_isRow_9 ?_
  refine Pm.topn (b := D.1) (hV.1) ?_
  refine P.icmp_ge_n (tgt := 19) dX9_isRow_12 (by decide) (by omega) (by omega) (fun c_12 => ?_) (fun c_12 => ?_)
  · exfalso; omega
  refine P.iconst dX9_isRow_15 ic_1 ?_
  refine P.goto (tgt := 20) dX9_isRow_16 (by decide) ?_
  exact P.bret rfl dX9_isRow_20 rfl rfl

set_option maxRecDepth 20000 in
theorem s_isLaw_f {G : GG} {f : Nat → Nat → Nat} {l : Nat → Nat → Int64} {W : LB} (hL : LV f l W) (hLW : LW W) {x : Int32} (hx : inR x W.1 = false) : Spec G mX9_isLaw [.ref (ad G 0), .int x] 114 (f, l, refT) (some (.int (bI false))) 114 (f, l, refT) := by
  have hx2 := inR_f.mp hx
  have hR := hLW.1
  refine Spec.of ok_X9_isLaw.1 ⟨Nat.le_refl _, Nat.le_refl _⟩ (Nat.le_of_ble_eq_true rfl) ?_
  show Pm G RX9 cX9_isLaw 2 (KM G mX9_isLaw 114 114 (some (.int (bI false))) (f, l, refT)) 0 [some (.ref (ad G 0)), some (.int x)] [] f l
  refine P.iload_n dX9_isLaw_0 rfl rfl ?_
  refine P.if_lt_z (tgt := 19) dX9_isLaw_1 (by decide) rfl (fun c_1 => ?_) (fun c_1 => ?_)
  · refine P.iconst dX9_isLaw_19 ic_0 ?_
    exact P.bret rfl dX9_isLaw_20 rfl rfl
  refine P.iload_n dX9_isLaw_4 rfl rfl ?_
  refine P.aload_n dX9_isLaw_5 rfl rfl ?_
  refine g_X9_laws (q := 40) ly_0 (by decide) (by decide) fl_X9_27 dX9_isLaw_6 ?_
  refine g_X2_many ly_40 (by decide) fl_X9_126 dX9_isLaw_9 ?_
  refine Pm.topn (b := W.1) (hL.1) ?_
  refine P.icmp_ge_z (tgt := 19) dX9_isLaw_12 (by decide) rfl (zN (by omega)) (fun c_12 => ?_) (fun c_12 => ?_)
  · refine P.iconst dX9_isLaw_19 ic_0 ?_
    exact P.bret rfl dX9_isLaw_20 rfl rfl
  · exfalso; omega

set_option maxRecDepth 20000 in
theorem s_isLaw_t {G : GG} {f : Nat → Nat → Nat} {l : Nat → Nat → Int64} {W : LB} (hL : LV f l W) (hLW : LW W) {r : Nat} (hr : r < W.1) : Spec G mX9_isLaw [.ref (ad G 0), .int (nI r)] 114 (f, l, refT) (some (.int (bI true))) 114 (f, l, refT) := by
  have hR := hLW.1
  refine Spec.of ok_X9_isLaw.1 ⟨Nat.le_refl _, Nat.le_refl _⟩ (Nat.le_of_ble_eq_true rfl) ?_
  show Pm G RX9 cX9_isLaw 2 (KM G mX9_isLaw 114 114 (some (.int (bI true))) (f, l, refT)) 0 [some (.ref (ad G 0)), some (.int (nI r))] [] f l
  refine P.iload_n dX9_isLaw_0 rfl rfl ?_
  refine P.if_lt_z (tgt := 19) dX9_isLaw_1 (by decide) (zN (by omega)) (fun c_1 => ?_) (fun c_1 => ?_)
  · exfalso; omega
  refine P.iload_n dX9_isLaw_4 rfl rfl ?_
  refine P.aload_n dX9_isLaw_5 rfl rfl ?_
  refine g_X9_laws (q := 40) ly_0 (by decide) (by decide) fl_X9_27 dX9_isLaw_6 ?_
  refine g_X2_many ly_40 (by decide) fl_X9_126 dX9_isLaw_9 ?_
  refine Pm.topn (b := W.1) (hL.1) ?_
  refine P.icmp_ge_n (tgt := 19) dX9_isLaw_12 (by decide) (by omega) (by omega) (fun c_12 => ?_) (fun c_12 => ?_)
  · exfalso; omega
  refine P.iconst dX9_isLaw_15 ic_1 ?_
  refine P.goto (tgt := 20) dX9_isLaw_16 (by decide) ?_
  exact P.bret rfl dX9_isLaw_20 rfl rfl

set_option maxRecDepth 20000 in
theorem s_isPart_f {G : GG} {f : Nat → Nat → Nat} {l : Nat → Nat → Int64} {U : QB} (hU : UV f l U) (hUW : UW U) {x : Int32} (hx : inR x U.1 = false) : Spec G mX9_isPart [.ref (ad G 0), .int x] 114 (f, l, refT) (some (.int (bI false))) 114 (f, l, refT) := by
  have hx2 := inR_f.mp hx
  have hR := hUW.1
  refine Spec.of ok_X9_isPart.1 ⟨Nat.le_refl _, Nat.le_refl _⟩ (Nat.le_of_ble_eq_true rfl) ?_
  show Pm G RX9 cX9_isPart 2 (KM G mX9_isPart 114 114 (some (.int (bI false))) (f, l, refT)) 0 [some (.ref (ad G 0)), some (.int x)] [] f l
  refine P.iload_n dX9_isPart_0 rfl rfl ?_
  refine P.if_lt_z (tgt := 19) dX9_isPart_1 (by decide) rfl (fun c_1 => ?_) (fun c_1 => ?_)
  · refine P.iconst dX9_isPart_19 ic_0 ?_
    exact P.bret rfl dX9_isPart_20 rfl rfl
  refine P.iload_n dX9_isPart_4 rfl rfl ?_
  refine P.aload_n dX9_isPart_5 rfl rfl ?_
  refine g_X9_question (q := 57) ly_0 (by decide) (by decide) fl_X9_43 dX9_isPart_6 ?_
  refine g_X5_manyParts ly_57 (by decide) fl_X9_219 dX9_isPart_9 ?_
  refine Pm.topn (b := U.1) (hU.1) ?_
  refine P.icmp_ge_z (tgt := 19) dX9_isPart_12 (by decide) rfl (zN (by omega)) (fun c_12 => ?_) (fun c_12 => ?_)
  · refine P.iconst dX9_isPart_19 ic_0 ?_
    exact P.bret rfl dX9_isPart_20 rfl rfl
  · exfalso; omega

set_option maxRecDepth 20000 in
theorem s_isPart_t {G : GG} {f : Nat → Nat → Nat} {l : Nat → Nat → Int64} {U : QB} (hU : UV f l U) (hUW : UW U) {r : Nat} (hr : r < U.1) : Spec G mX9_isPart [.ref (ad G 0), .int (nI r)] 114 (f, l, refT) (some (.int (bI true))) 114 (f, l, refT) := by
  have hR := hUW.1
  refine Spec.of ok_X9_isPart.1 ⟨Nat.le_refl _, Nat.le_refl _⟩ (Nat.le_of_ble_eq_true rfl) ?_
  show Pm G RX9 cX9_isPart 2 (KM G mX9_isPart 114 114 (some (.int (bI true))) (f, l, refT)) 0 [some (.ref (ad G 0)), some (.int (nI r))] [] f l
  refine P.iload_n dX9_isPart_0 rfl rfl ?_
  refine P.if_lt_z (tgt := 19) dX9_isPart_1 (by decide) (zN (by omega)) (fun c_1 => ?_) (fun c_1 => ?_)
  · exfalso; omega
  refine P.iload_n dX9_isPart_4 rfl rfl ?_
  refine P.aload_n dX9_isPart_5 rfl rfl ?_
  refine g_X9_question (q := 57) ly_0 (by decide) (by decide) fl_X9_43 dX9_isPart_6 ?_
  refine g_X5_manyParts ly_57 (by decide) fl_X9_219 dX9_isPart_9 ?_
  refine Pm.topn (b := U.1) (hU.1) ?_
  refine P.icmp_ge_n (tgt := 19) dX9_isPart_12 (by decide) (by omega) (by omega) (fun c_12 => ?_) (fun c_12 => ?_)
  · exfalso; omega
  refine P.iconst dX9_isPart_15 ic_1 ?_
  refine P.goto (tgt := 20) dX9_isPart_16 (by decide) ?_
  exact P.bret rfl dX9_isPart_20 rfl rfl

set_option maxRecDepth 20000 in
theorem s_fCell_row {G : GG} {f : Nat → Nat → Nat} {l : Nat → Nat → Int64} {D : DB} (hV : RV f l D) (hD : DW D) {x y : Int32} (hx : inR x D.1 = false) : Spec G mX9_faultOfCell [.ref (ad G 0), .int x, .int y] 114 (f, l, refT) (some (.int (-1))) 114 (f, l, refT) := by
  have hR := hD.1
  refine Spec.of ok_X9_faultOfCell.1 ⟨Nat.le_refl _, Nat.le_refl _⟩ (Nat.le_of_ble_eq_true rfl) ?_
  show Pm G RX9 cX9_faultOfCell 3 (KM G mX9_faultOfCell 114 114 (some (.int (-1))) (f, l, refT)) 0 [some (.ref (ad G 0)), some (.int x), some (.int y)] [] f l
  refine P.aload_n dX9_faultOfCell_0 rfl rfl ?_
  refine P.iload_n dX9_faultOfCell_1 rfl rfl ?_
  refine P.callV (As := [.int x]) (rest := []) (s_isRow_f hV hD hx) ok_X9_isRow ⟨Nat.le_of_ble_eq_true rfl, Nat.le_of_ble_eq_true rfl, Nat.le_refl _, Nat.le_refl _⟩ rfl ml_X9_116 ly_0 (by decide) (by decide) rfl rfl (Nat.le_of_ble_eq_true rfl) dX9_faultOfCell_2 ?_
  refine P.if_eq_b (tgt := 28) dX9_faultOfCell_5 (by decide) (fun c_5 => ?_) (fun c_5 => ?_)
  · refine P.iconst (v := -1) dX9_faultOfCell_28 rfl ?_
    exact P.iret rfl dX9_faultOfCell_29 rfl rfl
  · exfalso; revert c_5; decide

set_option maxRecDepth 20000 in
theorem s_fCell_col {G : GG} {f : Nat → Nat → Nat} {l : Nat → Nat → Int64} {D : DB} (hV : RV f l D) (hD : DW D) {T : TB} (hT : TV f T) (hTW : TW T) {N : Nat} (hN : f 0 5 = N) {r : Nat} {y : Int32} (hr : r < D.1) (hy : inR y (T.1 (D.2.1 r 2)) = false) : Spec G mX9_faultOfCell [.ref (ad G 0), .int (nI r), .int y] 114 (f, l, refT) (some (.int (-12))) 114 (uf f 0 5 (N + 1), l, refT) := by
  have hR := hD.1
  have htb : D.2.1 r 2 < 4 := (hD.2.2.2 r hr).1
  refine Spec.of ok_X9_faultOfCell.1 ⟨Nat.le_refl _, Nat.le_refl _⟩ (Nat.le_of_ble_eq_true rfl) ?_
  show Pm G RX9 cX9_faultOfCell 3 (KM G mX9_faultOfCell 114 114 (some (.int (-12))) (uf f 0 5 (N + 1), l, refT)) 0 [some (.ref (ad G 0)), some (.int (nI r)), some (.int y)] [] f l
  refine P.aload_n dX9_faultOfCell_0 rfl rfl ?_
  refine P.iload_n dX9_faultOfCell_1 rfl rfl ?_
  refine P.callV (As := [.int (nI r)]) (rest := []) (s_isRow_t hV hD hr) ok_X9_isRow ⟨Nat.le_of_ble_eq_true rfl, Nat.le_of_ble_eq_true rfl, Nat.le_refl _, Nat.le_refl _⟩ rfl ml_X9_116 ly_0 (by decide) (by decide) rfl rfl (Nat.le_of_ble_eq_true rfl) dX9_faultOfCell_2 ?_
  refine P.if_eq_b (tgt := 28) dX9_faultOfCell_5 (by decide) (fun c_5 => ?_) (fun c_5 => ?_)
  · exfalso; revert c_5; decide
  refine P.aload_n dX9_faultOfCell_8 rfl rfl ?_
  refine P.aload_n dX9_faultOfCell_9 rfl rfl ?_
  refine g_X9_rows (q := 2) ly_0 (by decide) (by decide) fl_X9_18 dX9_faultOfCell_10 ?_
  refine g_X7_list (q := 3) ly_2 (by decide) (by decide) fl_X9_81 dX9_faultOfCell_13 ?_
  refine P.iload_n dX9_faultOfCell_16 rfl rfl ?_
  refine a_r6 (q := 4 + 3 * r) ly_3 (by decide) (by omega) (by decide) (rt_row (r := r) (by omega)) dX9_faultOfCell_17 ?_
  refine g_X6_table (ly_row (r := r) (by omega)) (by omega) fl_X9_91 dX9_faultOfCell_18 ?_
  refine Pm.topn (b := D.2.1 r 2) ((hV.2.1 r (by omega) 2)) ?_
  refine P.iload_n dX9_faultOfCell_21 rfl rfl ?_
  refine P.callV (As := [.int (nI (D.2.1 r 2)), .int y]) (rest := []) (s_fCol_out hT hTW hN htb hy) ok_X9_faultOfColumn ⟨Nat.le_of_ble_eq_true rfl, Nat.le_of_ble_eq_true rfl, Nat.le_refl _, Nat.le_refl _⟩ rfl ml_X9_110 ly_0 (by decide) (by decide) rfl rfl (Nat.le_of_ble_eq_true rfl) dX9_faultOfCell_22 ?_
  refine P.goto (tgt := 29) dX9_faultOfCell_25 (by decide) ?_
  exact P.iret rfl dX9_faultOfCell_29 rfl rfl

set_option maxRecDepth 20000 in
theorem s_fCell_ok {G : GG} {f : Nat → Nat → Nat} {l : Nat → Nat → Int64} {D : DB} (hV : RV f l D) (hD : DW D) {T : TB} (hT : TV f T) (hTW : TW T) {r c : Nat} (hr : r < D.1) (hc : c < T.1 (D.2.1 r 2)) : Spec G mX9_faultOfCell [.ref (ad G 0), .int (nI r), .int (nI c)] 114 (f, l, refT) (some (.int (nI 0))) 114 (f, l, refT) := by
  have hR := hD.1
  have htb : D.2.1 r 2 < 4 := (hD.2.2.2 r hr).1
  refine Spec.of ok_X9_faultOfCell.1 ⟨Nat.le_refl _, Nat.le_refl _⟩ (Nat.le_of_ble_eq_true rfl) ?_
  show Pm G RX9 cX9_faultOfCell 3 (KM G mX9_faultOfCell 114 114 (some (.int (nI 0))) (f, l, refT)) 0 [some (.ref (ad G 0)), some (.int (nI r)), some (.int (nI c))] [] f l
  refine P.aload_n dX9_faultOfCell_0 rfl rfl ?_
  refine P.iload_n dX9_faultOfCell_1 rfl rfl ?_
  refine P.callV (As := [.int (nI r)]) (rest := []) (s_isRow_t hV hD hr) ok_X9_isRow ⟨Nat.le_of_ble_eq_true rfl, Nat.le_of_ble_eq_true rfl, Nat.le_refl _, Nat.le_refl _⟩ rfl ml_X9_116 ly_0 (by decide) (by decide) rfl rfl (Nat.le_of_ble_eq_true rfl) dX9_faultOfCell_2 ?_
  refine P.if_eq_b (tgt := 28) dX9_faultOfCell_5 (by decide) (fun c_5 => ?_) (fun c_5 => ?_)
  · exfalso; revert c_5; decide
  refine P.aload_n dX9_faultOfCell_8 rfl rfl ?_
  refine P.aload_n dX9_faultOfCell_9 rfl rfl ?_
  refine g_X9_rows (q := 2) ly_0 (by decide) (by decide) fl_X9_18 dX9_faultOfCell_10 ?_
  refine g_X7_list (q := 3) ly_2 (by decide) (by decide) fl_X9_81 dX9_faultOfCell_13 ?_
  refine P.iload_n dX9_faultOfCell_16 rfl rfl ?_
  refine a_r6 (q := 4 + 3 * r) ly_3 (by decide) (by omega) (by decide) (rt_row (r := r) (by omega)) dX9_faultOfCell_17 ?_
  refine g_X6_table (ly_row (r := r) (by omega)) (by omega) fl_X9_91 dX9_faultOfCell_18 ?_
  refine Pm.topn (b := D.2.1 r 2) ((hV.2.1 r (by omega) 2)) ?_
  refine P.iload_n dX9_faultOfCell_21 rfl rfl ?_
  refine P.callV (As := [.int (nI (D.2.1 r 2)), .int (nI c)]) (rest := []) (s_fCol_ok hT hTW htb hc) ok_X9_faultOfColumn ⟨Nat.le_of_ble_eq_true rfl, Nat.le_of_ble_eq_true rfl, Nat.le_refl _, Nat.le_refl _⟩ rfl ml_X9_110 ly_0 (by decide) (by decide) rfl rfl (Nat.le_of_ble_eq_true rfl) dX9_faultOfCell_22 ?_
  refine P.goto (tgt := 29) dX9_faultOfCell_25 (by decide) ?_
  exact P.iret rfl dX9_faultOfCell_29 rfl rfl

set_option maxRecDepth 20000 in
theorem s_fPart_row {G : GG} {f : Nat → Nat → Nat} {l : Nat → Nat → Int64} {U : QB} (hU : UV f l U) (hUW : UW U) {x y : Int32} (hx : inR x U.1 = false) : Spec G mX9_faultOfPart [.ref (ad G 0), .int x, .int y] 114 (f, l, refT) (some (.int (-1))) 114 (f, l, refT) := by
  have hR := hUW.1
  refine Spec.of ok_X9_faultOfPart.1 ⟨Nat.le_refl _, Nat.le_refl _⟩ (Nat.le_of_ble_eq_true rfl) ?_
  show Pm G RX9 cX9_faultOfPart 3 (KM G mX9_faultOfPart 114 114 (some (.int (-1))) (f, l, refT)) 0 [some (.ref (ad G 0)), some (.int x), some (.int y)] [] f l
  refine P.aload_n dX9_faultOfPart_0 rfl rfl ?_
  refine P.iload_n dX9_faultOfPart_1 rfl rfl ?_
  refine P.callV (As := [.int x]) (rest := []) (s_isPart_f hU hUW hx) ok_X9_isPart ⟨Nat.le_of_ble_eq_true rfl, Nat.le_of_ble_eq_true rfl, Nat.le_refl _, Nat.le_refl _⟩ rfl ml_X9_241 ly_0 (by decide) (by decide) rfl rfl (Nat.le_of_ble_eq_true rfl) dX9_faultOfPart_2 ?_
  refine P.if_eq_b (tgt := 28) dX9_faultOfPart_5 (by decide) (fun c_5 => ?_) (fun c_5 => ?_)
  · refine P.iconst (v := -1) dX9_faultOfPart_28 rfl ?_
    exact P.iret rfl dX9_faultOfPart_29 rfl rfl
  · exfalso; revert c_5; decide

set_option maxRecDepth 20000 in
theorem s_fPart_col {G : GG} {f : Nat → Nat → Nat} {l : Nat → Nat → Int64} {U : QB} (hU : UV f l U) (hUW : UW U) {T : TB} (hT : TV f T) (hTW : TW T) {N : Nat} (hN : f 0 5 = N) {r : Nat} {y : Int32} (hr : r < U.1) (hy : inR y (T.1 (U.2.1 r)) = false) : Spec G mX9_faultOfPart [.ref (ad G 0), .int (nI r), .int y] 114 (f, l, refT) (some (.int (-12))) 114 (uf f 0 5 (N + 1), l, refT) := by
  have hR := hUW.1
  have htb : U.2.1 r < 4 := (hUW.2.2.1 r hr).1
  refine Spec.of ok_X9_faultOfPart.1 ⟨Nat.le_refl _, Nat.le_refl _⟩ (Nat.le_of_ble_eq_true rfl) ?_
  show Pm G RX9 cX9_faultOfPart 3 (KM G mX9_faultOfPart 114 114 (some (.int (-12))) (uf f 0 5 (N + 1), l, refT)) 0 [some (.ref (ad G 0)), some (.int (nI r)), some (.int y)] [] f l
  refine P.aload_n dX9_faultOfPart_0 rfl rfl ?_
  refine P.iload_n dX9_faultOfPart_1 rfl rfl ?_
  refine P.callV (As := [.int (nI r)]) (rest := []) (s_isPart_t hU hUW hr) ok_X9_isPart ⟨Nat.le_of_ble_eq_true rfl, Nat.le_of_ble_eq_true rfl, Nat.le_refl _, Nat.le_refl _⟩ rfl ml_X9_241 ly_0 (by decide) (by decide) rfl rfl (Nat.le_of_ble_eq_true rfl) dX9_faultOfPart_2 ?_
  refine P.if_eq_b (tgt := 28) dX9_faultOfPart_5 (by decide) (fun c_5 => ?_) (fun c_5 => ?_)
  · exfalso; revert c_5; decide
  refine P.aload_n dX9_faultOfPart_8 rfl rfl ?_
  refine P.aload_n dX9_faultOfPart_9 rfl rfl ?_
  refine g_X9_question (q := 57) ly_0 (by decide) (by decide) fl_X9_43 dX9_faultOfPart_10 ?_
  refine g_X5_parts (q := 58) ly_57 (by decide) (by decide) fl_X9_231 dX9_faultOfPart_13 ?_
  refine P.iload_n dX9_faultOfPart_16 rfl rfl ?_
  refine a_r4 (q := 63 + 3 * r) ly_58 (by decide) (by omega) (by decide) (rt_par (r := r) (by omega)) dX9_faultOfPart_17 ?_
  refine g_X4_table (ly_par (r := r) (by omega)) (by omega) fl_X9_271 dX9_faultOfPart_18 ?_
  refine Pm.topn (b := U.2.1 r) ((hU.2.1 r (by omega))) ?_
  refine P.iload_n dX9_faultOfPart_21 rfl rfl ?_
  refine P.callV (As := [.int (nI (U.2.1 r)), .int y]) (rest := []) (s_fCol_out hT hTW hN htb hy) ok_X9_faultOfColumn ⟨Nat.le_of_ble_eq_true rfl, Nat.le_of_ble_eq_true rfl, Nat.le_refl _, Nat.le_refl _⟩ rfl ml_X9_110 ly_0 (by decide) (by decide) rfl rfl (Nat.le_of_ble_eq_true rfl) dX9_faultOfPart_22 ?_
  refine P.goto (tgt := 29) dX9_faultOfPart_25 (by decide) ?_
  exact P.iret rfl dX9_faultOfPart_29 rfl rfl

set_option maxRecDepth 20000 in
theorem s_fPart_ok {G : GG} {f : Nat → Nat → Nat} {l : Nat → Nat → Int64} {U : QB} (hU : UV f l U) (hUW : UW U) {T : TB} (hT : TV f T) (hTW : TW T) {r c : Nat} (hr : r < U.1) (hc : c < T.1 (U.2.1 r)) : Spec G mX9_faultOfPart [.ref (ad G 0), .int (nI r), .int (nI c)] 114 (f, l, refT) (some (.int (nI 0))) 114 (f, l, refT) := by
  have hR := hUW.1
  have htb : U.2.1 r < 4 := (hUW.2.2.1 r hr).1
  refine Spec.of ok_X9_faultOfPart.1 ⟨Nat.le_refl _, Nat.le_refl _⟩ (Nat.le_of_ble_eq_true rfl) ?_
  show Pm G RX9 cX9_faultOfPart 3 (KM G mX9_faultOfPart 114 114 (some (.int (nI 0))) (f, l, refT)) 0 [some (.ref (ad G 0)), some (.int (nI r)), some (.int (nI c))] [] f l
  refine P.aload_n dX9_faultOfPart_0 rfl rfl ?_
  refine P.iload_n dX9_faultOfPart_1 rfl rfl ?_
  refine P.callV (As := [.int (nI r)]) (rest := []) (s_isPart_t hU hUW hr) ok_X9_isPart ⟨Nat.le_of_ble_eq_true rfl, Nat.le_of_ble_eq_true rfl, Nat.le_refl _, Nat.le_refl _⟩ rfl ml_X9_241 ly_0 (by decide) (by decide) rfl rfl (Nat.le_of_ble_eq_true rfl) dX9_faultOfPart_2 ?_
  refine P.if_eq_b (tgt := 28) dX9_faultOfPart_5 (by decide) (fun c_5 => ?_) (fun c_5 => ?_)
  · exfalso; revert c_5; decide
  refine P.aload_n dX9_faultOfPart_8 rfl rfl ?_
  refine P.aload_n dX9_faultOfPart_9 rfl rfl ?_
  refine g_X9_question (q := 57) ly_0 (by decide) (by decide) fl_X9_43 dX9_faultOfPart_10 ?_
  refine g_X5_parts (q := 58) ly_57 (by decide) (by decide) fl_X9_231 dX9_faultOfPart_13 ?_
  refine P.iload_n dX9_faultOfPart_16 rfl rfl ?_
  refine a_r4 (q := 63 + 3 * r) ly_58 (by decide) (by omega) (by decide) (rt_par (r := r) (by omega)) dX9_faultOfPart_17 ?_
  refine g_X4_table (ly_par (r := r) (by omega)) (by omega) fl_X9_271 dX9_faultOfPart_18 ?_
  refine Pm.topn (b := U.2.1 r) ((hU.2.1 r (by omega))) ?_
  refine P.iload_n dX9_faultOfPart_21 rfl rfl ?_
  refine P.callV (As := [.int (nI (U.2.1 r)), .int (nI c)]) (rest := []) (s_fCol_ok hT hTW htb hc) ok_X9_faultOfColumn ⟨Nat.le_of_ble_eq_true rfl, Nat.le_of_ble_eq_true rfl, Nat.le_refl _, Nat.le_refl _⟩ rfl ml_X9_110 ly_0 (by decide) (by decide) rfl rfl (Nat.le_of_ble_eq_true rfl) dX9_faultOfPart_22 ?_
  refine P.goto (tgt := 29) dX9_faultOfPart_25 (by decide) ?_
  exact P.iret rfl dX9_faultOfPart_29 rfl rfl

set_option maxRecDepth 20000 in
theorem s_isTrust_f {G : GG} {f : Nat → Nat → Nat} {l : Nat → Nat → Int64} {x : Int32} (hx : trOK x = false) : Spec G mX9_isTrust [.int x] 114 (f, l, refT) (some (.int (bI false))) 114 (f, l, refT) := by
  have hx2 := trOK_f.mp hx
  refine Spec.of ok_X9_isTrust.1 ⟨Nat.le_refl _, Nat.le_refl _⟩ (Nat.le_of_ble_eq_true rfl) ?_
  show Pm G RX9 cX9_isTrust 1 (KM G mX9_isTrust 114 114 (some (.int (bI false))) (f, l, refT)) 0 [some (.int x)] [] f l
  refine P.iload_n dX9_isTrust_0 rfl rfl ?_
  refine P.iconst dX9_isTrust_1 ic_1 ?_
  refine P.icmp_lt_z (tgt := 15) dX9_isTrust_2 (by decide) rfl (zN (by omega)) (fun c_2 => ?_) (fun c_2 => ?_)
  · refine P.iconst dX9_isTrust_15 ic_0 ?_
    exact P.bret rfl dX9_isTrust_16 rfl rfl
  refine P.iload_n dX9_isTrust_5 rfl rfl ?_
  refine P.bipush (v := nI 100) dX9_isTrust_6 rfl ?_
  refine P.icmp_gt_z (tgt := 15) dX9_isTrust_8 (by decide) rfl (zN (by omega)) (fun c_8 => ?_) (fun c_8 => ?_)
  · refine P.iconst dX9_isTrust_15 ic_0 ?_
    exact P.bret rfl dX9_isTrust_16 rfl rfl
  · exfalso; omega

set_option maxRecDepth 20000 in
theorem s_isTrust_t {G : GG} {f : Nat → Nat → Nat} {l : Nat → Nat → Int64} {a : Nat} (h1 : 1 ≤ a) (h2 : a ≤ 100) : Spec G mX9_isTrust [.int (nI a)] 114 (f, l, refT) (some (.int (bI true))) 114 (f, l, refT) := by
  refine Spec.of ok_X9_isTrust.1 ⟨Nat.le_refl _, Nat.le_refl _⟩ (Nat.le_of_ble_eq_true rfl) ?_
  show Pm G RX9 cX9_isTrust 1 (KM G mX9_isTrust 114 114 (some (.int (bI true))) (f, l, refT)) 0 [some (.int (nI a))] [] f l
  refine P.iload_n dX9_isTrust_0 rfl rfl ?_
  refine P.iconst dX9_isTrust_1 ic_1 ?_
  refine P.icmp_lt_n (tgt := 15) dX9_isTrust_2 (by decide) (by omega) (by omega) (fun c_2 => ?_) (fun c_2 => ?_)
  · exfalso; omega
  refine P.iload_n dX9_isTrust_5 rfl rfl ?_
  refine P.bipush (v := nI 100) dX9_isTrust_6 rfl ?_
  refine P.icmp_gt_n (tgt := 15) dX9_isTrust_8 (by decide) (by omega) (by omega) (fun c_8 => ?_) (fun c_8 => ?_)
  · exfalso; omega
  refine P.iconst dX9_isTrust_11 ic_1 ?_
  refine P.goto (tgt := 16) dX9_isTrust_12 (by decide) ?_
  exact P.bret rfl dX9_isTrust_16 rfl rfl

set_option maxRecDepth 20000 in
theorem s_areLanes_neg {G : GG} {f : Nat → Nat → Nat} {l : Nat → Nat → Int64} {k : Nat} {x : Int32} (hk : 1 ≤ k) (hk6 : k ≤ 6) (hx : x.toInt < 0) : Spec G mX9_areLanes [.int (nI k), .int x] 114 (f, l, refT) (some (.int (bI false))) 114 (f, l, refT) := by
  refine Spec.of ok_X9_areLanes.1 ⟨Nat.le_refl _, Nat.le_refl _⟩ (Nat.le_of_ble_eq_true rfl) ?_
  show Pm G RX9 cX9_areLanes 4 (KM G mX9_areLanes 114 114 (some (.int (bI false))) (f, l, refT)) 0 [some (.int (nI k)), some (.int x), none, none] [] f l
  refine P.iload_n dX9_areLanes_0 rfl rfl ?_
  refine P.istore_n dX9_areLanes_1 rfl (by decide) ?_
  refine P.iconst dX9_areLanes_2 ic_0 ?_
  refine P.istore_n dX9_areLanes_3 rfl (by decide) ?_
  refine P.iload_n dX9_areLanes_4 rfl rfl ?_
  refine P.iload_n dX9_areLanes_5 rfl rfl ?_
  refine P.icmp_ge_n (tgt := 34) dX9_areLanes_6 (by decide) (by omega) (by omega) (fun c_6 => ?_) (fun c_6 => ?_)
  · exfalso; omega
  refine P.iload_n dX9_areLanes_9 rfl rfl ?_
  refine P.if_lt_z (tgt := 21) dX9_areLanes_10 (by decide) rfl (fun c_10 => ?_) (fun c_10 => ?_)
  · refine P.iconst dX9_areLanes_21 ic_0 ?_
    exact P.bret rfl dX9_areLanes_22 rfl rfl
  · exfalso; omega

set_option maxRecDepth 20000 in
theorem s_areLanes {G : GG} {f : Nat → Nat → Nat} {l : Nat → Nat → Int64} {k m : Nat} (hk6 : k ≤ 6) (hm : m < 2147483648) : Spec G mX9_areLanes [.int (nI k), .int (nI m)] 114 (f, l, refT) (some (.int (bI (lanesB k m)))) 114 (f, l, refT) := by
  refine Spec.of ok_X9_areLanes.1 ⟨Nat.le_refl _, Nat.le_refl _⟩ (Nat.le_of_ble_eq_true rfl) ?_
  show Pm G RX9 cX9_areLanes 4 (KM G mX9_areLanes 114 114 (some (.int (bI (lanesB k m)))) (f, l, refT)) 0 [some (.int (nI k)), some (.int (nI m)), none, none] [] f l
  refine P.iload_n dX9_areLanes_0 rfl rfl ?_
  refine P.istore_n dX9_areLanes_1 rfl (by decide) ?_
  refine P.iconst dX9_areLanes_2 ic_0 ?_
  refine P.istore_n dX9_areLanes_3 rfl (by decide) ?_
  show Pm G _ _ _ _ 4 [some (.int (nI k)), some (.int (nI m)), some (.int (nI m)), some (.int (nI 0))] [] f l
  refine P.to (ls := [some (.int (nI k)), some (.int (nI m)), some (.int (nI (m / 10 ^ 0))), some (.int (nI 0))]) ?_ (by simp [lle])
  refine loop_up (M := fun (i : Nat) => (∀ j, j < i → decide (5 < m / 10 ^ j % 10) = false) → Pm G _ _ _ _ 4 [some (.int (nI k)), some (.int (nI m)), some (.int (nI (m / 10 ^ i))), some (.int (nI i))] [] f l) (lo := 0) (N := k) (by first | exact Nat.zero_le _ | omega) (fun i hi0 hi1 ihi => ?_) ?_ ?_
  · intro invi
    have hdl := Nat.div_le_self m (10 ^ i)
    show Pm G _ _ _ _ 4 [some (.int (nI k)), some (.int (nI m)), some (.int (nI (m / 10 ^ i))), some (.int (nI i))] [] f l
    refine P.iload_n dX9_areLanes_4 rfl rfl ?_
    refine P.iload_n dX9_areLanes_5 rfl rfl ?_
    refine P.icmp_ge_n (tgt := 34) dX9_areLanes_6 (by decide) (by omega) (by omega) (fun c_6 => ?_) (fun c_6 => ?_)
    · exfalso; omega
    refine P.iload_n dX9_areLanes_9 rfl rfl ?_
    refine P.if_lt_z (tgt := 21) dX9_areLanes_10 (by decide) (zN (by omega)) (fun c_10 => ?_) (fun c_10 => ?_)
    · exfalso; have hnn := Int.natCast_nonneg (m / 10 ^ i); omega
    refine P.iload_n dX9_areLanes_13 rfl rfl ?_
    refine P.bipush (v := nI 10) dX9_areLanes_14 rfl ?_
    refine P.irem_n dX9_areLanes_16 (v := nI (m / 10 ^ i % 10)) (nI_ne0 (by omega) (by omega)) (pk_rem (by omega) (by omega) (by omega)) ?_
    refine P.iconst dX9_areLanes_17 ic_5 ?_
    refine P.icmp_le_n (tgt := 23) dX9_areLanes_18 (by decide) (by omega) (by omega) (fun c_18 => ?_) (fun c_18 => ?_)
    · refine P.iload_n dX9_areLanes_23 rfl rfl ?_
      refine P.bipush (v := nI 10) dX9_areLanes_24 rfl ?_
      refine P.idiv_n dX9_areLanes_26 (v := nI (m / 10 ^ (i + 1))) (nI_ne0 (by omega) (by omega)) ((pk_div (by omega) (by omega) (by omega)).trans (by rw [ten_s])) ?_
      refine P.istore_n dX9_areLanes_27 rfl (by decide) ?_
      refine P.iinc dX9_areLanes_28 rfl (inc1 _) (by decide) ?_
      refine P.goto (tgt := 4) dX9_areLanes_31 (by decide) ?_
      show Pm G _ _ _ _ 4 [some (.int (nI k)), some (.int (nI m)), some (.int (nI (m / 10 ^ (i + 1)))), some (.int (nI (i + 1)))] [] f l
      exact Pm.to (ihi (by exact lt_snoc invi (decide_eq_false (by omega)))) (by simp [lle]) rfl rfl rfl
    refine P.iconst dX9_areLanes_21 ic_0 ?_
    exact P.bret rfl dX9_areLanes_22 (by rw [show lanesB k m = false from by rw [lanesB, anyN_t.mpr ⟨i, hi1, decide_eq_true c_18⟩]; rfl]; rfl) rfl
  · intro invi
    show Pm G _ _ _ _ 4 [some (.int (nI k)), some (.int (nI m)), some (.int (nI (m / 10 ^ k))), some (.int (nI k))] [] f l
    refine P.iload_n dX9_areLanes_4 rfl rfl ?_
    refine P.iload_n dX9_areLanes_5 rfl rfl ?_
    refine P.icmp_ge_n (tgt := 34) dX9_areLanes_6 (by decide) (by omega) (by omega) (fun c_6 => ?_) (fun c_6 => ?_)
    · refine P.iload_n dX9_areLanes_34 rfl rfl ?_
      refine P.if_ne_n (tgt := 42) dX9_areLanes_35 (by decide) (by have := Nat.div_le_self m (10 ^ k); omega) (fun c_35 => ?_) (fun c_35 => ?_)
      · refine P.iconst dX9_areLanes_42 ic_0 ?_
        exact P.bret rfl dX9_areLanes_43 (by rw [show lanesB k m = false from by rw [lanesB, show (m / 10 ^ k == 0) = false from beq_eq_false_iff_ne.mpr c_35]; exact Bool.and_false _]; rfl) rfl
      refine P.iconst dX9_areLanes_38 ic_1 ?_
      refine P.goto (tgt := 43) dX9_areLanes_39 (by decide) ?_
      exact P.bret rfl dX9_areLanes_43 (by rw [show lanesB k m = true from by rw [lanesB, anyN_f.mpr invi, c_35]; rfl]; rfl) rfl
    · exfalso; omega
  · exact fun j hj => absurd hj (by omega)

set_option maxRecDepth 20000 in
theorem s_looks0 {G : GG} {f : Nat → Nat → Nat} {l : Nat → Nat → Int64}  : Spec G mX9_looksAtTwo [.int (nI 0)] 114 (f, l, refT) (some (.int (bI true))) 114 (f, l, refT) := by
  refine Spec.of ok_X9_looksAtTwo.1 ⟨Nat.le_refl _, Nat.le_refl _⟩ (Nat.le_of_ble_eq_true rfl) ?_
  show Pm G RX9 cX9_looksAtTwo 1 (KM G mX9_looksAtTwo 114 114 (some (.int (bI true))) (f, l, refT)) 0 [some (.int (nI 0))] [] f l
  refine P.iload_n dX9_looksAtTwo_0 rfl rfl ?_
  refine P.if_eq_n (tgt := 14) dX9_looksAtTwo_1 (by decide) (by omega) (fun c_1 => ?_) (fun c_1 => ?_)
  · refine P.iconst dX9_looksAtTwo_14 ic_1 ?_
    refine P.goto (tgt := 19) dX9_looksAtTwo_15 (by decide) ?_
    exact P.bret rfl dX9_looksAtTwo_19 rfl rfl
  · exfalso; omega

set_option maxRecDepth 20000 in
theorem s_looks1 {G : GG} {f : Nat → Nat → Nat} {l : Nat → Nat → Int64}  : Spec G mX9_looksAtTwo [.int (nI 1)] 114 (f, l, refT) (some (.int (bI false))) 114 (f, l, refT) := by
  refine Spec.of ok_X9_looksAtTwo.1 ⟨Nat.le_refl _, Nat.le_refl _⟩ (Nat.le_of_ble_eq_true rfl) ?_
  show Pm G RX9 cX9_looksAtTwo 1 (KM G mX9_looksAtTwo 114 114 (some (.int (bI false))) (f, l, refT)) 0 [some (.int (nI 1))] [] f l
  refine P.iload_n dX9_looksAtTwo_0 rfl rfl ?_
  refine P.if_eq_n (tgt := 14) dX9_looksAtTwo_1 (by decide) (by omega) (fun c_1 => ?_) (fun c_1 => ?_)
  · exfalso; omega
  refine P.iload_n dX9_looksAtTwo_4 rfl rfl ?_
  refine P.iconst dX9_looksAtTwo_5 ic_2 ?_
  refine P.icmp_eq_n (tgt := 14) dX9_looksAtTwo_6 (by decide) (by omega) (by omega) (fun c_6 => ?_) (fun c_6 => ?_)
  · exfalso; omega
  refine P.iload_n dX9_looksAtTwo_9 rfl rfl ?_
  refine P.iconst dX9_looksAtTwo_10 ic_4 ?_
  refine P.icmp_ne_n (tgt := 18) dX9_looksAtTwo_11 (by decide) (by omega) (by omega) (fun c_11 => ?_) (fun c_11 => ?_)
  · refine P.iconst dX9_looksAtTwo_18 ic_0 ?_
    exact P.bret rfl dX9_looksAtTwo_19 rfl rfl
  · exfalso; omega

set_option maxRecDepth 20000 in
theorem s_looks2 {G : GG} {f : Nat → Nat → Nat} {l : Nat → Nat → Int64}  : Spec G mX9_looksAtTwo [.int (nI 2)] 114 (f, l, refT) (some (.int (bI true))) 114 (f, l, refT) := by
  refine Spec.of ok_X9_looksAtTwo.1 ⟨Nat.le_refl _, Nat.le_refl _⟩ (Nat.le_of_ble_eq_true rfl) ?_
  show Pm G RX9 cX9_looksAtTwo 1 (KM G mX9_looksAtTwo 114 114 (some (.int (bI true))) (f, l, refT)) 0 [some (.int (nI 2))] [] f l
  refine P.iload_n dX9_looksAtTwo_0 rfl rfl ?_
  refine P.if_eq_n (tgt := 14) dX9_looksAtTwo_1 (by decide) (by omega) (fun c_1 => ?_) (fun c_1 => ?_)
  · exfalso; omega
  refine P.iload_n dX9_looksAtTwo_4 rfl rfl ?_
  refine P.iconst dX9_looksAtTwo_5 ic_2 ?_
  refine P.icmp_eq_n (tgt := 14) dX9_looksAtTwo_6 (by decide) (by omega) (by omega) (fun c_6 => ?_) (fun c_6 => ?_)
  · refine P.iconst dX9_looksAtTwo_14 ic_1 ?_
    refine P.goto (tgt := 19) dX9_looksAtTwo_15 (by decide) ?_
    exact P.bret rfl dX9_looksAtTwo_19 rfl rfl
  · exfalso; omega

set_option maxRecDepth 20000 in
theorem s_looks3 {G : GG} {f : Nat → Nat → Nat} {l : Nat → Nat → Int64}  : Spec G mX9_looksAtTwo [.int (nI 3)] 114 (f, l, refT) (some (.int (bI false))) 114 (f, l, refT) := by
  refine Spec.of ok_X9_looksAtTwo.1 ⟨Nat.le_refl _, Nat.le_refl _⟩ (Nat.le_of_ble_eq_true rfl) ?_
  show Pm G RX9 cX9_looksAtTwo 1 (KM G mX9_looksAtTwo 114 114 (some (.int (bI false))) (f, l, refT)) 0 [some (.int (nI 3))] [] f l
  refine P.iload_n dX9_looksAtTwo_0 rfl rfl ?_
  refine P.if_eq_n (tgt := 14) dX9_looksAtTwo_1 (by decide) (by omega) (fun c_1 => ?_) (fun c_1 => ?_)
  · exfalso; omega
  refine P.iload_n dX9_looksAtTwo_4 rfl rfl ?_
  refine P.iconst dX9_looksAtTwo_5 ic_2 ?_
  refine P.icmp_eq_n (tgt := 14) dX9_looksAtTwo_6 (by decide) (by omega) (by omega) (fun c_6 => ?_) (fun c_6 => ?_)
  · exfalso; omega
  refine P.iload_n dX9_looksAtTwo_9 rfl rfl ?_
  refine P.iconst dX9_looksAtTwo_10 ic_4 ?_
  refine P.icmp_ne_n (tgt := 18) dX9_looksAtTwo_11 (by decide) (by omega) (by omega) (fun c_11 => ?_) (fun c_11 => ?_)
  · refine P.iconst dX9_looksAtTwo_18 ic_0 ?_
    exact P.bret rfl dX9_looksAtTwo_19 rfl rfl
  · exfalso; omega

set_option maxRecDepth 20000 in
theorem s_looks4 {G : GG} {f : Nat → Nat → Nat} {l : Nat → Nat → Int64}  : Spec G mX9_looksAtTwo [.int (nI 4)] 114 (f, l, refT) (some (.int (bI true))) 114 (f, l, refT) := by
  refine Spec.of ok_X9_looksAtTwo.1 ⟨Nat.le_refl _, Nat.le_refl _⟩ (Nat.le_of_ble_eq_true rfl) ?_
  show Pm G RX9 cX9_looksAtTwo 1 (KM G mX9_looksAtTwo 114 114 (some (.int (bI true))) (f, l, refT)) 0 [some (.int (nI 4))] [] f l
  refine P.iload_n dX9_looksAtTwo_0 rfl rfl ?_
  refine P.if_eq_n (tgt := 14) dX9_looksAtTwo_1 (by decide) (by omega) (fun c_1 => ?_) (fun c_1 => ?_)
  · exfalso; omega
  refine P.iload_n dX9_looksAtTwo_4 rfl rfl ?_
  refine P.iconst dX9_looksAtTwo_5 ic_2 ?_
  refine P.icmp_eq_n (tgt := 14) dX9_looksAtTwo_6 (by decide) (by omega) (by omega) (fun c_6 => ?_) (fun c_6 => ?_)
  · exfalso; omega
  refine P.iload_n dX9_looksAtTwo_9 rfl rfl ?_
  refine P.iconst dX9_looksAtTwo_10 ic_4 ?_
  refine P.icmp_ne_n (tgt := 18) dX9_looksAtTwo_11 (by decide) (by omega) (by omega) (fun c_11 => ?_) (fun c_11 => ?_)
  · exfalso; omega
  refine P.iconst dX9_looksAtTwo_14 ic_1 ?_
  refine P.goto (tgt := 19) dX9_looksAtTwo_15 (by decide) ?_
  exact P.bret rfl dX9_looksAtTwo_19 rfl rfl

set_option maxRecDepth 20000 in
theorem s_manyTables {G : GG} {f : Nat → Nat → Nat} {l : Nat → Nat → Int64} {T : TB} (hT : TV f T) (hTW : TW T)  : Spec G mX9_manyTables [.ref (ad G 0)] 114 (f, l, refT) (some (.int (nI (tabsN T)))) 114 (f, l, refT) := by
  refine Spec.of ok_X9_manyTables.1 ⟨Nat.le_refl _, Nat.le_refl _⟩ (Nat.le_of_ble_eq_true rfl) ?_
  show Pm G RX9 cX9_manyTables 3 (KM G mX9_manyTables 114 114 (some (.int (nI (tabsN T)))) (f, l, refT)) 0 [some (.ref (ad G 0)), none, none] [] f l
  refine P.iconst dX9_manyTables_0 ic_0 ?_
  refine P.istore_n dX9_manyTables_1 rfl (by decide) ?_
  refine P.iconst dX9_manyTables_2 ic_0 ?_
  refine P.istore_n dX9_manyTables_3 rfl (by decide) ?_
  refine loop_up (M := fun (i : Nat) => Pm G _ _ _ _ 4 [some (.ref (ad G 0)), some (.int (nI (cntN (fun t => T.1 t != 0) i))), some (.int (nI i))] [] f l) (lo := 0) (N := 4) (by first | exact Nat.zero_le _ | omega) (fun i hi0 hi1 ihi => ?_) ?_
  · show Pm G _ _ _ _ 4 [some (.ref (ad G 0)), some (.int (nI (cntN (fun t => T.1 t != 0) i))), some (.int (nI i))] [] f l
    refine P.iload_n dX9_manyTables_4 rfl rfl ?_
    refine P.iconst dX9_manyTables_5 ic_4 ?_
    refine P.icmp_ge_n (tgt := 38) dX9_manyTables_6 (by decide) (by omega) (by omega) (fun c_6 => ?_) (fun c_6 => ?_)
    · exfalso; omega
    refine P.iload_n dX9_manyTables_9 rfl rfl ?_
    refine P.aload_n dX9_manyTables_10 rfl rfl ?_
    refine g_X9_tables (q := 1) ly_0 (by decide) (by decide) fl_X9_11 dX9_manyTables_11 ?_
    refine P.iload_n dX9_manyTables_14 rfl rfl ?_
    refine a_r8 (q := 78 + 2 * i) ly_1 (by decide) (by omega) (by decide) (rt_tab (r := i) (by omega)) dX9_manyTables_15 ?_
    refine g_X8_columns (ly_tab (r := i) (by omega)) (by omega) fl_X9_56 dX9_manyTables_16 ?_
    refine Pm.topn (b := T.1 i) ((hT.1 i (by omega))) ?_
    refine P.if_eq_n (tgt := 26) dX9_manyTables_19 (by decide) (by have := hTW.1 _ (by assumption); omega) (fun c_19 => ?_) (fun c_19 => ?_)
    · refine P.iconst dX9_manyTables_26 ic_0 ?_
      refine P.callS (As := [.int (nI 0)]) (rest := [.int (nI (cntN (fun t => T.1 t != 0) i))]) (s_oneIf (by decide)) ok_X9_oneIf ⟨Nat.le_of_ble_eq_true rfl, Nat.le_of_ble_eq_true rfl, Nat.le_refl _, Nat.le_refl _⟩ rfl ml_X9_106 rfl (Nat.le_of_ble_eq_true rfl) dX9_manyTables_27 ?_
      refine P.iadd_n dX9_manyTables_30 (nI_add _ _) ?_
      refine P.istore_n dX9_manyTables_31 rfl (by decide) ?_
      refine P.iinc dX9_manyTables_32 rfl (inc1 _) (by decide) ?_
      refine P.goto (tgt := 4) dX9_manyTables_35 (by decide) ?_
      show Pm G _ _ _ _ 4 [some (.ref (ad G 0)), some (.int (nI ((cntN (fun t => T.1 t != 0) i) + 0))), some (.int (nI (i + 1)))] [] f l
      exact Pm.to (ihi) (by simp [lle, cntN_s, bN, Int64.not_lt, Int64.not_le, c_6, c_19]) rfl rfl rfl
    refine P.iconst dX9_manyTables_22 ic_1 ?_
    refine P.goto (tgt := 27) dX9_manyTables_23 (by decide) ?_
    refine P.callS (As := [.int (nI 1)]) (rest := [.int (nI (cntN (fun t => T.1 t != 0) i))]) (s_oneIf (by decide)) ok_X9_oneIf ⟨Nat.le_of_ble_eq_true rfl, Nat.le_of_ble_eq_true rfl, Nat.le_refl _, Nat.le_refl _⟩ rfl ml_X9_106 rfl (Nat.le_of_ble_eq_true rfl) dX9_manyTables_27 ?_
    refine P.iadd_n dX9_manyTables_30 (nI_add _ _) ?_
    refine P.istore_n dX9_manyTables_31 rfl (by decide) ?_
    refine P.iinc dX9_manyTables_32 rfl (inc1 _) (by decide) ?_
    refine P.goto (tgt := 4) dX9_manyTables_35 (by decide) ?_
    show Pm G _ _ _ _ 4 [some (.ref (ad G 0)), some (.int (nI ((cntN (fun t => T.1 t != 0) i) + 1))), some (.int (nI (i + 1)))] [] f l
    exact Pm.to (ihi) (by simp [lle, cntN_s, bN, Int64.not_lt, Int64.not_le, c_6, c_19]) rfl rfl rfl
  · show Pm G _ _ _ _ 4 [some (.ref (ad G 0)), some (.int (nI (cntN (fun t => T.1 t != 0) 4))), some (.int (nI 4))] [] f l
    refine P.iload_n dX9_manyTables_4 rfl rfl ?_
    refine P.iconst dX9_manyTables_5 ic_4 ?_
    refine P.icmp_ge_n (tgt := 38) dX9_manyTables_6 (by decide) (by omega) (by omega) (fun c_6 => ?_) (fun c_6 => ?_)
    · refine P.iload_n dX9_manyTables_38 rfl rfl ?_
      exact P.iret rfl dX9_manyTables_39 rfl rfl
    · exfalso; omega

set_option maxRecDepth 20000 in
theorem s_asLane0 {G : GG} {f : Nat → Nat → Nat} {l : Nat → Nat → Int64} {n : Nat} {v : Int64} (hk : n = 0) : Spec G mX9_asLane [.int (nI n), .long v] 114 (f, l, refT) (some (.long (asLane n v))) 114 (f, l, refT) := by
  refine Spec.of ok_X9_asLane.1 ⟨Nat.le_refl _, Nat.le_refl _⟩ (Nat.le_of_ble_eq_true rfl) ?_
  show Pm G RX9 cX9_asLane 3 (KM G mX9_asLane 114 114 (some (.long (asLane n v))) (f, l, refT)) 0 [some (.int (nI n)), some (.long v), none] [] f l
  refine P.iload_n dX9_asLane_0 rfl rfl ?_
  subst hk
  refine P.tableIn (off := 35) (tgt := 36) dX9_asLane_1 (by decide) (by decide) rfl (by decide) ?_
  refine P.lload_n dX9_asLane_36 rfl rfl ?_
  refine P.l2i dX9_asLane_37 ?_
  refine P.i2b dX9_asLane_38 ?_
  refine P.i2l dX9_asLane_39 rfl ?_
  exact P.lret rfl dX9_asLane_40 rfl rfl

set_option maxRecDepth 20000 in
theorem s_asLane1 {G : GG} {f : Nat → Nat → Nat} {l : Nat → Nat → Int64} {n : Nat} {v : Int64} (hk : n = 1) : Spec G mX9_asLane [.int (nI n), .long v] 114 (f, l, refT) (some (.long (asLane n v))) 114 (f, l, refT) := by
  refine Spec.of ok_X9_asLane.1 ⟨Nat.le_refl _, Nat.le_refl _⟩ (Nat.le_of_ble_eq_true rfl) ?_
  show Pm G RX9 cX9_asLane 3 (KM G mX9_asLane 114 114 (some (.long (asLane n v))) (f, l, refT)) 0 [some (.int (nI n)), some (.long v), none] [] f l
  refine P.iload_n dX9_asLane_0 rfl rfl ?_
  subst hk
  refine P.tableIn (off := 40) (tgt := 41) dX9_asLane_1 (by decide) (by decide) rfl (by decide) ?_
  refine P.lload_n dX9_asLane_41 rfl rfl ?_
  refine P.l2i dX9_asLane_42 ?_
  refine P.i2s dX9_asLane_43 ?_
  refine P.i2l dX9_asLane_44 rfl ?_
  exact P.lret rfl dX9_asLane_45 rfl rfl

set_option maxRecDepth 20000 in
theorem s_asLane2 {G : GG} {f : Nat → Nat → Nat} {l : Nat → Nat → Int64} {n : Nat} {v : Int64} (hk : n = 2) : Spec G mX9_asLane [.int (nI n), .long v] 114 (f, l, refT) (some (.long (asLane n v))) 114 (f, l, refT) := by
  refine Spec.of ok_X9_asLane.1 ⟨Nat.le_refl _, Nat.le_refl _⟩ (Nat.le_of_ble_eq_true rfl) ?_
  show Pm G RX9 cX9_asLane 3 (KM G mX9_asLane 114 114 (some (.long (asLane n v))) (f, l, refT)) 0 [some (.int (nI n)), some (.long v), none] [] f l
  refine P.iload_n dX9_asLane_0 rfl rfl ?_
  subst hk
  refine P.tableIn (off := 45) (tgt := 46) dX9_asLane_1 (by decide) (by decide) rfl (by decide) ?_
  refine P.lload_n dX9_asLane_46 rfl rfl ?_
  refine P.l2i dX9_asLane_47 ?_
  refine P.i2c dX9_asLane_48 ?_
  refine P.i2l dX9_asLane_49 rfl ?_
  exact P.lret rfl dX9_asLane_50 rfl rfl

set_option maxRecDepth 20000 in
theorem s_asLane3 {G : GG} {f : Nat → Nat → Nat} {l : Nat → Nat → Int64} {n : Nat} {v : Int64} (hk : n = 3) : Spec G mX9_asLane [.int (nI n), .long v] 114 (f, l, refT) (some (.long (asLane n v))) 114 (f, l, refT) := by
  refine Spec.of ok_X9_asLane.1 ⟨Nat.le_refl _, Nat.le_refl _⟩ (Nat.le_of_ble_eq_true rfl) ?_
  show Pm G RX9 cX9_asLane 3 (KM G mX9_asLane 114 114 (some (.long (asLane n v))) (f, l, refT)) 0 [some (.int (nI n)), some (.long v), none] [] f l
  refine P.iload_n dX9_asLane_0 rfl rfl ?_
  subst hk
  refine P.tableIn (off := 50) (tgt := 51) dX9_asLane_1 (by decide) (by decide) rfl (by decide) ?_
  refine P.lload_n dX9_asLane_51 rfl rfl ?_
  refine P.l2i dX9_asLane_52 ?_
  refine P.i2l dX9_asLane_53 rfl ?_
  exact P.lret rfl dX9_asLane_54 rfl rfl

set_option maxRecDepth 20000 in
theorem s_asLane4 {G : GG} {f : Nat → Nat → Nat} {l : Nat → Nat → Int64} {n : Nat} {v : Int64} (hk : n = 4) : Spec G mX9_asLane [.int (nI n), .long v] 114 (f, l, refT) (some (.long (asLane n v))) 114 (f, l, refT) := by
  refine Spec.of ok_X9_asLane.1 ⟨Nat.le_refl _, Nat.le_refl _⟩ (Nat.le_of_ble_eq_true rfl) ?_
  show Pm G RX9 cX9_asLane 3 (KM G mX9_asLane 114 114 (some (.long (asLane n v))) (f, l, refT)) 0 [some (.int (nI n)), some (.long v), none] [] f l
  refine P.iload_n dX9_asLane_0 rfl rfl ?_
  subst hk
  refine P.tableIn (off := 54) (tgt := 55) dX9_asLane_1 (by decide) (by decide) rfl (by decide) ?_
  refine P.lload_n dX9_asLane_55 rfl rfl ?_
  exact P.lret rfl dX9_asLane_56 rfl rfl

set_option maxRecDepth 20000 in
theorem s_asLane5 {G : GG} {f : Nat → Nat → Nat} {l : Nat → Nat → Int64} {n : Nat} {v : Int64} (hk : n = 5) : Spec G mX9_asLane [.int (nI n), .long v] 114 (f, l, refT) (some (.long (asLane n v))) 114 (f, l, refT) := by
  refine Spec.of ok_X9_asLane.1 ⟨Nat.le_refl _, Nat.le_refl _⟩ (Nat.le_of_ble_eq_true rfl) ?_
  show Pm G RX9 cX9_asLane 3 (KM G mX9_asLane 114 114 (some (.long (asLane n v))) (f, l, refT)) 0 [some (.int (nI n)), some (.long v), none] [] f l
  refine P.iload_n dX9_asLane_0 rfl rfl ?_
  subst hk
  refine P.tableOut (tgt := 57) dX9_asLane_1 (by decide) (by decide) ?_
  refine P.lload_n dX9_asLane_57 rfl rfl ?_
  refine P.l2d dX9_asLane_58 ?_
  refine P.d2l dX9_asLane_59 ?_
  exact P.lret rfl dX9_asLane_60 rfl rfl

theorem s_asLane {G : GG} {f : Nat → Nat → Nat} {l : Nat → Nat → Int64} {n : Nat} {v : Int64} (hn : n < 6) : Spec G mX9_asLane [.int (nI n), .long v] 114 (f, l, refT) (some (.long (asLane n v))) 114 (f, l, refT) := by
  rcases (show n = 0 ∨ n = 1 ∨ n = 2 ∨ n = 3 ∨ n = 4 ∨ n = 5 by omega) with h | h | h | h | h | h
  · exact s_asLane0 h
  · exact s_asLane1 h
  · exact s_asLane2 h
  · exact s_asLane3 h
  · exact s_asLane4 h
  · exact s_asLane5 h


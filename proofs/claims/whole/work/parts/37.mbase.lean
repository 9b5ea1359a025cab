-- the model's small methods: by program (wip/whole/spec37.py)
set_option maxRecDepth 20000 in
theorem t_in {G : GG} {f : Nat → Nat → Nat} {l : Nat → Nat → Int64} {v a b : Int64} : Spec G mX10_in [.long v, .long a, .long b] 114 (f, l, refT) (some (.int (bI (decide (a ≤ v) && decide (v ≤ b))))) 114 (f, l, refT) := by
  refine Spec.of ok_X10_in.1 ⟨Nat.le_refl _, Nat.le_refl _⟩ (Nat.le_of_ble_eq_true rfl) ?_
  show Pm G RX10 cX10_in 6 (KM G mX10_in 114 114 (some (.int (bI (decide (a ≤ v) && decide (v ≤ b))))) (f, l, refT)) 0 [some (.long v), none, some (.long a), none, some (.long b), none] [] f l
  refine P.lload_n dX10_in_0 rfl rfl ?_
  refine P.lload_n dX10_in_1 rfl rfl ?_
  refine P.lc_lt (tgt := 17) dX10_in_2 dX10_in_3 (by decide) (fun c_2 => ?_) (fun c_2 => ?_)
  · refine P.iconst dX10_in_17 ic_0 ?_
    exact P.bret rfl dX10_in_18 (by simp [c_2, (Int64.not_le.mpr c_2)]; rfl) rfl
  refine P.lload_n dX10_in_6 rfl rfl ?_
  refine P.lload dX10_in_7 rfl ?_
  refine P.lc_gt (tgt := 17) dX10_in_9 dX10_in_10 (by decide) (fun c_9 => ?_) (fun c_9 => ?_)
  · refine P.iconst dX10_in_17 ic_0 ?_
    exact P.bret rfl dX10_in_18 (by simp [c_2, (Int64.not_lt.mpr c_2), c_9, (Int64.not_le.mpr c_9)]; rfl) rfl
  refine P.iconst dX10_in_13 ic_1 ?_
  refine P.goto (tgt := 18) dX10_in_14 (by decide) ?_
  exact P.bret rfl dX10_in_18 (by simp [c_2, (Int64.not_lt.mpr c_2), c_9, (Int64.not_lt.mpr c_9)]; rfl) rfl

theorem t_inR {G : GG} {f : Nat → Nat → Nat} {l : Nat → Nat → Int64} {x : Int32} {R : Nat} (hR : R < 2147483648) : Spec G mX10_in [.long x.toInt64, .long 0, .long (nI R - nI 1).toInt64] 114 (f, l, refT) (some (.int (bI (inR x R)))) 114 (f, l, refT) := by
  have h := t_in (G := G) (f := f) (l := l) (v := x.toInt64) (a := 0) (b := (nI R - nI 1).toInt64)
  rw [inL x hR] at h
  exact h
theorem t_inC {G : GG} {f : Nat → Nat → Nat} {l : Nat → Nat → Int64} {x : Int32} {R : Nat} {b : Int64} (hb : (nI R - nI 1).toInt64 = b) (hR : R < 2147483648) : Spec G mX10_in [.long x.toInt64, .long 0, .long b] 114 (f, l, refT) (some (.int (bI (inR x R)))) 114 (f, l, refT) := by
  subst hb; exact t_inR hR

set_option maxRecDepth 20000 in
theorem t_finds {G : GG} {f : Nat → Nat → Nat} {l : Nat → Nat → Int64} {D : DB} {W : LB} {U : QB} {T : TB} {N : Nat} (hM : MV f l D W U T N) (hBW : BW D W U T) {x : Int32} : Spec G mX10_finds [.ref (ad G 86), .int x] 114 (f, l, refT) (some (.int x)) 114 (uf f 86 18 (N + 1), l, refT) := by
  refine Spec.of ok_X10_finds.1 ⟨Nat.le_refl _, Nat.le_refl _⟩ (Nat.le_of_ble_eq_true rfl) ?_
  show Pm G RX10 cX10_finds 2 (KM G mX10_finds 114 114 (some (.int x)) (uf f 86 18 (N + 1), l, refT)) 0 [some (.ref (ad G 86)), some (.int x)] [] f l
  refine P.aload_n dX10_finds_0 rfl rfl ?_
  refine P.dup dX10_finds_1 rfl ?_
  refine g_X10_findings ly_86 (by decide) fl_X10_97 dX10_finds_2 ?_
  refine Pm.topn (b := N) (hM.N) ?_
  refine P.iconst dX10_finds_5 ic_1 ?_
  refine P.iadd_n dX10_finds_6 (nI_add _ _) ?_
  refine p_X10_findings (a := (N + 1)) ly_86 (by decide) fl_X10_97 dX10_finds_7 rfl ?_
  refine P.iload_n dX10_finds_10 rfl rfl ?_
  exact P.iret rfl dX10_finds_11 rfl rfl

set_option maxRecDepth 20000 in
theorem t_noRow_f {G : GG} {f : Nat → Nat → Nat} {l : Nat → Nat → Int64} {D : DB} {W : LB} {U : QB} {T : TB} {N : Nat} (hM : MV f l D W U T N) (hBW : BW D W U T) {x : Int32} (hx : inR x D.1 = false) : Spec G mX10_noRow [.ref (ad G 86), .int x] 114 (f, l, refT) (some (.int (bI true))) 114 (f, l, refT) := by
  obtain ⟨hD, hLW, hUW, hTW⟩ := id hBW
  have hR := hD.1
  have hW1 := hLW.1
  have hU1 := hUW.1
  have hJ1 := hUW.2.1
  refine Spec.of ok_X10_noRow.1 ⟨Nat.le_refl _, Nat.le_refl _⟩ (Nat.le_of_ble_eq_true rfl) ?_
  show Pm G RX10 cX10_noRow 2 (KM G mX10_noRow 114 114 (some (.int (bI true))) (f, l, refT)) 0 [some (.ref (ad G 86)), some (.int x)] [] f l
  refine P.iload_n dX10_noRow_0 rfl rfl ?_
  refine P.i2l dX10_noRow_1 rfl ?_
  refine P.lconst (v := 0) dX10_noRow_2 rfl ?_
  refine P.aload_n dX10_noRow_3 rfl rfl ?_
  refine g_X10_rows ly_86 (by decide) fl_X10_106 dX10_noRow_4 ?_
  refine Pm.topn (b := D.1) (hM.R) ?_
  refine P.iconst dX10_noRow_7 ic_1 ?_
  refine P.isub_n dX10_noRow_8 rfl ?_
  refine P.i2l dX10_noRow_9 rfl ?_
  refine P.callS (As := [.long ((x).toInt64), .long 0, .long (((nI D.1 - nI 1)).toInt64)]) (rest := []) (by have h := t_inR (G := G) (f := f) (l := l) (x := x) (R := D.1) (by omega); rw [hx] at h; exact h) ok_X10_in ⟨Nat.le_of_ble_eq_true rfl, Nat.le_of_ble_eq_true rfl, Nat.le_refl _, Nat.le_refl _⟩ rfl ml_X10_102 rfl (Nat.le_of_ble_eq_true rfl) dX10_noRow_10 ?_
  refine P.if_ne_b (tgt := 20) dX10_noRow_13 (by decide) (fun c_13 => ?_) (fun c_13 => ?_)
  · exfalso; revert c_13; decide
  refine P.iconst dX10_noRow_16 ic_1 ?_
  refine P.goto (tgt := 21) dX10_noRow_17 (by decide) ?_
  exact P.bret rfl dX10_noRow_21 rfl rfl

set_option maxRecDepth 20000 in
theorem t_noRow_t {G : GG} {f : Nat → Nat → Nat} {l : Nat → Nat → Int64} {D : DB} {W : LB} {U : QB} {T : TB} {N : Nat} (hM : MV f l D W U T N) (hBW : BW D W U T) {r : Nat} (hr : r < D.1) : Spec G mX10_noRow [.ref (ad G 86), .int (nI r)] 114 (f, l, refT) (some (.int (bI false))) 114 (f, l, refT) := by
  obtain ⟨hD, hLW, hUW, hTW⟩ := id hBW
  have hR := hD.1
  have hW1 := hLW.1
  have hU1 := hUW.1
  have hJ1 := hUW.2.1
  refine Spec.of ok_X10_noRow.1 ⟨Nat.le_refl _, Nat.le_refl _⟩ (Nat.le_of_ble_eq_true rfl) ?_
  show Pm G RX10 cX10_noRow 2 (KM G mX10_noRow 114 114 (some (.int (bI false))) (f, l, refT)) 0 [some (.ref (ad G 86)), some (.int (nI r))] [] f l
  refine P.iload_n dX10_noRow_0 rfl rfl ?_
  refine P.i2l dX10_noRow_1 rfl ?_
  refine P.lconst (v := 0) dX10_noRow_2 rfl ?_
  refine P.aload_n dX10_noRow_3 rfl rfl ?_
  refine g_X10_rows ly_86 (by decide) fl_X10_106 dX10_noRow_4 ?_
  refine Pm.topn (b := D.1) (hM.R) ?_
  refine P.iconst dX10_noRow_7 ic_1 ?_
  refine P.isub_n dX10_noRow_8 rfl ?_
  refine P.i2l dX10_noRow_9 rfl ?_
  refine P.callS (As := [.long ((nI r).toInt64), .long 0, .long (((nI D.1 - nI 1)).toInt64)]) (rest := []) (by have h := t_inR (G := G) (f := f) (l := l) (x := (nI r)) (R := D.1) (by omega); rw [(inR_n hr (by omega))] at h; exact h) ok_X10_in ⟨Nat.le_of_ble_eq_true rfl, Nat.le_of_ble_eq_true rfl, Nat.le_refl _, Nat.le_refl _⟩ rfl ml_X10_102 rfl (Nat.le_of_ble_eq_true rfl) dX10_noRow_10 ?_
  refine P.if_ne_b (tgt := 20) dX10_noRow_13 (by decide) (fun c_13 => ?_) (fun c_13 => ?_)
  · refine P.iconst dX10_noRow_20 ic_0 ?_
    exact P.bret rfl dX10_noRow_21 rfl rfl
  · exfalso; revert c_13; decide

set_option maxRecDepth 20000 in
theorem t_noLaw_f {G : GG} {f : Nat → Nat → Nat} {l : Nat → Nat → Int64} {D : DB} {W : LB} {U : QB} {T : TB} {N : Nat} (hM : MV f l D W U T N) (hBW : BW D W U T) {x : Int32} (hx : inR x W.1 = false) : Spec G mX10_noLaw [.ref (ad G 86), .int x] 114 (f, l, refT) (some (.int (bI true))) 114 (f, l, refT) := by
  obtain ⟨hD, hLW, hUW, hTW⟩ := id hBW
  have hR := hD.1
  have hW1 := hLW.1
  have hU1 := hUW.1
  have hJ1 := hUW.2.1
  refine Spec.of ok_X10_noLaw.1 ⟨Nat.le_refl _, Nat.le_refl _⟩ (Nat.le_of_ble_eq_true rfl) ?_
  show Pm G RX10 cX10_noLaw 2 (KM G mX10_noLaw 114 114 (some (.int (bI true))) (f, l, refT)) 0 [some (.ref (ad G 86)), some (.int x)] [] f l
  refine P.iload_n dX10_noLaw_0 rfl rfl ?_
  refine P.i2l dX10_noLaw_1 rfl ?_
  refine P.lconst (v := 0) dX10_noLaw_2 rfl ?_
  refine P.aload_n dX10_noLaw_3 rfl rfl ?_
  refine g_X10_laws ly_86 (by decide) fl_X10_109 dX10_noLaw_4 ?_
  refine Pm.topn (b := W.1) (hM.W) ?_
  refine P.iconst dX10_noLaw_7 ic_1 ?_
  refine P.isub_n dX10_noLaw_8 rfl ?_
  refine P.i2l dX10_noLaw_9 rfl ?_
  refine P.callS (As := [.long ((x).toInt64), .long 0, .long (((nI W.1 - nI 1)).toInt64)]) (rest := []) (by have h := t_inR (G := G) (f := f) (l := l) (x := x) (R := W.1) (by omega); rw [hx] at h; exact h) ok_X10_in ⟨Nat.le_of_ble_eq_true rfl, Nat.le_of_ble_eq_true rfl, Nat.le_refl _, Nat.le_refl _⟩ rfl ml_X10_102 rfl (Nat.le_of_ble_eq_true rfl) dX10_noLaw_10 ?_
  refine P.if_ne_b (tgt := 20) dX10_noLaw_13 (by decide) (fun c_13 => ?_) (fun c_13 => ?_)
  · exfalso; revert c_13; decide
  refine P.iconst dX10_noLaw_16 ic_1 ?_
  refine P.goto (tgt := 21) dX10_noLaw_17 (by decide) ?_
  exact P.bret rfl dX10_noLaw_21 rfl rfl

set_option maxRecDepth 20000 in
theorem t_noLaw_t {G : GG} {f : Nat → Nat → Nat} {l : Nat → Nat → Int64} {D : DB} {W : LB} {U : QB} {T : TB} {N : Nat} (hM : MV f l D W U T N) (hBW : BW D W U T) {r : Nat} (hr : r < W.1) : Spec G mX10_noLaw [.ref (ad G 86), .int (nI r)] 114 (f, l, refT) (some (.int (bI false))) 114 (f, l, refT) := by
  obtain ⟨hD, hLW, hUW, hTW⟩ := id hBW
  have hR := hD.1
  have hW1 := hLW.1
  have hU1 := hUW.1
  have hJ1 := hUW.2.1
  refine Spec.of ok_X10_noLaw.1 ⟨Nat.le_refl _, Nat.le_refl _⟩ (Nat.le_of_ble_eq_true rfl) ?_
  show Pm G RX10 cX10_noLaw 2 (KM G mX10_noLaw 114 114 (some (.int (bI false))) (f, l, refT)) 0 [some (.ref (ad G 86)), some (.int (nI r))] [] f l
  refine P.iload_n dX10_noLaw_0 rfl rfl ?_
  refine P.i2l dX10_noLaw_1 rfl ?_
  refine P.lconst (v := 0) dX10_noLaw_2 rfl ?_
  refine P.aload_n dX10_noLaw_3 rfl rfl ?_
  refine g_X10_laws ly_86 (by decide) fl_X10_109 dX10_noLaw_4 ?_
  refine Pm.topn (b := W.1) (hM.W) ?_
  refine P.iconst dX10_noLaw_7 ic_1 ?_
  refine P.isub_n dX10_noLaw_8 rfl ?_
  refine P.i2l dX10_noLaw_9 rfl ?_
  refine P.callS (As := [.long ((nI r).toInt64), .long 0, .long (((nI W.1 - nI 1)).toInt64)]) (rest := []) (by have h := t_inR (G := G) (f := f) (l := l) (x := (nI r)) (R := W.1) (by omega); rw [(inR_n hr (by omega))] at h; exact h) ok_X10_in ⟨Nat.le_of_ble_eq_true rfl, Nat.le_of_ble_eq_true rfl, Nat.le_refl _, Nat.le_refl _⟩ rfl ml_X10_102 rfl (Nat.le_of_ble_eq_true rfl) dX10_noLaw_10 ?_
  refine P.if_ne_b (tgt := 20) dX10_noLaw_13 (by decide) (fun c_13 => ?_) (fun c_13 => ?_)
  · refine P.iconst dX10_noLaw_20 ic_0 ?_
    exact P.bret rfl dX10_noLaw_21 rfl rfl
  · exfalso; revert c_13; decide

set_option maxRecDepth 20000 in
theorem t_noPart_f {G : GG} {f : Nat → Nat → Nat} {l : Nat → Nat → Int64} {D : DB} {W : LB} {U : QB} {T : TB} {N : Nat} (hM : MV f l D W U T N) (hBW : BW D W U T) {x : Int32} (hx : inR x U.1 = false) : Spec G mX10_noPart [.ref (ad G 86), .int x] 114 (f, l, refT) (some (.int (bI true))) 114 (f, l, refT) := by
  obtain ⟨hD, hLW, hUW, hTW⟩ := id hBW
  have hR := hD.1
  have hW1 := hLW.1
  have hU1 := hUW.1
  have hJ1 := hUW.2.1
  refine Spec.of ok_X10_noPart.1 ⟨Nat.le_refl _, Nat.le_refl _⟩ (Nat.le_of_ble_eq_true rfl) ?_
  show Pm G RX10 cX10_noPart 2 (KM G mX10_noPart 114 114 (some (.int (bI true))) (f, l, refT)) 0 [some (.ref (ad G 86)), some (.int x)] [] f l
  refine P.iload_n dX10_noPart_0 rfl rfl ?_
  refine P.i2l dX10_noPart_1 rfl ?_
  refine P.lconst (v := 0) dX10_noPart_2 rfl ?_
  refine P.aload_n dX10_noPart_3 rfl rfl ?_
  refine g_X10_parts ly_86 (by decide) fl_X10_209 dX10_noPart_4 ?_
  refine Pm.topn (b := U.1) (hM.np) ?_
  refine P.iconst dX10_noPart_7 ic_1 ?_
  refine P.isub_n dX10_noPart_8 rfl ?_
  refine P.i2l dX10_noPart_9 rfl ?_
  refine P.callS (As := [.long ((x).toInt64), .long 0, .long (((nI U.1 - nI 1)).toInt64)]) (rest := []) (by have h := t_inR (G := G) (f := f) (l := l) (x := x) (R := U.1) (by omega); rw [hx] at h; exact h) ok_X10_in ⟨Nat.le_of_ble_eq_true rfl, Nat.le_of_ble_eq_true rfl, Nat.le_refl _, Nat.le_refl _⟩ rfl ml_X10_102 rfl (Nat.le_of_ble_eq_true rfl) dX10_noPart_10 ?_
  refine P.if_ne_b (tgt := 20) dX10_noPart_13 (by decide) (fun c_13 => ?_) (fun c_13 => ?_)
  · exfalso; revert c_13; decide
  refine P.iconst dX10_noPart_16 ic_1 ?_
  refine P.goto (tgt := 21) dX10_noPart_17 (by decide) ?_
  exact P.bret rfl dX10_noPart_21 rfl rfl

set_option maxRecDepth 20000 in
theorem t_noPart_t {G : GG} {f : Nat → Nat → Nat} {l : Nat → Nat → Int64} {D : DB} {W : LB} {U : QB} {T : TB} {N : Nat} (hM : MV f l D W U T N) (hBW : BW D W U T) {r : Nat} (hr : r < U.1) : Spec G mX10_noPart [.ref (ad G 86), .int (nI r)] 114 (f, l, refT) (some (.int (bI false))) 114 (f, l, refT) := by
  obtain ⟨hD, hLW, hUW, hTW⟩ := id hBW
  have hR := hD.1
  have hW1 := hLW.1
  have hU1 := hUW.1
  have hJ1 := hUW.2.1
  refine Spec.of ok_X10_noPart.1 ⟨Nat.le_refl _, Nat.le_refl _⟩ (Nat.le_of_ble_eq_true rfl) ?_
  show Pm G RX10 cX10_noPart 2 (KM G mX10_noPart 114 114 (some (.int (bI false))) (f, l, refT)) 0 [some (.ref (ad G 86)), some (.int (nI r))] [] f l
  refine P.iload_n dX10_noPart_0 rfl rfl ?_
  refine P.i2l dX10_noPart_1 rfl ?_
  refine P.lconst (v := 0) dX10_noPart_2 rfl ?_
  refine P.aload_n dX10_noPart_3 rfl rfl ?_
  refine g_X10_parts ly_86 (by decide) fl_X10_209 dX10_noPart_4 ?_
  refine Pm.topn (b := U.1) (hM.np) ?_
  refine P.iconst dX10_noPart_7 ic_1 ?_
  refine P.isub_n dX10_noPart_8 rfl ?_
  refine P.i2l dX10_noPart_9 rfl ?_
  refine P.callS (As := [.long ((nI r).toInt64), .long 0, .long (((nI U.1 - nI 1)).toInt64)]) (rest := []) (by have h := t_inR (G := G) (f := f) (l := l) (x := (nI r)) (R := U.1) (by omega); rw [(inR_n hr (by omega))] at h; exact h) ok_X10_in ⟨Nat.le_of_ble_eq_true rfl, Nat.le_of_ble_eq_true rfl, Nat.le_refl _, Nat.le_refl _⟩ rfl ml_X10_102 rfl (Nat.le_of_ble_eq_true rfl) dX10_noPart_10 ?_
  refine P.if_ne_b (tgt := 20) dX10_noPart_13 (by decide) (fun c_13 => ?_) (fun c_13 => ?_)
  · refine P.iconst dX10_noPart_20 ic_0 ?_
    exact P.bret rfl dX10_noPart_21 rfl rfl
  · exfalso; revert c_13; decide

set_option maxRecDepth 20000 in
theorem t_noColumn_f {G : GG} {f : Nat → Nat → Nat} {l : Nat → Nat → Int64} {D : DB} {W : LB} {U : QB} {T : TB} {N : Nat} (hM : MV f l D W U T N) (hBW : BW D W U T) {t : Nat} (ht : t < 4) {x : Int32} (hx : inR x (T.1 t) = false) : Spec G mX10_noColumn [.ref (ad G 86), .int (nI t), .int x] 114 (f, l, refT) (some (.int (bI true))) 114 (f, l, refT) := by
  obtain ⟨hD, hLW, hUW, hTW⟩ := id hBW
  have hR := hD.1
  have hW1 := hLW.1
  have hU1 := hUW.1
  have hJ1 := hUW.2.1
  have htc := hTW.1 t ht
  refine Spec.of ok_X10_noColumn.1 ⟨Nat.le_refl _, Nat.le_refl _⟩ (Nat.le_of_ble_eq_true rfl) ?_
  show Pm G RX10 cX10_noColumn 3 (KM G mX10_noColumn 114 114 (some (.int (bI true))) (f, l, refT)) 0 [some (.ref (ad G 86)), some (.int (nI t)), some (.int x)] [] f l
  refine P.iload_n dX10_noColumn_0 rfl rfl ?_
  refine P.i2l dX10_noColumn_1 rfl ?_
  refine P.lconst (v := 0) dX10_noColumn_2 rfl ?_
  refine P.aload_n dX10_noColumn_3 rfl rfl ?_
  refine g_X10_columns (q := 87) ly_86 (by decide) (by decide) fl_X10_7 dX10_noColumn_4 ?_
  refine P.iload_n dX10_noColumn_7 rfl rfl ?_
  refine a_ia ly_87 (by decide) (by omega) (by decide) dX10_noColumn_8 ?_
  refine Pm.topn (b := T.1 t) ((hM.col t (by omega))) ?_
  refine P.iconst dX10_noColumn_9 ic_1 ?_
  refine P.isub_n dX10_noColumn_10 rfl ?_
  refine P.i2l dX10_noColumn_11 rfl ?_
  refine P.callS (As := [.long ((x).toInt64), .long 0, .long (((nI (T.1 t) - nI 1)).toInt64)]) (rest := []) (by have h := t_inR (G := G) (f := f) (l := l) (x := x) (R := (T.1 t)) (by omega); rw [hx] at h; exact h) ok_X10_in ⟨Nat.le_of_ble_eq_true rfl, Nat.le_of_ble_eq_true rfl, Nat.le_refl _, Nat.le_refl _⟩ rfl ml_X10_102 rfl (Nat.le_of_ble_eq_true rfl) dX10_noColumn_12 ?_
  refine P.if_ne_b (tgt := 22) dX10_noColumn_15 (by decide) (fun c_15 => ?_) (fun c_15 => ?_)
  · exfalso; revert c_15; decide
  refine P.iconst dX10_noColumn_18 ic_1 ?_
  refine P.goto (tgt := 23) dX10_noColumn_19 (by decide) ?_
  exact P.bret rfl dX10_noColumn_23 rfl rfl

set_option maxRecDepth 20000 in
theorem t_noColumn_t {G : GG} {f : Nat → Nat → Nat} {l : Nat → Nat → Int64} {D : DB} {W : LB} {U : QB} {T : TB} {N : Nat} (hM : MV f l D W U T N) (hBW : BW D W U T) {t : Nat} (ht : t < 4) {c : Nat} (hc : c < T.1 t) : Spec G mX10_noColumn [.ref (ad G 86), .int (nI t), .int (nI c)] 114 (f, l, refT) (some (.int (bI false))) 114 (f, l, refT) := by
  obtain ⟨hD, hLW, hUW, hTW⟩ := id hBW
  have hR := hD.1
  have hW1 := hLW.1
  have hU1 := hUW.1
  have hJ1 := hUW.2.1
  have htc := hTW.1 t ht
  refine Spec.of ok_X10_noColumn.1 ⟨Nat.le_refl _, Nat.le_refl _⟩ (Nat.le_of_ble_eq_true rfl) ?_
  show Pm G RX10 cX10_noColumn 3 (KM G mX10_noColumn 114 114 (some (.int (bI false))) (f, l, refT)) 0 [some (.ref (ad G 86)), some (.int (nI t)), some (.int (nI c))] [] f l
  refine P.iload_n dX10_noColumn_0 rfl rfl ?_
  refine P.i2l dX10_noColumn_1 rfl ?_
  refine P.lconst (v := 0) dX10_noColumn_2 rfl ?_
  refine P.aload_n dX10_noColumn_3 rfl rfl ?_
  refine g_X10_columns (q := 87) ly_86 (by decide) (by decide) fl_X10_7 dX10_noColumn_4 ?_
  refine P.iload_n dX10_noColumn_7 rfl rfl ?_
  refine a_ia ly_87 (by decide) (by omega) (by decide) dX10_noColumn_8 ?_
  refine Pm.topn (b := T.1 t) ((hM.col t (by omega))) ?_
  refine P.iconst dX10_noColumn_9 ic_1 ?_
  refine P.isub_n dX10_noColumn_10 rfl ?_
  refine P.i2l dX10_noColumn_11 rfl ?_
  refine P.callS (As := [.long ((nI c).toInt64), .long 0, .long (((nI (T.1 t) - nI 1)).toInt64)]) (rest := []) (by have h := t_inR (G := G) (f := f) (l := l) (x := (nI c)) (R := (T.1 t)) (by omega); rw [(inR_n hc (by omega))] at h; exact h) ok_X10_in ⟨Nat.le_of_ble_eq_true rfl, Nat.le_of_ble_eq_true rfl, Nat.le_refl _, Nat.le_refl _⟩ rfl ml_X10_102 rfl (Nat.le_of_ble_eq_true rfl) dX10_noColumn_12 ?_
  refine P.if_ne_b (tgt := 22) dX10_noColumn_15 (by decide) (fun c_15 => ?_) (fun c_15 => ?_)
  · refine P.iconst dX10_noColumn_22 ic_0 ?_
    exact P.bret rfl dX10_noColumn_23 rfl rfl
  · exfalso; revert c_15; decide

set_option maxRecDepth 20000 in
theorem t_lack_out {G : GG} {f : Nat → Nat → Nat} {l : Nat → Nat → Int64} {D : DB} {W : LB} {U : QB} {T : TB} {N : Nat} (hM : MV f l D W U T N) (hBW : BW D W U T) {x : Int32} (hx : inR x 4 = false) : Spec G mX10_lack [.ref (ad G 86), .int x] 114 (f, l, refT) (some (.int (-12))) 114 (f, l, refT) := by
  obtain ⟨hD, hLW, hUW, hTW⟩ := id hBW
  have hR := hD.1
  have hW1 := hLW.1
  have hU1 := hUW.1
  have hJ1 := hUW.2.1
  refine Spec.of ok_X10_lack.1 ⟨Nat.le_refl _, Nat.le_refl _⟩ (Nat.le_of_ble_eq_true rfl) ?_
  show Pm G RX10 cX10_lack 2 (KM G mX10_lack 114 114 (some (.int (-12))) (f, l, refT)) 0 [some (.ref (ad G 86)), some (.int x)] [] f l
  refine P.iload_n dX10_lack_0 rfl rfl ?_
  refine P.i2l dX10_lack_1 rfl ?_
  refine P.lconst (v := 0) dX10_lack_2 rfl ?_
  refine P.ldc2 dX10_lack_3 co_X10_100 ?_
  refine P.callS (As := [.long ((x).toInt64), .long 0, .long 3]) (rest := []) (by have h := t_inC (G := G) (f := f) (l := l) (x := x) (R := 4) (b := 3) rfl (by decide); rw [hx] at h; exact h) ok_X10_in ⟨Nat.le_of_ble_eq_true rfl, Nat.le_of_ble_eq_true rfl, Nat.le_refl _, Nat.le_refl _⟩ rfl ml_X10_102 rfl (Nat.le_of_ble_eq_true rfl) dX10_lack_6 ?_
  refine P.if_ne_b (tgt := 17) dX10_lack_9 (by decide) (fun c_9 => ?_) (fun c_9 => ?_)
  · exfalso; revert c_9; decide
  refine P.bipush (v := -12) dX10_lack_12 rfl ?_
  refine P.goto (tgt := 32) dX10_lack_14 (by decide) ?_
  exact P.iret rfl dX10_lack_32 rfl rfl

set_option maxRecDepth 20000 in
theorem t_lack_null {G : GG} {f : Nat → Nat → Nat} {l : Nat → Nat → Int64} {D : DB} {W : LB} {U : QB} {T : TB} {N : Nat} (hM : MV f l D W U T N) (hBW : BW D W U T) {t : Nat} (ht : t < 4) (h0 : T.1 t = 0) : Spec G mX10_lack [.ref (ad G 86), .int (nI t)] 114 (f, l, refT) (some (.int (-11))) 114 (f, l, refT) := by
  obtain ⟨hD, hLW, hUW, hTW⟩ := id hBW
  have hR := hD.1
  have hW1 := hLW.1
  have hU1 := hUW.1
  have hJ1 := hUW.2.1
  have htc := hTW.1 t ht
  refine Spec.of ok_X10_lack.1 ⟨Nat.le_refl _, Nat.le_refl _⟩ (Nat.le_of_ble_eq_true rfl) ?_
  show Pm G RX10 cX10_lack 2 (KM G mX10_lack 114 114 (some (.int (-11))) (f, l, refT)) 0 [some (.ref (ad G 86)), some (.int (nI t))] [] f l
  refine P.iload_n dX10_lack_0 rfl rfl ?_
  refine P.i2l dX10_lack_1 rfl ?_
  refine P.lconst (v := 0) dX10_lack_2 rfl ?_
  refine P.ldc2 dX10_lack_3 co_X10_100 ?_
  refine P.callS (As := [.long ((nI t).toInt64), .long 0, .long 3]) (rest := []) (by have h := t_inC (G := G) (f := f) (l := l) (x := (nI t)) (R := 4) (b := 3) rfl (by decide); rw [inR_n ht (by decide)] at h; exact h) ok_X10_in ⟨Nat.le_of_ble_eq_true rfl, Nat.le_of_ble_eq_true rfl, Nat.le_refl _, Nat.le_refl _⟩ rfl ml_X10_102 rfl (Nat.le_of_ble_eq_true rfl) dX10_lack_6 ?_
  refine P.if_ne_b (tgt := 17) dX10_lack_9 (by decide) (fun c_9 => ?_) (fun c_9 => ?_)
  · refine P.aload_n dX10_lack_17 rfl rfl ?_
    refine g_X10_columns (q := 87) ly_86 (by decide) (by decide) fl_X10_7 dX10_lack_18 ?_
    refine P.iload_n dX10_lack_21 rfl rfl ?_
    refine a_ia ly_87 (by decide) (by omega) (by decide) dX10_lack_22 ?_
    refine Pm.topn (b := T.1 t) ((hM.col t (by omega))) ?_
    refine P.if_ne_n (tgt := 31) dX10_lack_23 (by decide) (by have := hTW.1 _ (by assumption); omega) (fun c_23 => ?_) (fun c_23 => ?_)
    · exfalso; omega
    refine P.bipush (v := -11) dX10_lack_26 rfl ?_
    refine P.goto (tgt := 32) dX10_lack_28 (by decide) ?_
    exact P.iret rfl dX10_lack_32 rfl rfl
  · exfalso; revert c_9; decide

set_option maxRecDepth 20000 in
theorem t_lack_ok {G : GG} {f : Nat → Nat → Nat} {l : Nat → Nat → Int64} {D : DB} {W : LB} {U : QB} {T : TB} {N : Nat} (hM : MV f l D W U T N) (hBW : BW D W U T) {t : Nat} (ht : t < 4) (h0 : T.1 t ≠ 0) : Spec G mX10_lack [.ref (ad G 86), .int (nI t)] 114 (f, l, refT) (some (.int (nI 0))) 114 (f, l, refT) := by
  obtain ⟨hD, hLW, hUW, hTW⟩ := id hBW
  have hR := hD.1
  have hW1 := hLW.1
  have hU1 := hUW.1
  have hJ1 := hUW.2.1
  have htc := hTW.1 t ht
  refine Spec.of ok_X10_lack.1 ⟨Nat.le_refl _, Nat.le_refl _⟩ (Nat.le_of_ble_eq_true rfl) ?_
  show Pm G RX10 cX10_lack 2 (KM G mX10_lack 114 114 (some (.int (nI 0))) (f, l, refT)) 0 [some (.ref (ad G 86)), some (.int (nI t))] [] f l
  refine P.iload_n dX10_lack_0 rfl rfl ?_
  refine P.i2l dX10_lack_1 rfl ?_
  refine P.lconst (v := 0) dX10_lack_2 rfl ?_
  refine P.ldc2 dX10_lack_3 co_X10_100 ?_
  refine P.callS (As := [.long ((nI t).toInt64), .long 0, .long 3]) (rest := []) (by have h := t_inC (G := G) (f := f) (l := l) (x := (nI t)) (R := 4) (b := 3) rfl (by decide); rw [inR_n ht (by decide)] at h; exact h) ok_X10_in ⟨Nat.le_of_ble_eq_true rfl, Nat.le_of_ble_eq_true rfl, Nat.le_refl _, Nat.le_refl _⟩ rfl ml_X10_102 rfl (Nat.le_of_ble_eq_true rfl) dX10_lack_6 ?_
  refine P.if_ne_b (tgt := 17) dX10_lack_9 (by decide) (fun c_9 => ?_) (fun c_9 => ?_)
  · refine P.aload_n dX10_lack_17 rfl rfl ?_
    refine g_X10_columns (q := 87) ly_86 (by decide) (by decide) fl_X10_7 dX10_lack_18 ?_
    refine P.iload_n dX10_lack_21 rfl rfl ?_
    refine a_ia ly_87 (by decide) (by omega) (by decide) dX10_lack_22 ?_
    refine Pm.topn (b := T.1 t) ((hM.col t (by omega))) ?_
    refine P.if_ne_n (tgt := 31) dX10_lack_23 (by decide) (by have := hTW.1 _ (by assumption); omega) (fun c_23 => ?_) (fun c_23 => ?_)
    · refine P.iconst dX10_lack_31 ic_0 ?_
      exact P.iret rfl dX10_lack_32 rfl rfl
    · exfalso; omega
  · exfalso; revert c_9; decide

set_option maxRecDepth 20000 in
theorem t_isOf {G : GG} {f : Nat → Nat → Nat} {l : Nat → Nat → Int64} {D : DB} {W : LB} {U : QB} {T : TB} {N : Nat} (hM : MV f l D W U T N) (hBW : BW D W U T) {w r S : Nat} (hw : w < W.1) (hr : r < 12) (hS : S < 2147483648) : Spec G mX10_isOf [.ref (ad G 86), .int (nI w), .int (nI r), .int (nI S)] 114 (f, l, refT) (some (.int (bI (ofB D W w r S)))) 114 (f, l, refT) := by
  obtain ⟨hD, hLW, hUW, hTW⟩ := id hBW
  have hR := hD.1
  have hW1 := hLW.1
  have hU1 := hUW.1
  have hJ1 := hUW.2.1
  have hw1 := (hLW.2 w hw).2.1
  refine Spec.of ok_X10_isOf.1 ⟨Nat.le_refl _, Nat.le_refl _⟩ (Nat.le_of_ble_eq_true rfl) ?_
  show Pm G RX10 cX10_isOf 4 (KM G mX10_isOf 114 114 (some (.int (bI (ofB D W w r S)))) (f, l, refT)) 0 [some (.ref (ad G 86)), some (.int (nI w)), some (.int (nI r)), some (.int (nI S))] [] f l
  refine P.iload_n dX10_isOf_0 rfl rfl ?_
  refine P.iload_n dX10_isOf_1 rfl rfl ?_
  refine P.ishr dX10_isOf_2 (n_shr (by omega) (by omega)) ?_
  refine P.iconst dX10_isOf_3 ic_1 ?_
  refine P.iand_n (v := nI (bt S r)) dX10_isOf_4 (n_and1 _) ?_
  refine P.iconst dX10_isOf_5 ic_1 ?_
  refine P.icmp_ne_n (tgt := 28) dX10_isOf_6 (by decide) (Nat.lt_trans (bt_lt _ _) (by decide)) (by omega) (fun c_6 => ?_) (fun c_6 => ?_)
  · refine P.iconst dX10_isOf_28 ic_0 ?_
    exact P.bret rfl dX10_isOf_29 (by rw [show ofB D W w r S = false from by rw [ofB, tb_f (by have := bt_lt S r; omega)]; rfl]; rfl) rfl
  refine P.aload_n dX10_isOf_9 rfl rfl ?_
  refine g_X10_tableOf (q := 89) ly_86 (by decide) (by decide) fl_X10_16 dX10_isOf_10 ?_
  refine P.iload_n dX10_isOf_13 rfl rfl ?_
  refine a_ia ly_89 (by decide) (by omega) (by decide) dX10_isOf_14 ?_
  refine Pm.topn (b := D.2.1 r 2) ((hM.tab r (by omega))) ?_
  refine P.aload_n dX10_isOf_15 rfl rfl ?_
  refine g_X10_lawTable (q := 95) ly_86 (by decide) (by decide) fl_X10_36 dX10_isOf_16 ?_
  refine P.iload_n dX10_isOf_19 rfl rfl ?_
  refine a_ia ly_95 (by decide) (by omega) (by decide) dX10_isOf_20 ?_
  refine Pm.topn (b := W.2.1 w 1) ((hM.ltb w (by omega))) ?_
  refine P.icmp_ne_n (tgt := 28) dX10_isOf_21 (by decide) (hD.2.1 _ _) (by omega) (fun c_21 => ?_) (fun c_21 => ?_)
  · refine P.iconst dX10_isOf_28 ic_0 ?_
    exact P.bret rfl dX10_isOf_29 (by rw [show ofB D W w r S = false from by rw [ofB, tb_t (by omega)]; simp [c_21]]; rfl) rfl
  refine P.iconst dX10_isOf_24 ic_1 ?_
  refine P.goto (tgt := 29) dX10_isOf_25 (by decide) ?_
  exact P.bret rfl dX10_isOf_29 (by rw [show ofB D W w r S = true from by rw [ofB, tb_t (by omega)]; simp [c_21]]; rfl) rfl

set_option maxRecDepth 20000 in
theorem t_isLike {G : GG} {f : Nat → Nat → Nat} {l : Nat → Nat → Int64} {D : DB} {W : LB} {U : QB} {T : TB} {N : Nat} (hM : MV f l D W U T N) (hBW : BW D W U T) {r c q d : Nat} (hr : r < 12) (hc : c < 6) (hq : q < 12) (hd : d < 6) : Spec G mX10_isLike [.ref (ad G 86), .int (nI r), .int (nI c), .int (nI q), .int (nI d)] 114 (f, l, refT) (some (.int (bI (likeB D r c q d)))) 114 (f, l, refT) := by
  obtain ⟨hD, hLW, hUW, hTW⟩ := id hBW
  have hR := hD.1
  have hW1 := hLW.1
  have hU1 := hUW.1
  have hJ1 := hUW.2.1
  refine Spec.of ok_X10_isLike.1 ⟨Nat.le_refl _, Nat.le_refl _⟩ (Nat.le_of_ble_eq_true rfl) ?_
  show Pm G RX10 cX10_isLike 5 (KM G mX10_isLike 114 114 (some (.int (bI (likeB D r c q d)))) (f, l, refT)) 0 [some (.ref (ad G 86)), some (.int (nI r)), some (.int (nI c)), some (.int (nI q)), some (.int (nI d))] [] f l
  refine P.aload_n dX10_isLike_0 rfl rfl ?_
  refine g_X10_isThere (q := 92) ly_86 (by decide) (by decide) fl_X10_26 dX10_isLike_1 ?_
  refine P.bipush (v := nI 6) dX10_isLike_4 rfl ?_
  refine P.iload_n dX10_isLike_6 rfl rfl ?_
  refine P.imul_n dX10_isLike_7 (pk_mul _ _) ?_
  refine P.iload_n dX10_isLike_8 rfl rfl ?_
  refine P.iadd_n dX10_isLike_9 (nI_add _ _) ?_
  refine a_za ly_92 (by decide) (by omega) (by decide) dX10_isLike_10 ?_
  refine Pm.topn (b := D.2.2.1 r c) ((hM.the r (by omega) c (by omega))) ?_
  refine P.if_eq_n (tgt := 60) dX10_isLike_11 (by decide) (hD.2.2.1 _ _) (fun c_11 => ?_) (fun c_11 => ?_)
  · refine P.iconst dX10_isLike_60 ic_0 ?_
    exact P.bret rfl dX10_isLike_61 (by rw [show likeB D r c q d = false from by simp [likeB, c_11]]; rfl) rfl
  refine P.aload_n dX10_isLike_14 rfl rfl ?_
  refine g_X10_isThere (q := 92) ly_86 (by decide) (by decide) fl_X10_26 dX10_isLike_15 ?_
  refine P.bipush (v := nI 6) dX10_isLike_18 rfl ?_
  refine P.iload_n dX10_isLike_20 rfl rfl ?_
  refine P.imul_n dX10_isLike_21 (pk_mul _ _) ?_
  refine P.iload dX10_isLike_22 rfl ?_
  refine P.iadd_n dX10_isLike_24 (nI_add _ _) ?_
  refine a_za ly_92 (by decide) (by omega) (by decide) dX10_isLike_25 ?_
  refine Pm.topn (b := D.2.2.1 q d) ((hM.the q (by omega) d (by omega))) ?_
  refine P.if_eq_n (tgt := 60) dX10_isLike_26 (by decide) (hD.2.2.1 _ _) (fun c_26 => ?_) (fun c_26 => ?_)
  · refine P.iconst dX10_isLike_60 ic_0 ?_
    exact P.bret rfl dX10_isLike_61 (by rw [show likeB D r c q d = false from by simp [likeB, c_11, c_26]]; rfl) rfl
  refine P.aload_n dX10_isLike_29 rfl rfl ?_
  refine g_X10_told (q := 93) ly_86 (by decide) (by decide) fl_X10_29 dX10_isLike_30 ?_
  refine P.bipush (v := nI 6) dX10_isLike_33 rfl ?_
  refine P.iload_n dX10_isLike_35 rfl rfl ?_
  refine P.imul_n dX10_isLike_36 (pk_mul _ _) ?_
  refine P.iload_n dX10_isLike_37 rfl rfl ?_
  refine P.iadd_n dX10_isLike_38 (nI_add _ _) ?_
  refine a_la ly_93 (by decide) (by omega) (by decide) dX10_isLike_39 ?_
  refine Pm.topl (b := D.2.2.2 r c) ((hM.num r (by omega) c (by omega))) ?_
  refine P.aload_n dX10_isLike_40 rfl rfl ?_
  refine g_X10_told (q := 93) ly_86 (by decide) (by decide) fl_X10_29 dX10_isLike_41 ?_
  refine P.bipush (v := nI 6) dX10_isLike_44 rfl ?_
  refine P.iload_n dX10_isLike_46 rfl rfl ?_
  refine P.imul_n dX10_isLike_47 (pk_mul _ _) ?_
  refine P.iload dX10_isLike_48 rfl ?_
  refine P.iadd_n dX10_isLike_50 (nI_add _ _) ?_
  refine a_la ly_93 (by decide) (by omega) (by decide) dX10_isLike_51 ?_
  refine Pm.topl (b := D.2.2.2 q d) ((hM.num q (by omega) d (by omega))) ?_
  refine P.lc_ne (tgt := 60) dX10_isLike_52 dX10_isLike_53 (by decide) (fun c_52 => ?_) (fun c_52 => ?_)
  · refine P.iconst dX10_isLike_60 ic_0 ?_
    exact P.bret rfl dX10_isLike_61 (by rw [show likeB D r c q d = false from by simp [likeB, c_11, c_26, c_52]]; rfl) rfl
  refine P.iconst dX10_isLike_56 ic_1 ?_
  refine P.goto (tgt := 61) dX10_isLike_57 (by decide) ?_
  exact P.bret rfl dX10_isLike_61 (by rw [show likeB D r c q d = true from by simp [likeB, c_11, c_26, c_52]]; rfl) rfl

set_option maxRecDepth 20000 in
theorem t_counts {G : GG} {f : Nat → Nat → Nat} {l : Nat → Nat → Int64} {D : DB} {W : LB} {U : QB} {T : TB} {N : Nat} (hM : MV f l D W U T N) (hBW : BW D W U T) {w r : Nat} (hw : w < W.1) (hr : r < 12) (hk1 : W.2.1 w 0 ≠ 1) (hk3 : W.2.1 w 0 ≠ 3)  : Spec G mX10_counts [.ref (ad G 86), .int (nI w), .int (nI r)] 114 (f, l, refT) (some (.int (bI (cntB D W w r)))) 114 (f, l, refT) := by
  obtain ⟨hD, hLW, hUW, hTW⟩ := id hBW
  have hR := hD.1
  have hW1 := hLW.1
  have hU1 := hUW.1
  have hJ1 := hUW.2.1
  obtain ⟨-, -, hw2, hw3, -⟩ := hLW.2 w hw
  refine Spec.of ok_X10_counts.1 ⟨Nat.le_refl _, Nat.le_refl _⟩ (Nat.le_of_ble_eq_true rfl) ?_
  show Pm G RX10 cX10_counts 3 (KM G mX10_counts 114 114 (some (.int (bI (cntB D W w r)))) (f, l, refT)) 0 [some (.ref (ad G 86)), some (.int (nI w)), some (.int (nI r))] [] f l
  refine P.aload_n dX10_counts_0 rfl rfl ?_
  refine g_X10_isThere (q := 92) ly_86 (by decide) (by decide) fl_X10_26 dX10_counts_1 ?_
  refine P.bipush (v := nI 6) dX10_counts_4 rfl ?_
  refine P.iload_n dX10_counts_6 rfl rfl ?_
  refine P.imul_n dX10_counts_7 (pk_mul _ _) ?_
  refine P.aload_n dX10_counts_8 rfl rfl ?_
  refine g_X10_colA (q := 96) ly_86 (by decide) (by decide) fl_X10_39 dX10_counts_9 ?_
  refine P.iload_n dX10_counts_12 rfl rfl ?_
  refine a_ia ly_96 (by decide) (by omega) (by decide) dX10_counts_13 ?_
  refine Pm.topn (b := W.2.1 w 2) ((hM.fst w (by omega))) ?_
  refine P.iadd_n dX10_counts_14 (nI_add _ _) ?_
  refine a_za ly_92 (by decide) (by omega) (by decide) dX10_counts_15 ?_
  refine Pm.topn (b := D.2.2.1 r (W.2.1 w 2)) ((hM.the r (by omega) (W.2.1 w 2) (by omega))) ?_
  refine P.if_eq_n (tgt := 63) dX10_counts_16 (by decide) (hD.2.2.1 _ _) (fun c_16 => ?_) (fun c_16 => ?_)
  · refine P.iconst dX10_counts_63 ic_0 ?_
    exact P.bret rfl dX10_counts_64 (by rw [show cntB D W w r = false from by simp [cntB, c_16]]; rfl) rfl
  refine P.aload_n dX10_counts_19 rfl rfl ?_
  refine g_X10_isThere (q := 92) ly_86 (by decide) (by decide) fl_X10_26 dX10_counts_20 ?_
  refine P.bipush (v := nI 6) dX10_counts_23 rfl ?_
  refine P.iload_n dX10_counts_25 rfl rfl ?_
  refine P.imul_n dX10_counts_26 (pk_mul _ _) ?_
  refine P.aload_n dX10_counts_27 rfl rfl ?_
  refine g_X10_colB (q := 97) ly_86 (by decide) (by decide) fl_X10_42 dX10_counts_28 ?_
  refine P.iload_n dX10_counts_31 rfl rfl ?_
  refine a_ia ly_97 (by decide) (by omega) (by decide) dX10_counts_32 ?_
  refine Pm.topn (b := W.2.1 w 3) ((hM.snd w (by omega) hk1 hk3)) ?_
  refine P.iadd_n dX10_counts_33 (nI_add _ _) ?_
  refine a_za ly_92 (by decide) (by omega) (by decide) dX10_counts_34 ?_
  refine Pm.topn (b := D.2.2.1 r (W.2.1 w 3)) ((hM.the r (by omega) (W.2.1 w 3) (by omega))) ?_
  refine P.if_eq_n (tgt := 63) dX10_counts_35 (by decide) (hD.2.2.1 _ _) (fun c_35 => ?_) (fun c_35 => ?_)
  · refine P.iconst dX10_counts_63 ic_0 ?_
    exact P.bret rfl dX10_counts_64 (by rw [show cntB D W w r = false from by simp [cntB, c_16, c_35]]; rfl) rfl
  refine P.aload_n dX10_counts_38 rfl rfl ?_
  refine g_X10_told (q := 93) ly_86 (by decide) (by decide) fl_X10_29 dX10_counts_39 ?_
  refine P.bipush (v := nI 6) dX10_counts_42 rfl ?_
  refine P.iload_n dX10_counts_44 rfl rfl ?_
  refine P.imul_n dX10_counts_45 (pk_mul _ _) ?_
  refine P.aload_n dX10_counts_46 rfl rfl ?_
  refine g_X10_colB (q := 97) ly_86 (by decide) (by decide) fl_X10_42 dX10_counts_47 ?_
  refine P.iload_n dX10_counts_50 rfl rfl ?_
  refine a_ia ly_97 (by decide) (by omega) (by decide) dX10_counts_51 ?_
  refine Pm.topn (b := W.2.1 w 3) ((hM.snd w (by omega) hk1 hk3)) ?_
  refine P.iadd_n dX10_counts_52 (nI_add _ _) ?_
  refine a_la ly_93 (by decide) (by omega) (by decide) dX10_counts_53 ?_
  refine Pm.topl (b := D.2.2.2 r (W.2.1 w 3)) ((hM.num r (by omega) (W.2.1 w 3) (by omega))) ?_
  refine P.lconst (v := 0) dX10_counts_54 rfl ?_
  refine P.lc_le (tgt := 63) dX10_counts_55 dX10_counts_56 (by decide) (fun c_55 => ?_) (fun c_55 => ?_)
  · refine P.iconst dX10_counts_63 ic_0 ?_
    exact P.bret rfl dX10_counts_64 (by rw [show cntB D W w r = false from by simp [cntB, c_16, c_35, c_55, (Int64.not_lt.mpr c_55)]]; rfl) rfl
  refine P.iconst dX10_counts_59 ic_1 ?_
  refine P.goto (tgt := 64) dX10_counts_60 (by decide) ?_
  exact P.bret rfl dX10_counts_64 (by rw [show cntB D W w r = true from by simp [cntB, c_16, c_35, c_55, (Int64.not_le.mpr c_55)]]; rfl) rfl

set_option maxRecDepth 20000 in
theorem t_bitsOf {G : GG} {f : Nat → Nat → Nat} {l : Nat → Nat → Int64} {D : DB} {W : LB} {U : QB} {T : TB} {N : Nat} (hM : MV f l D W U T N) (hBW : BW D W U T) {S : Nat} (hS : S < 2147483648) : Spec G mX10_bitsOf [.int (nI S)] 114 (f, l, refT) (some (.int (nI (bitsF S 12)))) 114 (f, l, refT) := by
  obtain ⟨hD, hLW, hUW, hTW⟩ := id hBW
  have hR := hD.1
  have hW1 := hLW.1
  have hU1 := hUW.1
  have hJ1 := hUW.2.1
  have hbf := bitsF_le S
  refine Spec.of ok_X10_bitsOf.1 ⟨Nat.le_refl _, Nat.le_refl _⟩ (Nat.le_of_ble_eq_true rfl) ?_
  show Pm G RX10 cX10_bitsOf 3 (KM G mX10_bitsOf 114 114 (some (.int (nI (bitsF S 12)))) (f, l, refT)) 0 [some (.int (nI S)), none, none] [] f l
  refine P.iconst dX10_bitsOf_0 ic_0 ?_
  refine P.istore_n dX10_bitsOf_1 rfl (by decide) ?_
  refine P.iconst dX10_bitsOf_2 ic_0 ?_
  refine P.istore_n dX10_bitsOf_3 rfl (by decide) ?_
  refine loop_up (M := fun (i : Nat) => Pm G _ _ _ _ 4 [some (.int (nI S)), some (.int (nI (bitsF S i))), some (.int (nI i))] [] f l) (lo := 0) (N := 12) (by first | exact Nat.zero_le _ | omega) (fun i hi0 hi1 ihi => ?_) ?_
  · show Pm G _ _ _ _ 4 [some (.int (nI S)), some (.int (nI (bitsF S i))), some (.int (nI i))] [] f l
    refine P.iload_n dX10_bitsOf_4 rfl rfl ?_
    refine P.bipush (v := nI 12) dX10_bitsOf_5 rfl ?_
    refine P.icmp_ge_n (tgt := 24) dX10_bitsOf_7 (by decide) (by omega) (by omega) (fun c_7 => ?_) (fun c_7 => ?_)
    · exfalso; omega
    refine P.iload_n dX10_bitsOf_10 rfl rfl ?_
    refine P.iload_n dX10_bitsOf_11 rfl rfl ?_
    refine P.iload_n dX10_bitsOf_12 rfl rfl ?_
    refine P.ishr dX10_bitsOf_13 (n_shr (by omega) (by omega)) ?_
    refine P.iconst dX10_bitsOf_14 ic_1 ?_
    refine P.iand_n (v := nI (bt S i)) dX10_bitsOf_15 (n_and1 _) ?_
    refine P.iadd_n dX10_bitsOf_16 (nI_add _ _) ?_
    refine P.istore_n dX10_bitsOf_17 rfl (by decide) ?_
    refine P.iinc dX10_bitsOf_18 rfl (inc1 _) (by decide) ?_
    refine P.goto (tgt := 4) dX10_bitsOf_21 (by decide) ?_
    show Pm G _ _ _ _ 4 [some (.int (nI S)), some (.int (nI ((bitsF S i) + (bt S i)))), some (.int (nI (i + 1)))] [] f l
    exact Pm.to (ihi) (by simp [lle, bitsF_s]) rfl rfl rfl
  · show Pm G _ _ _ _ 4 [some (.int (nI S)), some (.int (nI (bitsF S 12))), some (.int (nI 12))] [] f l
    refine P.iload_n dX10_bitsOf_4 rfl rfl ?_
    refine P.bipush (v := nI 12) dX10_bitsOf_5 rfl ?_
    refine P.icmp_ge_n (tgt := 24) dX10_bitsOf_7 (by decide) (by omega) (by omega) (fun c_7 => ?_) (fun c_7 => ?_)
    · refine P.iload_n dX10_bitsOf_24 rfl rfl ?_
      exact P.iret rfl dX10_bitsOf_25 rfl rfl
    · exfalso; omega

set_option maxRecDepth 20000 in
theorem t_keptSet {G : GG} {f : Nat → Nat → Nat} {l : Nat → Nat → Int64} {D : DB} {W : LB} {U : QB} {T : TB} {N : Nat} (hM : MV f l D W U T N) (hBW : BW D W U T)  : Spec G mX10_keptSet [.ref (ad G 86)] 114 (f, l, refT) (some (.int (nI (keptD D)))) 114 (f, l, refT) := by
  obtain ⟨hD, hLW, hUW, hTW⟩ := id hBW
  have hR := hD.1
  have hW1 := hLW.1
  have hU1 := hUW.1
  have hJ1 := hUW.2.1
  refine Spec.of ok_X10_keptSet.1 ⟨Nat.le_refl _, Nat.le_refl _⟩ (Nat.le_of_ble_eq_true rfl) ?_
  show Pm G RX10 cX10_keptSet 3 (KM G mX10_keptSet 114 114 (some (.int (nI (keptD D)))) (f, l, refT)) 0 [some (.ref (ad G 86)), none, none] [] f l
  refine P.iconst dX10_keptSet_0 ic_0 ?_
  refine P.istore_n dX10_keptSet_1 rfl (by decide) ?_
  refine P.iconst dX10_keptSet_2 ic_0 ?_
  refine P.istore_n dX10_keptSet_3 rfl (by decide) ?_
  refine loop_up (M := fun (i : Nat) => Pm G _ _ _ _ 4 [some (.ref (ad G 86)), some (.int (nI (setN (fun r => D.2.1 r 4 != 0) i))), some (.int (nI i))] [] f l) (lo := 0) (N := D.1) (by first | exact Nat.zero_le _ | omega) (fun i hi0 hi1 ihi => ?_) ?_
  · show Pm G _ _ _ _ 4 [some (.ref (ad G 86)), some (.int (nI (setN (fun r => D.2.1 r 4 != 0) i))), some (.int (nI i))] [] f l
    refine P.iload_n dX10_keptSet_4 rfl rfl ?_
    refine P.aload_n dX10_keptSet_5 rfl rfl ?_
    refine g_X10_rows ly_86 (by decide) fl_X10_106 dX10_keptSet_6 ?_
    refine Pm.topn (b := D.1) (hM.R) ?_
    refine P.icmp_ge_n (tgt := 37) dX10_keptSet_9 (by decide) (by omega) (by omega) (fun c_9 => ?_) (fun c_9 => ?_)
    · exfalso; omega
    refine P.iload_n dX10_keptSet_12 rfl rfl ?_
    refine P.aload_n dX10_keptSet_13 rfl rfl ?_
    refine g_X10_isKept (q := 91) ly_86 (by decide) (by decide) fl_X10_22 dX10_keptSet_14 ?_
    refine P.iload_n dX10_keptSet_17 rfl rfl ?_
    refine a_za ly_91 (by decide) (by omega) (by decide) dX10_keptSet_18 ?_
    refine Pm.topn (b := D.2.1 i 4) ((hM.kep i (by omega))) ?_
    refine P.if_eq_n (tgt := 28) dX10_keptSet_19 (by decide) (hD.2.1 _ _) (fun c_19 => ?_) (fun c_19 => ?_)
    · refine P.iconst dX10_keptSet_28 ic_0 ?_
      refine P.ior_n dX10_keptSet_29 (n_or _ _) ?_
      refine P.istore_n dX10_keptSet_30 rfl (by decide) ?_
      refine P.iinc dX10_keptSet_31 rfl (inc1 _) (by decide) ?_
      refine P.goto (tgt := 4) dX10_keptSet_34 (by decide) ?_
      show Pm G _ _ _ _ 4 [some (.ref (ad G 86)), some (.int (nI ((setN (fun r => D.2.1 r 4 != 0) i) ||| 0))), some (.int (nI (i + 1)))] [] f l
      exact Pm.to (ihi) (by simp [lle, setN_s, c_9, c_19]) rfl rfl rfl
    refine P.iconst dX10_keptSet_22 ic_1 ?_
    refine P.iload_n dX10_keptSet_23 rfl rfl ?_
    refine P.ishl dX10_keptSet_24 (n_bit (by omega)) ?_
    refine P.goto (tgt := 29) dX10_keptSet_25 (by decide) ?_
    refine P.ior_n dX10_keptSet_29 (n_or _ _) ?_
    refine P.istore_n dX10_keptSet_30 rfl (by decide) ?_
    refine P.iinc dX10_keptSet_31 rfl (inc1 _) (by decide) ?_
    refine P.goto (tgt := 4) dX10_keptSet_34 (by decide) ?_
    show Pm G _ _ _ _ 4 [some (.ref (ad G 86)), some (.int (nI ((setN (fun r => D.2.1 r 4 != 0) i) ||| (2 ^ i)))), some (.int (nI (i + 1)))] [] f l
    exact Pm.to (ihi) (by simp [lle, setN_s, c_9, c_19]) rfl rfl rfl
  · show Pm G _ _ _ _ 4 [some (.ref (ad G 86)), some (.int (nI (setN (fun r => D.2.1 r 4 != 0) D.1))), some (.int (nI D.1))] [] f l
    refine P.iload_n dX10_keptSet_4 rfl rfl ?_
    refine P.aload_n dX10_keptSet_5 rfl rfl ?_
    refine g_X10_rows ly_86 (by decide) fl_X10_106 dX10_keptSet_6 ?_
    refine Pm.topn (b := D.1) (hM.R) ?_
    refine P.icmp_ge_n (tgt := 37) dX10_keptSet_9 (by decide) (by omega) (by omega) (fun c_9 => ?_) (fun c_9 => ?_)
    · refine P.iload_n dX10_keptSet_37 rfl rfl ?_
      exact P.iret rfl dX10_keptSet_38 rfl rfl
    · exfalso; omega


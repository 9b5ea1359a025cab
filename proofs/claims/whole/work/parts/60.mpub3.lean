-- the model's calls, on: mendings, questions: by program (wip/whole/spec60.py)
set_option maxRecDepth 20000 in
theorem q_mends {G : GG} {f : Nat → Nat → Nat} {l : Nat → Nat → Int64} {D : DB} {W : LB} {U : QB} {T : TB} {N : Nat} (hM : MV f l D W U T N) (hBW : BW D W U T) (hKN : KN f D W) (hE : kL D W (2 ^ D.1) = MLs D W)  : SpX G mX10_mends [.ref (ad G 86)] f l (fun rv f1 l1 => rv = (some (.int (nI ((MLs D W).length)))) ∧ MJ f l f1 l1 D W U T N) := by
  obtain ⟨hD, hLW, hUW, hTW⟩ := id hBW
  have hR := hD.1
  have hW1 := hLW.1
  have hU1 := hUW.1
  have hJ1 := hUW.2.1
  refine SpX.of ok_X10_mends.1 (Nat.le_of_ble_eq_true rfl) ?_
  show Pm G RX10 cX10_mends 1 (KX G mX10_mends (fun rv f1 l1 => rv = (some (.int (nI ((MLs D W).length)))) ∧ MJ f l f1 l1 D W U T N)) 0 [some (.ref (ad G 86))] [] f l
  refine P.aload_n dX10_mends_0 rfl rfl ?_
  refine P.iconst dX10_mends_1 ic_0 ?_
  refine p_X10_thrown (a := 0) ly_86 (by decide) fl_X10_93 dX10_mends_2 rfl ?_
  have hM := mv_free (k := 86) (j := 0) (v := 0) (by decide) hM
  have hKN := hKN.up (k := 86) (j := 0) (v := 0) (by decide)
  have hCF : CF f l (uf f 86 0 0) l := (CF.rf f l).f (by decide)
  generalize uf f 86 0 0 = f0 at hM hKN hCF ⊢
  refine P.aload_n dX10_mends_5 rfl rfl ?_
  refine P.callVX (As := []) (rest := []) (t_know hM hBW hKN hE) ok_X10_know (fitX (Nat.le_of_ble_eq_true rfl)) rfl ml_X10_196 ly_86 (by decide) (by decide) rfl rfl (Nat.le_of_ble_eq_true rfl) dX10_mends_6 (fun r f1 l1 hp => ?_)
  obtain ⟨rfl, hK, e⟩ := hp
  subst e
  have hM1 := hM.KD hK
  refine P.aload_n dX10_mends_9 rfl rfl ?_
  refine g_X10_many ly_86 (by decide) fl_X10_193 dX10_mends_10 ?_
  refine Pm.topn (b := (MLs D W).length) (hK.2.1) ?_
  exact P.iretX rfl dX10_mends_13 ⟨rfl, hM.KD hK, KN.KD hK, hCF.tr (CF.KD _ hK)⟩

set_option maxRecDepth 20000 in
theorem q_mending_a {G : GG} {f : Nat → Nat → Nat} {l : Nat → Nat → Int64} {D : DB} {W : LB} {U : QB} {T : TB} {N : Nat} (hM : MV f l D W U T N) (hBW : BW D W U T) (hKN : KN f D W) (hE : kL D W (2 ^ D.1) = MLs D W) {y : Int32} (hy : inR y (MLs D W).length = false) : SpX G mX10_mending [.ref (ad G 86), .int y] f l (fun rv f1 l1 => rv = (some (.int (-9))) ∧ MJ f l f1 l1 D W U T N) := by
  obtain ⟨hD, hLW, hUW, hTW⟩ := id hBW
  have hR := hD.1
  have hW1 := hLW.1
  have hU1 := hUW.1
  have hJ1 := hUW.2.1
  have hpos := MLs_pos D W
  have hlen := MLs_len hD W
  have hmlt := fun j (h : j < (MLs D W).length) => MLs_lt hD h
  refine SpX.of ok_X10_mending.1 (Nat.le_of_ble_eq_true rfl) ?_
  show Pm G RX10 cX10_mending 2 (KX G mX10_mending (fun rv f1 l1 => rv = (some (.int (-9))) ∧ MJ f l f1 l1 D W U T N)) 0 [some (.ref (ad G 86)), some (.int y)] [] f l
  refine P.aload_n dX10_mending_0 rfl rfl ?_
  refine P.iconst dX10_mending_1 ic_0 ?_
  refine p_X10_thrown (a := 0) ly_86 (by decide) fl_X10_93 dX10_mending_2 rfl ?_
  have hM := mv_free (k := 86) (j := 0) (v := 0) (by decide) hM
  have hKN := hKN.up (k := 86) (j := 0) (v := 0) (by decide)
  have hCF : CF f l (uf f 86 0 0) l := (CF.rf f l).f (by decide)
  generalize uf f 86 0 0 = f0 at hM hKN hCF ⊢
  refine P.aload_n dX10_mending_5 rfl rfl ?_
  refine P.callVX (As := []) (rest := []) (t_know hM hBW hKN hE) ok_X10_know (fitX (Nat.le_of_ble_eq_true rfl)) rfl ml_X10_196 ly_86 (by decide) (by decide) rfl rfl (Nat.le_of_ble_eq_true rfl) dX10_mending_6 (fun r f1 l1 hp => ?_)
  obtain ⟨rfl, hK, e⟩ := hp
  subst e
  have hM1 := hM.KD hK
  refine P.iload_n dX10_mending_9 rfl rfl ?_
  refine P.i2l dX10_mending_10 rfl ?_
  refine P.lconst (v := 0) dX10_mending_11 rfl ?_
  refine P.aload_n dX10_mending_12 rfl rfl ?_
  refine g_X10_many ly_86 (by decide) fl_X10_193 dX10_mending_13 ?_
  refine Pm.topn (b := (MLs D W).length) (hK.2.1) ?_
  refine P.iconst dX10_mending_16 ic_1 ?_
  refine P.isub_n dX10_mending_17 rfl ?_
  refine P.i2l dX10_mending_18 rfl ?_
  refine P.callS (As := [.long ((y).toInt64), .long 0, .long (((nI (MLs D W).length - nI 1)).toInt64)]) (rest := []) (by have h := t_inR (G := G) (f := f1) (l := l) (x := y) (R := (MLs D W).length) (by omega); rw [hy] at h; exact h) ok_X10_in (fitX (Nat.le_of_ble_eq_true rfl)) rfl ml_X10_102 rfl (Nat.le_of_ble_eq_true rfl) dX10_mending_19 ?_
  refine P.if_eq_b (tgt := 34) dX10_mending_22 (by decide) (fun c_22 => ?_) (fun c_22 => ?_)
  · refine P.bipush (v := -9) dX10_mending_34 rfl ?_
    exact P.iretX rfl dX10_mending_36 ⟨rfl, hM.KD hK, KN.KD hK, hCF.tr (CF.KD _ hK)⟩
  · exfalso; revert c_22; decide

set_option maxRecDepth 20000 in
theorem q_mending_b {G : GG} {f : Nat → Nat → Nat} {l : Nat → Nat → Int64} {D : DB} {W : LB} {U : QB} {T : TB} {N : Nat} (hM : MV f l D W U T N) (hBW : BW D W U T) (hKN : KN f D W) (hE : kL D W (2 ^ D.1) = MLs D W) {i : Nat} (hi : i < (MLs D W).length) : SpX G mX10_mending [.ref (ad G 86), .int (nI i)] f l (fun rv f1 l1 => rv = (some (.int (nI ((MLs D W).getD i 0)))) ∧ MJ f l f1 l1 D W U T N) := by
  obtain ⟨hD, hLW, hUW, hTW⟩ := id hBW
  have hR := hD.1
  have hW1 := hLW.1
  have hU1 := hUW.1
  have hJ1 := hUW.2.1
  have hpos := MLs_pos D W
  have hlen := MLs_len hD W
  have hmlt := fun j (h : j < (MLs D W).length) => MLs_lt hD h
  refine SpX.of ok_X10_mending.1 (Nat.le_of_ble_eq_true rfl) ?_
  show Pm G RX10 cX10_mending 2 (KX G mX10_mending (fun rv f1 l1 => rv = (some (.int (nI ((MLs D W).getD i 0)))) ∧ MJ f l f1 l1 D W U T N)) 0 [some (.ref (ad G 86)), some (.int (nI i))] [] f l
  refine P.aload_n dX10_mending_0 rfl rfl ?_
  refine P.iconst dX10_mending_1 ic_0 ?_
  refine p_X10_thrown (a := 0) ly_86 (by decide) fl_X10_93 dX10_mending_2 rfl ?_
  have hM := mv_free (k := 86) (j := 0) (v := 0) (by decide) hM
  have hKN := hKN.up (k := 86) (j := 0) (v := 0) (by decide)
  have hCF : CF f l (uf f 86 0 0) l := (CF.rf f l).f (by decide)
  generalize uf f 86 0 0 = f0 at hM hKN hCF ⊢
  refine P.aload_n dX10_mending_5 rfl rfl ?_
  refine P.callVX (As := []) (rest := []) (t_know hM hBW hKN hE) ok_X10_know (fitX (Nat.le_of_ble_eq_true rfl)) rfl ml_X10_196 ly_86 (by decide) (by decide) rfl rfl (Nat.le_of_ble_eq_true rfl) dX10_mending_6 (fun r f1 l1 hp => ?_)
  obtain ⟨rfl, hK, e⟩ := hp
  subst e
  have hM1 := hM.KD hK
  refine P.iload_n dX10_mending_9 rfl rfl ?_
  refine P.i2l dX10_mending_10 rfl ?_
  refine P.lconst (v := 0) dX10_mending_11 rfl ?_
  refine P.aload_n dX10_mending_12 rfl rfl ?_
  refine g_X10_many ly_86 (by decide) fl_X10_193 dX10_mending_13 ?_
  refine Pm.topn (b := (MLs D W).length) (hK.2.1) ?_
  refine P.iconst dX10_mending_16 ic_1 ?_
  refine P.isub_n dX10_mending_17 rfl ?_
  refine P.i2l dX10_mending_18 rfl ?_
  refine P.callS (As := [.long ((nI i).toInt64), .long 0, .long (((nI (MLs D W).length - nI 1)).toInt64)]) (rest := []) (by have h := t_inR (G := G) (f := f1) (l := l) (x := (nI i)) (R := (MLs D W).length) (by omega); rw [inR_n hi (by omega)] at h; exact h) ok_X10_in (fitX (Nat.le_of_ble_eq_true rfl)) rfl ml_X10_102 rfl (Nat.le_of_ble_eq_true rfl) dX10_mending_19 ?_
  refine P.if_eq_b (tgt := 34) dX10_mending_22 (by decide) (fun c_22 => ?_) (fun c_22 => ?_)
  · exfalso; revert c_22; decide
  refine P.aload_n dX10_mending_25 rfl rfl ?_
  refine g_X10_leastOf (q := 109) ly_86 (by decide) (by decide) fl_X10_78 dX10_mending_26 ?_
  refine P.iload_n dX10_mending_29 rfl rfl ?_
  refine a_ia ly_109 (by decide) (by omega) (by decide) dX10_mending_30 ?_
  refine Pm.topn (b := (MLs D W).getD i 0) ((hK.2.2.1 i (by omega))) ?_
  refine P.goto (tgt := 36) dX10_mending_31 (by decide) ?_
  exact P.iretX rfl dX10_mending_36 ⟨rfl, hM.KD hK, KN.KD hK, hCF.tr (CF.KD _ hK)⟩

set_option maxRecDepth 20000 in
theorem q_price {G : GG} {f : Nat → Nat → Nat} {l : Nat → Nat → Int64} {D : DB} {W : LB} {U : QB} {T : TB} {N : Nat} (hM : MV f l D W U T N) (hBW : BW D W U T) (hKN : KN f D W) (hE : kL D W (2 ^ D.1) = MLs D W)  : SpX G mX10_price [.ref (ad G 86)] f l (fun rv f1 l1 => rv = (some (.int (nI (trustD D (best D W))))) ∧ MJ f l f1 l1 D W U T N) := by
  obtain ⟨hD, hLW, hUW, hTW⟩ := id hBW
  have hR := hD.1
  have hW1 := hLW.1
  have hU1 := hUW.1
  have hJ1 := hUW.2.1
  refine SpX.of ok_X10_price.1 (Nat.le_of_ble_eq_true rfl) ?_
  show Pm G RX10 cX10_price 1 (KX G mX10_price (fun rv f1 l1 => rv = (some (.int (nI (trustD D (best D W))))) ∧ MJ f l f1 l1 D W U T N)) 0 [some (.ref (ad G 86))] [] f l
  refine P.aload_n dX10_price_0 rfl rfl ?_
  refine P.iconst dX10_price_1 ic_0 ?_
  refine p_X10_thrown (a := 0) ly_86 (by decide) fl_X10_93 dX10_price_2 rfl ?_
  have hM := mv_free (k := 86) (j := 0) (v := 0) (by decide) hM
  have hKN := hKN.up (k := 86) (j := 0) (v := 0) (by decide)
  have hCF : CF f l (uf f 86 0 0) l := (CF.rf f l).f (by decide)
  generalize uf f 86 0 0 = f0 at hM hKN hCF ⊢
  refine P.aload_n dX10_price_5 rfl rfl ?_
  refine P.aload_n dX10_price_6 rfl rfl ?_
  refine P.callVX (As := []) (rest := [.ref (ad G 86)]) (t_bestOf hM hBW hKN hE) ok_X10_bestOf (fitX (Nat.le_of_ble_eq_true rfl)) rfl ml_X10_202 ly_86 (by decide) (by decide) rfl rfl (Nat.le_of_ble_eq_true rfl) dX10_price_7 (fun r f1 l1 hp => ?_)
  obtain ⟨rfl, hK, e⟩ := hp
  subst e
  have hM1 := hM.KD hK
  refine P.callV (As := [.int (nI (best D W))]) (rest := []) (t_priceOf hM1 hBW (S := best D W) (by have := best_lt hD W; omega)) ok_X10_priceOf (fitX (Nat.le_of_ble_eq_true rfl)) rfl ml_X10_199 ly_86 (by decide) (by decide) rfl rfl (Nat.le_of_ble_eq_true rfl) dX10_price_10 ?_
  exact P.iretX rfl dX10_price_13 ⟨rfl, hM.KD hK, KN.KD hK, hCF.tr (CF.KD _ hK)⟩

set_option maxRecDepth 20000 in
theorem q_best {G : GG} {f : Nat → Nat → Nat} {l : Nat → Nat → Int64} {D : DB} {W : LB} {U : QB} {T : TB} {N : Nat} (hM : MV f l D W U T N) (hBW : BW D W U T) (hKN : KN f D W) (hE : kL D W (2 ^ D.1) = MLs D W)  : SpX G mX10_best [.ref (ad G 86)] f l (fun rv f1 l1 => rv = (some (.int (nI (best D W)))) ∧ MJ f l f1 l1 D W U T N) := by
  obtain ⟨hD, hLW, hUW, hTW⟩ := id hBW
  have hR := hD.1
  have hW1 := hLW.1
  have hU1 := hUW.1
  have hJ1 := hUW.2.1
  refine SpX.of ok_X10_best.1 (Nat.le_of_ble_eq_true rfl) ?_
  show Pm G RX10 cX10_best 1 (KX G mX10_best (fun rv f1 l1 => rv = (some (.int (nI (best D W)))) ∧ MJ f l f1 l1 D W U T N)) 0 [some (.ref (ad G 86))] [] f l
  refine P.aload_n dX10_best_0 rfl rfl ?_
  refine P.iconst dX10_best_1 ic_0 ?_
  refine p_X10_thrown (a := 0) ly_86 (by decide) fl_X10_93 dX10_best_2 rfl ?_
  have hM := mv_free (k := 86) (j := 0) (v := 0) (by decide) hM
  have hKN := hKN.up (k := 86) (j := 0) (v := 0) (by decide)
  have hCF : CF f l (uf f 86 0 0) l := (CF.rf f l).f (by decide)
  generalize uf f 86 0 0 = f0 at hM hKN hCF ⊢
  refine P.aload_n dX10_best_5 rfl rfl ?_
  refine P.callVX (As := []) (rest := []) (t_bestOf hM hBW hKN hE) ok_X10_bestOf (fitX (Nat.le_of_ble_eq_true rfl)) rfl ml_X10_202 ly_86 (by decide) (by decide) rfl rfl (Nat.le_of_ble_eq_true rfl) dX10_best_6 (fun r f1 l1 hp => ?_)
  obtain ⟨rfl, hK, e⟩ := hp
  subst e
  have hM1 := hM.KD hK
  exact P.iretX rfl dX10_best_9 ⟨rfl, hM.KD hK, KN.KD hK, hCF.tr (CF.KD _ hK)⟩

set_option maxRecDepth 20000 in
theorem q_blame_a {G : GG} {f : Nat → Nat → Nat} {l : Nat → Nat → Int64} {D : DB} {W : LB} {U : QB} {T : TB} {N : Nat} (hM : MV f l D W U T N) (hBW : BW D W U T) (hKN : KN f D W) {x : Int32} (hx : inR x D.1 = false)  : SpX G mX10_blame [.ref (ad G 86), .int x] f l (fun rv f1 l1 => rv = (some (.int (-1))) ∧ MJ f l f1 l1 D W U T N) := by
  obtain ⟨hD, hLW, hUW, hTW⟩ := id hBW
  have hR := hD.1
  have hW1 := hLW.1
  have hU1 := hUW.1
  have hJ1 := hUW.2.1
  refine SpX.of ok_X10_blame.1 (Nat.le_of_ble_eq_true rfl) ?_
  show Pm G RX10 cX10_blame 4 (KX G mX10_blame (fun rv f1 l1 => rv = (some (.int (-1))) ∧ MJ f l f1 l1 D W U T N)) 0 [some (.ref (ad G 86)), some (.int x), none, none] [] f l
  refine P.aload_n dX10_blame_0 rfl rfl ?_
  refine P.iconst dX10_blame_1 ic_0 ?_
  refine p_X10_thrown (a := 0) ly_86 (by decide) fl_X10_93 dX10_blame_2 rfl ?_
  have hM := mv_free (k := 86) (j := 0) (v := 0) (by decide) hM
  have hKN := hKN.up (k := 86) (j := 0) (v := 0) (by decide)
  have hCF : CF f l (uf f 86 0 0) l := (CF.rf f l).f (by decide)
  generalize uf f 86 0 0 = f0 at hM hKN hCF ⊢
  refine P.aload_n dX10_blame_5 rfl rfl ?_
  refine P.iload_n dX10_blame_6 rfl rfl ?_
  refine P.callV (As := [.int x]) (rest := []) (t_noRow_f hM hBW hx) ok_X10_noRow (fitX (Nat.le_of_ble_eq_true rfl)) rfl ml_X10_125 ly_86 (by decide) (by decide) rfl rfl (Nat.le_of_ble_eq_true rfl) dX10_blame_7 ?_
  refine P.if_eq_b (tgt := 15) dX10_blame_10 (by decide) (fun c_10 => ?_) (fun c_10 => ?_)
  · exfalso; revert c_10; decide
  refine P.iconst (v := -1) dX10_blame_13 rfl ?_
  exact P.iretX rfl dX10_blame_14 ⟨rfl, hM, hKN, hCF⟩

set_option maxRecDepth 20000 in
theorem q_blame_b {G : GG} {f : Nat → Nat → Nat} {l : Nat → Nat → Int64} {D : DB} {W : LB} {U : QB} {T : TB} {N : Nat} (hM : MV f l D W U T N) (hBW : BW D W U T) (hKN : KN f D W) {r : Nat} (hr : r < D.1) (hE : kL D W (2 ^ D.1) = MLs D W)  : SpX G mX10_blame [.ref (ad G 86), .int (nI r)] f l (fun rv f1 l1 => rv = (some (.int (nI (cntN (fun i => ((MLs D W).getD i 0).testBit r) (MLs D W).length)))) ∧ MJ f l f1 l1 D W U T N) := by
  obtain ⟨hD, hLW, hUW, hTW⟩ := id hBW
  have hR := hD.1
  have hW1 := hLW.1
  have hU1 := hUW.1
  have hJ1 := hUW.2.1
  have hpos := MLs_pos D W
  have hlen := MLs_len hD W
  have hmlt := fun j (h : j < (MLs D W).length) => MLs_lt hD h
  refine SpX.of ok_X10_blame.1 (Nat.le_of_ble_eq_true rfl) ?_
  show Pm G RX10 cX10_blame 4 (KX G mX10_blame (fun rv f1 l1 => rv = (some (.int (nI (cntN (fun i => ((MLs D W).getD i 0).testBit r) (MLs D W).length)))) ∧ MJ f l f1 l1 D W U T N)) 0 [some (.ref (ad G 86)), some (.int (nI r)), none, none] [] f l
  refine P.aload_n dX10_blame_0 rfl rfl ?_
  refine P.iconst dX10_blame_1 ic_0 ?_
  refine p_X10_thrown (a := 0) ly_86 (by decide) fl_X10_93 dX10_blame_2 rfl ?_
  have hM := mv_free (k := 86) (j := 0) (v := 0) (by decide) hM
  have hKN := hKN.up (k := 86) (j := 0) (v := 0) (by decide)
  have hCF : CF f l (uf f 86 0 0) l := (CF.rf f l).f (by decide)
  generalize uf f 86 0 0 = f0 at hM hKN hCF ⊢
  refine P.aload_n dX10_blame_5 rfl rfl ?_
  refine P.iload_n dX10_blame_6 rfl rfl ?_
  refine P.callV (As := [.int (nI r)]) (rest := []) (t_noRow_t hM hBW hr) ok_X10_noRow (fitX (Nat.le_of_ble_eq_true rfl)) rfl ml_X10_125 ly_86 (by decide) (by decide) rfl rfl (Nat.le_of_ble_eq_true rfl) dX10_blame_7 ?_
  refine P.if_eq_b (tgt := 15) dX10_blame_10 (by decide) (fun c_10 => ?_) (fun c_10 => ?_)
  · refine P.aload_n dX10_blame_15 rfl rfl ?_
    refine P.callVX (As := []) (rest := []) (t_know hM hBW hKN hE) ok_X10_know (fitX (Nat.le_of_ble_eq_true rfl)) rfl ml_X10_196 ly_86 (by decide) (by decide) rfl rfl (Nat.le_of_ble_eq_true rfl) dX10_blame_16 (fun r f1 l1 hp => ?_)
    obtain ⟨rfl, hK, e⟩ := hp
    subst e
    have hM1 := hM.KD hK
    refine P.iconst dX10_blame_19 ic_0 ?_
    refine P.istore_n dX10_blame_20 rfl (by decide) ?_
    refine P.iconst dX10_blame_21 ic_0 ?_
    refine P.istore_n dX10_blame_22 rfl (by decide) ?_
    show Pm G _ _ _ _ 23 [some (.ref (ad G 86)), some (.int (nI r)), some (.int (nI 0)), some (.int (nI 0))] [] f1 l
    refine P.to (ls := [some (.ref (ad G 86)), some (.int (nI r)), some (.int (nI (cntN (fun i => ((MLs D W).getD i 0).testBit r) 0))), some (.int (nI 0))]) ?_ (by simp [lle, cntN, fo])
    refine loop_up (M := fun (i : Nat) => Pm G _ _ _ _ 23 [some (.ref (ad G 86)), some (.int (nI r)), some (.int (nI (cntN (fun i => ((MLs D W).getD i 0).testBit r) i))), some (.int (nI i))] [] f1 l) (lo := 0) (N := (MLs D W).length) (by first | exact Nat.zero_le _ | omega) (fun i hi0 hi1 ihi => ?_) ?_
    · have hml := hmlt i hi1
      show Pm G _ _ _ _ 23 [some (.ref (ad G 86)), some (.int (nI r)), some (.int (nI (cntN (fun i => ((MLs D W).getD i 0).testBit r) i))), some (.int (nI i))] [] f1 l
      refine P.iload_n dX10_blame_23 rfl rfl ?_
      refine P.aload_n dX10_blame_24 rfl rfl ?_
      refine g_X10_many ly_86 (by decide) fl_X10_193 dX10_blame_25 ?_
      refine Pm.topn (b := (MLs D W).length) (hK.2.1) ?_
      refine P.icmp_ge_n (tgt := 50) dX10_blame_28 (by decide) (by omega) (by omega) (fun c_28 => ?_) (fun c_28 => ?_)
      · exfalso; omega
      refine P.iload_n dX10_blame_31 rfl rfl ?_
      refine P.aload_n dX10_blame_32 rfl rfl ?_
      refine g_X10_leastOf (q := 109) ly_86 (by decide) (by decide) fl_X10_78 dX10_blame_33 ?_
      refine P.iload_n dX10_blame_36 rfl rfl ?_
      refine a_ia ly_109 (by decide) (by omega) (by decide) dX10_blame_37 ?_
      refine Pm.topn (b := (MLs D W).getD i 0) ((hK.2.2.1 i (by omega))) ?_
      refine P.iload_n dX10_blame_38 rfl rfl ?_
      refine P.ishr dX10_blame_39 (n_shr (by omega) (by omega)) ?_
      refine P.iconst dX10_blame_40 ic_1 ?_
      refine P.iand_n (v := nI (bt ((MLs D W).getD i 0) r)) dX10_blame_41 (n_and1 _) ?_
      refine P.iadd_n dX10_blame_42 (nI_add _ _) ?_
      refine P.istore_n dX10_blame_43 rfl (by decide) ?_
      refine P.iinc dX10_blame_44 rfl (inc1 _) (by decide) ?_
      refine P.goto (tgt := 23) dX10_blame_47 (by decide) ?_
      show Pm G _ _ _ _ 23 [some (.ref (ad G 86)), some (.int (nI r)), some (.int (nI ((cntN (fun i => ((MLs D W).getD i 0).testBit r) i) + (bt ((MLs D W).getD i 0) r)))), some (.int (nI (i + 1)))] [] f1 l
      exact Pm.to (ihi) (by rw [cntN_s, show bN (((MLs D W).getD i 0).testBit r) = bt ((MLs D W).getD i 0) r by rw [bt_tb]; cases ((MLs D W).getD i 0).testBit r <;> rfl]; simp [lle]) rfl rfl rfl
    · show Pm G _ _ _ _ 23 [some (.ref (ad G 86)), some (.int (nI r)), some (.int (nI (cntN (fun i => ((MLs D W).getD i 0).testBit r) ((MLs D W).length)))), some (.int (nI ((MLs D W).length)))] [] f1 l
      refine P.iload_n dX10_blame_23 rfl rfl ?_
      refine P.aload_n dX10_blame_24 rfl rfl ?_
      refine g_X10_many ly_86 (by decide) fl_X10_193 dX10_blame_25 ?_
      refine Pm.topn (b := (MLs D W).length) (hK.2.1) ?_
      refine P.icmp_ge_n (tgt := 50) dX10_blame_28 (by decide) (by omega) (by omega) (fun c_28 => ?_) (fun c_28 => ?_)
      · refine P.iload_n dX10_blame_50 rfl rfl ?_
        exact P.iretX rfl dX10_blame_51 ⟨rfl, hM.KD hK, KN.KD hK, hCF.tr (CF.KD _ hK)⟩
      · exfalso; omega
  · exfalso; revert c_10; decide

set_option maxRecDepth 20000 in
theorem q_sum_a {G : GG} {f : Nat → Nat → Nat} {l : Nat → Nat → Int64} {D : DB} {W : LB} {U : QB} {T : TB} {N : Nat} (hM : MV f l D W U T N) (hBW : BW D W U T) (hKN : KN f D W) {x : Int32} (hx : inR x 4 = false) {y : Int32} {g : Nat} (hg2 : g < 2)  : SpX G mX10_sum [.ref (ad G 86), .int x, .int y, .int (nI g)] f l (fun rv f1 l1 => rv = (some (.long (-12))) ∧ MJ f l f1 l1 D W U T (N + 1)) := by
  obtain ⟨hD, hLW, hUW, hTW⟩ := id hBW
  have hR := hD.1
  have hW1 := hLW.1
  have hU1 := hUW.1
  have hJ1 := hUW.2.1
  refine SpX.of ok_X10_sum.1 (Nat.le_of_ble_eq_true rfl) ?_
  show Pm G RX10 cX10_sum 12 (KX G mX10_sum (fun rv f1 l1 => rv = (some (.long (-12))) ∧ MJ f l f1 l1 D W U T (N + 1))) 0 [some (.ref (ad G 86)), some (.int x), some (.int y), some (.int (nI g)), none, none, none, none, none, none, none, none] [] f l
  refine P.aload_n dX10_sum_0 rfl rfl ?_
  refine P.iconst dX10_sum_1 ic_0 ?_
  refine p_X10_thrown (a := 0) ly_86 (by decide) fl_X10_93 dX10_sum_2 rfl ?_
  have hM := mv_free (k := 86) (j := 0) (v := 0) (by decide) hM
  have hKN := hKN.up (k := 86) (j := 0) (v := 0) (by decide)
  have hCF : CF f l (uf f 86 0 0) l := (CF.rf f l).f (by decide)
  generalize uf f 86 0 0 = f0 at hM hKN hCF ⊢
  refine P.aload_n dX10_sum_5 rfl rfl ?_
  refine P.iload_n dX10_sum_6 rfl rfl ?_
  refine P.callV (As := [.int x]) (rest := []) (t_lack_out hM hBW hx) ok_X10_lack (fitX (Nat.le_of_ble_eq_true rfl)) rfl ml_X10_116 ly_86 (by decide) (by decide) rfl rfl (Nat.le_of_ble_eq_true rfl) dX10_sum_7 ?_
  refine P.if_eq_z (tgt := 24) dX10_sum_10 (by decide) (show (-12 : Int32).toInt = -12 from rfl) (fun c_10 => ?_) (fun c_10 => ?_)
  · exfalso; revert c_10; decide
  refine P.aload_n dX10_sum_13 rfl rfl ?_
  refine P.aload_n dX10_sum_14 rfl rfl ?_
  refine P.iload_n dX10_sum_15 rfl rfl ?_
  refine P.callV (As := [.int x]) (rest := [.ref (ad G 86)]) (t_lack_out hM hBW hx) ok_X10_lack (fitX (Nat.le_of_ble_eq_true rfl)) rfl ml_X10_116 ly_86 (by decide) (by decide) rfl rfl (Nat.le_of_ble_eq_true rfl) dX10_sum_16 ?_
  refine P.callV (As := [.int (-12)]) (rest := []) (t_finds hM hBW) ok_X10_finds (fitX (Nat.le_of_ble_eq_true rfl)) rfl ml_X10_112 ly_86 (by decide) (by decide) rfl rfl (Nat.le_of_ble_eq_true rfl) dX10_sum_19 ?_
  refine P.i2l dX10_sum_22 rfl ?_
  exact P.lretX rfl dX10_sum_23 ⟨rfl, (mv_N hM), (KN.up (by omega) hKN), (hCF.f (by decide))⟩

set_option maxRecDepth 20000 in
theorem q_sum_b {G : GG} {f : Nat → Nat → Nat} {l : Nat → Nat → Int64} {D : DB} {W : LB} {U : QB} {T : TB} {N : Nat} (hM : MV f l D W U T N) (hBW : BW D W U T) (hKN : KN f D W) {t : Nat} (ht : t < 4) (h0 : T.1 t = 0) {y : Int32} {g : Nat} (hg2 : g < 2)  : SpX G mX10_sum [.ref (ad G 86), .int (nI t), .int y, .int (nI g)] f l (fun rv f1 l1 => rv = (some (.long (-11))) ∧ MJ f l f1 l1 D W U T (N + 1)) := by
  obtain ⟨hD, hLW, hUW, hTW⟩ := id hBW
  have hR := hD.1
  have hW1 := hLW.1
  have hU1 := hUW.1
  have hJ1 := hUW.2.1
  refine SpX.of ok_X10_sum.1 (Nat.le_of_ble_eq_true rfl) ?_
  show Pm G RX10 cX10_sum 12 (KX G mX10_sum (fun rv f1 l1 => rv = (some (.long (-11))) ∧ MJ f l f1 l1 D W U T (N + 1))) 0 [some (.ref (ad G 86)), some (.int (nI t)), some (.int y), some (.int (nI g)), none, none, none, none, none, none, none, none] [] f l
  refine P.aload_n dX10_sum_0 rfl rfl ?_
  refine P.iconst dX10_sum_1 ic_0 ?_
  refine p_X10_thrown (a := 0) ly_86 (by decide) fl_X10_93 dX10_sum_2 rfl ?_
  have hM := mv_free (k := 86) (j := 0) (v := 0) (by decide) hM
  have hKN := hKN.up (k := 86) (j := 0) (v := 0) (by decide)
  have hCF : CF f l (uf f 86 0 0) l := (CF.rf f l).f (by decide)
  generalize uf f 86 0 0 = f0 at hM hKN hCF ⊢
  refine P.aload_n dX10_sum_5 rfl rfl ?_
  refine P.iload_n dX10_sum_6 rfl rfl ?_
  refine P.callV (As := [.int (nI t)]) (rest := []) (t_lack_null hM hBW ht h0) ok_X10_lack (fitX (Nat.le_of_ble_eq_true rfl)) rfl ml_X10_116 ly_86 (by decide) (by decide) rfl rfl (Nat.le_of_ble_eq_true rfl) dX10_sum_7 ?_
  refine P.if_eq_z (tgt := 24) dX10_sum_10 (by decide) (show (-11 : Int32).toInt = -11 from rfl) (fun c_10 => ?_) (fun c_10 => ?_)
  · exfalso; revert c_10; decide
  refine P.aload_n dX10_sum_13 rfl rfl ?_
  refine P.aload_n dX10_sum_14 rfl rfl ?_
  refine P.iload_n dX10_sum_15 rfl rfl ?_
  refine P.callV (As := [.int (nI t)]) (rest := [.ref (ad G 86)]) (t_lack_null hM hBW ht h0) ok_X10_lack (fitX (Nat.le_of_ble_eq_true rfl)) rfl ml_X10_116 ly_86 (by decide) (by decide) rfl rfl (Nat.le_of_ble_eq_true rfl) dX10_sum_16 ?_
  refine P.callV (As := [.int (-11)]) (rest := []) (t_finds hM hBW) ok_X10_finds (fitX (Nat.le_of_ble_eq_true rfl)) rfl ml_X10_112 ly_86 (by decide) (by decide) rfl rfl (Nat.le_of_ble_eq_true rfl) dX10_sum_19 ?_
  refine P.i2l dX10_sum_22 rfl ?_
  exact P.lretX rfl dX10_sum_23 ⟨rfl, (mv_N hM), (KN.up (by omega) hKN), (hCF.f (by decide))⟩

set_option maxRecDepth 20000 in
theorem q_sum_c {G : GG} {f : Nat → Nat → Nat} {l : Nat → Nat → Int64} {D : DB} {W : LB} {U : QB} {T : TB} {N : Nat} (hM : MV f l D W U T N) (hBW : BW D W U T) (hKN : KN f D W) {t : Nat} (ht : t < 4) (h0 : T.1 t ≠ 0) {y : Int32} (hy : inR y (T.1 t) = false) {g : Nat} (hg2 : g < 2)  : SpX G mX10_sum [.ref (ad G 86), .int (nI t), .int y, .int (nI g)] f l (fun rv f1 l1 => rv = (some (.long (-12))) ∧ MJ f l f1 l1 D W U T (N + 1)) := by
  obtain ⟨hD, hLW, hUW, hTW⟩ := id hBW
  have hR := hD.1
  have hW1 := hLW.1
  have hU1 := hUW.1
  have hJ1 := hUW.2.1
  have htc := hTW.1 t ht
  refine SpX.of ok_X10_sum.1 (Nat.le_of_ble_eq_true rfl) ?_
  show Pm G RX10 cX10_sum 12 (KX G mX10_sum (fun rv f1 l1 => rv = (some (.long (-12))) ∧ MJ f l f1 l1 D W U T (N + 1))) 0 [some (.ref (ad G 86)), some (.int (nI t)), some (.int y), some (.int (nI g)), none, none, none, none, none, none, none, none] [] f l
  refine P.aload_n dX10_sum_0 rfl rfl ?_
  refine P.iconst dX10_sum_1 ic_0 ?_
  refine p_X10_thrown (a := 0) ly_86 (by decide) fl_X10_93 dX10_sum_2 rfl ?_
  have hM := mv_free (k := 86) (j := 0) (v := 0) (by decide) hM
  have hKN := hKN.up (k := 86) (j := 0) (v := 0) (by decide)
  have hCF : CF f l (uf f 86 0 0) l := (CF.rf f l).f (by decide)
  generalize uf f 86 0 0 = f0 at hM hKN hCF ⊢
  refine P.aload_n dX10_sum_5 rfl rfl ?_
  refine P.iload_n dX10_sum_6 rfl rfl ?_
  refine P.callV (As := [.int (nI t)]) (rest := []) (t_lack_ok hM hBW ht h0) ok_X10_lack (fitX (Nat.le_of_ble_eq_true rfl)) rfl ml_X10_116 ly_86 (by decide) (by decide) rfl rfl (Nat.le_of_ble_eq_true rfl) dX10_sum_7 ?_
  refine P.if_eq_n (tgt := 24) dX10_sum_10 (by decide) (by omega) (fun c_10 => ?_) (fun c_10 => ?_)
  · refine P.aload_n dX10_sum_24 rfl rfl ?_
    refine P.iload_n dX10_sum_25 rfl rfl ?_
    refine P.iload_n dX10_sum_26 rfl rfl ?_
    refine P.callV (As := [.int (nI t), .int y]) (rest := []) (t_noColumn_f hM hBW ht hy) ok_X10_noColumn (fitX (Nat.le_of_ble_eq_true rfl)) rfl ml_X10_129 ly_86 (by decide) (by decide) rfl rfl (Nat.le_of_ble_eq_true rfl) dX10_sum_27 ?_
    refine P.if_eq_b (tgt := 41) dX10_sum_30 (by decide) (fun c_30 => ?_) (fun c_30 => ?_)
    · exfalso; revert c_30; decide
    refine P.aload_n dX10_sum_33 rfl rfl ?_
    refine P.bipush (v := -12) dX10_sum_34 rfl ?_
    refine P.callV (As := [.int (-12)]) (rest := []) (t_finds hM hBW) ok_X10_finds (fitX (Nat.le_of_ble_eq_true rfl)) rfl ml_X10_112 ly_86 (by decide) (by decide) rfl rfl (Nat.le_of_ble_eq_true rfl) dX10_sum_36 ?_
    refine P.i2l dX10_sum_39 rfl ?_
    exact P.lretX rfl dX10_sum_40 ⟨rfl, (mv_N hM), (KN.up (by omega) hKN), (hCF.f (by decide))⟩
  · exfalso; omega

set_option maxRecDepth 20000 in
theorem q_sum_d {G : GG} {f : Nat → Nat → Nat} {l : Nat → Nat → Int64} {D : DB} {W : LB} {U : QB} {T : TB} {N : Nat} (hM : MV f l D W U T N) (hBW : BW D W U T) (hKN : KN f D W) {t : Nat} (ht : t < 4) (h0 : T.1 t ≠ 0) {c : Nat} (hc : c < T.1 t) {g : Nat} (hg2 : g < 2) (hE : kL D W (2 ^ D.1) = MLs D W)  : SpX G mX10_sum [.ref (ad G 86), .int (nI t), .int (nI c), .int (nI g)] f l (fun rv f1 l1 => rv = (some (.long (pick g (fun i => addD D t c (keptD D ^^^ (MLs D W).getD i 0)) (MLs D W).length))) ∧ MJ f l f1 l1 D W U T N) := by
  obtain ⟨hD, hLW, hUW, hTW⟩ := id hBW
  have hR := hD.1
  have hW1 := hLW.1
  have hU1 := hUW.1
  have hJ1 := hUW.2.1
  have htc := hTW.1 t ht
  have hpos := MLs_pos D W
  have hlen := MLs_len hD W
  have hmlt := fun j (h : j < (MLs D W).length) => MLs_lt hD h
  have hK4 := keptD_lt hD
  refine SpX.of ok_X10_sum.1 (Nat.le_of_ble_eq_true rfl) ?_
  show Pm G RX10 cX10_sum 12 (KX G mX10_sum (fun rv f1 l1 => rv = (some (.long (pick g (fun i => addD D t c (keptD D ^^^ (MLs D W).getD i 0)) (MLs D W).length))) ∧ MJ f l f1 l1 D W U T N)) 0 [some (.ref (ad G 86)), some (.int (nI t)), some (.int (nI c)), some (.int (nI g)), none, none, none, none, none, none, none, none] [] f l
  refine P.aload_n dX10_sum_0 rfl rfl ?_
  refine P.iconst dX10_sum_1 ic_0 ?_
  refine p_X10_thrown (a := 0) ly_86 (by decide) fl_X10_93 dX10_sum_2 rfl ?_
  have hM := mv_free (k := 86) (j := 0) (v := 0) (by decide) hM
  have hKN := hKN.up (k := 86) (j := 0) (v := 0) (by decide)
  have hCF : CF f l (uf f 86 0 0) l := (CF.rf f l).f (by decide)
  generalize uf f 86 0 0 = f0 at hM hKN hCF ⊢
  refine P.aload_n dX10_sum_5 rfl rfl ?_
  refine P.iload_n dX10_sum_6 rfl rfl ?_
  refine P.callV (As := [.int (nI t)]) (rest := []) (t_lack_ok hM hBW ht h0) ok_X10_lack (fitX (Nat.le_of_ble_eq_true rfl)) rfl ml_X10_116 ly_86 (by decide) (by decide) rfl rfl (Nat.le_of_ble_eq_true rfl) dX10_sum_7 ?_
  refine P.if_eq_n (tgt := 24) dX10_sum_10 (by decide) (by omega) (fun c_10 => ?_) (fun c_10 => ?_)
  · refine P.aload_n dX10_sum_24 rfl rfl ?_
    refine P.iload_n dX10_sum_25 rfl rfl ?_
    refine P.iload_n dX10_sum_26 rfl rfl ?_
    refine P.callV (As := [.int (nI t), .int (nI c)]) (rest := []) (t_noColumn_t hM hBW ht hc) ok_X10_noColumn (fitX (Nat.le_of_ble_eq_true rfl)) rfl ml_X10_129 ly_86 (by decide) (by decide) rfl rfl (Nat.le_of_ble_eq_true rfl) dX10_sum_27 ?_
    refine P.if_eq_b (tgt := 41) dX10_sum_30 (by decide) (fun c_30 => ?_) (fun c_30 => ?_)
    · refine P.aload_n dX10_sum_41 rfl rfl ?_
      refine P.callVX (As := []) (rest := []) (t_know hM hBW hKN hE) ok_X10_know (fitX (Nat.le_of_ble_eq_true rfl)) rfl ml_X10_196 ly_86 (by decide) (by decide) rfl rfl (Nat.le_of_ble_eq_true rfl) dX10_sum_42 (fun r f1 l1 hp => ?_)
      obtain ⟨rfl, hK, e⟩ := hp
      subst e
      have hM1 := hM.KD hK
      refine P.aload_n dX10_sum_45 rfl rfl ?_
      refine P.callV (As := []) (rest := []) (t_keptSet hM1 hBW) ok_X10_keptSet (fitX (Nat.le_of_ble_eq_true rfl)) rfl ml_X10_170 ly_86 (by decide) (by decide) rfl rfl (Nat.le_of_ble_eq_true rfl) dX10_sum_46 ?_
      refine P.istore dX10_sum_49 (by decide) ?_
      refine P.lconst (v := 0) dX10_sum_51 rfl ?_
      refine P.lstore dX10_sum_52 (by decide) (Nat.le_of_ble_eq_true rfl) ?_
      refine P.iconst dX10_sum_54 ic_0 ?_
      refine P.istore dX10_sum_55 (by decide) ?_
      show Pm G _ _ _ _ 57 [some (.ref (ad G 86)), some (.int (nI t)), some (.int (nI c)), some (.int (nI g)), some (.int (nI (keptD D))), some (.long 0), none, some (.int (nI 0)), none, none, none, none] [] f1 l
      refine P.to (ls := [some (.ref (ad G 86)), some (.int (nI t)), some (.int (nI c)), some (.int (nI g)), some (.int (nI (keptD D))), some (.long (pick g (fun i => addD D t c (keptD D ^^^ (MLs D W).getD i 0)) 0)), none, some (.int (nI 0)), none, none, none, none]) ?_ (by simp [lle, pick, fo])
      refine loop_up (M := fun (k : Nat) => Pm G _ _ _ _ 57 [some (.ref (ad G 86)), some (.int (nI t)), some (.int (nI c)), some (.int (nI g)), some (.int (nI (keptD D))), some (.long (pick g (fun i => addD D t c (keptD D ^^^ (MLs D W).getD i 0)) k)), none, some (.int (nI k)), none, none, none, none] [] f1 l) (lo := 0) (N := (MLs D W).length) (by first | exact Nat.zero_le _ | omega) (fun k hk0 hk1 ihk => ?_) ?_
      · have hsl := sd_le (keptD D) ((MLs D W).getD k 0)
        show Pm G _ _ _ _ 57 [some (.ref (ad G 86)), some (.int (nI t)), some (.int (nI c)), some (.int (nI g)), some (.int (nI (keptD D))), some (.long (pick g (fun i => addD D t c (keptD D ^^^ (MLs D W).getD i 0)) k)), none, some (.int (nI k)), none, none, none, none] [] f1 l
        refine P.iload dX10_sum_57 rfl ?_
        refine P.aload_n dX10_sum_59 rfl rfl ?_
        refine g_X10_many ly_86 (by decide) fl_X10_193 dX10_sum_60 ?_
        refine Pm.topn (b := (MLs D W).length) (hK.2.1) ?_
        refine P.icmp_ge_n (tgt := 210) dX10_sum_63 (by decide) (by omega) (by omega) (fun c_63 => ?_) (fun c_63 => ?_)
        · exfalso; omega
        refine P.lconst (v := 0) dX10_sum_66 rfl ?_
        refine P.lstore dX10_sum_67 (by decide) (Nat.le_of_ble_eq_true rfl) ?_
        refine P.iconst dX10_sum_69 ic_0 ?_
        refine P.istore dX10_sum_70 (by decide) ?_
        show Pm G _ _ _ _ 72 [some (.ref (ad G 86)), some (.int (nI t)), some (.int (nI c)), some (.int (nI g)), some (.int (nI (keptD D))), some (.long (pick g (fun i => addD D t c (keptD D ^^^ (MLs D W).getD i 0)) k)), none, some (.int (nI k)), some (.long 0), none, some (.int (nI 0)), none] [] f1 l
        refine P.to (ls := [some (.ref (ad G 86)), some (.int (nI t)), some (.int (nI c)), some (.int (nI g)), some (.int (nI (keptD D))), some (.long (pick g (fun i => addD D t c (keptD D ^^^ (MLs D W).getD i 0)) k)), none, some (.int (nI k)), some (.long (sumL (addB D t c (sd (keptD D) ((MLs D W).getD k 0))) (fun r => D.2.2.2 r c) 0)), none, some (.int (nI 0)), none]) ?_ (by simp [lle, sumL, fo])
        refine loop_up (M := fun (r : Nat) => Pm G _ _ _ _ 72 [some (.ref (ad G 86)), some (.int (nI t)), some (.int (nI c)), some (.int (nI g)), some (.int (nI (keptD D))), some (.long (pick g (fun i => addD D t c (keptD D ^^^ (MLs D W).getD i 0)) k)), none, some (.int (nI k)), some (.long (sumL (addB D t c (sd (keptD D) ((MLs D W).getD k 0))) (fun r => D.2.2.2 r c) r)), none, some (.int (nI r)), none] [] f1 l) (lo := 0) (N := D.1) (by first | exact Nat.zero_le _ | omega) (fun r hr0 hr1 ihr => ?_) ?_
        · have hb2 := (hD.2.2.2 r hr1).2.2.2.2 c
          show Pm G _ _ _ _ 72 [some (.ref (ad G 86)), some (.int (nI t)), some (.int (nI c)), some (.int (nI g)), some (.int (nI (keptD D))), some (.long (pick g (fun i => addD D t c (keptD D ^^^ (MLs D W).getD i 0)) k)), none, some (.int (nI k)), some (.long (sumL (addB D t c (sd (keptD D) ((MLs D W).getD k 0))) (fun r => D.2.2.2 r c) r)), none, some (.int (nI r)), none] [] f1 l
          refine P.iload dX10_sum_72 rfl ?_
          refine P.aload_n dX10_sum_74 rfl rfl ?_
          refine g_X10_rows ly_86 (by decide) fl_X10_106 dX10_sum_75 ?_
          refine Pm.topn (b := D.1) (hM1.R) ?_
          refine P.icmp_ge_n (tgt := 167) dX10_sum_78 (by decide) (by omega) (by omega) (fun c_78 => ?_) (fun c_78 => ?_)
          · exfalso; omega
          refine P.iload dX10_sum_81 rfl ?_
          refine P.aload_n dX10_sum_83 rfl rfl ?_
          refine g_X10_leastOf (q := 109) ly_86 (by decide) (by decide) fl_X10_78 dX10_sum_84 ?_
          refine P.iload dX10_sum_87 rfl ?_
          refine a_ia ly_109 (by decide) (by omega) (by decide) dX10_sum_89 ?_
          refine Pm.topn (b := (MLs D W).getD k 0) ((hK.2.2.1 k (by omega))) ?_
          refine P.iconst (v := -1) dX10_sum_90 rfl ?_
          refine P.ixor dX10_sum_91 ?_
          refine P.iand_n dX10_sum_92 (n_not _ _) ?_
          refine P.iload dX10_sum_93 rfl ?_
          refine P.ishr dX10_sum_95 (n_shr (by omega) (by omega)) ?_
          refine P.iconst dX10_sum_96 ic_1 ?_
          refine P.iand_n (v := nI (bt (sd (keptD D) ((MLs D W).getD k 0)) r)) dX10_sum_97 (n_and1 _) ?_
          refine P.iconst dX10_sum_98 ic_1 ?_
          refine P.icmp_ne_n (tgt := 132) dX10_sum_99 (by decide) (Nat.lt_trans (bt_lt _ _) (by decide)) (by omega) (fun c_99 => ?_) (fun c_99 => ?_)
          · refine P.iconst dX10_sum_132 ic_0 ?_
            refine P.istore dX10_sum_133 (by decide) ?_
            refine P.lload dX10_sum_135 rfl ?_
            refine P.iload dX10_sum_137 rfl ?_
            refine P.if_eq_n (tgt := 157) dX10_sum_139 (by decide) (by omega) (fun c_139 => ?_) (fun c_139 => ?_)
            · refine P.lconst (v := 0) dX10_sum_157 rfl ?_
              refine P.ladd dX10_sum_158 ?_
              refine P.lstore dX10_sum_159 (by decide) (Nat.le_of_ble_eq_true rfl) ?_
              refine P.iinc dX10_sum_161 rfl (inc1 _) (by decide) ?_
              refine P.goto (tgt := 72) dX10_sum_164 (by decide) ?_
              show Pm G _ _ _ _ 72 [some (.ref (ad G 86)), some (.int (nI t)), some (.int (nI c)), some (.int (nI g)), some (.int (nI (keptD D))), some (.long (pick g (fun i => addD D t c (keptD D ^^^ (MLs D W).getD i 0)) k)), none, some (.int (nI k)), some (.long ((sumL (addB D t c (sd (keptD D) ((MLs D W).getD k 0))) (fun r => D.2.2.2 r c) r) + 0)), none, some (.int (nI (r + 1))), some (.int (nI 0))] [] f1 l
              exact Pm.to (ihr) (by rw [sumL_s, if_neg (addB_f1 (tb_f (show bt (sd (keptD D) ((MLs D W).getD k 0)) r = 0 by have := bt_lt (sd (keptD D) ((MLs D W).getD k 0)) r; omega)))]; simp [lle]) rfl rfl rfl
            · exfalso; omega
          refine P.aload_n dX10_sum_102 rfl rfl ?_
          refine g_X10_tableOf (q := 89) ly_86 (by decide) (by decide) fl_X10_16 dX10_sum_103 ?_
          refine P.iload dX10_sum_106 rfl ?_
          refine a_ia ly_89 (by decide) (by omega) (by decide) dX10_sum_108 ?_
          refine Pm.topn (b := D.2.1 r 2) ((hM1.tab r (by omega))) ?_
          refine P.iload_n dX10_sum_109 rfl rfl ?_
          refine P.icmp_ne_n (tgt := 132) dX10_sum_110 (by decide) (hD.2.1 _ _) (by omega) (fun c_110 => ?_) (fun c_110 => ?_)
          · refine P.iconst dX10_sum_132 ic_0 ?_
            refine P.istore dX10_sum_133 (by decide) ?_
            refine P.lload dX10_sum_135 rfl ?_
            refine P.iload dX10_sum_137 rfl ?_
            refine P.if_eq_n (tgt := 157) dX10_sum_139 (by decide) (by omega) (fun c_139 => ?_) (fun c_139 => ?_)
            · refine P.lconst (v := 0) dX10_sum_157 rfl ?_
              refine P.ladd dX10_sum_158 ?_
              refine P.lstore dX10_sum_159 (by decide) (Nat.le_of_ble_eq_true rfl) ?_
              refine P.iinc dX10_sum_161 rfl (inc1 _) (by decide) ?_
              refine P.goto (tgt := 72) dX10_sum_164 (by decide) ?_
              show Pm G _ _ _ _ 72 [some (.ref (ad G 86)), some (.int (nI t)), some (.int (nI c)), some (.int (nI g)), some (.int (nI (keptD D))), some (.long (pick g (fun i => addD D t c (keptD D ^^^ (MLs D W).getD i 0)) k)), none, some (.int (nI k)), some (.long ((sumL (addB D t c (sd (keptD D) ((MLs D W).getD k 0))) (fun r => D.2.2.2 r c) r) + 0)), none, some (.int (nI (r + 1))), some (.int (nI 0))] [] f1 l
              exact Pm.to (ihr) (by rw [sumL_s, if_neg (addB_f2 c_110)]; simp [lle]) rfl rfl rfl
            · exfalso; omega
          refine P.aload_n dX10_sum_113 rfl rfl ?_
          refine g_X10_isThere (q := 92) ly_86 (by decide) (by decide) fl_X10_26 dX10_sum_114 ?_
          refine P.bipush (v := nI 6) dX10_sum_117 rfl ?_
          refine P.iload dX10_sum_119 rfl ?_
          refine P.imul_n dX10_sum_121 (pk_mul _ _) ?_
          refine P.iload_n dX10_sum_122 rfl rfl ?_
          refine P.iadd_n dX10_sum_123 (nI_add _ _) ?_
          refine a_za ly_92 (by decide) (by omega) (by decide) dX10_sum_124 ?_
          refine Pm.topn (b := D.2.2.1 r c) ((hM1.the r (by omega) c (by omega))) ?_
          refine P.if_eq_n (tgt := 132) dX10_sum_125 (by decide) (hD.2.2.1 _ _) (fun c_125 => ?_) (fun c_125 => ?_)
          · refine P.iconst dX10_sum_132 ic_0 ?_
            refine P.istore dX10_sum_133 (by decide) ?_
            refine P.lload dX10_sum_135 rfl ?_
            refine P.iload dX10_sum_137 rfl ?_
            refine P.if_eq_n (tgt := 157) dX10_sum_139 (by decide) (by omega) (fun c_139 => ?_) (fun c_139 => ?_)
            · refine P.lconst (v := 0) dX10_sum_157 rfl ?_
              refine P.ladd dX10_sum_158 ?_
              refine P.lstore dX10_sum_159 (by decide) (Nat.le_of_ble_eq_true rfl) ?_
              refine P.iinc dX10_sum_161 rfl (inc1 _) (by decide) ?_
              refine P.goto (tgt := 72) dX10_sum_164 (by decide) ?_
              show Pm G _ _ _ _ 72 [some (.ref (ad G 86)), some (.int (nI t)), some (.int (nI c)), some (.int (nI g)), some (.int (nI (keptD D))), some (.long (pick g (fun i => addD D t c (keptD D ^^^ (MLs D W).getD i 0)) k)), none, some (.int (nI k)), some (.long ((sumL (addB D t c (sd (keptD D) ((MLs D W).getD k 0))) (fun r => D.2.2.2 r c) r) + 0)), none, some (.int (nI (r + 1))), some (.int (nI 0))] [] f1 l
              exact Pm.to (ihr) (by rw [sumL_s, if_neg (addB_f3 c_125)]; simp [lle]) rfl rfl rfl
            · exfalso; omega
          refine P.iconst dX10_sum_128 ic_1 ?_
          refine P.goto (tgt := 133) dX10_sum_129 (by decide) ?_
          refine P.istore dX10_sum_133 (by decide) ?_
          refine P.lload dX10_sum_135 rfl ?_
          refine P.iload dX10_sum_137 rfl ?_
          refine P.if_eq_n (tgt := 157) dX10_sum_139 (by decide) (by omega) (fun c_139 => ?_) (fun c_139 => ?_)
          · exfalso; omega
          refine P.aload_n dX10_sum_142 rfl rfl ?_
          refine g_X10_told (q := 93) ly_86 (by decide) (by decide) fl_X10_29 dX10_sum_143 ?_
          refine P.bipush (v := nI 6) dX10_sum_146 rfl ?_
          refine P.iload dX10_sum_148 rfl ?_
          refine P.imul_n dX10_sum_150 (pk_mul _ _) ?_
          refine P.iload_n dX10_sum_151 rfl rfl ?_
          refine P.iadd_n dX10_sum_152 (nI_add _ _) ?_
          refine a_la ly_93 (by decide) (by omega) (by decide) dX10_sum_153 ?_
          refine Pm.topl (b := D.2.2.2 r c) ((hM.num r (by omega) c (by omega))) ?_
          refine P.goto (tgt := 158) dX10_sum_154 (by decide) ?_
          refine P.ladd dX10_sum_158 ?_
          refine P.lstore dX10_sum_159 (by decide) (Nat.le_of_ble_eq_true rfl) ?_
          refine P.iinc dX10_sum_161 rfl (inc1 _) (by decide) ?_
          refine P.goto (tgt := 72) dX10_sum_164 (by decide) ?_
          show Pm G _ _ _ _ 72 [some (.ref (ad G 86)), some (.int (nI t)), some (.int (nI c)), some (.int (nI g)), some (.int (nI (keptD D))), some (.long (pick g (fun i => addD D t c (keptD D ^^^ (MLs D W).getD i 0)) k)), none, some (.int (nI k)), some (.long ((sumL (addB D t c (sd (keptD D) ((MLs D W).getD k 0))) (fun r => D.2.2.2 r c) r) + (D.2.2.2 r c))), none, some (.int (nI (r + 1))), some (.int (nI 1))] [] f1 l
          exact Pm.to (ihr) (by rw [sumL_s, if_pos (addB_t (tb_t (show bt (sd (keptD D) ((MLs D W).getD k 0)) r ≠ 0 by omega)) c_110 c_125)]; simp [lle, Int64.add_comm]) rfl rfl rfl
        · show Pm G _ _ _ _ 72 [some (.ref (ad G 86)), some (.int (nI t)), some (.int (nI c)), some (.int (nI g)), some (.int (nI (keptD D))), some (.long (pick g (fun i => addD D t c (keptD D ^^^ (MLs D W).getD i 0)) k)), none, some (.int (nI k)), some (.long (sumL (addB D t c (sd (keptD D) ((MLs D W).getD k 0))) (fun r => D.2.2.2 r c) D.1)), none, some (.int (nI D.1)), none] [] f1 l
          refine P.iload dX10_sum_72 rfl ?_
          refine P.aload_n dX10_sum_74 rfl rfl ?_
          refine g_X10_rows ly_86 (by decide) fl_X10_106 dX10_sum_75 ?_
          refine Pm.topn (b := D.1) (hM1.R) ?_
          refine P.icmp_ge_n (tgt := 167) dX10_sum_78 (by decide) (by omega) (by omega) (fun c_78 => ?_) (fun c_78 => ?_)
          · rw [addM, sd_xor (MLs_sub hk1)]
            refine P.iload dX10_sum_167 rfl ?_
            refine P.if_eq_n (tgt := 195) dX10_sum_169 (by decide) (by omega) (fun c_169 => ?_) (fun c_169 => ?_)
            · refine P.lload dX10_sum_195 rfl ?_
              refine P.goto (tgt := 202) dX10_sum_197 (by decide) ?_
              refine P.lstore dX10_sum_202 (by decide) (Nat.le_of_ble_eq_true rfl) ?_
              refine P.iinc dX10_sum_204 rfl (inc1 _) (by decide) ?_
              refine P.goto (tgt := 57) dX10_sum_207 (by decide) ?_
              show Pm G _ _ _ _ 57 [some (.ref (ad G 86)), some (.int (nI t)), some (.int (nI c)), some (.int (nI g)), some (.int (nI (keptD D))), some (.long (addD D t c (keptD D ^^^ (MLs D W).getD k 0))), none, some (.int (nI (k + 1))), some (.long (addD D t c (keptD D ^^^ (MLs D W).getD k 0))), none, some (.int (nI D.1)), none] [] f1 l
              exact Pm.to (ihk) (by rw [pick_z c_169]; simp [lle]) rfl rfl rfl
            refine P.iload_n dX10_sum_172 rfl rfl ?_
            refine P.if_eq_n (tgt := 187) dX10_sum_173 (by decide) (by omega) (fun c_173 => ?_) (fun c_173 => ?_)
            · refine P.lload dX10_sum_187 rfl ?_
              refine P.lload dX10_sum_189 rfl ?_
              refine P.lc_ge (tgt := 200) dX10_sum_191 dX10_sum_192 (by decide) (fun c_191 => ?_) (fun c_191 => ?_)
              · refine P.lload dX10_sum_200 rfl ?_
                refine P.lstore dX10_sum_202 (by decide) (Nat.le_of_ble_eq_true rfl) ?_
                refine P.iinc dX10_sum_204 rfl (inc1 _) (by decide) ?_
                refine P.goto (tgt := 57) dX10_sum_207 (by decide) ?_
                show Pm G _ _ _ _ 57 [some (.ref (ad G 86)), some (.int (nI t)), some (.int (nI c)), some (.int (nI g)), some (.int (nI (keptD D))), some (.long (pick g (fun i => addD D t c (keptD D ^^^ (MLs D W).getD i 0)) k)), none, some (.int (nI (k + 1))), some (.long (addD D t c (keptD D ^^^ (MLs D W).getD k 0))), none, some (.int (nI D.1)), none] [] f1 l
                exact Pm.to (ihk) (by rw [pick_lk c_169 c_173 c_191]; simp [lle]) rfl rfl rfl
              refine P.lload dX10_sum_195 rfl ?_
              refine P.goto (tgt := 202) dX10_sum_197 (by decide) ?_
              refine P.lstore dX10_sum_202 (by decide) (Nat.le_of_ble_eq_true rfl) ?_
              refine P.iinc dX10_sum_204 rfl (inc1 _) (by decide) ?_
              refine P.goto (tgt := 57) dX10_sum_207 (by decide) ?_
              show Pm G _ _ _ _ 57 [some (.ref (ad G 86)), some (.int (nI t)), some (.int (nI c)), some (.int (nI g)), some (.int (nI (keptD D))), some (.long (addD D t c (keptD D ^^^ (MLs D W).getD k 0))), none, some (.int (nI (k + 1))), some (.long (addD D t c (keptD D ^^^ (MLs D W).getD k 0))), none, some (.int (nI D.1)), none] [] f1 l
              exact Pm.to (ihk) (by rw [pick_ln c_169 c_173 c_191]; simp [lle]) rfl rfl rfl
            refine P.lload dX10_sum_176 rfl ?_
            refine P.lload dX10_sum_178 rfl ?_
            refine P.lc_le (tgt := 200) dX10_sum_180 dX10_sum_181 (by decide) (fun c_180 => ?_) (fun c_180 => ?_)
            · refine P.lload dX10_sum_200 rfl ?_
              refine P.lstore dX10_sum_202 (by decide) (Nat.le_of_ble_eq_true rfl) ?_
              refine P.iinc dX10_sum_204 rfl (inc1 _) (by decide) ?_
              refine P.goto (tgt := 57) dX10_sum_207 (by decide) ?_
              show Pm G _ _ _ _ 57 [some (.ref (ad G 86)), some (.int (nI t)), some (.int (nI c)), some (.int (nI g)), some (.int (nI (keptD D))), some (.long (pick g (fun i => addD D t c (keptD D ^^^ (MLs D W).getD i 0)) k)), none, some (.int (nI (k + 1))), some (.long (addD D t c (keptD D ^^^ (MLs D W).getD k 0))), none, some (.int (nI D.1)), none] [] f1 l
              exact Pm.to (ihk) (by rw [pick_mk c_169 c_173 c_180]; simp [lle]) rfl rfl rfl
            refine P.goto (tgt := 195) dX10_sum_184 (by decide) ?_
            refine P.lload dX10_sum_195 rfl ?_
            refine P.goto (tgt := 202) dX10_sum_197 (by decide) ?_
            refine P.lstore dX10_sum_202 (by decide) (Nat.le_of_ble_eq_true rfl) ?_
            refine P.iinc dX10_sum_204 rfl (inc1 _) (by decide) ?_
            refine P.goto (tgt := 57) dX10_sum_207 (by decide) ?_
            show Pm G _ _ _ _ 57 [some (.ref (ad G 86)), some (.int (nI t)), some (.int (nI c)), some (.int (nI g)), some (.int (nI (keptD D))), some (.long (addD D t c (keptD D ^^^ (MLs D W).getD k 0))), none, some (.int (nI (k + 1))), some (.long (addD D t c (keptD D ^^^ (MLs D W).getD k 0))), none, some (.int (nI D.1)), none] [] f1 l
            exact Pm.to (ihk) (by rw [pick_mn c_169 c_173 c_180]; simp [lle]) rfl rfl rfl
          · exfalso; omega
      · show Pm G _ _ _ _ 57 [some (.ref (ad G 86)), some (.int (nI t)), some (.int (nI c)), some (.int (nI g)), some (.int (nI (keptD D))), some (.long (pick g (fun i => addD D t c (keptD D ^^^ (MLs D W).getD i 0)) ((MLs D W).length))), none, some (.int (nI ((MLs D W).length))), none, none, none, none] [] f1 l
        refine P.iload dX10_sum_57 rfl ?_
        refine P.aload_n dX10_sum_59 rfl rfl ?_
        refine g_X10_many ly_86 (by decide) fl_X10_193 dX10_sum_60 ?_
        refine Pm.topn (b := (MLs D W).length) (hK.2.1) ?_
        refine P.icmp_ge_n (tgt := 210) dX10_sum_63 (by decide) (by omega) (by omega) (fun c_63 => ?_) (fun c_63 => ?_)
        · refine P.lload dX10_sum_210 rfl ?_
          exact P.lretX rfl dX10_sum_212 ⟨rfl, hM.KD hK, KN.KD hK, hCF.tr (CF.KD _ hK)⟩
        · exfalso; omega
    · exfalso; revert c_30; decide
  · exfalso; omega

set_option maxRecDepth 20000 in
theorem q_mend {G : GG} {f : Nat → Nat → Nat} {l : Nat → Nat → Int64} {D : DB} {W : LB} {U : QB} {T : TB} {N : Nat} (hM : MV f l D W U T N) (hBW : BW D W U T) (hKN : KN f D W) (hE : kL D W (2 ^ D.1) = MLs D W)  : SpX G mX10_mend [.ref (ad G 86)] f l (fun rv f1 l1 => rv = (some (.int (nI (bitsN (best D W))))) ∧ MJ f l f1 l1 (drD D (best D W)) W U T N) := by
  obtain ⟨hD, hLW, hUW, hTW⟩ := id hBW
  have hR := hD.1
  have hW1 := hLW.1
  have hU1 := hUW.1
  have hJ1 := hUW.2.1
  have hbl := best_lt hD W
  refine SpX.of ok_X10_mend.1 (Nat.le_of_ble_eq_true rfl) ?_
  show Pm G RX10 cX10_mend 3 (KX G mX10_mend (fun rv f1 l1 => rv = (some (.int (nI (bitsN (best D W))))) ∧ MJ f l f1 l1 (drD D (best D W)) W U T N)) 0 [some (.ref (ad G 86)), none, none] [] f l
  refine P.aload_n dX10_mend_0 rfl rfl ?_
  refine P.iconst dX10_mend_1 ic_0 ?_
  refine p_X10_thrown (a := 0) ly_86 (by decide) fl_X10_93 dX10_mend_2 rfl ?_
  have hM := mv_free (k := 86) (j := 0) (v := 0) (by decide) hM
  have hKN := hKN.up (k := 86) (j := 0) (v := 0) (by decide)
  have hCF : CF f l (uf f 86 0 0) l := (CF.rf f l).f (by decide)
  generalize uf f 86 0 0 = f0 at hM hKN hCF ⊢
  refine P.aload_n dX10_mend_5 rfl rfl ?_
  refine P.callVX (As := []) (rest := []) (t_bestOf hM hBW hKN hE) ok_X10_bestOf (fitX (Nat.le_of_ble_eq_true rfl)) rfl ml_X10_202 ly_86 (by decide) (by decide) rfl rfl (Nat.le_of_ble_eq_true rfl) dX10_mend_6 (fun r f1 l1 hp => ?_)
  obtain ⟨rfl, hK, e⟩ := hp
  subst e
  have hM1 := hM.KD hK
  refine P.istore_n dX10_mend_9 rfl (by decide) ?_
  refine P.iconst dX10_mend_10 ic_0 ?_
  refine P.istore_n dX10_mend_11 rfl (by decide) ?_
  refine Pm.cf (mdW_0 f1 (best D W)) ?_
  refine loop_up (M := fun (r : Nat) => Pm G _ _ _ _ 12 [some (.ref (ad G 86)), some (.int (nI (best D W))), some (.int (nI r))] [] (mdW f1 (best D W) r) l) (lo := 0) (N := D.1) (by first | exact Nat.zero_le _ | omega) (fun r hr0 hr1 ihr => ?_) ?_
  · have hk2 := (hD.2.2.2 r hr1).2.2.2.1
    show Pm G _ _ _ _ 12 [some (.ref (ad G 86)), some (.int (nI (best D W))), some (.int (nI r))] [] (mdW f1 (best D W) r) l
    refine P.iload_n dX10_mend_12 rfl rfl ?_
    refine P.aload_n dX10_mend_13 rfl rfl ?_
    refine g_X10_rows ly_86 (by decide) fl_X10_106 dX10_mend_14 ?_
    refine Pm.topn (b := D.1) (((mdW_ne _ _ _ (by decide)).trans hM1.R)) ?_
    refine P.icmp_ge_n (tgt := 54) dX10_mend_17 (by decide) (by omega) (by omega) (fun c_17 => ?_) (fun c_17 => ?_)
    · exfalso; omega
    refine P.aload_n dX10_mend_20 rfl rfl ?_
    refine g_X10_isKept (q := 91) ly_86 (by decide) (by decide) fl_X10_22 dX10_mend_21 ?_
    refine P.iload_n dX10_mend_24 rfl rfl ?_
    refine P.aload_n dX10_mend_25 rfl rfl ?_
    refine g_X10_isKept (q := 91) ly_86 (by decide) (by decide) fl_X10_22 dX10_mend_26 ?_
    refine P.iload_n dX10_mend_29 rfl rfl ?_
    refine a_za ly_91 (by decide) (by omega) (by decide) dX10_mend_30 ?_
    refine Pm.topn (b := D.2.1 r 4) ((mdW_at.trans (hM1.kep r (by omega)))) ?_
    refine P.if_eq_n (tgt := 46) dX10_mend_31 (by decide) (hD.2.1 _ _) (fun c_31 => ?_) (fun c_31 => ?_)
    · refine P.iconst dX10_mend_46 ic_0 ?_
      refine s_za (a := 0) ly_91 (by decide) (by omega) (by decide) dX10_mend_47 rfl (by omega) ?_
      refine P.iinc dX10_mend_48 rfl (inc1 _) (by decide) ?_
      refine P.goto (tgt := 12) dX10_mend_51 (by decide) ?_
      show Pm G _ _ _ _ 12 [some (.ref (ad G 86)), some (.int (nI (best D W))), some (.int (nI (r + 1)))] [] (uf (mdW f1 (best D W) r) 91 r 0) l
      exact Pm.to (ihr) (by simp [lle]) rfl (by exact (mdW_s (fun _ => rfl) (fun _ => by rw [hM1.kep r (by omega), c_31])).symm) rfl
    refine P.iload_n dX10_mend_34 rfl rfl ?_
    refine P.iload_n dX10_mend_35 rfl rfl ?_
    refine P.ishr dX10_mend_36 (n_shr (by omega) (by omega)) ?_
    refine P.iconst dX10_mend_37 ic_1 ?_
    refine P.iand_n (v := nI (bt (best D W) r)) dX10_mend_38 (n_and1 _) ?_
    refine P.if_ne_n (tgt := 46) dX10_mend_39 (by decide) (Nat.lt_trans (bt_lt _ _) (by decide)) (fun c_39 => ?_) (fun c_39 => ?_)
    · refine P.iconst dX10_mend_46 ic_0 ?_
      refine s_za (a := 0) ly_91 (by decide) (by omega) (by decide) dX10_mend_47 rfl (by omega) ?_
      refine P.iinc dX10_mend_48 rfl (inc1 _) (by decide) ?_
      refine P.goto (tgt := 12) dX10_mend_51 (by decide) ?_
      show Pm G _ _ _ _ 12 [some (.ref (ad G 86)), some (.int (nI (best D W))), some (.int (nI (r + 1)))] [] (uf (mdW f1 (best D W) r) 91 r 0) l
      exact Pm.to (ihr) (by simp [lle]) rfl (by exact (mdW_s (fun _ => rfl) (fun h => absurd (tb_t c_39) (by rw [h]; decide))).symm) rfl
    refine P.iconst dX10_mend_42 ic_1 ?_
    refine P.goto (tgt := 47) dX10_mend_43 (by decide) ?_
    refine s_za (a := 1) ly_91 (by decide) (by omega) (by decide) dX10_mend_47 rfl (by omega) ?_
    refine P.iinc dX10_mend_48 rfl (inc1 _) (by decide) ?_
    refine P.goto (tgt := 12) dX10_mend_51 (by decide) ?_
    show Pm G _ _ _ _ 12 [some (.ref (ad G 86)), some (.int (nI (best D W))), some (.int (nI (r + 1)))] [] (uf (mdW f1 (best D W) r) 91 r 1) l
    exact Pm.to (ihr) (by simp [lle]) rfl (by exact (mdW_s (fun h => absurd (tb_f c_39) (by rw [h]; decide)) (fun _ => by rw [hM1.kep r (by omega)]; omega)).symm) rfl
  · show Pm G _ _ _ _ 12 [some (.ref (ad G 86)), some (.int (nI (best D W))), some (.int (nI D.1))] [] (mdW f1 (best D W) D.1) l
    refine P.iload_n dX10_mend_12 rfl rfl ?_
    refine P.aload_n dX10_mend_13 rfl rfl ?_
    refine g_X10_rows ly_86 (by decide) fl_X10_106 dX10_mend_14 ?_
    refine Pm.topn (b := D.1) (((mdW_ne _ _ _ (by decide)).trans hM1.R)) ?_
    refine P.icmp_ge_n (tgt := 54) dX10_mend_17 (by decide) (by omega) (by omega) (fun c_17 => ?_) (fun c_17 => ?_)
    · refine P.aload_n dX10_mend_54 rfl rfl ?_
      refine P.iconst dX10_mend_55 ic_0 ?_
      refine p_X10_isKnown (a := 0) ly_86 (by decide) fl_X10_121 dX10_mend_56 rfl (by omega) ?_
      refine P.iload_n dX10_mend_59 rfl rfl ?_
      refine P.callS (As := [.int (nI (best D W))]) (rest := []) (t_bitsOf (S := best D W) (mv_free (v := 0) (k := 86) (j := 28) (by decide) (mv_md (S := best D W) rfl hM1)) (BW_dr hBW) (by omega)) ok_X10_bitsOf (fitX (Nat.le_of_ble_eq_true rfl)) rfl ml_X10_177 rfl (Nat.le_of_ble_eq_true rfl) dX10_mend_60 ?_
      exact P.iretX rfl dX10_mend_63 ⟨by rw [bitsF_N], mv_free (by decide) (mv_md rfl (hM.KD hK)), KN.z _ _ _, (hCF.tr (CF.KD _ hK)).tr (fun q hq => ⟨fun j => (uf_ne _ _ (by omega)).trans (mdW_ne _ _ _ (by omega)), fun _ => rfl⟩)⟩
    · exfalso; omega

set_option maxRecDepth 20000 in
theorem q_ask {G : GG} {f : Nat → Nat → Nat} {l : Nat → Nat → Int64} {D : DB} {W : LB} {U : QB} {T : TB} {N : Nat} (hM : MV f l D W U T N) (hBW : BW D W U T) (hKN : KN f D W)  : SpX G mX10_ask [.ref (ad G 86)] f l (fun rv f1 l1 => rv = (some (.int (nI U.1))) ∧ MJ f l f1 l1 D W (0, U.2.1, U.2.2.1, U.2.2.2.1, 0, U.2.2.2.2.2) T N) := by
  obtain ⟨hD, hLW, hUW, hTW⟩ := id hBW
  have hR := hD.1
  have hW1 := hLW.1
  have hU1 := hUW.1
  have hJ1 := hUW.2.1
  refine SpX.of ok_X10_ask.1 (Nat.le_of_ble_eq_true rfl) ?_
  show Pm G RX10 cX10_ask 2 (KX G mX10_ask (fun rv f1 l1 => rv = (some (.int (nI U.1))) ∧ MJ f l f1 l1 D W (0, U.2.1, U.2.2.1, U.2.2.2.1, 0, U.2.2.2.2.2) T N)) 0 [some (.ref (ad G 86)), none] [] f l
  refine P.aload_n dX10_ask_0 rfl rfl ?_
  refine P.iconst dX10_ask_1 ic_0 ?_
  refine p_X10_thrown (a := 0) ly_86 (by decide) fl_X10_93 dX10_ask_2 rfl ?_
  have hM := mv_free (k := 86) (j := 0) (v := 0) (by decide) hM
  have hKN := hKN.up (k := 86) (j := 0) (v := 0) (by decide)
  have hCF : CF f l (uf f 86 0 0) l := (CF.rf f l).f (by decide)
  generalize uf f 86 0 0 = f0 at hM hKN hCF ⊢
  refine P.aload_n dX10_ask_5 rfl rfl ?_
  refine g_X10_parts ly_86 (by decide) fl_X10_209 dX10_ask_6 ?_
  refine Pm.topn (b := U.1) (hM.np) ?_
  refine P.istore_n dX10_ask_9 rfl (by decide) ?_
  refine P.aload_n dX10_ask_10 rfl rfl ?_
  refine P.iconst dX10_ask_11 ic_0 ?_
  refine p_X10_parts (a := 0) ly_86 (by decide) fl_X10_209 dX10_ask_12 rfl ?_
  refine P.aload_n dX10_ask_15 rfl rfl ?_
  refine P.iconst dX10_ask_16 ic_0 ?_
  refine p_X10_joins (a := 0) ly_86 (by decide) fl_X10_212 dX10_ask_17 rfl ?_
  refine P.iload_n dX10_ask_20 rfl rfl ?_
  exact P.iretX rfl dX10_ask_21 ⟨rfl, (mv_nj (mv_np hM)), (KN.up (by omega) (KN.up (by omega) hKN)), ((hCF.f (by decide)).f (by decide))⟩

set_option maxRecDepth 20000 in
theorem q_part_a {G : GG} {f : Nat → Nat → Nat} {l : Nat → Nat → Int64} {D : DB} {W : LB} {U : QB} {T : TB} {N : Nat} (hM : MV f l D W U T N) (hBW : BW D W U T) (hKN : KN f D W) {x : Int32} (hx : inR x 4 = false)  : SpX G mX10_part [.ref (ad G 86), .int x] f l (fun rv f1 l1 => rv = (some (.int (-12))) ∧ MJ f l f1 l1 D W U T (N + 1)) := by
  obtain ⟨hD, hLW, hUW, hTW⟩ := id hBW
  have hR := hD.1
  have hW1 := hLW.1
  have hU1 := hUW.1
  have hJ1 := hUW.2.1
  refine SpX.of ok_X10_part.1 (Nat.le_of_ble_eq_true rfl) ?_
  show Pm G RX10 cX10_part 3 (KX G mX10_part (fun rv f1 l1 => rv = (some (.int (-12))) ∧ MJ f l f1 l1 D W U T (N + 1))) 0 [some (.ref (ad G 86)), some (.int x), none] [] f l
  refine P.aload_n dX10_part_0 rfl rfl ?_
  refine P.iconst dX10_part_1 ic_0 ?_
  refine p_X10_thrown (a := 0) ly_86 (by decide) fl_X10_93 dX10_part_2 rfl ?_
  have hM := mv_free (k := 86) (j := 0) (v := 0) (by decide) hM
  have hKN := hKN.up (k := 86) (j := 0) (v := 0) (by decide)
  have hCF : CF f l (uf f 86 0 0) l := (CF.rf f l).f (by decide)
  generalize uf f 86 0 0 = f0 at hM hKN hCF ⊢
  refine P.aload_n dX10_part_5 rfl rfl ?_
  refine P.iload_n dX10_part_6 rfl rfl ?_
  refine P.callV (As := [.int x]) (rest := []) (t_lack_out hM hBW hx) ok_X10_lack (fitX (Nat.le_of_ble_eq_true rfl)) rfl ml_X10_116 ly_86 (by decide) (by decide) rfl rfl (Nat.le_of_ble_eq_true rfl) dX10_part_7 ?_
  refine P.if_eq_z (tgt := 23) dX10_part_10 (by decide) (show (-12 : Int32).toInt = -12 from rfl) (fun c_10 => ?_) (fun c_10 => ?_)
  · exfalso; revert c_10; decide
  refine P.aload_n dX10_part_13 rfl rfl ?_
  refine P.aload_n dX10_part_14 rfl rfl ?_
  refine P.iload_n dX10_part_15 rfl rfl ?_
  refine P.callV (As := [.int x]) (rest := [.ref (ad G 86)]) (t_lack_out hM hBW hx) ok_X10_lack (fitX (Nat.le_of_ble_eq_true rfl)) rfl ml_X10_116 ly_86 (by decide) (by decide) rfl rfl (Nat.le_of_ble_eq_true rfl) dX10_part_16 ?_
  refine P.callV (As := [.int (-12)]) (rest := []) (t_finds hM hBW) ok_X10_finds (fitX (Nat.le_of_ble_eq_true rfl)) rfl ml_X10_112 ly_86 (by decide) (by decide) rfl rfl (Nat.le_of_ble_eq_true rfl) dX10_part_19 ?_
  exact P.iretX rfl dX10_part_22 ⟨rfl, (mv_N hM), (KN.up (by omega) hKN), (hCF.f (by decide))⟩

set_option maxRecDepth 20000 in
theorem q_part_b {G : GG} {f : Nat → Nat → Nat} {l : Nat → Nat → Int64} {D : DB} {W : LB} {U : QB} {T : TB} {N : Nat} (hM : MV f l D W U T N) (hBW : BW D W U T) (hKN : KN f D W) {t : Nat} (ht : t < 4) (h0 : T.1 t = 0)  : SpX G mX10_part [.ref (ad G 86), .int (nI t)] f l (fun rv f1 l1 => rv = (some (.int (-11))) ∧ MJ f l f1 l1 D W U T (N + 1)) := by
  obtain ⟨hD, hLW, hUW, hTW⟩ := id hBW
  have hR := hD.1
  have hW1 := hLW.1
  have hU1 := hUW.1
  have hJ1 := hUW.2.1
  refine SpX.of ok_X10_part.1 (Nat.le_of_ble_eq_true rfl) ?_
  show Pm G RX10 cX10_part 3 (KX G mX10_part (fun rv f1 l1 => rv = (some (.int (-11))) ∧ MJ f l f1 l1 D W U T (N + 1))) 0 [some (.ref (ad G 86)), some (.int (nI t)), none] [] f l
  refine P.aload_n dX10_part_0 rfl rfl ?_
  refine P.iconst dX10_part_1 ic_0 ?_
  refine p_X10_thrown (a := 0) ly_86 (by decide) fl_X10_93 dX10_part_2 rfl ?_
  have hM := mv_free (k := 86) (j := 0) (v := 0) (by decide) hM
  have hKN := hKN.up (k := 86) (j := 0) (v := 0) (by decide)
  have hCF : CF f l (uf f 86 0 0) l := (CF.rf f l).f (by decide)
  generalize uf f 86 0 0 = f0 at hM hKN hCF ⊢
  refine P.aload_n dX10_part_5 rfl rfl ?_
  refine P.iload_n dX10_part_6 rfl rfl ?_
  refine P.callV (As := [.int (nI t)]) (rest := []) (t_lack_null hM hBW ht h0) ok_X10_lack (fitX (Nat.le_of_ble_eq_true rfl)) rfl ml_X10_116 ly_86 (by decide) (by decide) rfl rfl (Nat.le_of_ble_eq_true rfl) dX10_part_7 ?_
  refine P.if_eq_z (tgt := 23) dX10_part_10 (by decide) (show (-11 : Int32).toInt = -11 from rfl) (fun c_10 => ?_) (fun c_10 => ?_)
  · exfalso; revert c_10; decide
  refine P.aload_n dX10_part_13 rfl rfl ?_
  refine P.aload_n dX10_part_14 rfl rfl ?_
  refine P.iload_n dX10_part_15 rfl rfl ?_
  refine P.callV (As := [.int (nI t)]) (rest := [.ref (ad G 86)]) (t_lack_null hM hBW ht h0) ok_X10_lack (fitX (Nat.le_of_ble_eq_true rfl)) rfl ml_X10_116 ly_86 (by decide) (by decide) rfl rfl (Nat.le_of_ble_eq_true rfl) dX10_part_16 ?_
  refine P.callV (As := [.int (-11)]) (rest := []) (t_finds hM hBW) ok_X10_finds (fitX (Nat.le_of_ble_eq_true rfl)) rfl ml_X10_112 ly_86 (by decide) (by decide) rfl rfl (Nat.le_of_ble_eq_true rfl) dX10_part_19 ?_
  exact P.iretX rfl dX10_part_22 ⟨rfl, (mv_N hM), (KN.up (by omega) hKN), (hCF.f (by decide))⟩

set_option maxRecDepth 20000 in
theorem q_part_c {G : GG} {f : Nat → Nat → Nat} {l : Nat → Nat → Int64} {D : DB} {W : LB} {U : QB} {T : TB} {N : Nat} (hM : MV f l D W U T N) (hBW : BW D W U T) (hKN : KN f D W) {t : Nat} (ht : t < 4) (h0 : T.1 t ≠ 0) (hp : U.1 = 3) : SpX G mX10_part [.ref (ad G 86), .int (nI t)] f l (fun rv f1 l1 => rv = (some (.int (-4))) ∧ MJ f l f1 l1 D W U T N) := by
  obtain ⟨hD, hLW, hUW, hTW⟩ := id hBW
  have hR := hD.1
  have hW1 := hLW.1
  have hU1 := hUW.1
  have hJ1 := hUW.2.1
  refine SpX.of ok_X10_part.1 (Nat.le_of_ble_eq_true rfl) ?_
  show Pm G RX10 cX10_part 3 (KX G mX10_part (fun rv f1 l1 => rv = (some (.int (-4))) ∧ MJ f l f1 l1 D W U T N)) 0 [some (.ref (ad G 86)), some (.int (nI t)), none] [] f l
  refine P.aload_n dX10_part_0 rfl rfl ?_
  refine P.iconst dX10_part_1 ic_0 ?_
  refine p_X10_thrown (a := 0) ly_86 (by decide) fl_X10_93 dX10_part_2 rfl ?_
  have hM := mv_free (k := 86) (j := 0) (v := 0) (by decide) hM
  have hKN := hKN.up (k := 86) (j := 0) (v := 0) (by decide)
  have hCF : CF f l (uf f 86 0 0) l := (CF.rf f l).f (by decide)
  generalize uf f 86 0 0 = f0 at hM hKN hCF ⊢
  refine P.aload_n dX10_part_5 rfl rfl ?_
  refine P.iload_n dX10_part_6 rfl rfl ?_
  refine P.callV (As := [.int (nI t)]) (rest := []) (t_lack_ok hM hBW ht h0) ok_X10_lack (fitX (Nat.le_of_ble_eq_true rfl)) rfl ml_X10_116 ly_86 (by decide) (by decide) rfl rfl (Nat.le_of_ble_eq_true rfl) dX10_part_7 ?_
  refine P.if_eq_n (tgt := 23) dX10_part_10 (by decide) (by omega) (fun c_10 => ?_) (fun c_10 => ?_)
  · refine P.aload_n dX10_part_23 rfl rfl ?_
    refine g_X10_parts ly_86 (by decide) fl_X10_209 dX10_part_24 ?_
    refine Pm.topn (b := U.1) (hM.np) ?_
    refine P.iconst dX10_part_27 ic_3 ?_
    refine P.icmp_ne_n (tgt := 34) dX10_part_28 (by decide) (by omega) (by omega) (fun c_28 => ?_) (fun c_28 => ?_)
    · exfalso; omega
    refine P.bipush (v := -4) dX10_part_31 rfl ?_
    exact P.iretX rfl dX10_part_33 ⟨rfl, hM, hKN, hCF⟩
  · exfalso; omega

set_option maxRecDepth 20000 in
theorem q_part_d {G : GG} {f : Nat → Nat → Nat} {l : Nat → Nat → Int64} {D : DB} {W : LB} {U : QB} {T : TB} {N : Nat} (hM : MV f l D W U T N) (hBW : BW D W U T) (hKN : KN f D W) {t : Nat} (ht : t < 4) (h0 : T.1 t ≠ 0) (hp : U.1 < 3) : SpX G mX10_part [.ref (ad G 86), .int (nI t)] f l (fun rv f1 l1 => rv = (some (.int (nI U.1))) ∧ MJ f l f1 l1 D W (prtU U t) T N) := by
  obtain ⟨hD, hLW, hUW, hTW⟩ := id hBW
  have hR := hD.1
  have hW1 := hLW.1
  have hU1 := hUW.1
  have hJ1 := hUW.2.1
  refine SpX.of ok_X10_part.1 (Nat.le_of_ble_eq_true rfl) ?_
  show Pm G RX10 cX10_part 3 (KX G mX10_part (fun rv f1 l1 => rv = (some (.int (nI U.1))) ∧ MJ f l f1 l1 D W (prtU U t) T N)) 0 [some (.ref (ad G 86)), some (.int (nI t)), none] [] f l
  refine P.aload_n dX10_part_0 rfl rfl ?_
  refine P.iconst dX10_part_1 ic_0 ?_
  refine p_X10_thrown (a := 0) ly_86 (by decide) fl_X10_93 dX10_part_2 rfl ?_
  have hM := mv_free (k := 86) (j := 0) (v := 0) (by decide) hM
  have hKN := hKN.up (k := 86) (j := 0) (v := 0) (by decide)
  have hCF : CF f l (uf f 86 0 0) l := (CF.rf f l).f (by decide)
  generalize uf f 86 0 0 = f0 at hM hKN hCF ⊢
  refine P.aload_n dX10_part_5 rfl rfl ?_
  refine P.iload_n dX10_part_6 rfl rfl ?_
  refine P.callV (As := [.int (nI t)]) (rest := []) (t_lack_ok hM hBW ht h0) ok_X10_lack (fitX (Nat.le_of_ble_eq_true rfl)) rfl ml_X10_116 ly_86 (by decide) (by decide) rfl rfl (Nat.le_of_ble_eq_true rfl) dX10_part_7 ?_
  refine P.if_eq_n (tgt := 23) dX10_part_10 (by decide) (by omega) (fun c_10 => ?_) (fun c_10 => ?_)
  · refine P.aload_n dX10_part_23 rfl rfl ?_
    refine g_X10_parts ly_86 (by decide) fl_X10_209 dX10_part_24 ?_
    refine Pm.topn (b := U.1) (hM.np) ?_
    refine P.iconst dX10_part_27 ic_3 ?_
    refine P.icmp_ne_n (tgt := 34) dX10_part_28 (by decide) (by omega) (by omega) (fun c_28 => ?_) (fun c_28 => ?_)
    · refine P.aload_n dX10_part_34 rfl rfl ?_
      refine g_X10_partTable (q := 102) ly_86 (by decide) (by decide) fl_X10_57 dX10_part_35 ?_
      refine P.aload_n dX10_part_38 rfl rfl ?_
      refine g_X10_parts ly_86 (by decide) fl_X10_209 dX10_part_39 ?_
      refine Pm.topn (b := U.1) (hM.np) ?_
      refine P.iload_n dX10_part_42 rfl rfl ?_
      refine s_ia (a := t) ly_102 (by decide) (by omega) (by decide) dX10_part_43 rfl ?_
      refine P.bipush (v := nI 6) dX10_part_44 rfl ?_
      refine P.aload_n dX10_part_46 rfl rfl ?_
      refine g_X10_parts ly_86 (by decide) fl_X10_209 dX10_part_47 ?_
      refine Pm.topn (b := U.1) ((uf_ne _ _ (Or.inl (by omega))).trans (hM.np)) ?_
      refine P.imul_n dX10_part_50 (pk_mul _ _) ?_
      refine P.istore_n dX10_part_51 rfl (by decide) ?_
      refine Pm.cf (ptW_0 (uf f0 102 U.1 t) U.1) ?_
      refine loop_up (M := fun (i : Nat) => Pm G _ _ _ _ 52 [some (.ref (ad G 86)), some (.int (nI t)), some (.int (nI i))] [] (ptW (uf f0 102 U.1 t) U.1 i) l) (lo := (6 * U.1)) (N := (6 * U.1 + 6)) (by first | exact Nat.zero_le _ | omega) (fun i hi0 hi1 ihi => ?_) ?_
      · show Pm G _ _ _ _ 52 [some (.ref (ad G 86)), some (.int (nI t)), some (.int (nI i))] [] (ptW (uf f0 102 U.1 t) U.1 i) l
        refine P.iload_n dX10_part_52 rfl rfl ?_
        refine P.bipush (v := nI 6) dX10_part_53 rfl ?_
        refine P.aload_n dX10_part_55 rfl rfl ?_
        refine g_X10_parts ly_86 (by decide) fl_X10_209 dX10_part_56 ?_
        refine Pm.topn (b := U.1) (((ptW_ne _ _ _ (by decide)).trans ((uf_ne _ _ (Or.inl (by decide))).trans hM.np))) ?_
        refine P.imul_n dX10_part_59 (pk_mul _ _) ?_
        refine P.bipush (v := nI 6) dX10_part_60 rfl ?_
        refine P.iadd_n dX10_part_62 (nI_add _ _) ?_
        refine P.icmp_ge_n (tgt := 79) dX10_part_63 (by decide) (by omega) (by omega) (fun c_63 => ?_) (fun c_63 => ?_)
        · exfalso; omega
        refine P.aload_n dX10_part_66 rfl rfl ?_
        refine g_X10_isTold (q := 103) ly_86 (by decide) (by decide) fl_X10_60 dX10_part_67 ?_
        refine P.iload_n dX10_part_70 rfl rfl ?_
        refine P.iconst dX10_part_71 ic_0 ?_
        refine s_za (a := 0) ly_103 (by decide) (by omega) (by decide) dX10_part_72 rfl (by omega) ?_
        refine P.iinc dX10_part_73 rfl (inc1 _) (by decide) ?_
        refine P.goto (tgt := 52) dX10_part_76 (by decide) ?_
        show Pm G _ _ _ _ 52 [some (.ref (ad G 86)), some (.int (nI t)), some (.int (nI (i + 1)))] [] (uf (ptW (uf f0 102 U.1 t) U.1 i) 103 i 0) l
        exact Pm.to (ihi) (by simp [lle]) rfl (by exact (ptW_s (by omega)).symm) rfl
      · show Pm G _ _ _ _ 52 [some (.ref (ad G 86)), some (.int (nI t)), some (.int (nI (6 * U.1 + 6)))] [] (ptW (uf f0 102 U.1 t) U.1 (6 * U.1 + 6)) l
        refine P.iload_n dX10_part_52 rfl rfl ?_
        refine P.bipush (v := nI 6) dX10_part_53 rfl ?_
        refine P.aload_n dX10_part_55 rfl rfl ?_
        refine g_X10_parts ly_86 (by decide) fl_X10_209 dX10_part_56 ?_
        refine Pm.topn (b := U.1) (((ptW_ne _ _ _ (by decide)).trans ((uf_ne _ _ (Or.inl (by decide))).trans hM.np))) ?_
        refine P.imul_n dX10_part_59 (pk_mul _ _) ?_
        refine P.bipush (v := nI 6) dX10_part_60 rfl ?_
        refine P.iadd_n dX10_part_62 (nI_add _ _) ?_
        refine P.icmp_ge_n (tgt := 79) dX10_part_63 (by decide) (by omega) (by omega) (fun c_63 => ?_) (fun c_63 => ?_)
        · refine P.aload_n dX10_part_79 rfl rfl ?_
          refine P.dup dX10_part_80 rfl ?_
          refine g_X10_parts ly_86 (by decide) fl_X10_209 dX10_part_81 ?_
          refine Pm.topn (b := U.1) (((ptW_ne _ _ _ (by decide)).trans ((uf_ne _ _ (Or.inl (by decide))).trans hM.np))) ?_
          refine P.iconst dX10_part_84 ic_1 ?_
          refine P.iadd_n dX10_part_85 (nI_add _ _) ?_
          refine p_X10_parts (a := (U.1 + 1)) ly_86 (by decide) fl_X10_209 dX10_part_86 rfl ?_
          refine P.aload_n dX10_part_89 rfl rfl ?_
          refine g_X10_parts ly_86 (by decide) fl_X10_209 dX10_part_90 ?_
          refine Pm.topn (b := (U.1 + 1)) (uf_self _ _ _ _) ?_
          refine P.iconst dX10_part_93 ic_1 ?_
          refine P.isub_n dX10_part_94 (pk_sub (by omega)) ?_
          exact P.iretX rfl dX10_part_95 ⟨rfl, mv_prt hM, hKN.of1 (fun k j h1 h2 => (uf_ne _ _ (by omega)).trans ((ptW_ne _ _ _ (by omega)).trans (uf_ne _ _ (by omega)))), hCF.tr (fun q hq => ⟨fun j => (uf_ne _ _ (by omega)).trans ((ptW_ne _ _ _ (by omega)).trans (uf_ne _ _ (by omega))), fun _ => rfl⟩)⟩
        · exfalso; omega
    · exfalso; omega
  · exfalso; omega

set_option maxRecDepth 20000 in
theorem q_tell_a {G : GG} {f : Nat → Nat → Nat} {l : Nat → Nat → Int64} {D : DB} {W : LB} {U : QB} {T : TB} {N : Nat} (hM : MV f l D W U T N) (hBW : BW D W U T) (hKN : KN f D W) {x : Int32} (hx : inR x U.1 = false) {y : Int32} {v : Int64} : SpX G mX10_tell [.ref (ad G 86), .int x, .int y, .long v] f l (fun rv f1 l1 => rv = (some (.int (-1))) ∧ MJ f l f1 l1 D W U T N) := by
  obtain ⟨hD, hLW, hUW, hTW⟩ := id hBW
  have hR := hD.1
  have hW1 := hLW.1
  have hU1 := hUW.1
  have hJ1 := hUW.2.1
  refine SpX.of ok_X10_tell.1 (Nat.le_of_ble_eq_true rfl) ?_
  show Pm G RX10 cX10_tell 5 (KX G mX10_tell (fun rv f1 l1 => rv = (some (.int (-1))) ∧ MJ f l f1 l1 D W U T N)) 0 [some (.ref (ad G 86)), some (.int x), some (.int y), some (.long v), none] [] f l
  refine P.aload_n dX10_tell_0 rfl rfl ?_
  refine P.iconst dX10_tell_1 ic_0 ?_
  refine p_X10_thrown (a := 0) ly_86 (by decide) fl_X10_93 dX10_tell_2 rfl ?_
  have hM := mv_free (k := 86) (j := 0) (v := 0) (by decide) hM
  have hKN := hKN.up (k := 86) (j := 0) (v := 0) (by decide)
  have hCF : CF f l (uf f 86 0 0) l := (CF.rf f l).f (by decide)
  generalize uf f 86 0 0 = f0 at hM hKN hCF ⊢
  refine P.aload_n dX10_tell_5 rfl rfl ?_
  refine P.iload_n dX10_tell_6 rfl rfl ?_
  refine P.callV (As := [.int x]) (rest := []) (t_noPart_f hM hBW hx) ok_X10_noPart (fitX (Nat.le_of_ble_eq_true rfl)) rfl ml_X10_215 ly_86 (by decide) (by decide) rfl rfl (Nat.le_of_ble_eq_true rfl) dX10_tell_7 ?_
  refine P.if_eq_b (tgt := 15) dX10_tell_10 (by decide) (fun c_10 => ?_) (fun c_10 => ?_)
  · exfalso; revert c_10; decide
  refine P.iconst (v := -1) dX10_tell_13 rfl ?_
  exact P.iretX rfl dX10_tell_14 ⟨rfl, hM, hKN, hCF⟩

set_option maxRecDepth 20000 in
theorem q_tell_b {G : GG} {f : Nat → Nat → Nat} {l : Nat → Nat → Int64} {D : DB} {W : LB} {U : QB} {T : TB} {N : Nat} (hM : MV f l D W U T N) (hBW : BW D W U T) (hKN : KN f D W) {r : Nat} (hr : r < U.1) {y : Int32} (hy : inR y (T.1 (U.2.1 r)) = false) {v : Int64} : SpX G mX10_tell [.ref (ad G 86), .int (nI r), .int y, .long v] f l (fun rv f1 l1 => rv = (some (.int (-12))) ∧ MJ f l f1 l1 D W U T (N + 1)) := by
  obtain ⟨hD, hLW, hUW, hTW⟩ := id hBW
  have hR := hD.1
  have hW1 := hLW.1
  have hU1 := hUW.1
  have hJ1 := hUW.2.1
  have htb : U.2.1 r < 4 := (hUW.2.2.1 r hr).1
  have htc := hTW.1 _ htb
  refine SpX.of ok_X10_tell.1 (Nat.le_of_ble_eq_true rfl) ?_
  show Pm G RX10 cX10_tell 5 (KX G mX10_tell (fun rv f1 l1 => rv = (some (.int (-12))) ∧ MJ f l f1 l1 D W U T (N + 1))) 0 [some (.ref (ad G 86)), some (.int (nI r)), some (.int y), some (.long v), none] [] f l
  refine P.aload_n dX10_tell_0 rfl rfl ?_
  refine P.iconst dX10_tell_1 ic_0 ?_
  refine p_X10_thrown (a := 0) ly_86 (by decide) fl_X10_93 dX10_tell_2 rfl ?_
  have hM := mv_free (k := 86) (j := 0) (v := 0) (by decide) hM
  have hKN := hKN.up (k := 86) (j := 0) (v := 0) (by decide)
  have hCF : CF f l (uf f 86 0 0) l := (CF.rf f l).f (by decide)
  generalize uf f 86 0 0 = f0 at hM hKN hCF ⊢
  refine P.aload_n dX10_tell_5 rfl rfl ?_
  refine P.iload_n dX10_tell_6 rfl rfl ?_
  refine P.callV (As := [.int (nI r)]) (rest := []) (t_noPart_t hM hBW hr) ok_X10_noPart (fitX (Nat.le_of_ble_eq_true rfl)) rfl ml_X10_215 ly_86 (by decide) (by decide) rfl rfl (Nat.le_of_ble_eq_true rfl) dX10_tell_7 ?_
  refine P.if_eq_b (tgt := 15) dX10_tell_10 (by decide) (fun c_10 => ?_) (fun c_10 => ?_)
  · refine P.aload_n dX10_tell_15 rfl rfl ?_
    refine P.aload_n dX10_tell_16 rfl rfl ?_
    refine g_X10_partTable (q := 102) ly_86 (by decide) (by decide) fl_X10_57 dX10_tell_17 ?_
    refine P.iload_n dX10_tell_20 rfl rfl ?_
    refine a_ia ly_102 (by decide) (by omega) (by decide) dX10_tell_21 ?_
    refine Pm.topn (b := U.2.1 r) ((hM.pt r (by omega))) ?_
    refine P.iload_n dX10_tell_22 rfl rfl ?_
    refine P.callV (As := [.int (nI (U.2.1 r)), .int y]) (rest := []) (t_noColumn_f hM hBW htb hy) ok_X10_noColumn (fitX (Nat.le_of_ble_eq_true rfl)) rfl ml_X10_129 ly_86 (by decide) (by decide) rfl rfl (Nat.le_of_ble_eq_true rfl) dX10_tell_23 ?_
    refine P.if_eq_b (tgt := 36) dX10_tell_26 (by decide) (fun c_26 => ?_) (fun c_26 => ?_)
    · exfalso; revert c_26; decide
    refine P.aload_n dX10_tell_29 rfl rfl ?_
    refine P.bipush (v := -12) dX10_tell_30 rfl ?_
    refine P.callV (As := [.int (-12)]) (rest := []) (t_finds hM hBW) ok_X10_finds (fitX (Nat.le_of_ble_eq_true rfl)) rfl ml_X10_112 ly_86 (by decide) (by decide) rfl rfl (Nat.le_of_ble_eq_true rfl) dX10_tell_32 ?_
    exact P.iretX rfl dX10_tell_35 ⟨rfl, (mv_N hM), (KN.up (by omega) hKN), (hCF.f (by decide))⟩
  · exfalso; revert c_10; decide

set_option maxRecDepth 20000 in
theorem q_tell_c {G : GG} {f : Nat → Nat → Nat} {l : Nat → Nat → Int64} {D : DB} {W : LB} {U : QB} {T : TB} {N : Nat} (hM : MV f l D W U T N) (hBW : BW D W U T) (hKN : KN f D W) {r : Nat} (hr : r < U.1) {c : Nat} (hc : c < T.1 (U.2.1 r)) {v : Int64} : SpX G mX10_tell [.ref (ad G 86), .int (nI r), .int (nI c), .long v] f l (fun rv f1 l1 => rv = (some (.int (nI 1))) ∧ MJ f l f1 l1 D W (U.1, U.2.1, uf U.2.2.1 r c 1, uf U.2.2.2.1 r c v, U.2.2.2.2) T N) := by
  obtain ⟨hD, hLW, hUW, hTW⟩ := id hBW
  have hR := hD.1
  have hW1 := hLW.1
  have hU1 := hUW.1
  have hJ1 := hUW.2.1
  have htb : U.2.1 r < 4 := (hUW.2.2.1 r hr).1
  have htc := hTW.1 _ htb
  refine SpX.of ok_X10_tell.1 (Nat.le_of_ble_eq_true rfl) ?_
  show Pm G RX10 cX10_tell 5 (KX G mX10_tell (fun rv f1 l1 => rv = (some (.int (nI 1))) ∧ MJ f l f1 l1 D W (U.1, U.2.1, uf U.2.2.1 r c 1, uf U.2.2.2.1 r c v, U.2.2.2.2) T N)) 0 [some (.ref (ad G 86)), some (.int (nI r)), some (.int (nI c)), some (.long v), none] [] f l
  refine P.aload_n dX10_tell_0 rfl rfl ?_
  refine P.iconst dX10_tell_1 ic_0 ?_
  refine p_X10_thrown (a := 0) ly_86 (by decide) fl_X10_93 dX10_tell_2 rfl ?_
  have hM := mv_free (k := 86) (j := 0) (v := 0) (by decide) hM
  have hKN := hKN.up (k := 86) (j := 0) (v := 0) (by decide)
  have hCF : CF f l (uf f 86 0 0) l := (CF.rf f l).f (by decide)
  generalize uf f 86 0 0 = f0 at hM hKN hCF ⊢
  refine P.aload_n dX10_tell_5 rfl rfl ?_
  refine P.iload_n dX10_tell_6 rfl rfl ?_
  refine P.callV (As := [.int (nI r)]) (rest := []) (t_noPart_t hM hBW hr) ok_X10_noPart (fitX (Nat.le_of_ble_eq_true rfl)) rfl ml_X10_215 ly_86 (by decide) (by decide) rfl rfl (Nat.le_of_ble_eq_true rfl) dX10_tell_7 ?_
  refine P.if_eq_b (tgt := 15) dX10_tell_10 (by decide) (fun c_10 => ?_) (fun c_10 => ?_)
  · refine P.aload_n dX10_tell_15 rfl rfl ?_
    refine P.aload_n dX10_tell_16 rfl rfl ?_
    refine g_X10_partTable (q := 102) ly_86 (by decide) (by decide) fl_X10_57 dX10_tell_17 ?_
    refine P.iload_n dX10_tell_20 rfl rfl ?_
    refine a_ia ly_102 (by decide) (by omega) (by decide) dX10_tell_21 ?_
    refine Pm.topn (b := U.2.1 r) ((hM.pt r (by omega))) ?_
    refine P.iload_n dX10_tell_22 rfl rfl ?_
    refine P.callV (As := [.int (nI (U.2.1 r)), .int (nI c)]) (rest := []) (t_noColumn_t hM hBW htb hc) ok_X10_noColumn (fitX (Nat.le_of_ble_eq_true rfl)) rfl ml_X10_129 ly_86 (by decide) (by decide) rfl rfl (Nat.le_of_ble_eq_true rfl) dX10_tell_23 ?_
    refine P.if_eq_b (tgt := 36) dX10_tell_26 (by decide) (fun c_26 => ?_) (fun c_26 => ?_)
    · refine P.aload_n dX10_tell_36 rfl rfl ?_
      refine g_X10_isTold (q := 103) ly_86 (by decide) (by decide) fl_X10_60 dX10_tell_37 ?_
      refine P.bipush (v := nI 6) dX10_tell_40 rfl ?_
      refine P.iload_n dX10_tell_42 rfl rfl ?_
      refine P.imul_n dX10_tell_43 (pk_mul _ _) ?_
      refine P.iload_n dX10_tell_44 rfl rfl ?_
      refine P.iadd_n dX10_tell_45 (nI_add _ _) ?_
      refine P.iconst dX10_tell_46 ic_1 ?_
      refine s_za (a := 1) ly_103 (by decide) (by omega) (by decide) dX10_tell_47 rfl (by omega) ?_
      refine P.aload_n dX10_tell_48 rfl rfl ?_
      refine g_X10_tellOf (q := 104) ly_86 (by decide) (by decide) fl_X10_63 dX10_tell_49 ?_
      refine P.bipush (v := nI 6) dX10_tell_52 rfl ?_
      refine P.iload_n dX10_tell_54 rfl rfl ?_
      refine P.imul_n dX10_tell_55 (pk_mul _ _) ?_
      refine P.iload_n dX10_tell_56 rfl rfl ?_
      refine P.iadd_n dX10_tell_57 (nI_add _ _) ?_
      refine P.lload_n dX10_tell_58 rfl rfl ?_
      refine s_la ly_104 (by decide) (by omega) (by decide) dX10_tell_59 ?_
      refine P.iconst dX10_tell_60 ic_1 ?_
      exact P.iretX rfl dX10_tell_61 ⟨rfl, (mv_tel (by omega) (mv_tld (by omega) hM)), (KN.up (by omega) hKN), ((hCF.f (by decide)).l (by decide))⟩
    · exfalso; revert c_26; decide
  · exfalso; revert c_10; decide

set_option maxRecDepth 20000 in
theorem q_join_a {G : GG} {f : Nat → Nat → Nat} {l : Nat → Nat → Int64} {D : DB} {W : LB} {U : QB} {T : TB} {N : Nat} (hM : MV f l D W U T N) (hBW : BW D W U T) (hKN : KN f D W) {x y z u : Int32} (hx : inR x U.1 = false) : SpX G mX10_join [.ref (ad G 86), .int x, .int y, .int z, .int u] f l (fun rv f1 l1 => rv = (some (.int (-1))) ∧ MJ f l f1 l1 D W U T N) := by
  obtain ⟨hD, hLW, hUW, hTW⟩ := id hBW
  have hR := hD.1
  have hW1 := hLW.1
  have hU1 := hUW.1
  have hJ1 := hUW.2.1
  refine SpX.of ok_X10_join.1 (Nat.le_of_ble_eq_true rfl) ?_
  show Pm G RX10 cX10_join 5 (KX G mX10_join (fun rv f1 l1 => rv = (some (.int (-1))) ∧ MJ f l f1 l1 D W U T N)) 0 [some (.ref (ad G 86)), some (.int x), some (.int y), some (.int z), some (.int u)] [] f l
  refine P.aload_n dX10_join_0 rfl rfl ?_
  refine P.iconst dX10_join_1 ic_0 ?_
  refine p_X10_thrown (a := 0) ly_86 (by decide) fl_X10_93 dX10_join_2 rfl ?_
  have hM := mv_free (k := 86) (j := 0) (v := 0) (by decide) hM
  have hKN := hKN.up (k := 86) (j := 0) (v := 0) (by decide)
  have hCF : CF f l (uf f 86 0 0) l := (CF.rf f l).f (by decide)
  generalize uf f 86 0 0 = f0 at hM hKN hCF ⊢
  refine P.aload_n dX10_join_5 rfl rfl ?_
  refine P.iload_n dX10_join_6 rfl rfl ?_
  refine P.callV (As := [.int x]) (rest := []) (t_noPart_f hM hBW hx) ok_X10_noPart (fitX (Nat.le_of_ble_eq_true rfl)) rfl ml_X10_215 ly_86 (by decide) (by decide) rfl rfl (Nat.le_of_ble_eq_true rfl) dX10_join_7 ?_
  refine P.if_ne_b (tgt := 21) dX10_join_10 (by decide) (fun c_10 => ?_) (fun c_10 => ?_)
  · refine P.iconst (v := -1) dX10_join_21 rfl ?_
    exact P.iretX rfl dX10_join_22 ⟨rfl, hM, hKN, hCF⟩
  · exfalso; revert c_10; decide

set_option maxRecDepth 20000 in
theorem q_join_b {G : GG} {f : Nat → Nat → Nat} {l : Nat → Nat → Int64} {D : DB} {W : LB} {U : QB} {T : TB} {N : Nat} (hM : MV f l D W U T N) (hBW : BW D W U T) (hKN : KN f D W) {p : Nat} (hp : p < U.1) {x y u : Int32} (hx : inR x U.1 = false) : SpX G mX10_join [.ref (ad G 86), .int (nI p), .int y, .int x, .int u] f l (fun rv f1 l1 => rv = (some (.int (-1))) ∧ MJ f l f1 l1 D W U T N) := by
  obtain ⟨hD, hLW, hUW, hTW⟩ := id hBW
  have hR := hD.1
  have hW1 := hLW.1
  have hU1 := hUW.1
  have hJ1 := hUW.2.1
  refine SpX.of ok_X10_join.1 (Nat.le_of_ble_eq_true rfl) ?_
  show Pm G RX10 cX10_join 5 (KX G mX10_join (fun rv f1 l1 => rv = (some (.int (-1))) ∧ MJ f l f1 l1 D W U T N)) 0 [some (.ref (ad G 86)), some (.int (nI p)), some (.int y), some (.int x), some (.int u)] [] f l
  refine P.aload_n dX10_join_0 rfl rfl ?_
  refine P.iconst dX10_join_1 ic_0 ?_
  refine p_X10_thrown (a := 0) ly_86 (by decide) fl_X10_93 dX10_join_2 rfl ?_
  have hM := mv_free (k := 86) (j := 0) (v := 0) (by decide) hM
  have hKN := hKN.up (k := 86) (j := 0) (v := 0) (by decide)
  have hCF : CF f l (uf f 86 0 0) l := (CF.rf f l).f (by decide)
  generalize uf f 86 0 0 = f0 at hM hKN hCF ⊢
  refine P.aload_n dX10_join_5 rfl rfl ?_
  refine P.iload_n dX10_join_6 rfl rfl ?_
  refine P.callV (As := [.int (nI p)]) (rest := []) (t_noPart_t hM hBW hp) ok_X10_noPart (fitX (Nat.le_of_ble_eq_true rfl)) rfl ml_X10_215 ly_86 (by decide) (by decide) rfl rfl (Nat.le_of_ble_eq_true rfl) dX10_join_7 ?_
  refine P.if_ne_b (tgt := 21) dX10_join_10 (by decide) (fun c_10 => ?_) (fun c_10 => ?_)
  · exfalso; revert c_10; decide
  refine P.aload_n dX10_join_13 rfl rfl ?_
  refine P.iload_n dX10_join_14 rfl rfl ?_
  refine P.callV (As := [.int x]) (rest := []) (t_noPart_f hM hBW hx) ok_X10_noPart (fitX (Nat.le_of_ble_eq_true rfl)) rfl ml_X10_215 ly_86 (by decide) (by decide) rfl rfl (Nat.le_of_ble_eq_true rfl) dX10_join_15 ?_
  refine P.if_eq_b (tgt := 23) dX10_join_18 (by decide) (fun c_18 => ?_) (fun c_18 => ?_)
  · exfalso; revert c_18; decide
  refine P.iconst (v := -1) dX10_join_21 rfl ?_
  exact P.iretX rfl dX10_join_22 ⟨rfl, hM, hKN, hCF⟩

set_option maxRecDepth 20000 in
theorem q_join_c {G : GG} {f : Nat → Nat → Nat} {l : Nat → Nat → Int64} {D : DB} {W : LB} {U : QB} {T : TB} {N : Nat} (hM : MV f l D W U T N) (hBW : BW D W U T) (hKN : KN f D W) {p q : Nat} (hp : p < U.1) (hq : q < U.1) {y u : Int32} (hy : inR y (T.1 (U.2.1 p)) = false) : SpX G mX10_join [.ref (ad G 86), .int (nI p), .int y, .int (nI q), .int u] f l (fun rv f1 l1 => rv = (some (.int (-12))) ∧ MJ f l f1 l1 D W U T (N + 1)) := by
  obtain ⟨hD, hLW, hUW, hTW⟩ := id hBW
  have hR := hD.1
  have hW1 := hLW.1
  have hU1 := hUW.1
  have hJ1 := hUW.2.1
  have htp : U.2.1 p < 4 := (hUW.2.2.1 p hp).1
  have htq : U.2.1 q < 4 := (hUW.2.2.1 q hq).1
  have htcp := hTW.1 _ htp
  have htcq := hTW.1 _ htq
  refine SpX.of ok_X10_join.1 (Nat.le_of_ble_eq_true rfl) ?_
  show Pm G RX10 cX10_join 5 (KX G mX10_join (fun rv f1 l1 => rv = (some (.int (-12))) ∧ MJ f l f1 l1 D W U T (N + 1))) 0 [some (.ref (ad G 86)), some (.int (nI p)), some (.int y), some (.int (nI q)), some (.int u)] [] f l
  refine P.aload_n dX10_join_0 rfl rfl ?_
  refine P.iconst dX10_join_1 ic_0 ?_
  refine p_X10_thrown (a := 0) ly_86 (by decide) fl_X10_93 dX10_join_2 rfl ?_
  have hM := mv_free (k := 86) (j := 0) (v := 0) (by decide) hM
  have hKN := hKN.up (k := 86) (j := 0) (v := 0) (by decide)
  have hCF : CF f l (uf f 86 0 0) l := (CF.rf f l).f (by decide)
  generalize uf f 86 0 0 = f0 at hM hKN hCF ⊢
  refine P.aload_n dX10_join_5 rfl rfl ?_
  refine P.iload_n dX10_join_6 rfl rfl ?_
  refine P.callV (As := [.int (nI p)]) (rest := []) (t_noPart_t hM hBW hp) ok_X10_noPart (fitX (Nat.le_of_ble_eq_true rfl)) rfl ml_X10_215 ly_86 (by decide) (by decide) rfl rfl (Nat.le_of_ble_eq_true rfl) dX10_join_7 ?_
  refine P.if_ne_b (tgt := 21) dX10_join_10 (by decide) (fun c_10 => ?_) (fun c_10 => ?_)
  · exfalso; revert c_10; decide
  refine P.aload_n dX10_join_13 rfl rfl ?_
  refine P.iload_n dX10_join_14 rfl rfl ?_
  refine P.callV (As := [.int (nI q)]) (rest := []) (t_noPart_t hM hBW hq) ok_X10_noPart (fitX (Nat.le_of_ble_eq_true rfl)) rfl ml_X10_215 ly_86 (by decide) (by decide) rfl rfl (Nat.le_of_ble_eq_true rfl) dX10_join_15 ?_
  refine P.if_eq_b (tgt := 23) dX10_join_18 (by decide) (fun c_18 => ?_) (fun c_18 => ?_)
  · refine P.aload_n dX10_join_23 rfl rfl ?_
    refine P.aload_n dX10_join_24 rfl rfl ?_
    refine g_X10_partTable (q := 102) ly_86 (by decide) (by decide) fl_X10_57 dX10_join_25 ?_
    refine P.iload_n dX10_join_28 rfl rfl ?_
    refine a_ia ly_102 (by decide) (by omega) (by decide) dX10_join_29 ?_
    refine Pm.topn (b := U.2.1 p) ((hM.pt p (by omega))) ?_
    refine P.iload_n dX10_join_30 rfl rfl ?_
    refine P.callV (As := [.int (nI (U.2.1 p)), .int y]) (rest := []) (t_noColumn_f hM hBW htp hy) ok_X10_noColumn (fitX (Nat.le_of_ble_eq_true rfl)) rfl ml_X10_129 ly_86 (by decide) (by decide) rfl rfl (Nat.le_of_ble_eq_true rfl) dX10_join_31 ?_
    refine P.if_ne_b (tgt := 52) dX10_join_34 (by decide) (fun c_34 => ?_) (fun c_34 => ?_)
    · refine P.aload_n dX10_join_52 rfl rfl ?_
      refine P.bipush (v := -12) dX10_join_53 rfl ?_
      refine P.callV (As := [.int (-12)]) (rest := []) (t_finds hM hBW) ok_X10_finds (fitX (Nat.le_of_ble_eq_true rfl)) rfl ml_X10_112 ly_86 (by decide) (by decide) rfl rfl (Nat.le_of_ble_eq_true rfl) dX10_join_55 ?_
      exact P.iretX rfl dX10_join_58 ⟨rfl, (mv_N hM), (KN.up (by omega) hKN), (hCF.f (by decide))⟩
    · exfalso; revert c_34; decide
  · exfalso; revert c_18; decide

set_option maxRecDepth 20000 in
theorem q_join_d {G : GG} {f : Nat → Nat → Nat} {l : Nat → Nat → Int64} {D : DB} {W : LB} {U : QB} {T : TB} {N : Nat} (hM : MV f l D W U T N) (hBW : BW D W U T) (hKN : KN f D W) {p q : Nat} (hp : p < U.1) (hq : q < U.1) {c : Nat} (hc : c < T.1 (U.2.1 p)) {y : Int32} (hy : inR y (T.1 (U.2.1 q)) = false) : SpX G mX10_join [.ref (ad G 86), .int (nI p), .int (nI c), .int (nI q), .int y] f l (fun rv f1 l1 => rv = (some (.int (-12))) ∧ MJ f l f1 l1 D W U T (N + 1)) := by
  obtain ⟨hD, hLW, hUW, hTW⟩ := id hBW
  have hR := hD.1
  have hW1 := hLW.1
  have hU1 := hUW.1
  have hJ1 := hUW.2.1
  have htp : U.2.1 p < 4 := (hUW.2.2.1 p hp).1
  have htq : U.2.1 q < 4 := (hUW.2.2.1 q hq).1
  have htcp := hTW.1 _ htp
  have htcq := hTW.1 _ htq
  refine SpX.of ok_X10_join.1 (Nat.le_of_ble_eq_true rfl) ?_
  show Pm G RX10 cX10_join 5 (KX G mX10_join (fun rv f1 l1 => rv = (some (.int (-12))) ∧ MJ f l f1 l1 D W U T (N + 1))) 0 [some (.ref (ad G 86)), some (.int (nI p)), some (.int (nI c)), some (.int (nI q)), some (.int y)] [] f l
  refine P.aload_n dX10_join_0 rfl rfl ?_
  refine P.iconst dX10_join_1 ic_0 ?_
  refine p_X10_thrown (a := 0) ly_86 (by decide) fl_X10_93 dX10_join_2 rfl ?_
  have hM := mv_free (k := 86) (j := 0) (v := 0) (by decide) hM
  have hKN := hKN.up (k := 86) (j := 0) (v := 0) (by decide)
  have hCF : CF f l (uf f 86 0 0) l := (CF.rf f l).f (by decide)
  generalize uf f 86 0 0 = f0 at hM hKN hCF ⊢
  refine P.aload_n dX10_join_5 rfl rfl ?_
  refine P.iload_n dX10_join_6 rfl rfl ?_
  refine P.callV (As := [.int (nI p)]) (rest := []) (t_noPart_t hM hBW hp) ok_X10_noPart (fitX (Nat.le_of_ble_eq_true rfl)) rfl ml_X10_215 ly_86 (by decide) (by decide) rfl rfl (Nat.le_of_ble_eq_true rfl) dX10_join_7 ?_
  refine P.if_ne_b (tgt := 21) dX10_join_10 (by decide) (fun c_10 => ?_) (fun c_10 => ?_)
  · exfalso; revert c_10; decide
  refine P.aload_n dX10_join_13 rfl rfl ?_
  refine P.iload_n dX10_join_14 rfl rfl ?_
  refine P.callV (As := [.int (nI q)]) (rest := []) (t_noPart_t hM hBW hq) ok_X10_noPart (fitX (Nat.le_of_ble_eq_true rfl)) rfl ml_X10_215 ly_86 (by decide) (by decide) rfl rfl (Nat.le_of_ble_eq_true rfl) dX10_join_15 ?_
  refine P.if_eq_b (tgt := 23) dX10_join_18 (by decide) (fun c_18 => ?_) (fun c_18 => ?_)
  · refine P.aload_n dX10_join_23 rfl rfl ?_
    refine P.aload_n dX10_join_24 rfl rfl ?_
    refine g_X10_partTable (q := 102) ly_86 (by decide) (by decide) fl_X10_57 dX10_join_25 ?_
    refine P.iload_n dX10_join_28 rfl rfl ?_
    refine a_ia ly_102 (by decide) (by omega) (by decide) dX10_join_29 ?_
    refine Pm.topn (b := U.2.1 p) ((hM.pt p (by omega))) ?_
    refine P.iload_n dX10_join_30 rfl rfl ?_
    refine P.callV (As := [.int (nI (U.2.1 p)), .int (nI c)]) (rest := []) (t_noColumn_t hM hBW htp hc) ok_X10_noColumn (fitX (Nat.le_of_ble_eq_true rfl)) rfl ml_X10_129 ly_86 (by decide) (by decide) rfl rfl (Nat.le_of_ble_eq_true rfl) dX10_join_31 ?_
    refine P.if_ne_b (tgt := 52) dX10_join_34 (by decide) (fun c_34 => ?_) (fun c_34 => ?_)
    · exfalso; revert c_34; decide
    refine P.aload_n dX10_join_37 rfl rfl ?_
    refine P.aload_n dX10_join_38 rfl rfl ?_
    refine g_X10_partTable (q := 102) ly_86 (by decide) (by decide) fl_X10_57 dX10_join_39 ?_
    refine P.iload_n dX10_join_42 rfl rfl ?_
    refine a_ia ly_102 (by decide) (by omega) (by decide) dX10_join_43 ?_
    refine Pm.topn (b := U.2.1 q) ((hM.pt q (by omega))) ?_
    refine P.iload dX10_join_44 rfl ?_
    refine P.callV (As := [.int (nI (U.2.1 q)), .int y]) (rest := []) (t_noColumn_f hM hBW htq hy) ok_X10_noColumn (fitX (Nat.le_of_ble_eq_true rfl)) rfl ml_X10_129 ly_86 (by decide) (by decide) rfl rfl (Nat.le_of_ble_eq_true rfl) dX10_join_46 ?_
    refine P.if_eq_b (tgt := 59) dX10_join_49 (by decide) (fun c_49 => ?_) (fun c_49 => ?_)
    · exfalso; revert c_49; decide
    refine P.aload_n dX10_join_52 rfl rfl ?_
    refine P.bipush (v := -12) dX10_join_53 rfl ?_
    refine P.callV (As := [.int (-12)]) (rest := []) (t_finds hM hBW) ok_X10_finds (fitX (Nat.le_of_ble_eq_true rfl)) rfl ml_X10_112 ly_86 (by decide) (by decide) rfl rfl (Nat.le_of_ble_eq_true rfl) dX10_join_55 ?_
    exact P.iretX rfl dX10_join_58 ⟨rfl, (mv_N hM), (KN.up (by omega) hKN), (hCF.f (by decide))⟩
  · exfalso; revert c_18; decide

set_option maxRecDepth 20000 in
theorem q_join_e {G : GG} {f : Nat → Nat → Nat} {l : Nat → Nat → Int64} {D : DB} {W : LB} {U : QB} {T : TB} {N : Nat} (hM : MV f l D W U T N) (hBW : BW D W U T) (hKN : KN f D W) {p q : Nat} (hp : p < U.1) (hq : q < U.1) {c : Nat} (hc : c < T.1 (U.2.1 p)) {d : Nat} (hd : d < T.1 (U.2.1 q)) (hj : U.2.2.2.2.1 = 6) : SpX G mX10_join [.ref (ad G 86), .int (nI p), .int (nI c), .int (nI q), .int (nI d)] f l (fun rv f1 l1 => rv = (some (.int (-4))) ∧ MJ f l f1 l1 D W U T N) := by
  obtain ⟨hD, hLW, hUW, hTW⟩ := id hBW
  have hR := hD.1
  have hW1 := hLW.1
  have hU1 := hUW.1
  have hJ1 := hUW.2.1
  have htp : U.2.1 p < 4 := (hUW.2.2.1 p hp).1
  have htq : U.2.1 q < 4 := (hUW.2.2.1 q hq).1
  have htcp := hTW.1 _ htp
  have htcq := hTW.1 _ htq
  refine SpX.of ok_X10_join.1 (Nat.le_of_ble_eq_true rfl) ?_
  show Pm G RX10 cX10_join 5 (KX G mX10_join (fun rv f1 l1 => rv = (some (.int (-4))) ∧ MJ f l f1 l1 D W U T N)) 0 [some (.ref (ad G 86)), some (.int (nI p)), some (.int (nI c)), some (.int (nI q)), some (.int (nI d))] [] f l
  refine P.aload_n dX10_join_0 rfl rfl ?_
  refine P.iconst dX10_join_1 ic_0 ?_
  refine p_X10_thrown (a := 0) ly_86 (by decide) fl_X10_93 dX10_join_2 rfl ?_
  have hM := mv_free (k := 86) (j := 0) (v := 0) (by decide) hM
  have hKN := hKN.up (k := 86) (j := 0) (v := 0) (by decide)
  have hCF : CF f l (uf f 86 0 0) l := (CF.rf f l).f (by decide)
  generalize uf f 86 0 0 = f0 at hM hKN hCF ⊢
  refine P.aload_n dX10_join_5 rfl rfl ?_
  refine P.iload_n dX10_join_6 rfl rfl ?_
  refine P.callV (As := [.int (nI p)]) (rest := []) (t_noPart_t hM hBW hp) ok_X10_noPart (fitX (Nat.le_of_ble_eq_true rfl)) rfl ml_X10_215 ly_86 (by decide) (by decide) rfl rfl (Nat.le_of_ble_eq_true rfl) dX10_join_7 ?_
  refine P.if_ne_b (tgt := 21) dX10_join_10 (by decide) (fun c_10 => ?_) (fun c_10 => ?_)
  · exfalso; revert c_10; decide
  refine P.aload_n dX10_join_13 rfl rfl ?_
  refine P.iload_n dX10_join_14 rfl rfl ?_
  refine P.callV (As := [.int (nI q)]) (rest := []) (t_noPart_t hM hBW hq) ok_X10_noPart (fitX (Nat.le_of_ble_eq_true rfl)) rfl ml_X10_215 ly_86 (by decide) (by decide) rfl rfl (Nat.le_of_ble_eq_true rfl) dX10_join_15 ?_
  refine P.if_eq_b (tgt := 23) dX10_join_18 (by decide) (fun c_18 => ?_) (fun c_18 => ?_)
  · refine P.aload_n dX10_join_23 rfl rfl ?_
    refine P.aload_n dX10_join_24 rfl rfl ?_
    refine g_X10_partTable (q := 102) ly_86 (by decide) (by decide) fl_X10_57 dX10_join_25 ?_
    refine P.iload_n dX10_join_28 rfl rfl ?_
    refine a_ia ly_102 (by decide) (by omega) (by decide) dX10_join_29 ?_
    refine Pm.topn (b := U.2.1 p) ((hM.pt p (by omega))) ?_
    refine P.iload_n dX10_join_30 rfl rfl ?_
    refine P.callV (As := [.int (nI (U.2.1 p)), .int (nI c)]) (rest := []) (t_noColumn_t hM hBW htp hc) ok_X10_noColumn (fitX (Nat.le_of_ble_eq_true rfl)) rfl ml_X10_129 ly_86 (by decide) (by decide) rfl rfl (Nat.le_of_ble_eq_true rfl) dX10_join_31 ?_
    refine P.if_ne_b (tgt := 52) dX10_join_34 (by decide) (fun c_34 => ?_) (fun c_34 => ?_)
    · exfalso; revert c_34; decide
    refine P.aload_n dX10_join_37 rfl rfl ?_
    refine P.aload_n dX10_join_38 rfl rfl ?_
    refine g_X10_partTable (q := 102) ly_86 (by decide) (by decide) fl_X10_57 dX10_join_39 ?_
    refine P.iload_n dX10_join_42 rfl rfl ?_
    refine a_ia ly_102 (by decide) (by omega) (by decide) dX10_join_43 ?_
    refine Pm.topn (b := U.2.1 q) ((hM.pt q (by omega))) ?_
    refine P.iload dX10_join_44 rfl ?_
    refine P.callV (As := [.int (nI (U.2.1 q)), .int (nI d)]) (rest := []) (t_noColumn_t hM hBW htq hd) ok_X10_noColumn (fitX (Nat.le_of_ble_eq_true rfl)) rfl ml_X10_129 ly_86 (by decide) (by decide) rfl rfl (Nat.le_of_ble_eq_true rfl) dX10_join_46 ?_
    refine P.if_eq_b (tgt := 59) dX10_join_49 (by decide) (fun c_49 => ?_) (fun c_49 => ?_)
    · refine P.aload_n dX10_join_59 rfl rfl ?_
      refine g_X10_joins ly_86 (by decide) fl_X10_212 dX10_join_60 ?_
      refine Pm.topn (b := U.2.2.2.2.1) (hM.nj) ?_
      refine P.bipush (v := nI 6) dX10_join_63 rfl ?_
      refine P.icmp_ne_n (tgt := 71) dX10_join_65 (by decide) (by omega) (by omega) (fun c_65 => ?_) (fun c_65 => ?_)
      · exfalso; omega
      refine P.bipush (v := -4) dX10_join_68 rfl ?_
      exact P.iretX rfl dX10_join_70 ⟨rfl, hM, hKN, hCF⟩
    · exfalso; revert c_49; decide
  · exfalso; revert c_18; decide

set_option maxRecDepth 20000 in
theorem q_join_f {G : GG} {f : Nat → Nat → Nat} {l : Nat → Nat → Int64} {D : DB} {W : LB} {U : QB} {T : TB} {N : Nat} (hM : MV f l D W U T N) (hBW : BW D W U T) (hKN : KN f D W) {p q : Nat} (hp : p < U.1) (hq : q < U.1) {c : Nat} (hc : c < T.1 (U.2.1 p)) {d : Nat} (hd : d < T.1 (U.2.1 q)) (hj : U.2.2.2.2.1 < 6) : SpX G mX10_join [.ref (ad G 86), .int (nI p), .int (nI c), .int (nI q), .int (nI d)] f l (fun rv f1 l1 => rv = (some (.int (nI (U.2.2.2.2.1 + 1)))) ∧ MJ f l f1 l1 D W (U.1, U.2.1, U.2.2.1, U.2.2.2.1, U.2.2.2.2.1 + 1, uf (uf (uf (uf U.2.2.2.2.2 U.2.2.2.2.1 0 p) U.2.2.2.2.1 1 c) U.2.2.2.2.1 2 q) U.2.2.2.2.1 3 d) T N) := by
  obtain ⟨hD, hLW, hUW, hTW⟩ := id hBW
  have hR := hD.1
  have hW1 := hLW.1
  have hU1 := hUW.1
  have hJ1 := hUW.2.1
  have htp : U.2.1 p < 4 := (hUW.2.2.1 p hp).1
  have htq : U.2.1 q < 4 := (hUW.2.2.1 q hq).1
  have htcp := hTW.1 _ htp
  have htcq := hTW.1 _ htq
  refine SpX.of ok_X10_join.1 (Nat.le_of_ble_eq_true rfl) ?_
  show Pm G RX10 cX10_join 5 (KX G mX10_join (fun rv f1 l1 => rv = (some (.int (nI (U.2.2.2.2.1 + 1)))) ∧ MJ f l f1 l1 D W (U.1, U.2.1, U.2.2.1, U.2.2.2.1, U.2.2.2.2.1 + 1, uf (uf (uf (uf U.2.2.2.2.2 U.2.2.2.2.1 0 p) U.2.2.2.2.1 1 c) U.2.2.2.2.1 2 q) U.2.2.2.2.1 3 d) T N)) 0 [some (.ref (ad G 86)), some (.int (nI p)), some (.int (nI c)), some (.int (nI q)), some (.int (nI d))] [] f l
  refine P.aload_n dX10_join_0 rfl rfl ?_
  refine P.iconst dX10_join_1 ic_0 ?_
  refine p_X10_thrown (a := 0) ly_86 (by decide) fl_X10_93 dX10_join_2 rfl ?_
  have hM := mv_free (k := 86) (j := 0) (v := 0) (by decide) hM
  have hKN := hKN.up (k := 86) (j := 0) (v := 0) (by decide)
  have hCF : CF f l (uf f 86 0 0) l := (CF.rf f l).f (by decide)
  generalize uf f 86 0 0 = f0 at hM hKN hCF ⊢
  refine P.aload_n dX10_join_5 rfl rfl ?_
  refine P.iload_n dX10_join_6 rfl rfl ?_
  refine P.callV (As := [.int (nI p)]) (rest := []) (t_noPart_t hM hBW hp) ok_X10_noPart (fitX (Nat.le_of_ble_eq_true rfl)) rfl ml_X10_215 ly_86 (by decide) (by decide) rfl rfl (Nat.le_of_ble_eq_true rfl) dX10_join_7 ?_
  refine P.if_ne_b (tgt := 21) dX10_join_10 (by decide) (fun c_10 => ?_) (fun c_10 => ?_)
  · exfalso; revert c_10; decide
  refine P.aload_n dX10_join_13 rfl rfl ?_
  refine P.iload_n dX10_join_14 rfl rfl ?_
  refine P.callV (As := [.int (nI q)]) (rest := []) (t_noPart_t hM hBW hq) ok_X10_noPart (fitX (Nat.le_of_ble_eq_true rfl)) rfl ml_X10_215 ly_86 (by decide) (by decide) rfl rfl (Nat.le_of_ble_eq_true rfl) dX10_join_15 ?_
  refine P.if_eq_b (tgt := 23) dX10_join_18 (by decide) (fun c_18 => ?_) (fun c_18 => ?_)
  · refine P.aload_n dX10_join_23 rfl rfl ?_
    refine P.aload_n dX10_join_24 rfl rfl ?_
    refine g_X10_partTable (q := 102) ly_86 (by decide) (by decide) fl_X10_57 dX10_join_25 ?_
    refine P.iload_n dX10_join_28 rfl rfl ?_
    refine a_ia ly_102 (by decide) (by omega) (by decide) dX10_join_29 ?_
    refine Pm.topn (b := U.2.1 p) ((hM.pt p (by omega))) ?_
    refine P.iload_n dX10_join_30 rfl rfl ?_
    refine P.callV (As := [.int (nI (U.2.1 p)), .int (nI c)]) (rest := []) (t_noColumn_t hM hBW htp hc) ok_X10_noColumn (fitX (Nat.le_of_ble_eq_true rfl)) rfl ml_X10_129 ly_86 (by decide) (by decide) rfl rfl (Nat.le_of_ble_eq_true rfl) dX10_join_31 ?_
    refine P.if_ne_b (tgt := 52) dX10_join_34 (by decide) (fun c_34 => ?_) (fun c_34 => ?_)
    · exfalso; revert c_34; decide
    refine P.aload_n dX10_join_37 rfl rfl ?_
    refine P.aload_n dX10_join_38 rfl rfl ?_
    refine g_X10_partTable (q := 102) ly_86 (by decide) (by decide) fl_X10_57 dX10_join_39 ?_
    refine P.iload_n dX10_join_42 rfl rfl ?_
    refine a_ia ly_102 (by decide) (by omega) (by decide) dX10_join_43 ?_
    refine Pm.topn (b := U.2.1 q) ((hM.pt q (by omega))) ?_
    refine P.iload dX10_join_44 rfl ?_
    refine P.callV (As := [.int (nI (U.2.1 q)), .int (nI d)]) (rest := []) (t_noColumn_t hM hBW htq hd) ok_X10_noColumn (fitX (Nat.le_of_ble_eq_true rfl)) rfl ml_X10_129 ly_86 (by decide) (by decide) rfl rfl (Nat.le_of_ble_eq_true rfl) dX10_join_46 ?_
    refine P.if_eq_b (tgt := 59) dX10_join_49 (by decide) (fun c_49 => ?_) (fun c_49 => ?_)
    · refine P.aload_n dX10_join_59 rfl rfl ?_
      refine g_X10_joins ly_86 (by decide) fl_X10_212 dX10_join_60 ?_
      refine Pm.topn (b := U.2.2.2.2.1) (hM.nj) ?_
      refine P.bipush (v := nI 6) dX10_join_63 rfl ?_
      refine P.icmp_ne_n (tgt := 71) dX10_join_65 (by decide) (by omega) (by omega) (fun c_65 => ?_) (fun c_65 => ?_)
      · refine P.aload_n dX10_join_71 rfl rfl ?_
        refine g_X10_joinP (q := 105) ly_86 (by decide) (by decide) fl_X10_66 dX10_join_72 ?_
        refine P.aload_n dX10_join_75 rfl rfl ?_
        refine g_X10_joins ly_86 (by decide) fl_X10_212 dX10_join_76 ?_
        refine Pm.topn (b := U.2.2.2.2.1) (hM.nj) ?_
        refine P.iload_n dX10_join_79 rfl rfl ?_
        refine s_ia (a := p) ly_105 (by decide) (by omega) (by decide) dX10_join_80 rfl ?_
        refine P.aload_n dX10_join_81 rfl rfl ?_
        refine g_X10_joinC (q := 106) ly_86 (by decide) (by decide) fl_X10_69 dX10_join_82 ?_
        refine P.aload_n dX10_join_85 rfl rfl ?_
        refine g_X10_joins ly_86 (by decide) fl_X10_212 dX10_join_86 ?_
        refine Pm.topn (b := U.2.2.2.2.1) ((uf_ne _ _ (Or.inl (by omega))).trans (hM.nj)) ?_
        refine P.iload_n dX10_join_89 rfl rfl ?_
        refine s_ia (a := c) ly_106 (by decide) (by omega) (by decide) dX10_join_90 rfl ?_
        refine P.aload_n dX10_join_91 rfl rfl ?_
        refine g_X10_joinQ (q := 107) ly_86 (by decide) (by decide) fl_X10_72 dX10_join_92 ?_
        refine P.aload_n dX10_join_95 rfl rfl ?_
        refine g_X10_joins ly_86 (by decide) fl_X10_212 dX10_join_96 ?_
        refine Pm.topn (b := U.2.2.2.2.1) ((uf_ne _ _ (Or.inl (by omega))).trans ((uf_ne _ _ (Or.inl (by omega))).trans (hM.nj))) ?_
        refine P.iload_n dX10_join_99 rfl rfl ?_
        refine s_ia (a := q) ly_107 (by decide) (by omega) (by decide) dX10_join_100 rfl ?_
        refine P.aload_n dX10_join_101 rfl rfl ?_
        refine g_X10_joinD (q := 108) ly_86 (by decide) (by decide) fl_X10_75 dX10_join_102 ?_
        refine P.aload_n dX10_join_105 rfl rfl ?_
        refine g_X10_joins ly_86 (by decide) fl_X10_212 dX10_join_106 ?_
        refine Pm.topn (b := U.2.2.2.2.1) ((uf_ne _ _ (Or.inl (by omega))).trans ((uf_ne _ _ (Or.inl (by omega))).trans ((uf_ne _ _ (Or.inl (by omega))).trans (hM.nj)))) ?_
        refine P.iload dX10_join_109 rfl ?_
        refine s_ia (a := d) ly_108 (by decide) (by omega) (by decide) dX10_join_111 rfl ?_
        refine P.aload_n dX10_join_112 rfl rfl ?_
        refine P.dup dX10_join_113 rfl ?_
        refine g_X10_joins ly_86 (by decide) fl_X10_212 dX10_join_114 ?_
        refine Pm.topn (b := U.2.2.2.2.1) ((uf_ne _ _ (Or.inl (by omega))).trans ((uf_ne _ _ (Or.inl (by omega))).trans ((uf_ne _ _ (Or.inl (by omega))).trans ((uf_ne _ _ (Or.inl (by omega))).trans (hM.nj))))) ?_
        refine P.iconst dX10_join_117 ic_1 ?_
        refine P.iadd_n dX10_join_118 (nI_add _ _) ?_
        refine p_X10_joins (a := (U.2.2.2.2.1 + 1)) ly_86 (by decide) fl_X10_212 dX10_join_119 rfl ?_
        refine P.aload_n dX10_join_122 rfl rfl ?_
        refine g_X10_joins ly_86 (by decide) fl_X10_212 dX10_join_123 ?_
        refine Pm.topn (b := (U.2.2.2.2.1 + 1)) (uf_self _ _ _ _) ?_
        exact P.iretX rfl dX10_join_126 ⟨rfl, (mv_nj (mv_jd (mv_jq (mv_jc (mv_jp hM))))), (KN.up (by omega) (KN.up (by omega) (KN.up (by omega) (KN.up (by omega) (KN.up (by omega) hKN))))), (((((hCF.f (by decide)).f (by decide)).f (by decide)).f (by decide)).f (by decide))⟩
      · exfalso; omega
    · exfalso; revert c_49; decide
  · exfalso; revert c_18; decide

set_option maxRecDepth 20000 in
theorem q_stands {G : GG} {f : Nat → Nat → Nat} {l : Nat → Nat → Int64} {D : DB} {W : LB} {U : QB} {T : TB} {N : Nat} (hM : MV f l D W U T N) (hBW : BW D W U T) (hKN : KN f D W)  : SpX G mX10_stands [.ref (ad G 86)] f l (fun rv f1 l1 => rv = some (.int (bI (standsB D U (keptD D)))) ∧ MJ f l f1 l1 D W U T N) := by
  obtain ⟨hD, hLW, hUW, hTW⟩ := id hBW
  have hR := hD.1
  have hW1 := hLW.1
  have hU1 := hUW.1
  have hJ1 := hUW.2.1
  have hK4 := keptD_lt hD
  refine SpX.of ok_X10_stands.1 (Nat.le_of_ble_eq_true rfl) ?_
  show Pm G RX10 cX10_stands 1 (KX G mX10_stands (fun rv f1 l1 => rv = some (.int (bI (standsB D U (keptD D)))) ∧ MJ f l f1 l1 D W U T N)) 0 [some (.ref (ad G 86))] [] f l
  refine P.aload_n dX10_stands_0 rfl rfl ?_
  refine P.iconst dX10_stands_1 ic_0 ?_
  refine p_X10_thrown (a := 0) ly_86 (by decide) fl_X10_93 dX10_stands_2 rfl ?_
  have hM := mv_free (k := 86) (j := 0) (v := 0) (by decide) hM
  have hKN := hKN.up (k := 86) (j := 0) (v := 0) (by decide)
  have hCF : CF f l (uf f 86 0 0) l := (CF.rf f l).f (by decide)
  generalize uf f 86 0 0 = f0 at hM hKN hCF ⊢
  refine P.aload_n dX10_stands_5 rfl rfl ?_
  refine P.aload_n dX10_stands_6 rfl rfl ?_
  refine P.callV (As := []) (rest := [.ref (ad G 86)]) (t_keptSet hM hBW) ok_X10_keptSet (fitX (Nat.le_of_ble_eq_true rfl)) rfl ml_X10_170 ly_86 (by decide) (by decide) rfl rfl (Nat.le_of_ble_eq_true rfl) dX10_stands_7 ?_
  refine P.callVX (As := [.int (nI (keptD D))]) (rest := []) (t_standsIn hM hBW (S := keptD D) (by omega)) ok_X10_standsIn (fitX (Nat.le_of_ble_eq_true rfl)) rfl ml_X10_221 ly_86 (by decide) (by decide) rfl rfl (Nat.le_of_ble_eq_true rfl) dX10_stands_10 (fun r g2 l2 hp => ?_)
  obtain ⟨rfl, hex, e⟩ := hp
  subst e
  rw [stM_stands hD hUW]
  refine P.if_eq_b (tgt := 20) dX10_stands_13 (by decide) (fun c_13 => ?_) (fun c_13 => ?_)
  · refine P.iconst dX10_stands_20 ic_0 ?_
    exact P.iretX rfl dX10_stands_21 ⟨by rw [c_13]; rfl, hM.ex hex, hKN.ex hex, hCF.tr (CF.ex _ hex)⟩
  refine P.iconst dX10_stands_16 ic_1 ?_
  refine P.goto (tgt := 21) dX10_stands_17 (by decide) ?_
  exact P.iretX rfl dX10_stands_21 ⟨by rw [c_13]; rfl, hM.ex hex, hKN.ex hex, hCF.tr (CF.ex _ hex)⟩

set_option maxRecDepth 20000 in
theorem q_often {G : GG} {f : Nat → Nat → Nat} {l : Nat → Nat → Int64} {D : DB} {W : LB} {U : QB} {T : TB} {N : Nat} (hM : MV f l D W U T N) (hBW : BW D W U T) (hKN : KN f D W) (hE : kL D W (2 ^ D.1) = MLs D W)  : SpX G mX10_often [.ref (ad G 86)] f l (fun rv f1 l1 => rv = (some (.int (nI (oftN D W U)))) ∧ MJ f l f1 l1 D W U T N) := by
  obtain ⟨hD, hLW, hUW, hTW⟩ := id hBW
  have hR := hD.1
  have hW1 := hLW.1
  have hU1 := hUW.1
  have hJ1 := hUW.2.1
  refine SpX.of ok_X10_often.1 (Nat.le_of_ble_eq_true rfl) ?_
  show Pm G RX10 cX10_often 1 (KX G mX10_often (fun rv f1 l1 => rv = (some (.int (nI (oftN D W U)))) ∧ MJ f l f1 l1 D W U T N)) 0 [some (.ref (ad G 86))] [] f l
  refine P.aload_n dX10_often_0 rfl rfl ?_
  refine P.iconst dX10_often_1 ic_0 ?_
  refine p_X10_thrown (a := 0) ly_86 (by decide) fl_X10_93 dX10_often_2 rfl ?_
  have hM := mv_free (k := 86) (j := 0) (v := 0) (by decide) hM
  have hKN := hKN.up (k := 86) (j := 0) (v := 0) (by decide)
  have hCF : CF f l (uf f 86 0 0) l := (CF.rf f l).f (by decide)
  generalize uf f 86 0 0 = f0 at hM hKN hCF ⊢
  refine P.aload_n dX10_often_5 rfl rfl ?_
  refine P.callVX (As := []) (rest := []) (t_oftenOf hM hBW hKN hE) ok_X10_oftenOf (fitX (Nat.le_of_ble_eq_true rfl)) rfl ml_X10_224 ly_86 (by decide) (by decide) rfl rfl (Nat.le_of_ble_eq_true rfl) dX10_often_6 (fun r f1 l1 hp => ?_)
  obtain ⟨rfl, hK, e⟩ := hp
  subst e
  have hM1 := hM.KD hK
  exact P.iretX rfl dX10_often_9 ⟨rfl, hM.KD hK, KN.KD hK, hCF.tr (CF.KD _ hK)⟩

set_option maxRecDepth 20000 in
theorem q_sure {G : GG} {f : Nat → Nat → Nat} {l : Nat → Nat → Int64} {D : DB} {W : LB} {U : QB} {T : TB} {N : Nat} (hM : MV f l D W U T N) (hBW : BW D W U T) (hKN : KN f D W) (hE : kL D W (2 ^ D.1) = MLs D W)  : SpX G mX10_sure [.ref (ad G 86)] f l (fun rv f1 l1 => rv = (some (.int (nI (sureN D W U)))) ∧ MJ f l f1 l1 D W U T N) := by
  obtain ⟨hD, hLW, hUW, hTW⟩ := id hBW
  have hR := hD.1
  have hW1 := hLW.1
  have hU1 := hUW.1
  have hJ1 := hUW.2.1
  have hpos := MLs_pos D W
  have hlen := MLs_len hD W
  have hmlt := fun j (h : j < (MLs D W).length) => MLs_lt hD h
  have hof := oftN_le D W U
  refine SpX.of ok_X10_sure.1 (Nat.le_of_ble_eq_true rfl) ?_
  show Pm G RX10 cX10_sure 2 (KX G mX10_sure (fun rv f1 l1 => rv = (some (.int (nI (sureN D W U)))) ∧ MJ f l f1 l1 D W U T N)) 0 [some (.ref (ad G 86)), none] [] f l
  refine P.aload_n dX10_sure_0 rfl rfl ?_
  refine P.iconst dX10_sure_1 ic_0 ?_
  refine p_X10_thrown (a := 0) ly_86 (by decide) fl_X10_93 dX10_sure_2 rfl ?_
  have hM := mv_free (k := 86) (j := 0) (v := 0) (by decide) hM
  have hKN := hKN.up (k := 86) (j := 0) (v := 0) (by decide)
  have hCF : CF f l (uf f 86 0 0) l := (CF.rf f l).f (by decide)
  generalize uf f 86 0 0 = f0 at hM hKN hCF ⊢
  refine P.aload_n dX10_sure_5 rfl rfl ?_
  refine P.callVX (As := []) (rest := []) (t_oftenOf hM hBW hKN hE) ok_X10_oftenOf (fitX (Nat.le_of_ble_eq_true rfl)) rfl ml_X10_224 ly_86 (by decide) (by decide) rfl rfl (Nat.le_of_ble_eq_true rfl) dX10_sure_6 (fun r f1 l1 hp => ?_)
  obtain ⟨rfl, hK, e⟩ := hp
  subst e
  have hM1 := hM.KD hK
  refine P.istore_n dX10_sure_9 rfl (by decide) ?_
  refine P.iload_n dX10_sure_10 rfl rfl ?_
  refine P.aload_n dX10_sure_11 rfl rfl ?_
  refine g_X10_many ly_86 (by decide) fl_X10_193 dX10_sure_12 ?_
  refine Pm.topn (b := (MLs D W).length) (hK.2.1) ?_
  refine P.icmp_ne_n (tgt := 22) dX10_sure_15 (by decide) (by have := oftN_le D W U; omega) (by omega) (fun c_15 => ?_) (fun c_15 => ?_)
  · refine P.iload_n dX10_sure_22 rfl rfl ?_
    refine P.if_le_z (tgt := 30) dX10_sure_23 (by decide) (zN (by have := oftN_le D W U; omega)) (fun c_23 => ?_) (fun c_23 => ?_)
    · refine P.iconst dX10_sure_30 ic_0 ?_
      exact P.iretX rfl dX10_sure_31 ⟨by rw [sureN, if_pos (by omega)], hM.KD hK, KN.KD hK, hCF.tr (CF.KD _ hK)⟩
    refine P.iconst dX10_sure_26 ic_1 ?_
    refine P.goto (tgt := 31) dX10_sure_27 (by decide) ?_
    exact P.iretX rfl dX10_sure_31 ⟨by rw [sureN, if_neg (by omega), if_neg c_15], hM.KD hK, KN.KD hK, hCF.tr (CF.KD _ hK)⟩
  refine P.iconst dX10_sure_18 ic_2 ?_
  refine P.goto (tgt := 31) dX10_sure_19 (by decide) ?_
  exact P.iretX rfl dX10_sure_31 ⟨by rw [sureN, if_neg (by omega), if_pos c_15], hM.KD hK, KN.KD hK, hCF.tr (CF.KD _ hK)⟩

set_option maxRecDepth 20000 in
theorem q_against {G : GG} {f : Nat → Nat → Nat} {l : Nat → Nat → Int64} {D : DB} {W : LB} {U : QB} {T : TB} {N : Nat} (hM : MV f l D W U T N) (hBW : BW D W U T) (hKN : KN f D W) (hE : kL D W (2 ^ D.1) = MLs D W)  : SpX G mX10_against [.ref (ad G 86)] f l (fun rv f1 l1 => rv = some (.int (agR D W U)) ∧ MJ f l f1 l1 D W U T N) := by
  obtain ⟨hD, hLW, hUW, hTW⟩ := id hBW
  have hR := hD.1
  have hW1 := hLW.1
  have hU1 := hUW.1
  have hJ1 := hUW.2.1
  have hpos := MLs_pos D W
  have hlen := MLs_len hD W
  have hmlt := fun j (h : j < (MLs D W).length) => MLs_lt hD h
  have hK4 := keptD_lt hD
  refine SpX.of ok_X10_against.1 (Nat.le_of_ble_eq_true rfl) ?_
  show Pm G RX10 cX10_against 2 (KX G mX10_against (fun rv f1 l1 => rv = some (.int (agR D W U)) ∧ MJ f l f1 l1 D W U T N)) 0 [some (.ref (ad G 86)), none] [] f l
  refine P.aload_n dX10_against_0 rfl rfl ?_
  refine P.iconst dX10_against_1 ic_0 ?_
  refine p_X10_thrown (a := 0) ly_86 (by decide) fl_X10_93 dX10_against_2 rfl ?_
  have hM := mv_free (k := 86) (j := 0) (v := 0) (by decide) hM
  have hKN := hKN.up (k := 86) (j := 0) (v := 0) (by decide)
  have hCF : CF f l (uf f 86 0 0) l := (CF.rf f l).f (by decide)
  generalize uf f 86 0 0 = f0 at hM hKN hCF ⊢
  refine P.aload_n dX10_against_5 rfl rfl ?_
  refine P.callVX (As := []) (rest := []) (t_know hM hBW hKN hE) ok_X10_know (fitX (Nat.le_of_ble_eq_true rfl)) rfl ml_X10_196 ly_86 (by decide) (by decide) rfl rfl (Nat.le_of_ble_eq_true rfl) dX10_against_6 (fun r f1 l1 hp => ?_)
  obtain ⟨rfl, hK, e⟩ := hp
  subst e
  have hM1 := hM.KD hK
  refine P.iconst dX10_against_9 ic_0 ?_
  refine P.istore_n dX10_against_10 rfl (by decide) ?_
  refine loop_up (M := fun (k : Nat) => ∀ g : Nat → Nat → Nat, (KD f0 D W g ∧ ∀ j, j < k → agB D W U j = false) → Pm G _ _ _ _ 11 [some (.ref (ad G 86)), some (.int (nI k))] [] g l) (lo := 0) (N := (MLs D W).length) (by first | exact Nat.zero_le _ | omega) (fun k hk0 hk1 ihk => ?_) ?_ _ ?_
  · intro g hg
    have hgx := hg.2
    have hg2 := hg.2
    have hg := hg.1
    have hM2 := hM.KD hg
    show Pm G _ _ _ _ 11 [some (.ref (ad G 86)), some (.int (nI k))] [] g l
    refine P.iload_n dX10_against_11 rfl rfl ?_
    refine P.aload_n dX10_against_12 rfl rfl ?_
    refine g_X10_many ly_86 (by decide) fl_X10_193 dX10_against_13 ?_
    refine Pm.topn (b := (MLs D W).length) (hg.2.1) ?_
    refine P.icmp_ge_n (tgt := 52) dX10_against_16 (by decide) (by omega) (by omega) (fun c_16 => ?_) (fun c_16 => ?_)
    · exfalso; omega
    refine P.aload_n dX10_against_19 rfl rfl ?_
    refine P.aload_n dX10_against_20 rfl rfl ?_
    refine P.callV (As := []) (rest := [.ref (ad G 86)]) (t_keptSet hM2 hBW) ok_X10_keptSet (fitX (Nat.le_of_ble_eq_true rfl)) rfl ml_X10_170 ly_86 (by decide) (by decide) rfl rfl (Nat.le_of_ble_eq_true rfl) dX10_against_21 ?_
    refine P.aload_n dX10_against_24 rfl rfl ?_
    refine g_X10_leastOf (q := 109) ly_86 (by decide) (by decide) fl_X10_78 dX10_against_25 ?_
    refine P.iload_n dX10_against_28 rfl rfl ?_
    refine a_ia ly_109 (by decide) (by omega) (by decide) dX10_against_29 ?_
    refine Pm.topn (b := (MLs D W).getD k 0) ((hg.2.2.1 k (by omega))) ?_
    refine P.iconst (v := -1) dX10_against_30 rfl ?_
    refine P.ixor dX10_against_31 ?_
    refine P.iand_n dX10_against_32 (n_not _ _) ?_
    refine P.callVX (As := [.int (nI (sd (keptD D) ((MLs D W).getD k 0)))]) (rest := []) (t_standsIn hM2 hBW (S := sd (keptD D) ((MLs D W).getD k 0)) (by have := sd_le (keptD D) ((MLs D W).getD k 0); omega)) ok_X10_standsIn (fitX (Nat.le_of_ble_eq_true rfl)) rfl ml_X10_221 ly_86 (by decide) (by decide) rfl rfl (Nat.le_of_ble_eq_true rfl) dX10_against_33 (fun r g2 l2 hp => ?_)
    obtain ⟨rfl, hex, e⟩ := hp
    subst e
    rw [stM_std hD hUW (sd_subN _ _), sd_xor (MLs_sub hk1)]
    refine P.if_ne_b (tgt := 46) dX10_against_36 (by decide) (fun c_36 => ?_) (fun c_36 => ?_)
    · refine P.iinc dX10_against_46 rfl (inc1 _) (by decide) ?_
      refine P.goto (tgt := 11) dX10_against_49 (by decide) ?_
      show Pm G _ _ _ _ 11 [some (.ref (ad G 86)), some (.int (nI (k + 1)))] [] g2 l
      exact Pm.to (ihk _ (⟨hg.ex hex, lt_snoc hg2 (by rw [agB, c_36]; rfl)⟩)) (by simp [lle]) rfl rfl rfl
    refine P.aload_n dX10_against_39 rfl rfl ?_
    refine g_X10_leastOf (q := 109) ly_86 (by decide) (by decide) fl_X10_78 dX10_against_40 ?_
    refine P.iload_n dX10_against_43 rfl rfl ?_
    refine a_ia ly_109 (by decide) (by omega) (by decide) dX10_against_44 ?_
    refine Pm.topn (b := (MLs D W).getD k 0) (((hg.ex hex).2.2.1 k (by omega))) ?_
    exact P.iretX rfl dX10_against_45 ⟨by rw [agR_some hk1 (by rw [agB, c_36]; rfl) hg2], hM.KD (hg.ex hex), KN.KD (hg.ex hex), hCF.tr (CF.KD _ (hg.ex hex))⟩
  · intro g hg
    have hgx := hg.2
    have hg2 := hg.2
    have hg := hg.1
    have hM2 := hM.KD hg
    show Pm G _ _ _ _ 11 [some (.ref (ad G 86)), some (.int (nI ((MLs D W).length)))] [] g l
    refine P.iload_n dX10_against_11 rfl rfl ?_
    refine P.aload_n dX10_against_12 rfl rfl ?_
    refine g_X10_many ly_86 (by decide) fl_X10_193 dX10_against_13 ?_
    refine Pm.topn (b := (MLs D W).length) (hg.2.1) ?_
    refine P.icmp_ge_n (tgt := 52) dX10_against_16 (by decide) (by omega) (by omega) (fun c_16 => ?_) (fun c_16 => ?_)
    · refine P.bipush (v := -9) dX10_against_52 rfl ?_
      exact P.iretX rfl dX10_against_54 ⟨by rw [agR_none hgx], hM.KD (hg), KN.KD (hg), hCF.tr (CF.KD _ (hg))⟩
    · exfalso; omega
  · exact ⟨hK, fun j hj => absurd hj (by omega)⟩

set_option maxRecDepth 20000 in
theorem q_count_0 {G : GG} {f : Nat → Nat → Nat} {l : Nat → Nat → Int64} {D : DB} {W : LB} {U : QB} {T : TB} {N : Nat} (hM : MV f l D W U T N) (hBW : BW D W U T) (hKN : KN f D W)  : SpX G mX10_count [.ref (ad G 86), .int (nI 0)] f l (fun rv f1 l1 => rv = (some (.int (nI D.1))) ∧ MJ f l f1 l1 D W U T N) := by
  obtain ⟨hD, hLW, hUW, hTW⟩ := id hBW
  have hR := hD.1
  have hW1 := hLW.1
  have hU1 := hUW.1
  have hJ1 := hUW.2.1
  refine SpX.of ok_X10_count.1 (Nat.le_of_ble_eq_true rfl) ?_
  show Pm G RX10 cX10_count 4 (KX G mX10_count (fun rv f1 l1 => rv = (some (.int (nI D.1))) ∧ MJ f l f1 l1 D W U T N)) 0 [some (.ref (ad G 86)), some (.int (nI 0)), none, none] [] f l
  refine P.aload_n dX10_count_0 rfl rfl ?_
  refine P.iconst dX10_count_1 ic_0 ?_
  refine p_X10_thrown (a := 0) ly_86 (by decide) fl_X10_93 dX10_count_2 rfl ?_
  have hM := mv_free (k := 86) (j := 0) (v := 0) (by decide) hM
  have hKN := hKN.up (k := 86) (j := 0) (v := 0) (by decide)
  have hCF : CF f l (uf f 86 0 0) l := (CF.rf f l).f (by decide)
  generalize uf f 86 0 0 = f0 at hM hKN hCF ⊢
  refine P.iload_n dX10_count_5 rfl rfl ?_
  refine P.tableIn (off := 42) (tgt := 48) dX10_count_6 (by decide) (by decide) rfl (by decide) ?_
  refine P.aload_n dX10_count_48 rfl rfl ?_
  refine g_X10_rows ly_86 (by decide) fl_X10_106 dX10_count_49 ?_
  refine Pm.topn (b := D.1) (hM.R) ?_
  exact P.iretX rfl dX10_count_52 ⟨rfl, hM, hKN, hCF⟩

set_option maxRecDepth 20000 in
theorem q_count_1 {G : GG} {f : Nat → Nat → Nat} {l : Nat → Nat → Int64} {D : DB} {W : LB} {U : QB} {T : TB} {N : Nat} (hM : MV f l D W U T N) (hBW : BW D W U T) (hKN : KN f D W)  : SpX G mX10_count [.ref (ad G 86), .int (nI 1)] f l (fun rv f1 l1 => rv = (some (.int (nI W.1))) ∧ MJ f l f1 l1 D W U T N) := by
  obtain ⟨hD, hLW, hUW, hTW⟩ := id hBW
  have hR := hD.1
  have hW1 := hLW.1
  have hU1 := hUW.1
  have hJ1 := hUW.2.1
  refine SpX.of ok_X10_count.1 (Nat.le_of_ble_eq_true rfl) ?_
  show Pm G RX10 cX10_count 4 (KX G mX10_count (fun rv f1 l1 => rv = (some (.int (nI W.1))) ∧ MJ f l f1 l1 D W U T N)) 0 [some (.ref (ad G 86)), some (.int (nI 1)), none, none] [] f l
  refine P.aload_n dX10_count_0 rfl rfl ?_
  refine P.iconst dX10_count_1 ic_0 ?_
  refine p_X10_thrown (a := 0) ly_86 (by decide) fl_X10_93 dX10_count_2 rfl ?_
  have hM := mv_free (k := 86) (j := 0) (v := 0) (by decide) hM
  have hKN := hKN.up (k := 86) (j := 0) (v := 0) (by decide)
  have hCF : CF f l (uf f 86 0 0) l := (CF.rf f l).f (by decide)
  generalize uf f 86 0 0 = f0 at hM hKN hCF ⊢
  refine P.iload_n dX10_count_5 rfl rfl ?_
  refine P.tableIn (off := 47) (tgt := 53) dX10_count_6 (by decide) (by decide) rfl (by decide) ?_
  refine P.aload_n dX10_count_53 rfl rfl ?_
  refine g_X10_laws ly_86 (by decide) fl_X10_109 dX10_count_54 ?_
  refine Pm.topn (b := W.1) (hM.W) ?_
  exact P.iretX rfl dX10_count_57 ⟨rfl, hM, hKN, hCF⟩

set_option maxRecDepth 20000 in
theorem q_count_2 {G : GG} {f : Nat → Nat → Nat} {l : Nat → Nat → Int64} {D : DB} {W : LB} {U : QB} {T : TB} {N : Nat} (hM : MV f l D W U T N) (hBW : BW D W U T) (hKN : KN f D W)  : SpX G mX10_count [.ref (ad G 86), .int (nI 2)] f l (fun rv f1 l1 => rv = (some (.int (nI U.1))) ∧ MJ f l f1 l1 D W U T N) := by
  obtain ⟨hD, hLW, hUW, hTW⟩ := id hBW
  have hR := hD.1
  have hW1 := hLW.1
  have hU1 := hUW.1
  have hJ1 := hUW.2.1
  refine SpX.of ok_X10_count.1 (Nat.le_of_ble_eq_true rfl) ?_
  show Pm G RX10 cX10_count 4 (KX G mX10_count (fun rv f1 l1 => rv = (some (.int (nI U.1))) ∧ MJ f l f1 l1 D W U T N)) 0 [some (.ref (ad G 86)), some (.int (nI 2)), none, none] [] f l
  refine P.aload_n dX10_count_0 rfl rfl ?_
  refine P.iconst dX10_count_1 ic_0 ?_
  refine p_X10_thrown (a := 0) ly_86 (by decide) fl_X10_93 dX10_count_2 rfl ?_
  have hM := mv_free (k := 86) (j := 0) (v := 0) (by decide) hM
  have hKN := hKN.up (k := 86) (j := 0) (v := 0) (by decide)
  have hCF : CF f l (uf f 86 0 0) l := (CF.rf f l).f (by decide)
  generalize uf f 86 0 0 = f0 at hM hKN hCF ⊢
  refine P.iload_n dX10_count_5 rfl rfl ?_
  refine P.tableIn (off := 52) (tgt := 58) dX10_count_6 (by decide) (by decide) rfl (by decide) ?_
  refine P.aload_n dX10_count_58 rfl rfl ?_
  refine g_X10_parts ly_86 (by decide) fl_X10_209 dX10_count_59 ?_
  refine Pm.topn (b := U.1) (hM.np) ?_
  exact P.iretX rfl dX10_count_62 ⟨rfl, hM, hKN, hCF⟩

set_option maxRecDepth 20000 in
theorem q_count_3 {G : GG} {f : Nat → Nat → Nat} {l : Nat → Nat → Int64} {D : DB} {W : LB} {U : QB} {T : TB} {N : Nat} (hM : MV f l D W U T N) (hBW : BW D W U T) (hKN : KN f D W)  : SpX G mX10_count [.ref (ad G 86), .int (nI 3)] f l (fun rv f1 l1 => rv = (some (.int (nI U.2.2.2.2.1))) ∧ MJ f l f1 l1 D W U T N) := by
  obtain ⟨hD, hLW, hUW, hTW⟩ := id hBW
  have hR := hD.1
  have hW1 := hLW.1
  have hU1 := hUW.1
  have hJ1 := hUW.2.1
  refine SpX.of ok_X10_count.1 (Nat.le_of_ble_eq_true rfl) ?_
  show Pm G RX10 cX10_count 4 (KX G mX10_count (fun rv f1 l1 => rv = (some (.int (nI U.2.2.2.2.1))) ∧ MJ f l f1 l1 D W U T N)) 0 [some (.ref (ad G 86)), some (.int (nI 3)), none, none] [] f l
  refine P.aload_n dX10_count_0 rfl rfl ?_
  refine P.iconst dX10_count_1 ic_0 ?_
  refine p_X10_thrown (a := 0) ly_86 (by decide) fl_X10_93 dX10_count_2 rfl ?_
  have hM := mv_free (k := 86) (j := 0) (v := 0) (by decide) hM
  have hKN := hKN.up (k := 86) (j := 0) (v := 0) (by decide)
  have hCF : CF f l (uf f 86 0 0) l := (CF.rf f l).f (by decide)
  generalize uf f 86 0 0 = f0 at hM hKN hCF ⊢
  refine P.iload_n dX10_count_5 rfl rfl ?_
  refine P.tableIn (off := 57) (tgt := 63) dX10_count_6 (by decide) (by decide) rfl (by decide) ?_
  refine P.aload_n dX10_count_63 rfl rfl ?_
  refine g_X10_joins ly_86 (by decide) fl_X10_212 dX10_count_64 ?_
  refine Pm.topn (b := U.2.2.2.2.1) (hM.nj) ?_
  exact P.iretX rfl dX10_count_67 ⟨rfl, hM, hKN, hCF⟩

set_option maxRecDepth 20000 in
theorem q_count_4 {G : GG} {f : Nat → Nat → Nat} {l : Nat → Nat → Int64} {D : DB} {W : LB} {U : QB} {T : TB} {N : Nat} (hM : MV f l D W U T N) (hBW : BW D W U T) (hKN : KN f D W)  : SpX G mX10_count [.ref (ad G 86), .int (nI 4)] f l (fun rv f1 l1 => rv = (some (.int (nI N))) ∧ MJ f l f1 l1 D W U T N) := by
  obtain ⟨hD, hLW, hUW, hTW⟩ := id hBW
  have hR := hD.1
  have hW1 := hLW.1
  have hU1 := hUW.1
  have hJ1 := hUW.2.1
  refine SpX.of ok_X10_count.1 (Nat.le_of_ble_eq_true rfl) ?_
  show Pm G RX10 cX10_count 4 (KX G mX10_count (fun rv f1 l1 => rv = (some (.int (nI N))) ∧ MJ f l f1 l1 D W U T N)) 0 [some (.ref (ad G 86)), some (.int (nI 4)), none, none] [] f l
  refine P.aload_n dX10_count_0 rfl rfl ?_
  refine P.iconst dX10_count_1 ic_0 ?_
  refine p_X10_thrown (a := 0) ly_86 (by decide) fl_X10_93 dX10_count_2 rfl ?_
  have hM := mv_free (k := 86) (j := 0) (v := 0) (by decide) hM
  have hKN := hKN.up (k := 86) (j := 0) (v := 0) (by decide)
  have hCF : CF f l (uf f 86 0 0) l := (CF.rf f l).f (by decide)
  generalize uf f 86 0 0 = f0 at hM hKN hCF ⊢
  refine P.iload_n dX10_count_5 rfl rfl ?_
  refine P.tableIn (off := 62) (tgt := 68) dX10_count_6 (by decide) (by decide) rfl (by decide) ?_
  refine P.aload_n dX10_count_68 rfl rfl ?_
  refine g_X10_findings ly_86 (by decide) fl_X10_97 dX10_count_69 ?_
  refine Pm.topn (b := N) (hM.N) ?_
  exact P.iretX rfl dX10_count_72 ⟨rfl, hM, hKN, hCF⟩

set_option maxRecDepth 20000 in
theorem q_count_5 {G : GG} {f : Nat → Nat → Nat} {l : Nat → Nat → Int64} {D : DB} {W : LB} {U : QB} {T : TB} {N : Nat} (hM : MV f l D W U T N) (hBW : BW D W U T) (hKN : KN f D W)  : SpX G mX10_count [.ref (ad G 86), .int (nI 5)] f l (fun rv f1 l1 => rv = (some (.int (nI (bitsN (keptD D))))) ∧ MJ f l f1 l1 D W U T N) := by
  obtain ⟨hD, hLW, hUW, hTW⟩ := id hBW
  have hR := hD.1
  have hW1 := hLW.1
  have hU1 := hUW.1
  have hJ1 := hUW.2.1
  have hK4 := keptD_lt hD
  refine SpX.of ok_X10_count.1 (Nat.le_of_ble_eq_true rfl) ?_
  show Pm G RX10 cX10_count 4 (KX G mX10_count (fun rv f1 l1 => rv = (some (.int (nI (bitsN (keptD D))))) ∧ MJ f l f1 l1 D W U T N)) 0 [some (.ref (ad G 86)), some (.int (nI 5)), none, none] [] f l
  refine P.aload_n dX10_count_0 rfl rfl ?_
  refine P.iconst dX10_count_1 ic_0 ?_
  refine p_X10_thrown (a := 0) ly_86 (by decide) fl_X10_93 dX10_count_2 rfl ?_
  have hM := mv_free (k := 86) (j := 0) (v := 0) (by decide) hM
  have hKN := hKN.up (k := 86) (j := 0) (v := 0) (by decide)
  have hCF : CF f l (uf f 86 0 0) l := (CF.rf f l).f (by decide)
  generalize uf f 86 0 0 = f0 at hM hKN hCF ⊢
  refine P.iload_n dX10_count_5 rfl rfl ?_
  refine P.tableIn (off := 67) (tgt := 73) dX10_count_6 (by decide) (by decide) rfl (by decide) ?_
  refine P.aload_n dX10_count_73 rfl rfl ?_
  refine P.callV (As := []) (rest := []) (t_keptSet hM hBW) ok_X10_keptSet (fitX (Nat.le_of_ble_eq_true rfl)) rfl ml_X10_170 ly_86 (by decide) (by decide) rfl rfl (Nat.le_of_ble_eq_true rfl) dX10_count_74 ?_
  refine P.callS (As := [.int (nI (keptD D))]) (rest := []) (t_bitsOf (S := keptD D) hM hBW (by omega)) ok_X10_bitsOf (fitX (Nat.le_of_ble_eq_true rfl)) rfl ml_X10_177 rfl (Nat.le_of_ble_eq_true rfl) dX10_count_77 ?_
  exact P.iretX rfl dX10_count_80 ⟨by rw [bitsF_N], hM, hKN, hCF⟩

set_option maxRecDepth 20000 in
theorem q_count_6 {G : GG} {f : Nat → Nat → Nat} {l : Nat → Nat → Int64} {D : DB} {W : LB} {U : QB} {T : TB} {N : Nat} (hM : MV f l D W U T N) (hBW : BW D W U T) (hKN : KN f D W)  : SpX G mX10_count [.ref (ad G 86), .int (nI 6)] f l (fun rv f1 l1 => rv = (some (.int (nI (tabsN T)))) ∧ MJ f l f1 l1 D W U T N) := by
  obtain ⟨hD, hLW, hUW, hTW⟩ := id hBW
  have hR := hD.1
  have hW1 := hLW.1
  have hU1 := hUW.1
  have hJ1 := hUW.2.1
  refine SpX.of ok_X10_count.1 (Nat.le_of_ble_eq_true rfl) ?_
  show Pm G RX10 cX10_count 4 (KX G mX10_count (fun rv f1 l1 => rv = (some (.int (nI (tabsN T)))) ∧ MJ f l f1 l1 D W U T N)) 0 [some (.ref (ad G 86)), some (.int (nI 6)), none, none] [] f l
  refine P.aload_n dX10_count_0 rfl rfl ?_
  refine P.iconst dX10_count_1 ic_0 ?_
  refine p_X10_thrown (a := 0) ly_86 (by decide) fl_X10_93 dX10_count_2 rfl ?_
  have hM := mv_free (k := 86) (j := 0) (v := 0) (by decide) hM
  have hKN := hKN.up (k := 86) (j := 0) (v := 0) (by decide)
  have hCF : CF f l (uf f 86 0 0) l := (CF.rf f l).f (by decide)
  generalize uf f 86 0 0 = f0 at hM hKN hCF ⊢
  refine P.iload_n dX10_count_5 rfl rfl ?_
  refine P.tableIn (off := 75) (tgt := 81) dX10_count_6 (by decide) (by decide) rfl (by decide) ?_
  refine P.iconst dX10_count_81 ic_0 ?_
  refine P.istore_n dX10_count_82 rfl (by decide) ?_
  refine P.iconst dX10_count_83 ic_0 ?_
  refine P.istore_n dX10_count_84 rfl (by decide) ?_
  show Pm G _ _ _ _ 85 [some (.ref (ad G 86)), some (.int (nI 6)), some (.int (nI 0)), some (.int (nI 0))] [] f0 l
  refine P.to (ls := [some (.ref (ad G 86)), some (.int (nI 6)), some (.int (nI (cntN (fun t => T.1 t != 0) 0))), some (.int (nI 0))]) ?_ (by simp [lle, cntN, fo])
  refine loop_up (M := fun (i : Nat) => Pm G _ _ _ _ 85 [some (.ref (ad G 86)), some (.int (nI 6)), some (.int (nI (cntN (fun t => T.1 t != 0) i))), some (.int (nI i))] [] f0 l) (lo := 0) (N := 4) (by first | exact Nat.zero_le _ | omega) (fun i hi0 hi1 ihi => ?_) ?_
  · have htc := hTW.1 i hi1
    show Pm G _ _ _ _ 85 [some (.ref (ad G 86)), some (.int (nI 6)), some (.int (nI (cntN (fun t => T.1 t != 0) i))), some (.int (nI i))] [] f0 l
    refine P.iload_n dX10_count_85 rfl rfl ?_
    refine P.iconst dX10_count_86 ic_4 ?_
    refine P.icmp_ge_n (tgt := 113) dX10_count_87 (by decide) (by omega) (by omega) (fun c_87 => ?_) (fun c_87 => ?_)
    · exfalso; omega
    refine P.iload_n dX10_count_90 rfl rfl ?_
    refine P.aload_n dX10_count_91 rfl rfl ?_
    refine g_X10_columns (q := 87) ly_86 (by decide) (by decide) fl_X10_7 dX10_count_92 ?_
    refine P.iload_n dX10_count_95 rfl rfl ?_
    refine a_ia ly_87 (by decide) (by omega) (by decide) dX10_count_96 ?_
    refine Pm.topn (b := T.1 i) ((hM.col i (by omega))) ?_
    refine P.if_le_z (tgt := 104) dX10_count_97 (by decide) (zN (by have := hTW.1 _ (by assumption); omega)) (fun c_97 => ?_) (fun c_97 => ?_)
    · refine P.iconst dX10_count_104 ic_0 ?_
      refine P.iadd_n dX10_count_105 (nI_add _ _) ?_
      refine P.istore_n dX10_count_106 rfl (by decide) ?_
      refine P.iinc dX10_count_107 rfl (inc1 _) (by decide) ?_
      refine P.goto (tgt := 85) dX10_count_110 (by decide) ?_
      show Pm G _ _ _ _ 85 [some (.ref (ad G 86)), some (.int (nI 6)), some (.int (nI ((cntN (fun t => T.1 t != 0) i) + 0))), some (.int (nI (i + 1)))] [] f0 l
      exact Pm.to (ihi) (by rw [cntN_s, show (T.1 i != 0) = false from bne_eq_false_iff_eq.mpr (by omega)]; simp [lle, bN_t, bN_f]) rfl rfl rfl
    refine P.iconst dX10_count_100 ic_1 ?_
    refine P.goto (tgt := 105) dX10_count_101 (by decide) ?_
    refine P.iadd_n dX10_count_105 (nI_add _ _) ?_
    refine P.istore_n dX10_count_106 rfl (by decide) ?_
    refine P.iinc dX10_count_107 rfl (inc1 _) (by decide) ?_
    refine P.goto (tgt := 85) dX10_count_110 (by decide) ?_
    show Pm G _ _ _ _ 85 [some (.ref (ad G 86)), some (.int (nI 6)), some (.int (nI ((cntN (fun t => T.1 t != 0) i) + 1))), some (.int (nI (i + 1)))] [] f0 l
    exact Pm.to (ihi) (by rw [cntN_s, show (T.1 i != 0) = true from bne_iff_ne.mpr (by omega)]; simp [lle, bN_t, bN_f]) rfl rfl rfl
  · show Pm G _ _ _ _ 85 [some (.ref (ad G 86)), some (.int (nI 6)), some (.int (nI (cntN (fun t => T.1 t != 0) 4))), some (.int (nI 4))] [] f0 l
    refine P.iload_n dX10_count_85 rfl rfl ?_
    refine P.iconst dX10_count_86 ic_4 ?_
    refine P.icmp_ge_n (tgt := 113) dX10_count_87 (by decide) (by omega) (by omega) (fun c_87 => ?_) (fun c_87 => ?_)
    · refine P.iload_n dX10_count_113 rfl rfl ?_
      exact P.iretX rfl dX10_count_114 ⟨rfl, hM, hKN, hCF⟩
    · exfalso; omega

set_option maxRecDepth 20000 in
theorem q_count_x {G : GG} {f : Nat → Nat → Nat} {l : Nat → Nat → Int64} {D : DB} {W : LB} {U : QB} {T : TB} {N : Nat} (hM : MV f l D W U T N) (hBW : BW D W U T) (hKN : KN f D W) {x : Int32} (hx : inR x 7 = false) : SpX G mX10_count [.ref (ad G 86), .int x] f l (fun rv f1 l1 => rv = (some (.int (-2))) ∧ MJ f l f1 l1 D W U T N) := by
  obtain ⟨hD, hLW, hUW, hTW⟩ := id hBW
  have hR := hD.1
  have hW1 := hLW.1
  have hU1 := hUW.1
  have hJ1 := hUW.2.1
  have hx2 := inR_f.mp hx
  refine SpX.of ok_X10_count.1 (Nat.le_of_ble_eq_true rfl) ?_
  show Pm G RX10 cX10_count 4 (KX G mX10_count (fun rv f1 l1 => rv = (some (.int (-2))) ∧ MJ f l f1 l1 D W U T N)) 0 [some (.ref (ad G 86)), some (.int x), none, none] [] f l
  refine P.aload_n dX10_count_0 rfl rfl ?_
  refine P.iconst dX10_count_1 ic_0 ?_
  refine p_X10_thrown (a := 0) ly_86 (by decide) fl_X10_93 dX10_count_2 rfl ?_
  have hM := mv_free (k := 86) (j := 0) (v := 0) (by decide) hM
  have hKN := hKN.up (k := 86) (j := 0) (v := 0) (by decide)
  have hCF : CF f l (uf f 86 0 0) l := (CF.rf f l).f (by decide)
  generalize uf f 86 0 0 = f0 at hM hKN hCF ⊢
  refine P.iload_n dX10_count_5 rfl rfl ?_
  refine P.tableOut (tgt := 115) dX10_count_6 (by omega) (by decide) ?_
  refine P.bipush (v := -2) dX10_count_115 rfl ?_
  exact P.iretX rfl dX10_count_117 ⟨rfl, hM, hKN, hCF⟩


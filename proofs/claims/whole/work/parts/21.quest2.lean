-- Question, Table: by program (wip/whole/spec21.py)
set_option maxRecDepth 20000 in
theorem s_qclear {G : GG} {f : Nat → Nat → Nat} {l : Nat → Nat → Int64}  : Spec G mX5_clear [.ref (ad G 57)] 114 (f, l, refT) none 114 (uf (uf f 57 2 0) 57 4 0, l, refT) := by
  refine Spec.of ok_X5_clear.1 ⟨Nat.le_refl _, Nat.le_refl _⟩ (Nat.le_of_ble_eq_true rfl) ?_
  show Pm G RX5 cX5_clear 1 (KM G mX5_clear 114 114 none (uf (uf f 57 2 0) 57 4 0, l, refT)) 0 [some (.ref (ad G 57))] [] f l
  refine P.aload_n dX5_clear_0 rfl rfl ?_
  refine P.iconst dX5_clear_1 ic_0 ?_
  refine p_X5_manyParts (a := 0) ly_57 (by decide) fl_X5_40 dX5_clear_2 rfl ?_
  refine P.aload_n dX5_clear_5 rfl rfl ?_
  refine P.iconst dX5_clear_6 ic_0 ?_
  refine p_X5_manyJoins (a := 0) ly_57 (by decide) fl_X5_44 dX5_clear_7 rfl ?_
  exact P.vret rfl dX5_clear_10 rfl

set_option maxRecDepth 20000 in
theorem s_addJoin {G : GG} {f : Nat → Nat → Nat} {l : Nat → Nat → Int64} {U : QB} (hU : UV f l U) {p c q d : Nat} (hj : U.2.2.2.2.1 < 6) : Spec G mX5_addJoin [.ref (ad G 57), .int (nI p), .int (nI c), .int (nI q), .int (nI d)] 114 (f, l, refT) (some (.int (nI (U.2.2.2.2.1 + 1)))) 114 (uf (uf (uf (uf (uf f (72 + U.2.2.2.2.1) 0 p) (72 + U.2.2.2.2.1) 1 c) (72 + U.2.2.2.2.1) 2 q) (72 + U.2.2.2.2.1) 3 d) 57 4 (U.2.2.2.2.1 + 1), l, refT) := by
  refine Spec.of ok_X5_addJoin.1 ⟨Nat.le_refl _, Nat.le_refl _⟩ (Nat.le_of_ble_eq_true rfl) ?_
  show Pm G RX5 cX5_addJoin 6 (KM G mX5_addJoin 114 114 (some (.int (nI (U.2.2.2.2.1 + 1)))) (uf (uf (uf (uf (uf f (72 + U.2.2.2.2.1) 0 p) (72 + U.2.2.2.2.1) 1 c) (72 + U.2.2.2.2.1) 2 q) (72 + U.2.2.2.2.1) 3 d) 57 4 (U.2.2.2.2.1 + 1), l, refT)) 0 [some (.ref (ad G 57)), some (.int (nI p)), some (.int (nI c)), some (.int (nI q)), some (.int (nI d)), none] [] f l
  refine P.aload_n dX5_addJoin_0 rfl rfl ?_
  refine g_X5_joins (q := 59) ly_57 (by decide) (by decide) fl_X5_19 dX5_addJoin_1 ?_
  refine P.aload_n dX5_addJoin_4 rfl rfl ?_
  refine g_X5_manyJoins ly_57 (by decide) fl_X5_44 dX5_addJoin_5 ?_
  refine Pm.topn (b := U.2.2.2.2.1) (hU.2.2.2.2.1) ?_
  refine a_r0 (q := 72 + U.2.2.2.2.1) ly_59 (by decide) (by omega) (by decide) (rt_joi (r := U.2.2.2.2.1) (by omega)) dX5_addJoin_8 ?_
  refine P.astore dX5_addJoin_9 (by decide) ?_
  refine P.aload dX5_addJoin_11 rfl ?_
  refine P.iload_n dX5_addJoin_13 rfl rfl ?_
  refine p_X0_p (a := p) (ly_joi (r := U.2.2.2.2.1) (by omega)) (by omega) fl_X5_53 dX5_addJoin_14 rfl ?_
  refine P.aload dX5_addJoin_17 rfl ?_
  refine P.iload_n dX5_addJoin_19 rfl rfl ?_
  refine p_X0_c (a := c) (ly_joi (r := U.2.2.2.2.1) (by omega)) (by omega) fl_X5_56 dX5_addJoin_20 rfl ?_
  refine P.aload dX5_addJoin_23 rfl ?_
  refine P.iload_n dX5_addJoin_25 rfl rfl ?_
  refine p_X0_q (a := q) (ly_joi (r := U.2.2.2.2.1) (by omega)) (by omega) fl_X5_59 dX5_addJoin_26 rfl ?_
  refine P.aload dX5_addJoin_29 rfl ?_
  refine P.iload dX5_addJoin_31 rfl ?_
  refine p_X0_d (a := d) (ly_joi (r := U.2.2.2.2.1) (by omega)) (by omega) fl_X5_62 dX5_addJoin_33 rfl ?_
  refine P.aload_n dX5_addJoin_36 rfl rfl ?_
  refine P.dup dX5_addJoin_37 rfl ?_
  refine g_X5_manyJoins ly_57 (by decide) fl_X5_44 dX5_addJoin_38 ?_
  refine Pm.topn (b := U.2.2.2.2.1) ((uf_ne _ _ (Or.inr (by decide))).trans ((uf_ne _ _ (Or.inr (by decide))).trans ((uf_ne _ _ (Or.inr (by decide))).trans ((uf_ne _ _ (Or.inr (by decide))).trans (hU.2.2.2.2.1))))) ?_
  refine P.iconst dX5_addJoin_41 ic_1 ?_
  refine P.iadd_n dX5_addJoin_42 (nI_add _ _) ?_
  refine p_X5_manyJoins (a := (U.2.2.2.2.1 + 1)) ly_57 (by decide) fl_X5_44 dX5_addJoin_43 rfl ?_
  refine P.aload_n dX5_addJoin_46 rfl rfl ?_
  refine g_X5_manyJoins ly_57 (by decide) fl_X5_44 dX5_addJoin_47 ?_
  refine Pm.topn (b := (U.2.2.2.2.1 + 1)) (uf_self _ _ _ _) ?_
  exact P.iret rfl dX5_addJoin_50 rfl rfl

set_option maxRecDepth 20000 in
theorem s_addPart {G : GG} {f : Nat → Nat → Nat} {l : Nat → Nat → Int64} {U : QB} (hU : UV f l U) {t : Nat} (hp : U.1 < 3) : Spec G mX5_addPart [.ref (ad G 57), .int (nI t)] 114 (f, l, refT) (some (.int (nI U.1))) 114 (uf (unm (uf f (63 + 3 * U.1) 2 t) (64 + 3 * U.1) 6) 57 2 (U.1 + 1), l, refT) := by
  refine Spec.of ok_X5_addPart.1 ⟨Nat.le_refl _, Nat.le_refl _⟩ (Nat.le_of_ble_eq_true rfl) ?_
  show Pm G RX5 cX5_addPart 4 (KM G mX5_addPart 114 114 (some (.int (nI U.1))) (uf (unm (uf f (63 + 3 * U.1) 2 t) (64 + 3 * U.1) 6) 57 2 (U.1 + 1), l, refT)) 0 [some (.ref (ad G 57)), some (.int (nI t)), none, none] [] f l
  refine P.aload_n dX5_addPart_0 rfl rfl ?_
  refine g_X5_parts (q := 58) ly_57 (by decide) (by decide) fl_X5_11 dX5_addPart_1 ?_
  refine P.aload_n dX5_addPart_4 rfl rfl ?_
  refine g_X5_manyParts ly_57 (by decide) fl_X5_40 dX5_addPart_5 ?_
  refine Pm.topn (b := U.1) (hU.1) ?_
  refine a_r4 (q := 63 + 3 * U.1) ly_58 (by decide) (by omega) (by decide) (rt_par (r := U.1) (by omega)) dX5_addPart_8 ?_
  refine P.astore_n dX5_addPart_9 rfl (by decide) ?_
  refine P.aload_n dX5_addPart_10 rfl rfl ?_
  refine P.iload_n dX5_addPart_11 rfl rfl ?_
  refine p_X4_table (a := t) (ly_par (r := U.1) (by omega)) (by omega) fl_X5_47 dX5_addPart_12 rfl ?_
  refine P.iconst dX5_addPart_15 ic_0 ?_
  refine P.istore_n dX5_addPart_16 rfl (by decide) ?_
  refine Pm.cf (unm_0 (uf f (63 + 3 * U.1) 2 t) (64 + 3 * U.1)).symm ?_
  refine loop_up (M := fun (i : Nat) => Pm G _ _ _ _ 17 [some (.ref (ad G 57)), some (.int (nI t)), some (.ref (ad G (63 + 3 * U.1))), some (.int (nI i))] [] (unm (uf f (63 + 3 * U.1) 2 t) (64 + 3 * U.1) i) l) (lo := 0) (N := 6) (by first | exact Nat.zero_le _ | omega) (fun i hi0 hi1 ihi => ?_) ?_
  · show Pm G _ _ _ _ 17 [some (.ref (ad G 57)), some (.int (nI t)), some (.ref (ad G (63 + 3 * U.1))), some (.int (nI i))] [] (unm (uf f (63 + 3 * U.1) 2 t) (64 + 3 * U.1) i) l
    refine P.iload_n dX5_addPart_17 rfl rfl ?_
    refine P.bipush (v := nI 6) dX5_addPart_18 rfl ?_
    refine P.icmp_ge_n (tgt := 36) dX5_addPart_20 (by decide) (by omega) (by omega) (fun c_20 => ?_) (fun c_20 => ?_)
    · exfalso; omega
    refine P.aload_n dX5_addPart_23 rfl rfl ?_
    refine g_X4_told (q := 64 + 3 * U.1) (ly_par (r := U.1) (by omega)) (by omega) (rt_pto (r := U.1) (by omega)) fl_X5_50 dX5_addPart_24 ?_
    refine P.iload_n dX5_addPart_27 rfl rfl ?_
    refine P.iconst dX5_addPart_28 ic_0 ?_
    refine s_za (a := 0) (ly_pto (r := U.1) (by omega)) (by omega) (by omega) (by decide) dX5_addPart_29 rfl (by omega) ?_
    refine P.iinc dX5_addPart_30 rfl (inc1 _) (by decide) ?_
    refine P.goto (tgt := 17) dX5_addPart_33 (by decide) ?_
    show Pm G _ _ _ _ 17 [some (.ref (ad G 57)), some (.int (nI t)), some (.ref (ad G (63 + 3 * U.1))), some (.int (nI (i + 1)))] [] (uf (unm (uf f (63 + 3 * U.1) 2 t) (64 + 3 * U.1) i) (64 + 3 * U.1) i 0) l
    exact Pm.to (ihi) (by simp [lle]) rfl (by rw [unm_s]) rfl
  · show Pm G _ _ _ _ 17 [some (.ref (ad G 57)), some (.int (nI t)), some (.ref (ad G (63 + 3 * U.1))), some (.int (nI 6))] [] (unm (uf f (63 + 3 * U.1) 2 t) (64 + 3 * U.1) 6) l
    refine P.iload_n dX5_addPart_17 rfl rfl ?_
    refine P.bipush (v := nI 6) dX5_addPart_18 rfl ?_
    refine P.icmp_ge_n (tgt := 36) dX5_addPart_20 (by decide) (by omega) (by omega) (fun c_20 => ?_) (fun c_20 => ?_)
    · refine P.aload_n dX5_addPart_36 rfl rfl ?_
      refine P.dup dX5_addPart_37 rfl ?_
      refine g_X5_manyParts ly_57 (by decide) fl_X5_40 dX5_addPart_38 ?_
      refine Pm.topn (b := U.1) (((unm_ne _ _ _ (by omega)).trans ((uf_ne _ _ (Or.inl (by omega))).trans hU.1))) ?_
      refine P.iconst dX5_addPart_41 ic_1 ?_
      refine P.iadd_n dX5_addPart_42 (nI_add _ _) ?_
      refine p_X5_manyParts (a := (U.1 + 1)) ly_57 (by decide) fl_X5_40 dX5_addPart_43 rfl ?_
      refine P.aload_n dX5_addPart_46 rfl rfl ?_
      refine g_X5_manyParts ly_57 (by decide) fl_X5_40 dX5_addPart_47 ?_
      refine Pm.topn (b := (U.1 + 1)) (uf_self _ _ _ _) ?_
      refine P.iconst dX5_addPart_50 ic_1 ?_
      refine P.isub_n dX5_addPart_51 (pk_sub (by omega)) ?_
      exact P.iret rfl dX5_addPart_52 (by congr 1) rfl
    · exfalso; omega

set_option maxRecDepth 20000 in
theorem s_hasTold {G : GG} {f : Nat → Nat → Nat} {l : Nat → Nat → Int64} {D : DB} (hV : RV f l D) (hD : DW D) {U : QB} (hU : UV f l U) (hUW : UW U) {p r : Nat} (hp : p < U.1) (hr : r < 12) : Spec G mX5_hasTold [.ref (ad G 57), .ref (ad G (63 + 3 * p)), .ref (ad G (4 + 3 * r))] 114 (f, l, refT) (some (.int (bI (hasT D U p r)))) 114 (f, l, refT) := by
  have hp3 := hUW.1
  refine Spec.of ok_X5_hasTold.1 ⟨Nat.le_refl _, Nat.le_refl _⟩ (Nat.le_of_ble_eq_true rfl) ?_
  show Pm G RX5 cX5_hasTold 4 (KM G mX5_hasTold 114 114 (some (.int (bI (hasT D U p r)))) (f, l, refT)) 0 [some (.ref (ad G 57)), some (.ref (ad G (63 + 3 * p))), some (.ref (ad G (4 + 3 * r))), none] [] f l
  refine P.iconst dX5_hasTold_0 ic_0 ?_
  refine P.istore_n dX5_hasTold_1 rfl (by decide) ?_
  refine loop_up (M := fun (i : Nat) => (∀ c, c < i → notT D U p r c = false) → Pm G _ _ _ _ 2 [some (.ref (ad G 57)), some (.ref (ad G (63 + 3 * p))), some (.ref (ad G (4 + 3 * r))), some (.int (nI i))] [] f l) (lo := 0) (N := 6) (by first | exact Nat.zero_le _ | omega) (fun i hi0 hi1 ihi => ?_) ?_ ?_
  · intro invi
    show Pm G _ _ _ _ 2 [some (.ref (ad G 57)), some (.ref (ad G (63 + 3 * p))), some (.ref (ad G (4 + 3 * r))), some (.int (nI i))] [] f l
    refine P.iload_n dX5_hasTold_2 rfl rfl ?_
    refine P.bipush (v := nI 6) dX5_hasTold_3 rfl ?_
    refine P.icmp_ge_n (tgt := 50) dX5_hasTold_5 (by decide) (by omega) (by omega) (fun c_5 => ?_) (fun c_5 => ?_)
    · exfalso; omega
    refine P.aload_n dX5_hasTold_8 rfl rfl ?_
    refine g_X4_told (q := 64 + 3 * p) (ly_par (r := p) (by omega)) (by omega) (rt_pto (r := p) (by omega)) fl_X5_50 dX5_hasTold_9 ?_
    refine P.iload_n dX5_hasTold_12 rfl rfl ?_
    refine a_za (ly_pto (r := p) (by omega)) (by omega) (by omega) (by decide) dX5_hasTold_13 ?_
    refine Pm.topn (b := U.2.2.1 p i) ((hU.2.2.1 p (by omega) i)) ?_
    refine P.if_eq_n (tgt := 44) dX5_hasTold_14 (by decide) (by have := (hUW.2.2.1 p hp).2 i; omega) (fun c_14 => ?_) (fun c_14 => ?_)
    · refine P.iinc dX5_hasTold_44 rfl (inc1 _) (by decide) ?_
      refine P.goto (tgt := 2) dX5_hasTold_47 (by decide) ?_
      show Pm G _ _ _ _ 2 [some (.ref (ad G 57)), some (.ref (ad G (63 + 3 * p))), some (.ref (ad G (4 + 3 * r))), some (.int (nI (i + 1)))] [] f l
      exact Pm.to (ihi (by exact lt_snoc invi (by simp [notT, c_5, c_14]))) (by simp [lle]) rfl rfl rfl
    refine P.aload_n dX5_hasTold_17 rfl rfl ?_
    refine g_X6_there (q := 6 + 3 * r) (ly_row (r := r) (by omega)) (by omega) (rt_the (r := r) (by omega)) fl_X5_111 dX5_hasTold_18 ?_
    refine P.iload_n dX5_hasTold_21 rfl rfl ?_
    refine a_za (ly_the (r := r) (by omega)) (by omega) (by omega) (by decide) dX5_hasTold_22 ?_
    refine Pm.topn (b := D.2.2.1 r i) ((hV.2.2.1 r (by omega) i)) ?_
    refine P.if_eq_n (tgt := 42) dX5_hasTold_23 (by decide) (hD.2.2.1 _ _) (fun c_23 => ?_) (fun c_23 => ?_)
    · refine P.iconst dX5_hasTold_42 ic_0 ?_
      exact P.bret rfl dX5_hasTold_43 (by rw [show hasT D U p r = false from by rw [hasT, anyN_t.mpr ⟨i, hi1, by simp [notT, c_5, c_14, c_23]⟩]; rfl]; rfl) rfl
    refine P.aload_n dX5_hasTold_26 rfl rfl ?_
    refine g_X6_numbers (q := 5 + 3 * r) (ly_row (r := r) (by omega)) (by omega) (rt_num (r := r) (by omega)) fl_X5_114 dX5_hasTold_27 ?_
    refine P.iload_n dX5_hasTold_30 rfl rfl ?_
    refine a_la (ly_num (r := r) (by omega)) (by omega) (by omega) (by decide) dX5_hasTold_31 ?_
    refine Pm.topl (b := D.2.2.2 r i) ((hV.2.2.2 r (by omega) i)) ?_
    refine P.aload_n dX5_hasTold_32 rfl rfl ?_
    refine g_X4_numbers (q := 65 + 3 * p) (ly_par (r := p) (by omega)) (by omega) (rt_pnu (r := p) (by omega)) fl_X5_118 dX5_hasTold_33 ?_
    refine P.iload_n dX5_hasTold_36 rfl rfl ?_
    refine a_la (ly_pnu (r := p) (by omega)) (by omega) (by omega) (by decide) dX5_hasTold_37 ?_
    refine Pm.topl (b := U.2.2.2.1 p i) ((hU.2.2.2.1 p (by omega) i)) ?_
    refine P.lc_eq (tgt := 44) dX5_hasTold_38 dX5_hasTold_39 (by decide) (fun c_38 => ?_) (fun c_38 => ?_)
    · refine P.iinc dX5_hasTold_44 rfl (inc1 _) (by decide) ?_
      refine P.goto (tgt := 2) dX5_hasTold_47 (by decide) ?_
      show Pm G _ _ _ _ 2 [some (.ref (ad G 57)), some (.ref (ad G (63 + 3 * p))), some (.ref (ad G (4 + 3 * r))), some (.int (nI (i + 1)))] [] f l
      exact Pm.to (ihi (by exact lt_snoc invi (by simp [notT, c_5, c_14, c_23, c_38]))) (by simp [lle]) rfl rfl rfl
    refine P.iconst dX5_hasTold_42 ic_0 ?_
    exact P.bret rfl dX5_hasTold_43 (by rw [show hasT D U p r = false from by rw [hasT, anyN_t.mpr ⟨i, hi1, by simp [notT, c_5, c_14, c_23, c_38]⟩]; rfl]; rfl) rfl
  · intro invi
    show Pm G _ _ _ _ 2 [some (.ref (ad G 57)), some (.ref (ad G (63 + 3 * p))), some (.ref (ad G (4 + 3 * r))), some (.int (nI 6))] [] f l
    refine P.iload_n dX5_hasTold_2 rfl rfl ?_
    refine P.bipush (v := nI 6) dX5_hasTold_3 rfl ?_
    refine P.icmp_ge_n (tgt := 50) dX5_hasTold_5 (by decide) (by omega) (by omega) (fun c_5 => ?_) (fun c_5 => ?_)
    · refine P.iconst dX5_hasTold_50 ic_1 ?_
      exact P.bret rfl dX5_hasTold_51 (by rw [show hasT D U p r = true from by rw [hasT, anyN_f.mpr invi]; rfl]; rfl) rfl
    · exfalso; omega
  · exact fun c hc => absurd hc (by omega)

set_option maxRecDepth 20000 in
theorem s_fittingOf {G : GG} {f : Nat → Nat → Nat} {l : Nat → Nat → Int64} {D : DB} (hV : RV f l D) (hD : DW D) {U : QB} (hU : UV f l U) (hUW : UW U) {p S : Nat} (hp : p < U.1) (hS : S < 4096) : Spec G mX5_fittingOf [.ref (ad G 57), .ref (ad G (63 + 3 * p)), .int (nI S)] 114 (f, l, refT) (some (.int (nI (fitD D U S p)))) 114 (f, l, refT) := by
  have hR := hD.1
  have hp3 := hUW.1
  refine Spec.of ok_X5_fittingOf.1 ⟨Nat.le_refl _, Nat.le_refl _⟩ (Nat.le_of_ble_eq_true rfl) ?_
  show Pm G RX5 cX5_fittingOf 5 (KM G mX5_fittingOf 114 114 (some (.int (nI (fitD D U S p)))) (f, l, refT)) 0 [some (.ref (ad G 57)), some (.ref (ad G (63 + 3 * p))), some (.int (nI S)), none, none] [] f l
  refine P.iconst dX5_fittingOf_0 ic_0 ?_
  refine P.istore_n dX5_fittingOf_1 rfl (by decide) ?_
  refine P.iconst dX5_fittingOf_2 ic_0 ?_
  refine P.istore dX5_fittingOf_3 (by decide) ?_
  refine loop_up (M := fun (i : Nat) => Pm G _ _ _ _ 5 [some (.ref (ad G 57)), some (.ref (ad G (63 + 3 * p))), some (.int (nI S)), some (.int (nI (setN (fun r => S.testBit r && D.2.1 r 2 == U.2.1 p && hasT D U p r) i))), some (.int (nI i))] [] f l) (lo := 0) (N := D.1) (by first | exact Nat.zero_le _ | omega) (fun i hi0 hi1 ihi => ?_) ?_
  · show Pm G _ _ _ _ 5 [some (.ref (ad G 57)), some (.ref (ad G (63 + 3 * p))), some (.int (nI S)), some (.int (nI (setN (fun r => S.testBit r && D.2.1 r 2 == U.2.1 p && hasT D U p r) i))), some (.int (nI i))] [] f l
    refine P.iload dX5_fittingOf_5 rfl ?_
    refine P.aload_n dX5_fittingOf_7 rfl rfl ?_
    refine g_X5_rows (q := 2) ly_57 (by decide) (by decide) fl_X5_34 dX5_fittingOf_8 ?_
    refine g_X7_many ly_2 (by decide) fl_X5_77 dX5_fittingOf_11 ?_
    refine Pm.topn (b := D.1) (hV.1) ?_
    refine P.icmp_ge_n (tgt := 77) dX5_fittingOf_14 (by decide) (by omega) (by omega) (fun c_14 => ?_) (fun c_14 => ?_)
    · exfalso; omega
    refine P.iload_n dX5_fittingOf_17 rfl rfl ?_
    refine P.iload dX5_fittingOf_18 rfl ?_
    refine P.callSN (As := [.int (nI S), .int (nI i)]) (rest := []) (s_isIn (s := S) (r := i) (by omega) (by omega)) ok_X9_isIn ⟨Nat.le_of_ble_eq_true rfl, Nat.le_of_ble_eq_true rfl, Nat.le_refl _, Nat.le_refl _⟩ rfl mn_X5_96 rfl (Nat.le_of_ble_eq_true rfl) dX5_fittingOf_20 ?_
    refine P.if_eq_b (tgt := 71) dX5_fittingOf_23 (by decide) (fun c_23 => ?_) (fun c_23 => ?_)
    · refine P.iinc dX5_fittingOf_71 rfl (inc1 _) (by decide) ?_
      refine P.goto (tgt := 5) dX5_fittingOf_74 (by decide) ?_
      show Pm G _ _ _ _ 5 [some (.ref (ad G 57)), some (.ref (ad G (63 + 3 * p))), some (.int (nI S)), some (.int (nI (setN (fun r => S.testBit r && D.2.1 r 2 == U.2.1 p && hasT D U p r) i))), some (.int (nI (i + 1)))] [] f l
      exact Pm.to (ihi) (by simp [lle, setN_s, Int64.not_lt, Int64.not_le, c_14, c_23]) rfl rfl rfl
    refine P.aload_n dX5_fittingOf_26 rfl rfl ?_
    refine g_X5_rows (q := 2) ly_57 (by decide) (by decide) fl_X5_34 dX5_fittingOf_27 ?_
    refine g_X7_list (q := 3) ly_2 (by decide) (by decide) fl_X5_100 dX5_fittingOf_30 ?_
    refine P.iload dX5_fittingOf_33 rfl ?_
    refine a_r6 (q := 4 + 3 * i) ly_3 (by decide) (by omega) (by decide) (rt_row (r := i) (by omega)) dX5_fittingOf_35 ?_
    refine g_X6_table (ly_row (r := i) (by omega)) (by omega) fl_X5_104 dX5_fittingOf_36 ?_
    refine Pm.topn (b := D.2.1 i 2) ((hV.2.1 i (by omega) 2)) ?_
    refine P.aload_n dX5_fittingOf_39 rfl rfl ?_
    refine g_X4_table (ly_par (r := p) (by omega)) (by omega) fl_X5_47 dX5_fittingOf_40 ?_
    refine Pm.topn (b := U.2.1 p) ((hU.2.1 p (by omega))) ?_
    refine P.icmp_ne_n (tgt := 71) dX5_fittingOf_43 (by decide) (hD.2.1 _ _) (by have := (hUW.2.2.1 p hp).1; omega) (fun c_43 => ?_) (fun c_43 => ?_)
    · refine P.iinc dX5_fittingOf_71 rfl (inc1 _) (by decide) ?_
      refine P.goto (tgt := 5) dX5_fittingOf_74 (by decide) ?_
      show Pm G _ _ _ _ 5 [some (.ref (ad G 57)), some (.ref (ad G (63 + 3 * p))), some (.int (nI S)), some (.int (nI (setN (fun r => S.testBit r && D.2.1 r 2 == U.2.1 p && hasT D U p r) i))), some (.int (nI (i + 1)))] [] f l
      exact Pm.to (ihi) (by simp [lle, setN_s, Int64.not_lt, Int64.not_le, c_14, c_23, c_43]) rfl rfl rfl
    refine P.aload_n dX5_fittingOf_46 rfl rfl ?_
    refine P.aload_n dX5_fittingOf_47 rfl rfl ?_
    refine P.aload_n dX5_fittingOf_48 rfl rfl ?_
    refine g_X5_rows (q := 2) ly_57 (by decide) (by decide) fl_X5_34 dX5_fittingOf_49 ?_
    refine g_X7_list (q := 3) ly_2 (by decide) (by decide) fl_X5_100 dX5_fittingOf_52 ?_
    refine P.iload dX5_fittingOf_55 rfl ?_
    refine a_r6 (q := 4 + 3 * i) ly_3 (by decide) (by omega) (by decide) (rt_row (r := i) (by omega)) dX5_fittingOf_57 ?_
    refine P.callV (As := [.ref (ad G (63 + 3 * p)), .ref (ad G (4 + 3 * i))]) (rest := []) (s_hasTold hV hD hU hUW hp (by omega)) ok_X5_hasTold ⟨Nat.le_of_ble_eq_true rfl, Nat.le_of_ble_eq_true rfl, Nat.le_refl _, Nat.le_refl _⟩ rfl ml_X5_107 ly_57 (by decide) (by decide) rfl rfl (Nat.le_of_ble_eq_true rfl) dX5_fittingOf_58 ?_
    refine P.if_eq_b (tgt := 71) dX5_fittingOf_61 (by decide) (fun c_61 => ?_) (fun c_61 => ?_)
    · refine P.iinc dX5_fittingOf_71 rfl (inc1 _) (by decide) ?_
      refine P.goto (tgt := 5) dX5_fittingOf_74 (by decide) ?_
      show Pm G _ _ _ _ 5 [some (.ref (ad G 57)), some (.ref (ad G (63 + 3 * p))), some (.int (nI S)), some (.int (nI (setN (fun r => S.testBit r && D.2.1 r 2 == U.2.1 p && hasT D U p r) i))), some (.int (nI (i + 1)))] [] f l
      exact Pm.to (ihi) (by simp [lle, setN_s, Int64.not_lt, Int64.not_le, c_14, c_23, c_43, c_61]) rfl rfl rfl
    refine P.iload_n dX5_fittingOf_64 rfl rfl ?_
    refine P.iconst dX5_fittingOf_65 ic_1 ?_
    refine P.iload dX5_fittingOf_66 rfl ?_
    refine P.ishl dX5_fittingOf_68 (n_bit (by omega)) ?_
    refine P.ior_n dX5_fittingOf_69 (n_or _ _) ?_
    refine P.istore_n dX5_fittingOf_70 rfl (by decide) ?_
    refine P.iinc dX5_fittingOf_71 rfl (inc1 _) (by decide) ?_
    refine P.goto (tgt := 5) dX5_fittingOf_74 (by decide) ?_
    show Pm G _ _ _ _ 5 [some (.ref (ad G 57)), some (.ref (ad G (63 + 3 * p))), some (.int (nI S)), some (.int (nI ((setN (fun r => S.testBit r && D.2.1 r 2 == U.2.1 p && hasT D U p r) i) ||| (2 ^ i)))), some (.int (nI (i + 1)))] [] f l
    exact Pm.to (ihi) (by simp [lle, setN_s, Int64.not_lt, Int64.not_le, c_14, c_23, c_43, c_61]) rfl rfl rfl
  · show Pm G _ _ _ _ 5 [some (.ref (ad G 57)), some (.ref (ad G (63 + 3 * p))), some (.int (nI S)), some (.int (nI (setN (fun r => S.testBit r && D.2.1 r 2 == U.2.1 p && hasT D U p r) D.1))), some (.int (nI D.1))] [] f l
    refine P.iload dX5_fittingOf_5 rfl ?_
    refine P.aload_n dX5_fittingOf_7 rfl rfl ?_
    refine g_X5_rows (q := 2) ly_57 (by decide) (by decide) fl_X5_34 dX5_fittingOf_8 ?_
    refine g_X7_many ly_2 (by decide) fl_X5_77 dX5_fittingOf_11 ?_
    refine Pm.topn (b := D.1) (hV.1) ?_
    refine P.icmp_ge_n (tgt := 77) dX5_fittingOf_14 (by decide) (by omega) (by omega) (fun c_14 => ?_) (fun c_14 => ?_)
    · refine P.iload_n dX5_fittingOf_77 rfl rfl ?_
      exact P.iret rfl dX5_fittingOf_78 rfl rfl
    · exfalso; omega

set_option maxRecDepth 20000 in
theorem s_findFitting {G : GG} {f : Nat → Nat → Nat} {l : Nat → Nat → Int64} {D : DB} (hV : RV f l D) (hD : DW D) {U : QB} (hU : UV f l U) (hUW : UW U) {S : Nat} (hS : S < 4096) : SpX G mX5_findFitting [.ref (ad G 57), .int (nI S)] f l (fun r f1 l1 => r = none ∧ Ex 60 f f1 ∧ (∀ p, p < U.1 → f1 60 p = fitD D U S p) ∧ l = l1) := by
  have hp3 := hUW.1
  refine SpX.of ok_X5_findFitting.1 (Nat.le_of_ble_eq_true rfl) ?_
  show Pm G RX5 cX5_findFitting 3 (KX G mX5_findFitting (fun r f1 l1 => r = none ∧ Ex 60 f f1 ∧ (∀ p, p < U.1 → f1 60 p = fitD D U S p) ∧ l = l1)) 0 [some (.ref (ad G 57)), some (.int (nI S)), none] [] f l
  refine P.iconst dX5_findFitting_0 ic_0 ?_
  refine P.istore_n dX5_findFitting_1 rfl (by decide) ?_
  refine loop_up (M := fun (i : Nat) => ∀ g : Nat → Nat → Nat, (Ex 60 f g ∧ ∀ p, p < i → g 60 p = fitD D U S p) → Pm G _ _ _ _ 2 [some (.ref (ad G 57)), some (.int (nI S)), some (.int (nI i))] [] g l) (lo := 0) (N := U.1) (by first | exact Nat.zero_le _ | omega) (fun i hi0 hi1 ihi => ?_) ?_ _ ?_
  · intro g hg
    have hVg := (hg.1.fra (Or.inl rfl)).RV hV
    have hUg := (hg.1.fra (Or.inl rfl)).UV hU
    show Pm G _ _ _ _ 2 [some (.ref (ad G 57)), some (.int (nI S)), some (.int (nI i))] [] g l
    refine P.iload_n dX5_findFitting_2 rfl rfl ?_
    refine P.aload_n dX5_findFitting_3 rfl rfl ?_
    refine g_X5_manyParts ly_57 (by decide) fl_X5_40 dX5_findFitting_4 ?_
    refine Pm.topn (b := U.1) (hUg.1) ?_
    refine P.icmp_ge_n (tgt := 33) dX5_findFitting_7 (by decide) (by omega) (by omega) (fun c_7 => ?_) (fun c_7 => ?_)
    · exfalso; omega
    refine P.aload_n dX5_findFitting_10 rfl rfl ?_
    refine g_X5_fitting (q := 60) ly_57 (by decide) (by decide) fl_X5_23 dX5_findFitting_11 ?_
    refine P.iload_n dX5_findFitting_14 rfl rfl ?_
    refine P.aload_n dX5_findFitting_15 rfl rfl ?_
    refine P.aload_n dX5_findFitting_16 rfl rfl ?_
    refine g_X5_parts (q := 58) ly_57 (by decide) (by decide) fl_X5_11 dX5_findFitting_17 ?_
    refine P.iload_n dX5_findFitting_20 rfl rfl ?_
    refine a_r4 (q := 63 + 3 * i) ly_58 (by decide) (by omega) (by decide) (rt_par (r := i) (by omega)) dX5_findFitting_21 ?_
    refine P.iload_n dX5_findFitting_22 rfl rfl ?_
    refine P.callV (As := [.ref (ad G (63 + 3 * i)), .int (nI S)]) (rest := [.int (nI i), .ref (ad G 60)]) (s_fittingOf hVg hD hUg hUW (by omega) hS) ok_X5_fittingOf (fitX (Nat.le_of_ble_eq_true rfl)) rfl ml_X5_92 ly_57 (by decide) (by decide) rfl rfl (Nat.le_of_ble_eq_true rfl) dX5_findFitting_23 ?_
    refine s_ia (a := (fitD D U S i)) ly_60 (by decide) (by omega) (by decide) dX5_findFitting_26 rfl ?_
    refine P.iinc dX5_findFitting_27 rfl (inc1 _) (by decide) ?_
    refine P.goto (tgt := 2) dX5_findFitting_30 (by decide) ?_
    show Pm G _ _ _ _ 2 [some (.ref (ad G 57)), some (.int (nI S)), some (.int (nI (i + 1)))] [] (uf g 60 i (fitD D U S i)) l
    exact Pm.to (ihi _ (⟨hg.1.put _ _, fit_snoc hg.2⟩)) (by simp [lle]) rfl rfl rfl
  · intro g hg
    have hVg := (hg.1.fra (Or.inl rfl)).RV hV
    have hUg := (hg.1.fra (Or.inl rfl)).UV hU
    show Pm G _ _ _ _ 2 [some (.ref (ad G 57)), some (.int (nI S)), some (.int (nI U.1))] [] g l
    refine P.iload_n dX5_findFitting_2 rfl rfl ?_
    refine P.aload_n dX5_findFitting_3 rfl rfl ?_
    refine g_X5_manyParts ly_57 (by decide) fl_X5_40 dX5_findFitting_4 ?_
    refine Pm.topn (b := U.1) (hUg.1) ?_
    refine P.icmp_ge_n (tgt := 33) dX5_findFitting_7 (by decide) (by omega) (by omega) (fun c_7 => ?_) (fun c_7 => ?_)
    · exact P.vretX rfl dX5_findFitting_33 ⟨rfl, hg.1, hg.2, rfl⟩
    · exfalso; omega
  · exact ⟨Ex.rf 60 f, fun p hp => absurd hp (by omega)⟩

set_option maxRecDepth 20000 in
theorem s_manyTries {G : GG} {f : Nat → Nat → Nat} {l : Nat → Nat → Int64} {U : QB} (hU : UV f l U) (hUW : UW U)  : Spec G mX5_manyTries [.ref (ad G 57)] 114 (f, l, refT) (some (.int (nI (12 ^ U.1)))) 114 (f, l, refT) := by
  have hp3 := hUW.1
  refine Spec.of ok_X5_manyTries.1 ⟨Nat.le_refl _, Nat.le_refl _⟩ (Nat.le_of_ble_eq_true rfl) ?_
  show Pm G RX5 cX5_manyTries 3 (KM G mX5_manyTries 114 114 (some (.int (nI (12 ^ U.1)))) (f, l, refT)) 0 [some (.ref (ad G 57)), none, none] [] f l
  refine P.iconst dX5_manyTries_0 ic_1 ?_
  refine P.istore_n dX5_manyTries_1 rfl (by decide) ?_
  refine P.iconst dX5_manyTries_2 ic_0 ?_
  refine P.istore_n dX5_manyTries_3 rfl (by decide) ?_
  refine loop_up (M := fun (i : Nat) => Pm G _ _ _ _ 4 [some (.ref (ad G 57)), some (.int (nI (12 ^ i))), some (.int (nI i))] [] f l) (lo := 0) (N := U.1) (by first | exact Nat.zero_le _ | omega) (fun i hi0 hi1 ihi => ?_) ?_
  · show Pm G _ _ _ _ 4 [some (.ref (ad G 57)), some (.int (nI (12 ^ i))), some (.int (nI i))] [] f l
    refine P.iload_n dX5_manyTries_4 rfl rfl ?_
    refine P.aload_n dX5_manyTries_5 rfl rfl ?_
    refine g_X5_manyParts ly_57 (by decide) fl_X5_40 dX5_manyTries_6 ?_
    refine Pm.topn (b := U.1) (hU.1) ?_
    refine P.icmp_ge_n (tgt := 23) dX5_manyTries_9 (by decide) (by omega) (by omega) (fun c_9 => ?_) (fun c_9 => ?_)
    · exfalso; omega
    refine P.iload_n dX5_manyTries_12 rfl rfl ?_
    refine P.bipush (v := nI 12) dX5_manyTries_13 rfl ?_
    refine P.imul_n dX5_manyTries_15 (pk_mul _ _) ?_
    refine P.istore_n dX5_manyTries_16 rfl (by decide) ?_
    refine P.iinc dX5_manyTries_17 rfl (inc1 _) (by decide) ?_
    refine P.goto (tgt := 4) dX5_manyTries_20 (by decide) ?_
    show Pm G _ _ _ _ 4 [some (.ref (ad G 57)), some (.int (nI ((12 ^ i) * 12))), some (.int (nI (i + 1)))] [] f l
    exact Pm.to (ihi) (by simp [lle, Nat.pow_succ]) rfl rfl rfl
  · show Pm G _ _ _ _ 4 [some (.ref (ad G 57)), some (.int (nI (12 ^ U.1))), some (.int (nI U.1))] [] f l
    refine P.iload_n dX5_manyTries_4 rfl rfl ?_
    refine P.aload_n dX5_manyTries_5 rfl rfl ?_
    refine g_X5_manyParts ly_57 (by decide) fl_X5_40 dX5_manyTries_6 ?_
    refine Pm.topn (b := U.1) (hU.1) ?_
    refine P.icmp_ge_n (tgt := 23) dX5_manyTries_9 (by decide) (by omega) (by omega) (fun c_9 => ?_) (fun c_9 => ?_)
    · refine P.iload_n dX5_manyTries_23 rfl rfl ?_
      exact P.iret rfl dX5_manyTries_24 rfl rfl
    · exfalso; omega

set_option maxRecDepth 20000 in
theorem s_isJoined {G : GG} {f : Nat → Nat → Nat} {l : Nat → Nat → Int64} {D : DB} (hV : RV f l D) (hD : DW D) {U : QB} (hU : UV f l U) (hUW : UW U) {ρ : Nat → Nat} (hT : ∀ p, p < U.1 → f 61 p = ρ p) (hρ : ∀ p, ρ p < 12) {j : Nat} (hj : j < U.2.2.2.2.1) : Spec G mX5_isJoined [.ref (ad G 57), .ref (ad G (72 + j))] 114 (f, l, refT) (some (.int (bI (joinB D U ρ j)))) 114 (f, l, refT) := by
  have hp3 := hUW.1
  have hj6 := hUW.2.1
  obtain ⟨j0, j1, j2, j3⟩ := hUW.2.2.2 j hj
  have r0 := hρ (U.2.2.2.2.2 j 0)
  have r2 := hρ (U.2.2.2.2.2 j 2)
  refine Spec.of ok_X5_isJoined.1 ⟨Nat.le_refl _, Nat.le_refl _⟩ (Nat.le_of_ble_eq_true rfl) ?_
  show Pm G RX5 cX5_isJoined 4 (KM G mX5_isJoined 114 114 (some (.int (bI (joinB D U ρ j)))) (f, l, refT)) 0 [some (.ref (ad G 57)), some (.ref (ad G (72 + j))), none, none] [] f l
  refine P.aload_n dX5_isJoined_0 rfl rfl ?_
  refine g_X5_rows (q := 2) ly_57 (by decide) (by decide) fl_X5_34 dX5_isJoined_1 ?_
  refine g_X7_list (q := 3) ly_2 (by decide) (by decide) fl_X5_100 dX5_isJoined_4 ?_
  refine P.aload_n dX5_isJoined_7 rfl rfl ?_
  refine g_X5_tried (q := 61) ly_57 (by decide) (by decide) fl_X5_27 dX5_isJoined_8 ?_
  refine P.aload_n dX5_isJoined_11 rfl rfl ?_
  refine g_X0_p (ly_joi (r := j) (by omega)) (by omega) fl_X5_53 dX5_isJoined_12 ?_
  refine Pm.topn (b := U.2.2.2.2.2 j 0) ((hU.2.2.2.2.2 j (by omega) 0)) ?_
  refine a_ia ly_61 (by decide) (by omega) (by decide) dX5_isJoined_15 ?_
  refine Pm.topn (b := ρ (U.2.2.2.2.2 j 0)) ((hT _ (by omega))) ?_
  refine a_r6 (q := 4 + 3 * (ρ (U.2.2.2.2.2 j 0))) ly_3 (by decide) (by omega) (by decide) (rt_row (r := (ρ (U.2.2.2.2.2 j 0))) (by omega)) dX5_isJoined_16 ?_
  refine P.astore_n dX5_isJoined_17 rfl (by decide) ?_
  refine P.aload_n dX5_isJoined_18 rfl rfl ?_
  refine g_X5_rows (q := 2) ly_57 (by decide) (by decide) fl_X5_34 dX5_isJoined_19 ?_
  refine g_X7_list (q := 3) ly_2 (by decide) (by decide) fl_X5_100 dX5_isJoined_22 ?_
  refine P.aload_n dX5_isJoined_25 rfl rfl ?_
  refine g_X5_tried (q := 61) ly_57 (by decide) (by decide) fl_X5_27 dX5_isJoined_26 ?_
  refine P.aload_n dX5_isJoined_29 rfl rfl ?_
  refine g_X0_q (ly_joi (r := j) (by omega)) (by omega) fl_X5_59 dX5_isJoined_30 ?_
  refine Pm.topn (b := U.2.2.2.2.2 j 2) ((hU.2.2.2.2.2 j (by omega) 2)) ?_
  refine a_ia ly_61 (by decide) (by omega) (by decide) dX5_isJoined_33 ?_
  refine Pm.topn (b := ρ (U.2.2.2.2.2 j 2)) ((hT _ (by omega))) ?_
  refine a_r6 (q := 4 + 3 * (ρ (U.2.2.2.2.2 j 2))) ly_3 (by decide) (by omega) (by decide) (rt_row (r := (ρ (U.2.2.2.2.2 j 2))) (by omega)) dX5_isJoined_34 ?_
  refine P.astore_n dX5_isJoined_35 rfl (by decide) ?_
  refine P.aload_n dX5_isJoined_36 rfl rfl ?_
  refine g_X6_there (q := 6 + 3 * (ρ (U.2.2.2.2.2 j 0))) (ly_row (r := (ρ (U.2.2.2.2.2 j 0))) (by omega)) (by omega) (rt_the (r := (ρ (U.2.2.2.2.2 j 0))) (by omega)) fl_X5_111 dX5_isJoined_37 ?_
  refine P.aload_n dX5_isJoined_40 rfl rfl ?_
  refine g_X0_c (ly_joi (r := j) (by omega)) (by omega) fl_X5_56 dX5_isJoined_41 ?_
  refine Pm.topn (b := U.2.2.2.2.2 j 1) ((hU.2.2.2.2.2 j (by omega) 1)) ?_
  refine a_za (ly_the (r := (ρ (U.2.2.2.2.2 j 0))) (by omega)) (by omega) (by omega) (by decide) dX5_isJoined_44 ?_
  refine Pm.topn (b := D.2.2.1 (ρ (U.2.2.2.2.2 j 0)) (U.2.2.2.2.2 j 1)) ((hV.2.2.1 (ρ (U.2.2.2.2.2 j 0)) (by omega) (U.2.2.2.2.2 j 1))) ?_
  refine P.if_eq_n (tgt := 86) dX5_isJoined_45 (by decide) (hD.2.2.1 _ _) (fun c_45 => ?_) (fun c_45 => ?_)
  · refine P.iconst dX5_isJoined_86 ic_0 ?_
    exact P.bret rfl dX5_isJoined_87 (by rw [show joinB D U ρ j = false from by simp [joinB, Int64.not_lt, Int64.not_le, c_45]]; rfl) rfl
  refine P.aload_n dX5_isJoined_48 rfl rfl ?_
  refine g_X6_there (q := 6 + 3 * (ρ (U.2.2.2.2.2 j 2))) (ly_row (r := (ρ (U.2.2.2.2.2 j 2))) (by omega)) (by omega) (rt_the (r := (ρ (U.2.2.2.2.2 j 2))) (by omega)) fl_X5_111 dX5_isJoined_49 ?_
  refine P.aload_n dX5_isJoined_52 rfl rfl ?_
  refine g_X0_d (ly_joi (r := j) (by omega)) (by omega) fl_X5_62 dX5_isJoined_53 ?_
  refine Pm.topn (b := U.2.2.2.2.2 j 3) ((hU.2.2.2.2.2 j (by omega) 3)) ?_
  refine a_za (ly_the (r := (ρ (U.2.2.2.2.2 j 2))) (by omega)) (by omega) (by omega) (by decide) dX5_isJoined_56 ?_
  refine Pm.topn (b := D.2.2.1 (ρ (U.2.2.2.2.2 j 2)) (U.2.2.2.2.2 j 3)) ((hV.2.2.1 (ρ (U.2.2.2.2.2 j 2)) (by omega) (U.2.2.2.2.2 j 3))) ?_
  refine P.if_eq_n (tgt := 86) dX5_isJoined_57 (by decide) (hD.2.2.1 _ _) (fun c_57 => ?_) (fun c_57 => ?_)
  · refine P.iconst dX5_isJoined_86 ic_0 ?_
    exact P.bret rfl dX5_isJoined_87 (by rw [show joinB D U ρ j = false from by simp [joinB, Int64.not_lt, Int64.not_le, c_45, c_57]]; rfl) rfl
  refine P.aload_n dX5_isJoined_60 rfl rfl ?_
  refine g_X6_numbers (q := 5 + 3 * (ρ (U.2.2.2.2.2 j 0))) (ly_row (r := (ρ (U.2.2.2.2.2 j 0))) (by omega)) (by omega) (rt_num (r := (ρ (U.2.2.2.2.2 j 0))) (by omega)) fl_X5_114 dX5_isJoined_61 ?_
  refine P.aload_n dX5_isJoined_64 rfl rfl ?_
  refine g_X0_c (ly_joi (r := j) (by omega)) (by omega) fl_X5_56 dX5_isJoined_65 ?_
  refine Pm.topn (b := U.2.2.2.2.2 j 1) ((hU.2.2.2.2.2 j (by omega) 1)) ?_
  refine a_la (ly_num (r := (ρ (U.2.2.2.2.2 j 0))) (by omega)) (by omega) (by omega) (by decide) dX5_isJoined_68 ?_
  refine Pm.topl (b := D.2.2.2 (ρ (U.2.2.2.2.2 j 0)) (U.2.2.2.2.2 j 1)) ((hV.2.2.2 (ρ (U.2.2.2.2.2 j 0)) (by omega) (U.2.2.2.2.2 j 1))) ?_
  refine P.aload_n dX5_isJoined_69 rfl rfl ?_
  refine g_X6_numbers (q := 5 + 3 * (ρ (U.2.2.2.2.2 j 2))) (ly_row (r := (ρ (U.2.2.2.2.2 j 2))) (by omega)) (by omega) (rt_num (r := (ρ (U.2.2.2.2.2 j 2))) (by omega)) fl_X5_114 dX5_isJoined_70 ?_
  refine P.aload_n dX5_isJoined_73 rfl rfl ?_
  refine g_X0_d (ly_joi (r := j) (by omega)) (by omega) fl_X5_62 dX5_isJoined_74 ?_
  refine Pm.topn (b := U.2.2.2.2.2 j 3) ((hU.2.2.2.2.2 j (by omega) 3)) ?_
  refine a_la (ly_num (r := (ρ (U.2.2.2.2.2 j 2))) (by omega)) (by omega) (by omega) (by decide) dX5_isJoined_77 ?_
  refine Pm.topl (b := D.2.2.2 (ρ (U.2.2.2.2.2 j 2)) (U.2.2.2.2.2 j 3)) ((hV.2.2.2 (ρ (U.2.2.2.2.2 j 2)) (by omega) (U.2.2.2.2.2 j 3))) ?_
  refine P.lc_ne (tgt := 86) dX5_isJoined_78 dX5_isJoined_79 (by decide) (fun c_78 => ?_) (fun c_78 => ?_)
  · refine P.iconst dX5_isJoined_86 ic_0 ?_
    exact P.bret rfl dX5_isJoined_87 (by rw [show joinB D U ρ j = false from by simp [joinB, Int64.not_lt, Int64.not_le, c_45, c_57, c_78]]; rfl) rfl
  refine P.iconst dX5_isJoined_82 ic_1 ?_
  refine P.goto (tgt := 87) dX5_isJoined_83 (by decide) ?_
  exact P.bret rfl dX5_isJoined_87 (by rw [show joinB D U ρ j = true from by simp [joinB, Int64.not_lt, Int64.not_le, c_45, c_57, c_78]]; rfl) rfl

set_option maxRecDepth 20000 in
theorem s_triedRows {G : GG} {f : Nat → Nat → Nat} {l : Nat → Nat → Int64} {U : QB} (hU : UV f l U) (hUW : UW U) {ρ : Nat → Nat} (hT : ∀ p, p < U.1 → f 61 p = ρ p) (hρ : ∀ p, ρ p < 12)  : Spec G mX5_triedRows [.ref (ad G 57)] 114 (f, l, refT) (some (.int (nI (setR ρ U.1)))) 114 (f, l, refT) := by
  have hp3 := hUW.1
  refine Spec.of ok_X5_triedRows.1 ⟨Nat.le_refl _, Nat.le_refl _⟩ (Nat.le_of_ble_eq_true rfl) ?_
  show Pm G RX5 cX5_triedRows 3 (KM G mX5_triedRows 114 114 (some (.int (nI (setR ρ U.1)))) (f, l, refT)) 0 [some (.ref (ad G 57)), none, none] [] f l
  refine P.iconst dX5_triedRows_0 ic_0 ?_
  refine P.istore_n dX5_triedRows_1 rfl (by decide) ?_
  refine P.iconst dX5_triedRows_2 ic_0 ?_
  refine P.istore_n dX5_triedRows_3 rfl (by decide) ?_
  refine loop_up (M := fun (i : Nat) => Pm G _ _ _ _ 4 [some (.ref (ad G 57)), some (.int (nI (setR ρ i))), some (.int (nI i))] [] f l) (lo := 0) (N := U.1) (by first | exact Nat.zero_le _ | omega) (fun i hi0 hi1 ihi => ?_) ?_
  · show Pm G _ _ _ _ 4 [some (.ref (ad G 57)), some (.int (nI (setR ρ i))), some (.int (nI i))] [] f l
    refine P.iload_n dX5_triedRows_4 rfl rfl ?_
    refine P.aload_n dX5_triedRows_5 rfl rfl ?_
    refine g_X5_manyParts ly_57 (by decide) fl_X5_40 dX5_triedRows_6 ?_
    refine Pm.topn (b := U.1) (hU.1) ?_
    refine P.icmp_ge_n (tgt := 29) dX5_triedRows_9 (by decide) (by omega) (by omega) (fun c_9 => ?_) (fun c_9 => ?_)
    · exfalso; omega
    refine P.iload_n dX5_triedRows_12 rfl rfl ?_
    refine P.iconst dX5_triedRows_13 ic_1 ?_
    refine P.aload_n dX5_triedRows_14 rfl rfl ?_
    refine g_X5_tried (q := 61) ly_57 (by decide) (by decide) fl_X5_27 dX5_triedRows_15 ?_
    refine P.iload_n dX5_triedRows_18 rfl rfl ?_
    refine a_ia ly_61 (by decide) (by omega) (by decide) dX5_triedRows_19 ?_
    refine Pm.topn (b := ρ i) ((hT _ (by omega))) ?_
    refine P.ishl dX5_triedRows_20 (n_bit (by have := hρ i; omega)) ?_
    refine P.ior_n dX5_triedRows_21 (n_or _ _) ?_
    refine P.istore_n dX5_triedRows_22 rfl (by decide) ?_
    refine P.iinc dX5_triedRows_23 rfl (inc1 _) (by decide) ?_
    refine P.goto (tgt := 4) dX5_triedRows_26 (by decide) ?_
    show Pm G _ _ _ _ 4 [some (.ref (ad G 57)), some (.int (nI ((setR ρ i) ||| (2 ^ ρ i)))), some (.int (nI (i + 1)))] [] f l
    exact Pm.to (ihi) (by simp [lle, setR_s]) rfl rfl rfl
  · show Pm G _ _ _ _ 4 [some (.ref (ad G 57)), some (.int (nI (setR ρ U.1))), some (.int (nI U.1))] [] f l
    refine P.iload_n dX5_triedRows_4 rfl rfl ?_
    refine P.aload_n dX5_triedRows_5 rfl rfl ?_
    refine g_X5_manyParts ly_57 (by decide) fl_X5_40 dX5_triedRows_6 ?_
    refine Pm.topn (b := U.1) (hU.1) ?_
    refine P.icmp_ge_n (tgt := 29) dX5_triedRows_9 (by decide) (by omega) (by omega) (fun c_9 => ?_) (fun c_9 => ?_)
    · refine P.iload_n dX5_triedRows_29 rfl rfl ?_
      exact P.iret rfl dX5_triedRows_30 rfl rfl
    · exfalso; omega

set_option maxRecDepth 20000 in
theorem s_stood {G : GG} {f : Nat → Nat → Nat} {l : Nat → Nat → Int64} {D : DB} (hV : RV f l D) (hD : DW D) {U : QB} (hU : UV f l U) (hUW : UW U) {Fi : Nat → Nat} (hF : ∀ p, p < U.1 → f 60 p = Fi p) (hFl : ∀ p, Fi p < 4096) {n : Nat} (hn : n < 1728) : SpX G mX5_stood [.ref (ad G 57), .int (nI n)] f l (fun r f1 l1 => r = some (.int (bI (stoodB D U Fi n))) ∧ Ex 61 f f1 ∧ (stoodB D U Fi n = true → ∀ p, p < U.1 → f1 61 p = dig n p) ∧ l = l1) := by
  have hp3 := hUW.1
  have hj6 := hUW.2.1
  refine SpX.of ok_X5_stood.1 (Nat.le_of_ble_eq_true rfl) ?_
  show Pm G RX5 cX5_stood 4 (KX G mX5_stood (fun r f1 l1 => r = some (.int (bI (stoodB D U Fi n))) ∧ Ex 61 f f1 ∧ (stoodB D U Fi n = true → ∀ p, p < U.1 → f1 61 p = dig n p) ∧ l = l1)) 0 [some (.ref (ad G 57)), some (.int (nI n)), none, none] [] f l
  refine P.iload_n dX5_stood_0 rfl rfl ?_
  refine P.istore_n dX5_stood_1 rfl (by decide) ?_
  refine P.iconst dX5_stood_2 ic_0 ?_
  refine P.istore_n dX5_stood_3 rfl (by decide) ?_
  show Pm G _ _ _ _ 4 [some (.ref (ad G 57)), some (.int (nI n)), some (.int (nI n)), some (.int (nI 0))] [] f l
  refine P.to (ls := [some (.ref (ad G 57)), some (.int (nI n)), some (.int (nI (n / 12 ^ 0))), some (.int (nI 0))]) ?_ (by simp [lle])
  refine loop_up (M := fun (i : Nat) => ∀ g : Nat → Nat → Nat, (Ex 61 f g ∧ (∀ p, p < i → g 61 p = dig n p) ∧ ∀ p, p < i → (Fi p).testBit (dig n p) = true) → Pm G _ _ _ _ 4 [some (.ref (ad G 57)), some (.int (nI n)), some (.int (nI (n / 12 ^ i))), some (.int (nI i))] [] g l) (lo := 0) (N := U.1) (by first | exact Nat.zero_le _ | omega) (fun i hi0 hi1 ihi => ?_) ?_ _ ?_
  · intro g hg
    have hVg := (hg.1.fra (Or.inr rfl)).RV hV
    have hUg := (hg.1.fra (Or.inr rfl)).UV hU
    have hdl := Nat.div_le_self n (12 ^ i)
    have hdg := dig_lt n i
    show Pm G _ _ _ _ 4 [some (.ref (ad G 57)), some (.int (nI n)), some (.int (nI (n / 12 ^ i))), some (.int (nI i))] [] g l
    refine P.iload_n dX5_stood_4 rfl rfl ?_
    refine P.aload_n dX5_stood_5 rfl rfl ?_
    refine g_X5_manyParts ly_57 (by decide) fl_X5_40 dX5_stood_6 ?_
    refine Pm.topn (b := U.1) (hUg.1) ?_
    refine P.icmp_ge_n (tgt := 53) dX5_stood_9 (by decide) (by omega) (by omega) (fun c_9 => ?_) (fun c_9 => ?_)
    · exfalso; omega
    refine P.aload_n dX5_stood_12 rfl rfl ?_
    refine g_X5_tried (q := 61) ly_57 (by decide) (by decide) fl_X5_27 dX5_stood_13 ?_
    refine P.iload_n dX5_stood_16 rfl rfl ?_
    refine P.iload_n dX5_stood_17 rfl rfl ?_
    refine P.bipush (v := nI 12) dX5_stood_18 rfl ?_
    refine P.irem_n dX5_stood_20 (v := nI (dig n i)) (nI_ne0 (by omega) (by omega)) (pk_rem (by omega) (by omega) (by omega)) ?_
    refine s_ia (a := (dig n i)) ly_61 (by decide) (by omega) (by decide) dX5_stood_21 rfl ?_
    refine P.iload_n dX5_stood_22 rfl rfl ?_
    refine P.bipush (v := nI 12) dX5_stood_23 rfl ?_
    refine P.idiv_n dX5_stood_25 (v := nI (n / 12 ^ (i + 1))) (nI_ne0 (by omega) (by omega)) ((pk_div (by omega) (by omega) (by omega)).trans (by rw [dig_s])) ?_
    refine P.istore_n dX5_stood_26 rfl (by decide) ?_
    refine P.aload_n dX5_stood_27 rfl rfl ?_
    refine g_X5_fitting (q := 60) ly_57 (by decide) (by decide) fl_X5_23 dX5_stood_28 ?_
    refine P.iload_n dX5_stood_31 rfl rfl ?_
    refine a_ia ly_60 (by decide) (by omega) (by decide) dX5_stood_32 ?_
    refine Pm.topn (b := Fi i) ((uf_ne _ _ (Or.inl (by omega))).trans (((hg.1 60 _ (by decide)).trans (hF _ (by omega))))) ?_
    refine P.aload_n dX5_stood_33 rfl rfl ?_
    refine g_X5_tried (q := 61) ly_57 (by decide) (by decide) fl_X5_27 dX5_stood_34 ?_
    refine P.iload_n dX5_stood_37 rfl rfl ?_
    refine a_ia ly_61 (by decide) (by omega) (by decide) dX5_stood_38 ?_
    refine Pm.topn (b := (dig n i)) (uf_self _ _ _ _) ?_
    refine P.callSN (As := [.int (nI (Fi i)), .int (nI (dig n i))]) (rest := []) (s_isIn (s := (Fi i)) (r := (dig n i)) (by have := hFl i; omega) (by have := dig_lt n i; omega)) ok_X9_isIn (fitX (Nat.le_of_ble_eq_true rfl)) rfl mn_X5_96 rfl (Nat.le_of_ble_eq_true rfl) dX5_stood_39 ?_
    refine P.if_ne_b (tgt := 47) dX5_stood_42 (by decide) (fun c_42 => ?_) (fun c_42 => ?_)
    · refine P.iinc dX5_stood_47 rfl (inc1 _) (by decide) ?_
      refine P.goto (tgt := 4) dX5_stood_50 (by decide) ?_
      show Pm G _ _ _ _ 4 [some (.ref (ad G 57)), some (.int (nI n)), some (.int (nI (n / 12 ^ (i + 1)))), some (.int (nI (i + 1)))] [] (uf g 61 i (dig n i)) l
      exact Pm.to (ihi _ (⟨hg.1.put _ _, dig_snoc hg.2.1, lt_snocT hg.2.2 c_42⟩)) (by simp [lle]) rfl rfl rfl
    refine P.iconst dX5_stood_45 ic_0 ?_
    exact P.bretX rfl dX5_stood_46 ⟨⟨rfl_of (stoodB_f1 hi1 c_42), hg.1.put _ _, fun h => absurd h (by rw [stoodB_f1 hi1 c_42]; decide), rfl⟩, false, rfl⟩
  · intro g hg
    have hVg := (hg.1.fra (Or.inr rfl)).RV hV
    have hUg := (hg.1.fra (Or.inr rfl)).UV hU
    show Pm G _ _ _ _ 4 [some (.ref (ad G 57)), some (.int (nI n)), some (.int (nI (n / 12 ^ U.1))), some (.int (nI U.1))] [] g l
    refine P.iload_n dX5_stood_4 rfl rfl ?_
    refine P.aload_n dX5_stood_5 rfl rfl ?_
    refine g_X5_manyParts ly_57 (by decide) fl_X5_40 dX5_stood_6 ?_
    refine Pm.topn (b := U.1) (hUg.1) ?_
    refine P.icmp_ge_n (tgt := 53) dX5_stood_9 (by decide) (by omega) (by omega) (fun c_9 => ?_) (fun c_9 => ?_)
    · refine P.iconst dX5_stood_53 ic_0 ?_
      refine P.istore_n dX5_stood_54 rfl (by decide) ?_
      refine loop_up (M := fun (i : Nat) => ∀ g : Nat → Nat → Nat, (Ex 61 f g ∧ (∀ p, p < U.1 → g 61 p = dig n p) ∧ (∀ p, p < U.1 → (Fi p).testBit (dig n p) = true) ∧ ∀ j, j < i → joinB D U (dig n) j = true) → Pm G _ _ _ _ 55 [some (.ref (ad G 57)), some (.int (nI n)), some (.int (nI (n / 12 ^ U.1))), some (.int (nI i))] [] g l) (lo := 0) (N := U.2.2.2.2.1) (by first | exact Nat.zero_le _ | omega) (fun i hi0 hi1 ihi => ?_) ?_ _ ?_
      · intro g hg
        have hVg := (hg.1.fra (Or.inr rfl)).RV hV
        have hUg := (hg.1.fra (Or.inr rfl)).UV hU
        show Pm G _ _ _ _ 55 [some (.ref (ad G 57)), some (.int (nI n)), some (.int (nI (n / 12 ^ U.1))), some (.int (nI i))] [] g l
        refine P.iload_n dX5_stood_55 rfl rfl ?_
        refine P.aload_n dX5_stood_56 rfl rfl ?_
        refine g_X5_manyJoins ly_57 (by decide) fl_X5_44 dX5_stood_57 ?_
        refine Pm.topn (b := U.2.2.2.2.1) (hUg.2.2.2.2.1) ?_
        refine P.icmp_ge_n (tgt := 84) dX5_stood_60 (by decide) (by omega) (by omega) (fun c_60 => ?_) (fun c_60 => ?_)
        · exfalso; omega
        refine P.aload_n dX5_stood_63 rfl rfl ?_
        refine P.aload_n dX5_stood_64 rfl rfl ?_
        refine g_X5_joins (q := 59) ly_57 (by decide) (by decide) fl_X5_19 dX5_stood_65 ?_
        refine P.iload_n dX5_stood_68 rfl rfl ?_
        refine a_r0 (q := 72 + i) ly_59 (by decide) (by omega) (by decide) (rt_joi (r := i) (by omega)) dX5_stood_69 ?_
        refine P.callV (As := [.ref (ad G (72 + i))]) (rest := []) (s_isJoined (ρ := dig n) hVg hD hUg hUW hg.2.1 (dig_lt n) (by omega)) ok_X5_isJoined (fitX (Nat.le_of_ble_eq_true rfl)) rfl ml_X5_119 ly_57 (by decide) (by decide) rfl rfl (Nat.le_of_ble_eq_true rfl) dX5_stood_70 ?_
        refine P.if_ne_b (tgt := 78) dX5_stood_73 (by decide) (fun c_73 => ?_) (fun c_73 => ?_)
        · refine P.iinc dX5_stood_78 rfl (inc1 _) (by decide) ?_
          refine P.goto (tgt := 55) dX5_stood_81 (by decide) ?_
          show Pm G _ _ _ _ 55 [some (.ref (ad G 57)), some (.int (nI n)), some (.int (nI (n / 12 ^ U.1))), some (.int (nI (i + 1)))] [] g l
          exact Pm.to (ihi _ (⟨hg.1, hg.2.1, hg.2.2.1, lt_snocT hg.2.2.2 c_73⟩)) (by simp [lle]) rfl rfl rfl
        refine P.iconst dX5_stood_76 ic_0 ?_
        exact P.bretX rfl dX5_stood_77 ⟨⟨rfl_of (stoodB_f2 hi1 c_73), hg.1, fun _ => hg.2.1, rfl⟩, false, rfl⟩
      · intro g hg
        have hVg := (hg.1.fra (Or.inr rfl)).RV hV
        have hUg := (hg.1.fra (Or.inr rfl)).UV hU
        show Pm G _ _ _ _ 55 [some (.ref (ad G 57)), some (.int (nI n)), some (.int (nI (n / 12 ^ U.1))), some (.int (nI U.2.2.2.2.1))] [] g l
        refine P.iload_n dX5_stood_55 rfl rfl ?_
        refine P.aload_n dX5_stood_56 rfl rfl ?_
        refine g_X5_manyJoins ly_57 (by decide) fl_X5_44 dX5_stood_57 ?_
        refine Pm.topn (b := U.2.2.2.2.1) (hUg.2.2.2.2.1) ?_
        refine P.icmp_ge_n (tgt := 84) dX5_stood_60 (by decide) (by omega) (by omega) (fun c_60 => ?_) (fun c_60 => ?_)
        · refine P.iconst dX5_stood_84 ic_1 ?_
          exact P.bretX rfl dX5_stood_85 ⟨⟨rfl_of (stoodB_t hg.2.2.1 hg.2.2.2), hg.1, fun _ => hg.2.1, rfl⟩, true, rfl⟩
        · exfalso; omega
      · exact ⟨hg.1, hg.2.1, hg.2.2, fun j hj => absurd hj (by omega)⟩
    · exfalso; omega
  · exact ⟨Ex.rf 61 f, fun p hp => absurd hp (by omega), fun p hp => absurd hp (by omega)⟩


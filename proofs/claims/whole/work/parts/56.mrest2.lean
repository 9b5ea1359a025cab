-- the model's bestOf, fitsPart, standsIn, oftenOf, settled: by program (wip/whole/spec56.py)
set_option maxRecDepth 20000 in
theorem t_bestOf {G : GG} {f : Nat → Nat → Nat} {l : Nat → Nat → Int64} {D : DB} {W : LB} {U : QB} {T : TB} {N : Nat} (hM : MV f l D W U T N) (hBW : BW D W U T) (hKN : KN f D W) (hE : kL D W (2 ^ D.1) = MLs D W)  : SpX G mX10_bestOf [.ref (ad G 86)] f l (fun rv f1 l1 => rv = some (.int (nI (best D W))) ∧ KD f D W f1 ∧ l = l1) := by
  obtain ⟨hD, hLW, hUW, hTW⟩ := id hBW
  have hR := hD.1
  have hW1 := hLW.1
  have hU1 := hUW.1
  have hJ1 := hUW.2.1
  have hpos := MLs_pos D W
  have hlen := MLs_len hD W
  have hmlt := fun j (h : j < (MLs D W).length) => MLs_lt hD h
  refine SpX.of ok_X10_bestOf.1 (Nat.le_of_ble_eq_true rfl) ?_
  show Pm G RX10 cX10_bestOf 3 (KX G mX10_bestOf (fun rv f1 l1 => rv = some (.int (nI (best D W))) ∧ KD f D W f1 ∧ l = l1)) 0 [some (.ref (ad G 86)), none, none] [] f l
  refine P.aload_n dX10_bestOf_0 rfl rfl ?_
  refine P.callVX (As := []) (rest := []) (t_know hM hBW hKN hE) ok_X10_know (fitX (Nat.le_of_ble_eq_true rfl)) rfl ml_X10_196 ly_86 (by decide) (by decide) rfl rfl (Nat.le_of_ble_eq_true rfl) dX10_bestOf_1 (fun r f1 l1 hp => ?_)
  obtain ⟨rfl, hK, e⟩ := hp
  subst e
  have hM1 := hM.KD hK
  refine P.aload_n dX10_bestOf_4 rfl rfl ?_
  refine g_X10_leastOf (q := 109) ly_86 (by decide) (by decide) fl_X10_78 dX10_bestOf_5 ?_
  refine P.iconst dX10_bestOf_8 ic_0 ?_
  refine a_ia ly_109 (by decide) (by omega) (by decide) dX10_bestOf_9 ?_
  refine Pm.topn (b := (MLs D W).getD 0 0) ((hK.2.2.1 0 (by omega))) ?_
  refine P.istore_n dX10_bestOf_10 rfl (by decide) ?_
  refine P.iconst dX10_bestOf_11 ic_1 ?_
  refine P.istore_n dX10_bestOf_12 rfl (by decide) ?_
  show Pm G _ _ _ _ 13 [some (.ref (ad G 86)), some (.int (nI ((MLs D W).getD 0 0))), some (.int (nI 1))] [] f1 l
  refine P.to (ls := [some (.ref (ad G 86)), some (.int (nI (chp D (MLs D W) 1))), some (.int (nI 1))]) ?_ (by simp [lle, chp, fo])
  refine loop_up (M := fun (k : Nat) => Pm G _ _ _ _ 13 [some (.ref (ad G 86)), some (.int (nI (chp D (MLs D W) k))), some (.int (nI k))] [] f1 l) (lo := 1) (N := (MLs D W).length) (hpos) (fun k hk0 hk1 ihk => ?_) ?_
  · show Pm G _ _ _ _ 13 [some (.ref (ad G 86)), some (.int (nI (chp D (MLs D W) k))), some (.int (nI k))] [] f1 l
    refine P.iload_n dX10_bestOf_13 rfl rfl ?_
    refine P.aload_n dX10_bestOf_14 rfl rfl ?_
    refine g_X10_many ly_86 (by decide) fl_X10_193 dX10_bestOf_15 ?_
    refine Pm.topn (b := (MLs D W).length) (hK.2.1) ?_
    refine P.icmp_ge_n (tgt := 56) dX10_bestOf_18 (by decide) (by omega) (by omega) (fun c_18 => ?_) (fun c_18 => ?_)
    · exfalso; omega
    refine P.aload_n dX10_bestOf_21 rfl rfl ?_
    refine P.aload_n dX10_bestOf_22 rfl rfl ?_
    refine g_X10_leastOf (q := 109) ly_86 (by decide) (by decide) fl_X10_78 dX10_bestOf_23 ?_
    refine P.iload_n dX10_bestOf_26 rfl rfl ?_
    refine a_ia ly_109 (by decide) (by omega) (by decide) dX10_bestOf_27 ?_
    refine Pm.topn (b := (MLs D W).getD k 0) ((hK.2.2.1 k (by omega))) ?_
    refine P.callV (As := [.int (nI ((MLs D W).getD k 0))]) (rest := []) (t_priceOf hM1 hBW (S := (MLs D W).getD k 0) (by have := hmlt k (by omega); omega)) ok_X10_priceOf (fitX (Nat.le_of_ble_eq_true rfl)) rfl ml_X10_199 ly_86 (by decide) (by decide) rfl rfl (Nat.le_of_ble_eq_true rfl) dX10_bestOf_28 ?_
    refine P.aload_n dX10_bestOf_31 rfl rfl ?_
    refine P.iload_n dX10_bestOf_32 rfl rfl ?_
    refine P.callV (As := [.int (nI (chp D (MLs D W) k))]) (rest := [.int (nI (trustD D ((MLs D W).getD k 0)))]) (t_priceOf hM1 hBW (S := chp D (MLs D W) k) (by have := chp_lt (D := D) hmlt k (by omega) (by omega); omega)) ok_X10_priceOf (fitX (Nat.le_of_ble_eq_true rfl)) rfl ml_X10_199 ly_86 (by decide) (by decide) rfl rfl (Nat.le_of_ble_eq_true rfl) dX10_bestOf_33 ?_
    refine P.icmp_ge_n (tgt := 48) dX10_bestOf_36 (by decide) (Nat.lt_of_le_of_lt (trustD_le hD _) (by decide)) (Nat.lt_of_le_of_lt (trustD_le hD _) (by decide)) (fun c_36 => ?_) (fun c_36 => ?_)
    · refine P.iload_n dX10_bestOf_48 rfl rfl ?_
      refine P.istore_n dX10_bestOf_49 rfl (by decide) ?_
      refine P.iinc dX10_bestOf_50 rfl (inc1 _) (by decide) ?_
      refine P.goto (tgt := 13) dX10_bestOf_53 (by decide) ?_
      show Pm G _ _ _ _ 13 [some (.ref (ad G 86)), some (.int (nI (chp D (MLs D W) k))), some (.int (nI (k + 1)))] [] f1 l
      exact Pm.to (ihk) (by rw [chp_s, if_neg (by rintro (z | z) <;> omega)]; simp [lle]) rfl rfl rfl
    refine P.aload_n dX10_bestOf_39 rfl rfl ?_
    refine g_X10_leastOf (q := 109) ly_86 (by decide) (by decide) fl_X10_78 dX10_bestOf_40 ?_
    refine P.iload_n dX10_bestOf_43 rfl rfl ?_
    refine a_ia ly_109 (by decide) (by omega) (by decide) dX10_bestOf_44 ?_
    refine Pm.topn (b := (MLs D W).getD k 0) ((hK.2.2.1 k (by omega))) ?_
    refine P.goto (tgt := 49) dX10_bestOf_45 (by decide) ?_
    refine P.istore_n dX10_bestOf_49 rfl (by decide) ?_
    refine P.iinc dX10_bestOf_50 rfl (inc1 _) (by decide) ?_
    refine P.goto (tgt := 13) dX10_bestOf_53 (by decide) ?_
    show Pm G _ _ _ _ 13 [some (.ref (ad G 86)), some (.int (nI ((MLs D W).getD k 0))), some (.int (nI (k + 1)))] [] f1 l
    exact Pm.to (ihk) (by rw [chp_s, if_pos (Or.inr c_36)]; simp [lle]) rfl rfl rfl
  · show Pm G _ _ _ _ 13 [some (.ref (ad G 86)), some (.int (nI (chp D (MLs D W) ((MLs D W).length)))), some (.int (nI ((MLs D W).length)))] [] f1 l
    refine P.iload_n dX10_bestOf_13 rfl rfl ?_
    refine P.aload_n dX10_bestOf_14 rfl rfl ?_
    refine g_X10_many ly_86 (by decide) fl_X10_193 dX10_bestOf_15 ?_
    refine Pm.topn (b := (MLs D W).length) (hK.2.1) ?_
    refine P.icmp_ge_n (tgt := 56) dX10_bestOf_18 (by decide) (by omega) (by omega) (fun c_18 => ?_) (fun c_18 => ?_)
    · refine P.iload_n dX10_bestOf_56 rfl rfl ?_
      exact P.iretX rfl dX10_bestOf_57 ⟨rfl, hK, rfl⟩
    · exfalso; omega

set_option maxRecDepth 20000 in
theorem t_fitsPart {G : GG} {f : Nat → Nat → Nat} {l : Nat → Nat → Int64} {D : DB} {W : LB} {U : QB} {T : TB} {N : Nat} (hM : MV f l D W U T N) (hBW : BW D W U T) {p r S : Nat} (hp : p < U.1) (hr : r < 12) (hS : S < 2147483648) : Spec G mX10_fitsPart [.ref (ad G 86), .int (nI p), .int (nI r), .int (nI S)] 114 (f, l, refT) (some (.int (bI (fitB D U p r S)))) 114 (f, l, refT) := by
  obtain ⟨hD, hLW, hUW, hTW⟩ := id hBW
  have hR := hD.1
  have hW1 := hLW.1
  have hU1 := hUW.1
  have hJ1 := hUW.2.1
  refine Spec.of ok_X10_fitsPart.1 ⟨Nat.le_refl _, Nat.le_refl _⟩ (Nat.le_of_ble_eq_true rfl) ?_
  show Pm G RX10 cX10_fitsPart 5 (KM G mX10_fitsPart 114 114 (some (.int (bI (fitB D U p r S)))) (f, l, refT)) 0 [some (.ref (ad G 86)), some (.int (nI p)), some (.int (nI r)), some (.int (nI S)), none] [] f l
  refine P.iload_n dX10_fitsPart_0 rfl rfl ?_
  refine P.iload_n dX10_fitsPart_1 rfl rfl ?_
  refine P.ishr dX10_fitsPart_2 (n_shr (by omega) (by omega)) ?_
  refine P.iconst dX10_fitsPart_3 ic_1 ?_
  refine P.iand_n (v := nI (bt S r)) dX10_fitsPart_4 (n_and1 _) ?_
  refine P.if_eq_n (tgt := 23) dX10_fitsPart_5 (by decide) (Nat.lt_trans (bt_lt _ _) (by decide)) (fun c_5 => ?_) (fun c_5 => ?_)
  · refine P.iconst dX10_fitsPart_23 ic_0 ?_
    exact P.bret rfl dX10_fitsPart_24 (by rw [show fitB D U p r S = false from by simp [fitB, tb_f c_5]]; rfl) rfl
  refine P.aload_n dX10_fitsPart_8 rfl rfl ?_
  refine g_X10_tableOf (q := 89) ly_86 (by decide) (by decide) fl_X10_16 dX10_fitsPart_9 ?_
  refine P.iload_n dX10_fitsPart_12 rfl rfl ?_
  refine a_ia ly_89 (by decide) (by omega) (by decide) dX10_fitsPart_13 ?_
  refine Pm.topn (b := D.2.1 r 2) ((hM.tab r (by omega))) ?_
  refine P.aload_n dX10_fitsPart_14 rfl rfl ?_
  refine g_X10_partTable (q := 102) ly_86 (by decide) (by decide) fl_X10_57 dX10_fitsPart_15 ?_
  refine P.iload_n dX10_fitsPart_18 rfl rfl ?_
  refine a_ia ly_102 (by decide) (by omega) (by decide) dX10_fitsPart_19 ?_
  refine Pm.topn (b := U.2.1 p) ((hM.pt p (by omega))) ?_
  refine P.icmp_eq_n (tgt := 25) dX10_fitsPart_20 (by decide) (hD.2.1 _ _) (by have := (hUW.2.2.1 p hp).1; omega) (fun c_20 => ?_) (fun c_20 => ?_)
  · refine P.iconst dX10_fitsPart_25 ic_0 ?_
    refine P.istore dX10_fitsPart_26 (by decide) ?_
    refine loop_up (M := fun (i : Nat) => (∀ j, j < i → notT D U p r j = false) → Pm G _ _ _ _ 28 [some (.ref (ad G 86)), some (.int (nI p)), some (.int (nI r)), some (.int (nI S)), some (.int (nI i))] [] f l) (lo := 0) (N := 6) (by first | exact Nat.zero_le _ | omega) (fun i hi0 hi1 ihi => ?_) ?_ ?_
    · intro invi
      show Pm G _ _ _ _ 28 [some (.ref (ad G 86)), some (.int (nI p)), some (.int (nI r)), some (.int (nI S)), some (.int (nI i))] [] f l
      refine P.iload dX10_fitsPart_28 rfl ?_
      refine P.bipush (v := nI 6) dX10_fitsPart_30 rfl ?_
      refine P.icmp_ge_n (tgt := 101) dX10_fitsPart_32 (by decide) (by omega) (by omega) (fun c_32 => ?_) (fun c_32 => ?_)
      · exfalso; omega
      refine P.aload_n dX10_fitsPart_35 rfl rfl ?_
      refine g_X10_isTold (q := 103) ly_86 (by decide) (by decide) fl_X10_60 dX10_fitsPart_36 ?_
      refine P.bipush (v := nI 6) dX10_fitsPart_39 rfl ?_
      refine P.iload_n dX10_fitsPart_41 rfl rfl ?_
      refine P.imul_n dX10_fitsPart_42 (pk_mul _ _) ?_
      refine P.iload dX10_fitsPart_43 rfl ?_
      refine P.iadd_n dX10_fitsPart_45 (nI_add _ _) ?_
      refine a_za ly_103 (by decide) (by omega) (by decide) dX10_fitsPart_46 ?_
      refine Pm.topn (b := U.2.2.1 p i) ((hM.tld p (by omega) i (by omega))) ?_
      refine P.if_eq_n (tgt := 95) dX10_fitsPart_47 (by decide) (by have := (hUW.2.2.1 p hp).2 i; omega) (fun c_47 => ?_) (fun c_47 => ?_)
      · refine P.iinc dX10_fitsPart_95 rfl (inc1 _) (by decide) ?_
        refine P.goto (tgt := 28) dX10_fitsPart_98 (by decide) ?_
        show Pm G _ _ _ _ 28 [some (.ref (ad G 86)), some (.int (nI p)), some (.int (nI r)), some (.int (nI S)), some (.int (nI (i + 1)))] [] f l
        exact Pm.to (ihi (by exact lt_snoc invi (by simp [notT, c_47]))) (by simp [lle]) rfl rfl rfl
      refine P.aload_n dX10_fitsPart_50 rfl rfl ?_
      refine g_X10_isThere (q := 92) ly_86 (by decide) (by decide) fl_X10_26 dX10_fitsPart_51 ?_
      refine P.bipush (v := nI 6) dX10_fitsPart_54 rfl ?_
      refine P.iload_n dX10_fitsPart_56 rfl rfl ?_
      refine P.imul_n dX10_fitsPart_57 (pk_mul _ _) ?_
      refine P.iload dX10_fitsPart_58 rfl ?_
      refine P.iadd_n dX10_fitsPart_60 (nI_add _ _) ?_
      refine a_za ly_92 (by decide) (by omega) (by decide) dX10_fitsPart_61 ?_
      refine Pm.topn (b := D.2.2.1 r i) ((hM.the r (by omega) i (by omega))) ?_
      refine P.if_eq_n (tgt := 93) dX10_fitsPart_62 (by decide) (hD.2.2.1 _ _) (fun c_62 => ?_) (fun c_62 => ?_)
      · refine P.iconst dX10_fitsPart_93 ic_0 ?_
        exact P.bret rfl dX10_fitsPart_94 (by rw [show fitB D U p r S = false from by rw [fitB, hasT, show anyN (notT D U p r) 6 = true from anyN_t.mpr ⟨i, hi1, by simp [notT, c_47, c_62]⟩]; simp]; rfl) rfl
      refine P.aload_n dX10_fitsPart_65 rfl rfl ?_
      refine g_X10_told (q := 93) ly_86 (by decide) (by decide) fl_X10_29 dX10_fitsPart_66 ?_
      refine P.bipush (v := nI 6) dX10_fitsPart_69 rfl ?_
      refine P.iload_n dX10_fitsPart_71 rfl rfl ?_
      refine P.imul_n dX10_fitsPart_72 (pk_mul _ _) ?_
      refine P.iload dX10_fitsPart_73 rfl ?_
      refine P.iadd_n dX10_fitsPart_75 (nI_add _ _) ?_
      refine a_la ly_93 (by decide) (by omega) (by decide) dX10_fitsPart_76 ?_
      refine Pm.topl (b := D.2.2.2 r i) ((hM.num r (by omega) i (by omega))) ?_
      refine P.aload_n dX10_fitsPart_77 rfl rfl ?_
      refine g_X10_tellOf (q := 104) ly_86 (by decide) (by decide) fl_X10_63 dX10_fitsPart_78 ?_
      refine P.bipush (v := nI 6) dX10_fitsPart_81 rfl ?_
      refine P.iload_n dX10_fitsPart_83 rfl rfl ?_
      refine P.imul_n dX10_fitsPart_84 (pk_mul _ _) ?_
      refine P.iload dX10_fitsPart_85 rfl ?_
      refine P.iadd_n dX10_fitsPart_87 (nI_add _ _) ?_
      refine a_la ly_104 (by decide) (by omega) (by decide) dX10_fitsPart_88 ?_
      refine Pm.topl (b := U.2.2.2.1 p i) ((hM.tel p (by omega) i (by omega))) ?_
      refine P.lc_eq (tgt := 95) dX10_fitsPart_89 dX10_fitsPart_90 (by decide) (fun c_89 => ?_) (fun c_89 => ?_)
      · refine P.iinc dX10_fitsPart_95 rfl (inc1 _) (by decide) ?_
        refine P.goto (tgt := 28) dX10_fitsPart_98 (by decide) ?_
        show Pm G _ _ _ _ 28 [some (.ref (ad G 86)), some (.int (nI p)), some (.int (nI r)), some (.int (nI S)), some (.int (nI (i + 1)))] [] f l
        exact Pm.to (ihi (by exact lt_snoc invi (by simp [notT, c_47, c_62, c_89]))) (by simp [lle]) rfl rfl rfl
      refine P.iconst dX10_fitsPart_93 ic_0 ?_
      exact P.bret rfl dX10_fitsPart_94 (by rw [show fitB D U p r S = false from by rw [fitB, hasT, show anyN (notT D U p r) 6 = true from anyN_t.mpr ⟨i, hi1, by simp [notT, c_47, c_62, c_89]⟩]; simp]; rfl) rfl
    · intro invi
      show Pm G _ _ _ _ 28 [some (.ref (ad G 86)), some (.int (nI p)), some (.int (nI r)), some (.int (nI S)), some (.int (nI 6))] [] f l
      refine P.iload dX10_fitsPart_28 rfl ?_
      refine P.bipush (v := nI 6) dX10_fitsPart_30 rfl ?_
      refine P.icmp_ge_n (tgt := 101) dX10_fitsPart_32 (by decide) (by omega) (by omega) (fun c_32 => ?_) (fun c_32 => ?_)
      · refine P.iconst dX10_fitsPart_101 ic_1 ?_
        exact P.bret rfl dX10_fitsPart_102 (by rw [show fitB D U p r S = true from by rw [fitB, hasT, anyN_f.mpr invi, tb_t c_5, c_20]; simp]; rfl) rfl
      · exfalso; omega
    · exact fun j hj => absurd hj (by omega)
  refine P.iconst dX10_fitsPart_23 ic_0 ?_
  exact P.bret rfl dX10_fitsPart_24 (by rw [show fitB D U p r S = false from by simp [fitB, c_20]]; rfl) rfl

set_option maxRecDepth 20000 in
theorem t_standsIn {G : GG} {f : Nat → Nat → Nat} {l : Nat → Nat → Int64} {D : DB} {W : LB} {U : QB} {T : TB} {N : Nat} (hM : MV f l D W U T N) (hBW : BW D W U T) {S : Nat} (hS : S < 2147483648) : SpX G mX10_standsIn [.ref (ad G 86), .int (nI S)] f l (fun rv f1 l1 => rv = some (.int (bI (stM D U S))) ∧ Ex 113 f f1 ∧ l = l1) := by
  obtain ⟨hD, hLW, hUW, hTW⟩ := id hBW
  have hR := hD.1
  have hW1 := hLW.1
  have hU1 := hUW.1
  have hJ1 := hUW.2.1
  have hways : D.1 ^ U.1 ≤ 1728 := Nat.le_trans (Nat.pow_le_pow_left hR U.1) (p12 hU1)
  have hM0f := hM
  refine SpX.of ok_X10_standsIn.1 (Nat.le_of_ble_eq_true rfl) ?_
  show Pm G RX10 cX10_standsIn 7 (KX G mX10_standsIn (fun rv f1 l1 => rv = some (.int (bI (stM D U S))) ∧ Ex 113 f f1 ∧ l = l1)) 0 [some (.ref (ad G 86)), some (.int (nI S)), none, none, none, none, none] [] f l
  refine P.iconst dX10_standsIn_0 ic_1 ?_
  refine P.istore_n dX10_standsIn_1 rfl (by decide) ?_
  refine P.iconst dX10_standsIn_2 ic_0 ?_
  refine P.istore_n dX10_standsIn_3 rfl (by decide) ?_
  show Pm G _ _ _ _ 4 [some (.ref (ad G 86)), some (.int (nI S)), some (.int (nI 1)), some (.int (nI 0)), none, none, none] [] f l
  refine P.to (ls := [some (.ref (ad G 86)), some (.int (nI S)), some (.int (nI (D.1 ^ 0))), some (.int (nI 0)), none, none, none]) ?_ (by simp [lle])
  refine loop_up (M := fun (p : Nat) => Pm G _ _ _ _ 4 [some (.ref (ad G 86)), some (.int (nI S)), some (.int (nI (D.1 ^ p))), some (.int (nI p)), none, none, none] [] f l) (lo := 0) (N := U.1) (by first | exact Nat.zero_le _ | omega) (fun p hp0 hp1 ihp => ?_) ?_
  · show Pm G _ _ _ _ 4 [some (.ref (ad G 86)), some (.int (nI S)), some (.int (nI (D.1 ^ p))), some (.int (nI p)), none, none, none] [] f l
    refine P.iload_n dX10_standsIn_4 rfl rfl ?_
    refine P.aload_n dX10_standsIn_5 rfl rfl ?_
    refine g_X10_parts ly_86 (by decide) fl_X10_209 dX10_standsIn_6 ?_
    refine Pm.topn (b := U.1) (hM.np) ?_
    refine P.icmp_ge_n (tgt := 25) dX10_standsIn_9 (by decide) (by omega) (by omega) (fun c_9 => ?_) (fun c_9 => ?_)
    · exfalso; omega
    refine P.iload_n dX10_standsIn_12 rfl rfl ?_
    refine P.aload_n dX10_standsIn_13 rfl rfl ?_
    refine g_X10_rows ly_86 (by decide) fl_X10_106 dX10_standsIn_14 ?_
    refine Pm.topn (b := D.1) (hM.R) ?_
    refine P.imul_n dX10_standsIn_17 (pk_mul _ _) ?_
    refine P.istore_n dX10_standsIn_18 rfl (by decide) ?_
    refine P.iinc dX10_standsIn_19 rfl (inc1 _) (by decide) ?_
    refine P.goto (tgt := 4) dX10_standsIn_22 (by decide) ?_
    show Pm G _ _ _ _ 4 [some (.ref (ad G 86)), some (.int (nI S)), some (.int (nI ((D.1 ^ p) * D.1))), some (.int (nI (p + 1))), none, none, none] [] f l
    exact Pm.to (ihp) (by rw [Nat.pow_succ]; simp [lle]) rfl rfl rfl
  · show Pm G _ _ _ _ 4 [some (.ref (ad G 86)), some (.int (nI S)), some (.int (nI (D.1 ^ U.1))), some (.int (nI U.1)), none, none, none] [] f l
    refine P.iload_n dX10_standsIn_4 rfl rfl ?_
    refine P.aload_n dX10_standsIn_5 rfl rfl ?_
    refine g_X10_parts ly_86 (by decide) fl_X10_209 dX10_standsIn_6 ?_
    refine Pm.topn (b := U.1) (hM.np) ?_
    refine P.icmp_ge_n (tgt := 25) dX10_standsIn_9 (by decide) (by omega) (by omega) (fun c_9 => ?_) (fun c_9 => ?_)
    · refine P.iconst dX10_standsIn_25 ic_0 ?_
      refine P.istore_n dX10_standsIn_26 rfl (by decide) ?_
      refine loop_up (M := fun (w : Nat) => ∀ g : Nat → Nat → Nat, (Ex 113 f g ∧ ∀ m, m < w → stmB D U S m = false) → Pm G _ _ _ _ 27 [some (.ref (ad G 86)), some (.int (nI S)), some (.int (nI (D.1 ^ U.1))), some (.int (nI w)), none, none, none] [] g l) (lo := 0) (N := (D.1 ^ U.1)) (by first | exact Nat.zero_le _ | omega) (fun w hw0 hw1 ihw => ?_) ?_ _ ?_
      · intro g hg
        have hM0 := hM0f.ex hg.1
        have hM := hM0
        show Pm G _ _ _ _ 27 [some (.ref (ad G 86)), some (.int (nI S)), some (.int (nI (D.1 ^ U.1))), some (.int (nI w)), none, none, none] [] g l
        refine P.iload_n dX10_standsIn_27 rfl rfl ?_
        refine P.iload_n dX10_standsIn_28 rfl rfl ?_
        refine P.icmp_ge_n (tgt := 188) dX10_standsIn_29 (by decide) (by omega) (by omega) (fun c_29 => ?_) (fun c_29 => ?_)
        · exfalso; omega
        refine P.iload_n dX10_standsIn_32 rfl rfl ?_
        refine P.istore dX10_standsIn_33 (by decide) ?_
        refine P.iconst dX10_standsIn_35 ic_1 ?_
        refine P.istore dX10_standsIn_36 (by decide) ?_
        refine P.iconst dX10_standsIn_38 ic_0 ?_
        refine P.istore dX10_standsIn_39 (by decide) ?_
        refine Pm.cf (wrR_0 g D.1 w) ?_
        show Pm G _ _ _ _ 41 [some (.ref (ad G 86)), some (.int (nI S)), some (.int (nI (D.1 ^ U.1))), some (.int (nI w)), some (.int (nI w)), some (.int (nI 1)), some (.int (nI 0))] [] g l
        refine P.to (ls := [some (.ref (ad G 86)), some (.int (nI S)), some (.int (nI (D.1 ^ U.1))), some (.int (nI w)), some (.int (nI (w / D.1 ^ 0))), some (.int (nI (bN (!anyN (fun q => !fitB D U q (dgM D.1 w q) S) 0)))), some (.int (nI 0))]) ?_ (by simp [lle, nx_0])
        refine loop_up (M := fun (p : Nat) => Pm G _ _ _ _ 41 [some (.ref (ad G 86)), some (.int (nI S)), some (.int (nI (D.1 ^ U.1))), some (.int (nI w)), some (.int (nI (w / D.1 ^ p))), some (.int (nI (bN (!anyN (fun q => !fitB D U q (dgM D.1 w q) S) p)))), some (.int (nI p))] [] (wrR g D.1 w p) l) (lo := 0) (N := U.1) (by first | exact Nat.zero_le _ | omega) (fun p hp0 hp1 ihp => ?_) ?_
        · have hM := hM0.ex (wrR_ex g D.1 w p)
          have hR0 : D.1 ≠ 0 := fun z => by rw [z, Nat.zero_pow (by omega)] at hw1; omega
          have hdl := Nat.div_le_self w (D.1 ^ p)
          have hdg : dgM D.1 w p < 12 := Nat.lt_of_lt_of_le (Nat.mod_lt _ (by omega)) hR
          show Pm G _ _ _ _ 41 [some (.ref (ad G 86)), some (.int (nI S)), some (.int (nI (D.1 ^ U.1))), some (.int (nI w)), some (.int (nI (w / D.1 ^ p))), some (.int (nI (bN (!anyN (fun q => !fitB D U q (dgM D.1 w q) S) p)))), some (.int (nI p))] [] (wrR g D.1 w p) l
          refine P.iload dX10_standsIn_41 rfl ?_
          refine P.aload_n dX10_standsIn_43 rfl rfl ?_
          refine g_X10_parts ly_86 (by decide) fl_X10_209 dX10_standsIn_44 ?_
          refine Pm.topn (b := U.1) (hM.np) ?_
          refine P.icmp_ge_n (tgt := 108) dX10_standsIn_47 (by decide) (by omega) (by omega) (fun c_47 => ?_) (fun c_47 => ?_)
          · exfalso; omega
          refine P.aload_n dX10_standsIn_50 rfl rfl ?_
          refine g_X10_rowOf (q := 113) ly_86 (by decide) (by decide) fl_X10_90 dX10_standsIn_51 ?_
          refine P.iload dX10_standsIn_54 rfl ?_
          refine P.iload dX10_standsIn_56 rfl ?_
          refine P.aload_n dX10_standsIn_58 rfl rfl ?_
          refine g_X10_rows ly_86 (by decide) fl_X10_106 dX10_standsIn_59 ?_
          refine Pm.topn (b := D.1) (hM.R) ?_
          refine P.irem_n dX10_standsIn_62 (v := nI (dgM D.1 w p)) (nI_ne0 (by omega) (by omega)) (pk_rem (by omega) (by omega) (by omega)) ?_
          refine s_ia (a := (dgM D.1 w p)) ly_113 (by decide) (by omega) (by decide) dX10_standsIn_63 rfl ?_
          refine Pm.cf (wrR_s g D.1 w p) ?_
          have hM2 := hM0.ex (wrR_ex g D.1 w (p + 1))
          have hM := hM2
          refine P.iload dX10_standsIn_64 rfl ?_
          refine P.aload_n dX10_standsIn_66 rfl rfl ?_
          refine g_X10_rows ly_86 (by decide) fl_X10_106 dX10_standsIn_67 ?_
          refine Pm.topn (b := D.1) (hM.R) ?_
          refine P.idiv_n dX10_standsIn_70 (v := nI (w / D.1 ^ (p + 1))) (nI_ne0 (by omega) (by omega)) ((pk_div (by omega) (by omega) (by omega)).trans (by rw [pw_s])) ?_
          refine P.istore dX10_standsIn_71 (by decide) ?_
          refine P.iload dX10_standsIn_73 rfl ?_
          refine P.if_eq_n (tgt := 99) dX10_standsIn_75 (by decide) (Nat.lt_trans (bN_lt _) (by decide)) (fun c_75 => ?_) (fun c_75 => ?_)
          · refine P.iconst dX10_standsIn_99 ic_0 ?_
            refine P.istore dX10_standsIn_100 (by decide) ?_
            refine P.iinc dX10_standsIn_102 rfl (inc1 _) (by decide) ?_
            refine P.goto (tgt := 41) dX10_standsIn_105 (by decide) ?_
            show Pm G _ _ _ _ 41 [some (.ref (ad G 86)), some (.int (nI S)), some (.int (nI (D.1 ^ U.1))), some (.int (nI w)), some (.int (nI (w / D.1 ^ (p + 1)))), some (.int (nI 0)), some (.int (nI (p + 1)))] [] (wrR g D.1 w (p + 1)) l
            exact Pm.to (ihp) (by rw [nx_a c_75]; simp [lle]) rfl rfl rfl
          refine P.aload_n dX10_standsIn_78 rfl rfl ?_
          refine P.iload dX10_standsIn_79 rfl ?_
          refine P.aload_n dX10_standsIn_81 rfl rfl ?_
          refine g_X10_rowOf (q := 113) ly_86 (by decide) (by decide) fl_X10_90 dX10_standsIn_82 ?_
          refine P.iload dX10_standsIn_85 rfl ?_
          refine a_ia ly_113 (by decide) (by omega) (by decide) dX10_standsIn_87 ?_
          refine Pm.topn (b := dgM D.1 w p) ((wrR_at (by omega))) ?_
          refine P.iload_n dX10_standsIn_88 rfl rfl ?_
          refine P.callV (As := [.int (nI p), .int (nI (dgM D.1 w p)), .int (nI S)]) (rest := []) (t_fitsPart (p := p) (r := (dgM D.1 w p)) (S := S) hM2 hBW hp1 hdg hS) ok_X10_fitsPart (fitX (Nat.le_of_ble_eq_true rfl)) rfl ml_X10_218 ly_86 (by decide) (by decide) rfl rfl (Nat.le_of_ble_eq_true rfl) dX10_standsIn_89 ?_
          refine P.if_eq_b (tgt := 99) dX10_standsIn_92 (by decide) (fun c_92 => ?_) (fun c_92 => ?_)
          · refine P.iconst dX10_standsIn_99 ic_0 ?_
            refine P.istore dX10_standsIn_100 (by decide) ?_
            refine P.iinc dX10_standsIn_102 rfl (inc1 _) (by decide) ?_
            refine P.goto (tgt := 41) dX10_standsIn_105 (by decide) ?_
            show Pm G _ _ _ _ 41 [some (.ref (ad G 86)), some (.int (nI S)), some (.int (nI (D.1 ^ U.1))), some (.int (nI w)), some (.int (nI (w / D.1 ^ (p + 1)))), some (.int (nI 0)), some (.int (nI (p + 1)))] [] (wrR g D.1 w (p + 1)) l
            exact Pm.to (ihp) (by rw [nx_b (by rw [c_92]; rfl)]; simp [lle]) rfl rfl rfl
          refine P.iconst dX10_standsIn_95 ic_1 ?_
          refine P.goto (tgt := 100) dX10_standsIn_96 (by decide) ?_
          refine P.istore dX10_standsIn_100 (by decide) ?_
          refine P.iinc dX10_standsIn_102 rfl (inc1 _) (by decide) ?_
          refine P.goto (tgt := 41) dX10_standsIn_105 (by decide) ?_
          show Pm G _ _ _ _ 41 [some (.ref (ad G 86)), some (.int (nI S)), some (.int (nI (D.1 ^ U.1))), some (.int (nI w)), some (.int (nI (w / D.1 ^ (p + 1)))), some (.int (nI 1)), some (.int (nI (p + 1)))] [] (wrR g D.1 w (p + 1)) l
          exact Pm.to (ihp) (by rw [nx_1 c_75 (by rw [c_92]; rfl)]; simp [lle]) rfl rfl rfl
        · have hM := hM0.ex (wrR_ex g D.1 w U.1)
          show Pm G _ _ _ _ 41 [some (.ref (ad G 86)), some (.int (nI S)), some (.int (nI (D.1 ^ U.1))), some (.int (nI w)), some (.int (nI (w / D.1 ^ U.1))), some (.int (nI (bN (!anyN (fun q => !fitB D U q (dgM D.1 w q) S) U.1)))), some (.int (nI U.1))] [] (wrR g D.1 w U.1) l
          refine P.iload dX10_standsIn_41 rfl ?_
          refine P.aload_n dX10_standsIn_43 rfl rfl ?_
          refine g_X10_parts ly_86 (by decide) fl_X10_209 dX10_standsIn_44 ?_
          refine Pm.topn (b := U.1) (hM.np) ?_
          refine P.icmp_ge_n (tgt := 108) dX10_standsIn_47 (by decide) (by omega) (by omega) (fun c_47 => ?_) (fun c_47 => ?_)
          · refine P.iconst dX10_standsIn_108 ic_0 ?_
            refine P.istore dX10_standsIn_109 (by decide) ?_
            show Pm G _ _ _ _ 111 [some (.ref (ad G 86)), some (.int (nI S)), some (.int (nI (D.1 ^ U.1))), some (.int (nI w)), some (.int (nI (w / D.1 ^ U.1))), some (.int (nI (bN (!anyN (fun q => !fitB D U q (dgM D.1 w q) S) U.1)))), some (.int (nI 0))] [] (wrR g D.1 w U.1) l
            refine P.to (ls := [some (.ref (ad G 86)), some (.int (nI S)), some (.int (nI (D.1 ^ U.1))), some (.int (nI w)), some (.int (nI (w / D.1 ^ U.1))), some (.int (nI (bN (stJ D U S w 0)))), some (.int (nI 0))]) ?_ (by rw [stJ_0]; simp [lle])
            refine loop_up (M := fun (j : Nat) => Pm G _ _ _ _ 111 [some (.ref (ad G 86)), some (.int (nI S)), some (.int (nI (D.1 ^ U.1))), some (.int (nI w)), some (.int (nI (w / D.1 ^ U.1))), some (.int (nI (bN (stJ D U S w j)))), some (.int (nI j))] [] (wrR g D.1 w U.1) l) (lo := 0) (N := U.2.2.2.2.1) (by first | exact Nat.zero_le _ | omega) (fun j hj0 hj1 ihj => ?_) ?_
            · obtain ⟨hj0, hjc1, hj2, hjc2⟩ := hUW.2.2.2 j hj1
              have hR0 : D.1 ≠ 0 := fun z => by rw [z, Nat.zero_pow (by omega)] at hw1; omega
              have hdgs : ∀ q, q < U.1 → dgM D.1 w q < 12 := fun q _ => Nat.lt_of_lt_of_le (Nat.mod_lt _ (by omega)) hR
              show Pm G _ _ _ _ 111 [some (.ref (ad G 86)), some (.int (nI S)), some (.int (nI (D.1 ^ U.1))), some (.int (nI w)), some (.int (nI (w / D.1 ^ U.1))), some (.int (nI (bN (stJ D U S w j)))), some (.int (nI j))] [] (wrR g D.1 w U.1) l
              refine P.iload dX10_standsIn_111 rfl ?_
              refine P.aload_n dX10_standsIn_113 rfl rfl ?_
              refine g_X10_joins ly_86 (by decide) fl_X10_212 dX10_standsIn_114 ?_
              refine Pm.topn (b := U.2.2.2.2.1) (hM.nj) ?_
              refine P.icmp_ge_n (tgt := 175) dX10_standsIn_117 (by decide) (by omega) (by omega) (fun c_117 => ?_) (fun c_117 => ?_)
              · exfalso; omega
              refine P.iload dX10_standsIn_120 rfl ?_
              refine P.if_eq_n (tgt := 175) dX10_standsIn_122 (by decide) (Nat.lt_trans (bN_lt _) (by decide)) (fun c_122 => ?_) (fun c_122 => ?_)
              · refine P.iload dX10_standsIn_175 rfl ?_
                refine P.if_eq_n (tgt := 182) dX10_standsIn_177 (by decide) (Nat.lt_trans (bN_lt _) (by decide)) (fun c_177 => ?_) (fun c_177 => ?_)
                · refine P.iinc dX10_standsIn_182 rfl (inc1 _) (by decide) ?_
                  refine P.goto (tgt := 27) dX10_standsIn_185 (by decide) ?_
                  show Pm G _ _ _ _ 27 [some (.ref (ad G 86)), some (.int (nI S)), some (.int (nI (D.1 ^ U.1))), some (.int (nI (w + 1))), some (.int (nI (w / D.1 ^ U.1))), some (.int (nI (bN (stJ D U S w j)))), some (.int (nI j))] [] (wrR g D.1 w U.1) l
                  exact Pm.to (ihw _ (⟨hg.1.tr (wrR_ex _ _ _ _), lt_snoc hg.2 (stJ_f (bN_z.mp c_122) (by omega))⟩)) (by simp [lle]) rfl rfl rfl
                · exact absurd c_122 c_177
              refine P.aload_n dX10_standsIn_125 rfl rfl ?_
              refine P.aload_n dX10_standsIn_126 rfl rfl ?_
              refine g_X10_rowOf (q := 113) ly_86 (by decide) (by decide) fl_X10_90 dX10_standsIn_127 ?_
              refine P.aload_n dX10_standsIn_130 rfl rfl ?_
              refine g_X10_joinP (q := 105) ly_86 (by decide) (by decide) fl_X10_66 dX10_standsIn_131 ?_
              refine P.iload dX10_standsIn_134 rfl ?_
              refine a_ia ly_105 (by decide) (by omega) (by decide) dX10_standsIn_136 ?_
              refine Pm.topn (b := U.2.2.2.2.2 j 0) ((hM.jp j (by omega))) ?_
              refine a_ia ly_113 (by decide) (by omega) (by decide) dX10_standsIn_137 ?_
              refine Pm.topn (b := dgM D.1 w (U.2.2.2.2.2 j 0)) ((wrR_at (by omega))) ?_
              refine P.aload_n dX10_standsIn_138 rfl rfl ?_
              refine g_X10_joinC (q := 106) ly_86 (by decide) (by decide) fl_X10_69 dX10_standsIn_139 ?_
              refine P.iload dX10_standsIn_142 rfl ?_
              refine a_ia ly_106 (by decide) (by omega) (by decide) dX10_standsIn_144 ?_
              refine Pm.topn (b := U.2.2.2.2.2 j 1) ((hM.jc j (by omega))) ?_
              refine P.aload_n dX10_standsIn_145 rfl rfl ?_
              refine g_X10_rowOf (q := 113) ly_86 (by decide) (by decide) fl_X10_90 dX10_standsIn_146 ?_
              refine P.aload_n dX10_standsIn_149 rfl rfl ?_
              refine g_X10_joinQ (q := 107) ly_86 (by decide) (by decide) fl_X10_72 dX10_standsIn_150 ?_
              refine P.iload dX10_standsIn_153 rfl ?_
              refine a_ia ly_107 (by decide) (by omega) (by decide) dX10_standsIn_155 ?_
              refine Pm.topn (b := U.2.2.2.2.2 j 2) ((hM.jq j (by omega))) ?_
              refine a_ia ly_113 (by decide) (by omega) (by decide) dX10_standsIn_156 ?_
              refine Pm.topn (b := dgM D.1 w (U.2.2.2.2.2 j 2)) ((wrR_at (by omega))) ?_
              refine P.aload_n dX10_standsIn_157 rfl rfl ?_
              refine g_X10_joinD (q := 108) ly_86 (by decide) (by decide) fl_X10_75 dX10_standsIn_158 ?_
              refine P.iload dX10_standsIn_161 rfl ?_
              refine a_ia ly_108 (by decide) (by omega) (by decide) dX10_standsIn_163 ?_
              refine Pm.topn (b := U.2.2.2.2.2 j 3) ((hM.jd j (by omega))) ?_
              refine P.callV (As := [.int (nI (dgM D.1 w (U.2.2.2.2.2 j 0))), .int (nI (U.2.2.2.2.2 j 1)), .int (nI (dgM D.1 w (U.2.2.2.2.2 j 2))), .int (nI (U.2.2.2.2.2 j 3))]) (rest := []) (t_isLike (r := (dgM D.1 w (U.2.2.2.2.2 j 0))) (c := (U.2.2.2.2.2 j 1)) (q := (dgM D.1 w (U.2.2.2.2.2 j 2))) (d := (U.2.2.2.2.2 j 3)) hM hBW (hdgs _ hj0) hjc1 (hdgs _ hj2) hjc2) ok_X10_isLike (fitX (Nat.le_of_ble_eq_true rfl)) rfl ml_X10_150 ly_86 (by decide) (by decide) rfl rfl (Nat.le_of_ble_eq_true rfl) dX10_standsIn_164 ?_
              refine P.istore dX10_standsIn_167 (by decide) ?_
              refine P.iinc dX10_standsIn_169 rfl (inc1 _) (by decide) ?_
              refine P.goto (tgt := 111) dX10_standsIn_172 (by decide) ?_
              show Pm G _ _ _ _ 111 [some (.ref (ad G 86)), some (.int (nI S)), some (.int (nI (D.1 ^ U.1))), some (.int (nI w)), some (.int (nI (w / D.1 ^ U.1))), some (.int (bI (likeB D (dgM D.1 w (U.2.2.2.2.2 j 0)) (U.2.2.2.2.2 j 1) (dgM D.1 w (U.2.2.2.2.2 j 2)) (U.2.2.2.2.2 j 3)))), some (.int (nI (j + 1)))] [] (wrR g D.1 w U.1) l
              exact Pm.to (ihj) (by rw [stJ_s (bN_nz.mp c_122)]; simp [lle, bI_n]) rfl rfl rfl
            · show Pm G _ _ _ _ 111 [some (.ref (ad G 86)), some (.int (nI S)), some (.int (nI (D.1 ^ U.1))), some (.int (nI w)), some (.int (nI (w / D.1 ^ U.1))), some (.int (nI (bN (stJ D U S w U.2.2.2.2.1)))), some (.int (nI U.2.2.2.2.1))] [] (wrR g D.1 w U.1) l
              refine P.iload dX10_standsIn_111 rfl ?_
              refine P.aload_n dX10_standsIn_113 rfl rfl ?_
              refine g_X10_joins ly_86 (by decide) fl_X10_212 dX10_standsIn_114 ?_
              refine Pm.topn (b := U.2.2.2.2.1) (hM.nj) ?_
              refine P.icmp_ge_n (tgt := 175) dX10_standsIn_117 (by decide) (by omega) (by omega) (fun c_117 => ?_) (fun c_117 => ?_)
              · refine P.iload dX10_standsIn_175 rfl ?_
                refine P.if_eq_n (tgt := 182) dX10_standsIn_177 (by decide) (Nat.lt_trans (bN_lt _) (by decide)) (fun c_177 => ?_) (fun c_177 => ?_)
                · refine P.iinc dX10_standsIn_182 rfl (inc1 _) (by decide) ?_
                  refine P.goto (tgt := 27) dX10_standsIn_185 (by decide) ?_
                  show Pm G _ _ _ _ 27 [some (.ref (ad G 86)), some (.int (nI S)), some (.int (nI (D.1 ^ U.1))), some (.int (nI (w + 1))), some (.int (nI (w / D.1 ^ U.1))), some (.int (nI (bN (stJ D U S w U.2.2.2.2.1)))), some (.int (nI U.2.2.2.2.1))] [] (wrR g D.1 w U.1) l
                  exact Pm.to (ihw _ (⟨hg.1.tr (wrR_ex _ _ _ _), lt_snoc hg.2 (show stmB D U S w = false from bN_z.mp c_177)⟩)) (by simp [lle]) rfl rfl rfl
                refine P.iconst dX10_standsIn_180 ic_1 ?_
                exact P.bretX rfl dX10_standsIn_181 ⟨⟨rfl_of (anyN_t.mpr ⟨w, hw1, show stmB D U S w = true from bN_nz.mp c_177⟩), hg.1.tr (wrR_ex _ _ _ _), rfl⟩, true, rfl⟩
              · exfalso; omega
          · exfalso; omega
      · intro g hg
        have hM0 := hM0f.ex hg.1
        have hM := hM0
        show Pm G _ _ _ _ 27 [some (.ref (ad G 86)), some (.int (nI S)), some (.int (nI (D.1 ^ U.1))), some (.int (nI (D.1 ^ U.1))), none, none, none] [] g l
        refine P.iload_n dX10_standsIn_27 rfl rfl ?_
        refine P.iload_n dX10_standsIn_28 rfl rfl ?_
        refine P.icmp_ge_n (tgt := 188) dX10_standsIn_29 (by decide) (by omega) (by omega) (fun c_29 => ?_) (fun c_29 => ?_)
        · refine P.iconst dX10_standsIn_188 ic_0 ?_
          exact P.bretX rfl dX10_standsIn_189 ⟨⟨rfl_of (anyN_f.mpr hg.2), hg.1, rfl⟩, false, rfl⟩
        · exfalso; omega
      · exact ⟨Ex.rf 113 f, fun m hm => absurd hm (by omega)⟩
    · exfalso; omega

set_option maxRecDepth 20000 in
theorem t_oftenOf {G : GG} {f : Nat → Nat → Nat} {l : Nat → Nat → Int64} {D : DB} {W : LB} {U : QB} {T : TB} {N : Nat} (hM : MV f l D W U T N) (hBW : BW D W U T) (hKN : KN f D W) (hE : kL D W (2 ^ D.1) = MLs D W)  : SpX G mX10_oftenOf [.ref (ad G 86)] f l (fun rv f1 l1 => rv = some (.int (nI (oftN D W U))) ∧ KD f D W f1 ∧ l = l1) := by
  obtain ⟨hD, hLW, hUW, hTW⟩ := id hBW
  have hR := hD.1
  have hW1 := hLW.1
  have hU1 := hUW.1
  have hJ1 := hUW.2.1
  have hpos := MLs_pos D W
  have hlen := MLs_len hD W
  have hmlt := fun j (h : j < (MLs D W).length) => MLs_lt hD h
  have hK4 := keptD_lt hD
  refine SpX.of ok_X10_oftenOf.1 (Nat.le_of_ble_eq_true rfl) ?_
  show Pm G RX10 cX10_oftenOf 3 (KX G mX10_oftenOf (fun rv f1 l1 => rv = some (.int (nI (oftN D W U))) ∧ KD f D W f1 ∧ l = l1)) 0 [some (.ref (ad G 86)), none, none] [] f l
  refine P.aload_n dX10_oftenOf_0 rfl rfl ?_
  refine P.callVX (As := []) (rest := []) (t_know hM hBW hKN hE) ok_X10_know (fitX (Nat.le_of_ble_eq_true rfl)) rfl ml_X10_196 ly_86 (by decide) (by decide) rfl rfl (Nat.le_of_ble_eq_true rfl) dX10_oftenOf_1 (fun r f1 l1 hp => ?_)
  obtain ⟨rfl, hK, e⟩ := hp
  subst e
  have hM1 := hM.KD hK
  refine P.iconst dX10_oftenOf_4 ic_0 ?_
  refine P.istore_n dX10_oftenOf_5 rfl (by decide) ?_
  refine P.iconst dX10_oftenOf_6 ic_0 ?_
  refine P.istore_n dX10_oftenOf_7 rfl (by decide) ?_
  show Pm G _ _ _ _ 8 [some (.ref (ad G 86)), some (.int (nI 0)), some (.int (nI 0))] [] f1 l
  refine P.to (ls := [some (.ref (ad G 86)), some (.int (nI (cntN (fun i => stdB D U (keptD D ^^^ (MLs D W).getD i 0)) 0))), some (.int (nI 0))]) ?_ (by simp [lle, cntN, fo])
  refine loop_up (M := fun (k : Nat) => ∀ g : Nat → Nat → Nat, KD f D W g → Pm G _ _ _ _ 8 [some (.ref (ad G 86)), some (.int (nI (cntN (fun i => stdB D U (keptD D ^^^ (MLs D W).getD i 0)) k))), some (.int (nI k))] [] g l) (lo := 0) (N := (MLs D W).length) (by first | exact Nat.zero_le _ | omega) (fun k hk0 hk1 ihk => ?_) ?_ _ ?_
  · intro g hg
    have hM2 := hM.KD hg
    show Pm G _ _ _ _ 8 [some (.ref (ad G 86)), some (.int (nI (cntN (fun i => stdB D U (keptD D ^^^ (MLs D W).getD i 0)) k))), some (.int (nI k))] [] g l
    refine P.iload_n dX10_oftenOf_8 rfl rfl ?_
    refine P.aload_n dX10_oftenOf_9 rfl rfl ?_
    refine g_X10_many ly_86 (by decide) fl_X10_193 dX10_oftenOf_10 ?_
    refine Pm.topn (b := (MLs D W).length) (hg.2.1) ?_
    refine P.icmp_ge_n (tgt := 50) dX10_oftenOf_13 (by decide) (by omega) (by omega) (fun c_13 => ?_) (fun c_13 => ?_)
    · exfalso; omega
    refine P.iload_n dX10_oftenOf_16 rfl rfl ?_
    refine P.aload_n dX10_oftenOf_17 rfl rfl ?_
    refine P.aload_n dX10_oftenOf_18 rfl rfl ?_
    refine P.callV (As := []) (rest := [.ref (ad G 86), .int (nI (cntN (fun i => stdB D U (keptD D ^^^ (MLs D W).getD i 0)) k))]) (t_keptSet hM2 hBW) ok_X10_keptSet (fitX (Nat.le_of_ble_eq_true rfl)) rfl ml_X10_170 ly_86 (by decide) (by decide) rfl rfl (Nat.le_of_ble_eq_true rfl) dX10_oftenOf_19 ?_
    refine P.aload_n dX10_oftenOf_22 rfl rfl ?_
    refine g_X10_leastOf (q := 109) ly_86 (by decide) (by decide) fl_X10_78 dX10_oftenOf_23 ?_
    refine P.iload_n dX10_oftenOf_26 rfl rfl ?_
    refine a_ia ly_109 (by decide) (by omega) (by decide) dX10_oftenOf_27 ?_
    refine Pm.topn (b := (MLs D W).getD k 0) ((hg.2.2.1 k (by omega))) ?_
    refine P.iconst (v := -1) dX10_oftenOf_28 rfl ?_
    refine P.ixor dX10_oftenOf_29 ?_
    refine P.iand_n dX10_oftenOf_30 (n_not _ _) ?_
    refine P.callVX (As := [.int (nI (sd (keptD D) ((MLs D W).getD k 0)))]) (rest := [.int (nI (cntN (fun i => stdB D U (keptD D ^^^ (MLs D W).getD i 0)) k))]) (t_standsIn hM2 hBW (S := sd (keptD D) ((MLs D W).getD k 0)) (by have := sd_le (keptD D) ((MLs D W).getD k 0); omega)) ok_X10_standsIn (fitX (Nat.le_of_ble_eq_true rfl)) rfl ml_X10_221 ly_86 (by decide) (by decide) rfl rfl (Nat.le_of_ble_eq_true rfl) dX10_oftenOf_31 (fun r g2 l2 hp => ?_)
    obtain ⟨rfl, hex, e⟩ := hp
    subst e
    rw [stM_std hD hUW (sd_subN _ _), sd_xor (MLs_sub hk1)]
    refine P.if_eq_b (tgt := 41) dX10_oftenOf_34 (by decide) (fun c_34 => ?_) (fun c_34 => ?_)
    · refine P.iconst dX10_oftenOf_41 ic_0 ?_
      refine P.iadd_n dX10_oftenOf_42 (nI_add _ _) ?_
      refine P.istore_n dX10_oftenOf_43 rfl (by decide) ?_
      refine P.iinc dX10_oftenOf_44 rfl (inc1 _) (by decide) ?_
      refine P.goto (tgt := 8) dX10_oftenOf_47 (by decide) ?_
      show Pm G _ _ _ _ 8 [some (.ref (ad G 86)), some (.int (nI ((cntN (fun i => stdB D U (keptD D ^^^ (MLs D W).getD i 0)) k) + 0))), some (.int (nI (k + 1)))] [] g2 l
      exact Pm.to (ihk _ (hg.ex hex)) (by rw [cntN_s, show stdB D U (keptD D ^^^ (MLs D W).getD k 0) = false from c_34]; simp [lle, bN_t, bN_f]) rfl rfl rfl
    refine P.iconst dX10_oftenOf_37 ic_1 ?_
    refine P.goto (tgt := 42) dX10_oftenOf_38 (by decide) ?_
    refine P.iadd_n dX10_oftenOf_42 (nI_add _ _) ?_
    refine P.istore_n dX10_oftenOf_43 rfl (by decide) ?_
    refine P.iinc dX10_oftenOf_44 rfl (inc1 _) (by decide) ?_
    refine P.goto (tgt := 8) dX10_oftenOf_47 (by decide) ?_
    show Pm G _ _ _ _ 8 [some (.ref (ad G 86)), some (.int (nI ((cntN (fun i => stdB D U (keptD D ^^^ (MLs D W).getD i 0)) k) + 1))), some (.int (nI (k + 1)))] [] g2 l
    exact Pm.to (ihk _ (hg.ex hex)) (by rw [cntN_s, show stdB D U (keptD D ^^^ (MLs D W).getD k 0) = true from c_34]; simp [lle, bN_t, bN_f]) rfl rfl rfl
  · intro g hg
    have hM2 := hM.KD hg
    show Pm G _ _ _ _ 8 [some (.ref (ad G 86)), some (.int (nI (cntN (fun i => stdB D U (keptD D ^^^ (MLs D W).getD i 0)) ((MLs D W).length)))), some (.int (nI ((MLs D W).length)))] [] g l
    refine P.iload_n dX10_oftenOf_8 rfl rfl ?_
    refine P.aload_n dX10_oftenOf_9 rfl rfl ?_
    refine g_X10_many ly_86 (by decide) fl_X10_193 dX10_oftenOf_10 ?_
    refine Pm.topn (b := (MLs D W).length) (hg.2.1) ?_
    refine P.icmp_ge_n (tgt := 50) dX10_oftenOf_13 (by decide) (by omega) (by omega) (fun c_13 => ?_) (fun c_13 => ?_)
    · refine P.iload_n dX10_oftenOf_50 rfl rfl ?_
      exact P.iretX rfl dX10_oftenOf_51 ⟨rfl, hg, rfl⟩
    · exfalso; omega
  · exact hK

set_option maxRecDepth 20000 in
theorem t_settled {G : GG} {f : Nat → Nat → Nat} {l : Nat → Nat → Int64} {D : DB} {W : LB} {U : QB} {T : TB} {N : Nat} (hM : MV f l D W U T N) (hBW : BW D W U T) {w F K : Nat} (hw : w < W.1) (hF : F < 12) (hK : K < 2147483648) (h0 : W.2.1 w 0 = 0) : Spec G mX10_settled [.ref (ad G 86), .int (nI w), .int (nI F), .int (nI K)] 114 (f, l, refT) (some (.long (smP D W w F K D.1).2)) 114 (f, l, refT) := by
  obtain ⟨hD, hLW, hUW, hTW⟩ := id hBW
  have hR := hD.1
  have hW1 := hLW.1
  have hU1 := hUW.1
  have hJ1 := hUW.2.1
  obtain ⟨hw0, hw1, hw2, hw3, hw4, -⟩ := hLW.2 w hw
  have hk1 : W.2.1 w 0 ≠ 1 := by omega
  have hk3 : W.2.1 w 0 ≠ 3 := by omega
  refine Spec.of ok_X10_settled.1 ⟨Nat.le_refl _, Nat.le_refl _⟩ (Nat.le_of_ble_eq_true rfl) ?_
  show Pm G RX10 cX10_settled 13 (KM G mX10_settled 114 114 (some (.long (smP D W w F K D.1).2)) (f, l, refT)) 0 [some (.ref (ad G 86)), some (.int (nI w)), some (.int (nI F)), some (.int (nI K)), none, none, none, none, none, none, none, none, none] [] f l
  refine P.aload_n dX10_settled_0 rfl rfl ?_
  refine g_X10_colB (q := 97) ly_86 (by decide) (by decide) fl_X10_42 dX10_settled_1 ?_
  refine P.iload_n dX10_settled_4 rfl rfl ?_
  refine a_ia ly_97 (by decide) (by omega) (by decide) dX10_settled_5 ?_
  refine Pm.topn (b := W.2.1 w 3) ((hM.snd w (by omega) hk1 hk3)) ?_
  refine P.istore dX10_settled_6 (by decide) ?_
  refine P.lconst (v := 0) dX10_settled_8 rfl ?_
  refine P.lstore dX10_settled_9 (by decide) (Nat.le_of_ble_eq_true rfl) ?_
  refine P.bipush (v := -9) dX10_settled_11 rfl ?_
  refine P.istore dX10_settled_13 (by decide) ?_
  refine P.iconst dX10_settled_15 ic_0 ?_
  refine P.istore dX10_settled_16 (by decide) ?_
  show Pm G _ _ _ _ 18 [some (.ref (ad G 86)), some (.int (nI w)), some (.int (nI F)), some (.int (nI K)), some (.int (nI (W.2.1 w 3))), some (.long 0), none, some (.int (-9)), some (.int (nI 0)), none, none, none, none] [] f l
  refine P.to (ls := [some (.ref (ad G 86)), some (.int (nI w)), some (.int (nI F)), some (.int (nI K)), some (.int (nI (W.2.1 w 3))), some (.long ((smP D W w F K 0).2)), none, some (.int ((smP D W w F K 0).1)), some (.int (nI 0)), none, none, none, none]) ?_ (by simp [lle, smP, fo])
  refine loop_up (M := fun (r : Nat) => Pm G _ _ _ _ 18 [some (.ref (ad G 86)), some (.int (nI w)), some (.int (nI F)), some (.int (nI K)), some (.int (nI (W.2.1 w 3))), some (.long ((smP D W w F K r).2)), none, some (.int ((smP D W w F K r).1)), some (.int (nI r)), none, none, none, none] [] f l) (lo := 0) (N := D.1) (by first | exact Nat.zero_le _ | omega) (fun r hr0 hr1 ihr => ?_) ?_
  · show Pm G _ _ _ _ 18 [some (.ref (ad G 86)), some (.int (nI w)), some (.int (nI F)), some (.int (nI K)), some (.int (nI (W.2.1 w 3))), some (.long ((smP D W w F K r).2)), none, some (.int ((smP D W w F K r).1)), some (.int (nI r)), none, none, none, none] [] f l
    refine P.iload dX10_settled_18 rfl ?_
    refine P.aload_n dX10_settled_20 rfl rfl ?_
    refine g_X10_rows ly_86 (by decide) fl_X10_106 dX10_settled_21 ?_
    refine Pm.topn (b := D.1) (hM.R) ?_
    refine P.icmp_ge_n (tgt := 212) dX10_settled_24 (by decide) (by omega) (by omega) (fun c_24 => ?_) (fun c_24 => ?_)
    · exfalso; omega
    refine P.aload_n dX10_settled_27 rfl rfl ?_
    refine P.iload_n dX10_settled_28 rfl rfl ?_
    refine P.iload dX10_settled_29 rfl ?_
    refine P.iload_n dX10_settled_31 rfl rfl ?_
    refine P.callV (As := [.int (nI w), .int (nI r), .int (nI K)]) (rest := []) (t_isOf (w := w) (r := r) (S := K) hM hBW hw (by omega) (by omega)) ok_X10_isOf ⟨Nat.le_of_ble_eq_true rfl, Nat.le_of_ble_eq_true rfl, Nat.le_refl _, Nat.le_refl _⟩ rfl ml_X10_154 ly_86 (by decide) (by decide) rfl rfl (Nat.le_of_ble_eq_true rfl) dX10_settled_32 ?_
    refine P.if_eq_b (tgt := 206) dX10_settled_35 (by decide) (fun c_35 => ?_) (fun c_35 => ?_)
    · refine P.iinc dX10_settled_206 rfl (inc1 _) (by decide) ?_
      refine P.goto (tgt := 18) dX10_settled_209 (by decide) ?_
      show Pm G _ _ _ _ 18 [some (.ref (ad G 86)), some (.int (nI w)), some (.int (nI F)), some (.int (nI K)), some (.int (nI (W.2.1 w 3))), some (.long ((smP D W w F K r).2)), none, some (.int ((smP D W w F K r).1)), some (.int (nI (r + 1))), none, none, none, none] [] f l
      exact Pm.to (ihr) (by rw [smP_no (show qM D W w F K r = false from by simp [qM, c_35])]; simp [lle]) rfl rfl rfl
    refine P.aload_n dX10_settled_38 rfl rfl ?_
    refine P.iload dX10_settled_39 rfl ?_
    refine P.aload_n dX10_settled_41 rfl rfl ?_
    refine g_X10_colA (q := 96) ly_86 (by decide) (by decide) fl_X10_39 dX10_settled_42 ?_
    refine P.iload_n dX10_settled_45 rfl rfl ?_
    refine a_ia ly_96 (by decide) (by omega) (by decide) dX10_settled_46 ?_
    refine Pm.topn (b := W.2.1 w 2) ((hM.fst w (by omega))) ?_
    refine P.iload_n dX10_settled_47 rfl rfl ?_
    refine P.aload_n dX10_settled_48 rfl rfl ?_
    refine g_X10_colA (q := 96) ly_86 (by decide) (by decide) fl_X10_39 dX10_settled_49 ?_
    refine P.iload_n dX10_settled_52 rfl rfl ?_
    refine a_ia ly_96 (by decide) (by omega) (by decide) dX10_settled_53 ?_
    refine Pm.topn (b := W.2.1 w 2) ((hM.fst w (by omega))) ?_
    refine P.callV (As := [.int (nI r), .int (nI (W.2.1 w 2)), .int (nI F), .int (nI (W.2.1 w 2))]) (rest := []) (t_isLike (r := r) (c := (W.2.1 w 2)) (q := F) (d := (W.2.1 w 2)) hM hBW (by omega) (by omega) (by omega) (by omega)) ok_X10_isLike ⟨Nat.le_of_ble_eq_true rfl, Nat.le_of_ble_eq_true rfl, Nat.le_refl _, Nat.le_refl _⟩ rfl ml_X10_150 ly_86 (by decide) (by decide) rfl rfl (Nat.le_of_ble_eq_true rfl) dX10_settled_54 ?_
    refine P.if_eq_b (tgt := 206) dX10_settled_57 (by decide) (fun c_57 => ?_) (fun c_57 => ?_)
    · refine P.iinc dX10_settled_206 rfl (inc1 _) (by decide) ?_
      refine P.goto (tgt := 18) dX10_settled_209 (by decide) ?_
      show Pm G _ _ _ _ 18 [some (.ref (ad G 86)), some (.int (nI w)), some (.int (nI F)), some (.int (nI K)), some (.int (nI (W.2.1 w 3))), some (.long ((smP D W w F K r).2)), none, some (.int ((smP D W w F K r).1)), some (.int (nI (r + 1))), none, none, none, none] [] f l
      exact Pm.to (ihr) (by rw [smP_no (show qM D W w F K r = false from by simp [qM, c_35, c_57])]; simp [lle]) rfl rfl rfl
    refine P.aload_n dX10_settled_60 rfl rfl ?_
    refine g_X10_isThere (q := 92) ly_86 (by decide) (by decide) fl_X10_26 dX10_settled_61 ?_
    refine P.bipush (v := nI 6) dX10_settled_64 rfl ?_
    refine P.iload dX10_settled_66 rfl ?_
    refine P.imul_n dX10_settled_68 (pk_mul _ _) ?_
    refine P.iload dX10_settled_69 rfl ?_
    refine P.iadd_n dX10_settled_71 (nI_add _ _) ?_
    refine a_za ly_92 (by decide) (by omega) (by decide) dX10_settled_72 ?_
    refine Pm.topn (b := D.2.2.1 r (W.2.1 w 3)) ((hM.the r (by omega) (W.2.1 w 3) (by omega))) ?_
    refine P.if_eq_n (tgt := 206) dX10_settled_73 (by decide) (by have := (hD.2.2.2 r hr1).2.2.2.2 (W.2.1 w 3); omega) (fun c_73 => ?_) (fun c_73 => ?_)
    · refine P.iinc dX10_settled_206 rfl (inc1 _) (by decide) ?_
      refine P.goto (tgt := 18) dX10_settled_209 (by decide) ?_
      show Pm G _ _ _ _ 18 [some (.ref (ad G 86)), some (.int (nI w)), some (.int (nI F)), some (.int (nI K)), some (.int (nI (W.2.1 w 3))), some (.long ((smP D W w F K r).2)), none, some (.int ((smP D W w F K r).1)), some (.int (nI (r + 1))), none, none, none, none] [] f l
      exact Pm.to (ihr) (by rw [smP_no (show qM D W w F K r = false from by simp [qM, c_35, c_57, c_73])]; simp [lle]) rfl rfl rfl
    refine P.aload_n dX10_settled_76 rfl rfl ?_
    refine g_X10_told (q := 93) ly_86 (by decide) (by decide) fl_X10_29 dX10_settled_77 ?_
    refine P.bipush (v := nI 6) dX10_settled_80 rfl ?_
    refine P.iload dX10_settled_82 rfl ?_
    refine P.imul_n dX10_settled_84 (pk_mul _ _) ?_
    refine P.iload dX10_settled_85 rfl ?_
    refine P.iadd_n dX10_settled_87 (nI_add _ _) ?_
    refine a_la ly_93 (by decide) (by omega) (by decide) dX10_settled_88 ?_
    refine Pm.topl (b := D.2.2.2 r (W.2.1 w 3)) ((hM.num r (by omega) (W.2.1 w 3) (by omega))) ?_
    refine P.lstore dX10_settled_89 (by decide) (Nat.le_of_ble_eq_true rfl) ?_
    refine P.iconst dX10_settled_91 ic_0 ?_
    refine P.istore dX10_settled_92 (by decide) ?_
    refine P.iconst dX10_settled_94 ic_0 ?_
    refine P.istore dX10_settled_95 (by decide) ?_
    show Pm G _ _ _ _ 97 [some (.ref (ad G 86)), some (.int (nI w)), some (.int (nI F)), some (.int (nI K)), some (.int (nI (W.2.1 w 3))), some (.long ((smP D W w F K r).2)), none, some (.int ((smP D W w F K r).1)), some (.int (nI r)), some (.long (D.2.2.2 r (W.2.1 w 3))), none, some (.int (nI 0)), some (.int (nI 0))] [] f l
    refine P.to (ls := [some (.ref (ad G 86)), some (.int (nI w)), some (.int (nI F)), some (.int (nI K)), some (.int (nI (W.2.1 w 3))), some (.long ((smP D W w F K r).2)), none, some (.int ((smP D W w F K r).1)), some (.int (nI r)), some (.long (D.2.2.2 r (W.2.1 w 3))), none, some (.int (nI (sM D W w F K r 0))), some (.int (nI 0))]) ?_ (by simp [lle, sM, sumN, fo])
    refine loop_up (M := fun (q : Nat) => Pm G _ _ _ _ 97 [some (.ref (ad G 86)), some (.int (nI w)), some (.int (nI F)), some (.int (nI K)), some (.int (nI (W.2.1 w 3))), some (.long ((smP D W w F K r).2)), none, some (.int ((smP D W w F K r).1)), some (.int (nI r)), some (.long (D.2.2.2 r (W.2.1 w 3))), none, some (.int (nI (sM D W w F K r q))), some (.int (nI q))] [] f l) (lo := 0) (N := D.1) (by first | exact Nat.zero_le _ | omega) (fun q hq0 hq1 ihq => ?_) ?_
    · show Pm G _ _ _ _ 97 [some (.ref (ad G 86)), some (.int (nI w)), some (.int (nI F)), some (.int (nI K)), some (.int (nI (W.2.1 w 3))), some (.long ((smP D W w F K r).2)), none, some (.int ((smP D W w F K r).1)), some (.int (nI r)), some (.long (D.2.2.2 r (W.2.1 w 3))), none, some (.int (nI (sM D W w F K r q))), some (.int (nI q))] [] f l
      refine P.iload dX10_settled_97 rfl ?_
      refine P.aload_n dX10_settled_99 rfl rfl ?_
      refine g_X10_rows ly_86 (by decide) fl_X10_106 dX10_settled_100 ?_
      refine Pm.topn (b := D.1) (hM.R) ?_
      refine P.icmp_ge_n (tgt := 176) dX10_settled_103 (by decide) (by omega) (by omega) (fun c_103 => ?_) (fun c_103 => ?_)
      · exfalso; omega
      refine P.iload dX10_settled_106 rfl ?_
      refine P.aload_n dX10_settled_108 rfl rfl ?_
      refine P.iload_n dX10_settled_109 rfl rfl ?_
      refine P.iload dX10_settled_110 rfl ?_
      refine P.iload_n dX10_settled_112 rfl rfl ?_
      refine P.callV (As := [.int (nI w), .int (nI q), .int (nI K)]) (rest := [.int (nI (sM D W w F K r q))]) (t_isOf (w := w) (r := q) (S := K) hM hBW hw (by omega) (by omega)) ok_X10_isOf ⟨Nat.le_of_ble_eq_true rfl, Nat.le_of_ble_eq_true rfl, Nat.le_refl _, Nat.le_refl _⟩ rfl ml_X10_154 ly_86 (by decide) (by decide) rfl rfl (Nat.le_of_ble_eq_true rfl) dX10_settled_113 ?_
      refine P.if_eq_b (tgt := 166) dX10_settled_116 (by decide) (fun c_116 => ?_) (fun c_116 => ?_)
      · refine P.iconst dX10_settled_166 ic_0 ?_
        refine P.iadd_n dX10_settled_167 (nI_add _ _) ?_
        refine P.istore dX10_settled_168 (by decide) ?_
        refine P.iinc dX10_settled_170 rfl (inc1 _) (by decide) ?_
        refine P.goto (tgt := 97) dX10_settled_173 (by decide) ?_
        show Pm G _ _ _ _ 97 [some (.ref (ad G 86)), some (.int (nI w)), some (.int (nI F)), some (.int (nI K)), some (.int (nI (W.2.1 w 3))), some (.long ((smP D W w F K r).2)), none, some (.int ((smP D W w F K r).1)), some (.int (nI r)), some (.long (D.2.2.2 r (W.2.1 w 3))), none, some (.int (nI ((sM D W w F K r q) + 0))), some (.int (nI (q + 1)))] [] f l
        exact Pm.to (ihq) (by rw [sM_s, if_neg (show ¬ tM D W w F K r q = true from by simp [tM, c_116])]; simp [lle, sM, Nat.add_comm]) rfl rfl rfl
      refine P.aload_n dX10_settled_119 rfl rfl ?_
      refine P.iload dX10_settled_120 rfl ?_
      refine P.aload_n dX10_settled_122 rfl rfl ?_
      refine g_X10_colA (q := 96) ly_86 (by decide) (by decide) fl_X10_39 dX10_settled_123 ?_
      refine P.iload_n dX10_settled_126 rfl rfl ?_
      refine a_ia ly_96 (by decide) (by omega) (by decide) dX10_settled_127 ?_
      refine Pm.topn (b := W.2.1 w 2) ((hM.fst w (by omega))) ?_
      refine P.iload_n dX10_settled_128 rfl rfl ?_
      refine P.aload_n dX10_settled_129 rfl rfl ?_
      refine g_X10_colA (q := 96) ly_86 (by decide) (by decide) fl_X10_39 dX10_settled_130 ?_
      refine P.iload_n dX10_settled_133 rfl rfl ?_
      refine a_ia ly_96 (by decide) (by omega) (by decide) dX10_settled_134 ?_
      refine Pm.topn (b := W.2.1 w 2) ((hM.fst w (by omega))) ?_
      refine P.callV (As := [.int (nI q), .int (nI (W.2.1 w 2)), .int (nI F), .int (nI (W.2.1 w 2))]) (rest := [.int (nI (sM D W w F K r q))]) (t_isLike (r := q) (c := (W.2.1 w 2)) (q := F) (d := (W.2.1 w 2)) hM hBW (by omega) (by omega) (by omega) (by omega)) ok_X10_isLike ⟨Nat.le_of_ble_eq_true rfl, Nat.le_of_ble_eq_true rfl, Nat.le_refl _, Nat.le_refl _⟩ rfl ml_X10_150 ly_86 (by decide) (by decide) rfl rfl (Nat.le_of_ble_eq_true rfl) dX10_settled_135 ?_
      refine P.if_eq_b (tgt := 166) dX10_settled_138 (by decide) (fun c_138 => ?_) (fun c_138 => ?_)
      · refine P.iconst dX10_settled_166 ic_0 ?_
        refine P.iadd_n dX10_settled_167 (nI_add _ _) ?_
        refine P.istore dX10_settled_168 (by decide) ?_
        refine P.iinc dX10_settled_170 rfl (inc1 _) (by decide) ?_
        refine P.goto (tgt := 97) dX10_settled_173 (by decide) ?_
        show Pm G _ _ _ _ 97 [some (.ref (ad G 86)), some (.int (nI w)), some (.int (nI F)), some (.int (nI K)), some (.int (nI (W.2.1 w 3))), some (.long ((smP D W w F K r).2)), none, some (.int ((smP D W w F K r).1)), some (.int (nI r)), some (.long (D.2.2.2 r (W.2.1 w 3))), none, some (.int (nI ((sM D W w F K r q) + 0))), some (.int (nI (q + 1)))] [] f l
        exact Pm.to (ihq) (by rw [sM_s, if_neg (show ¬ tM D W w F K r q = true from by simp [tM, c_116, c_138])]; simp [lle, sM, Nat.add_comm]) rfl rfl rfl
      refine P.aload_n dX10_settled_141 rfl rfl ?_
      refine P.iload dX10_settled_142 rfl ?_
      refine P.iload dX10_settled_144 rfl ?_
      refine P.iload dX10_settled_146 rfl ?_
      refine P.iload dX10_settled_148 rfl ?_
      refine P.callV (As := [.int (nI q), .int (nI (W.2.1 w 3)), .int (nI r), .int (nI (W.2.1 w 3))]) (rest := [.int (nI (sM D W w F K r q))]) (t_isLike (r := q) (c := (W.2.1 w 3)) (q := r) (d := (W.2.1 w 3)) hM hBW (by omega) (by omega) (by omega) (by omega)) ok_X10_isLike ⟨Nat.le_of_ble_eq_true rfl, Nat.le_of_ble_eq_true rfl, Nat.le_refl _, Nat.le_refl _⟩ rfl ml_X10_150 ly_86 (by decide) (by decide) rfl rfl (Nat.le_of_ble_eq_true rfl) dX10_settled_150 ?_
      refine P.if_eq_b (tgt := 166) dX10_settled_153 (by decide) (fun c_153 => ?_) (fun c_153 => ?_)
      · refine P.iconst dX10_settled_166 ic_0 ?_
        refine P.iadd_n dX10_settled_167 (nI_add _ _) ?_
        refine P.istore dX10_settled_168 (by decide) ?_
        refine P.iinc dX10_settled_170 rfl (inc1 _) (by decide) ?_
        refine P.goto (tgt := 97) dX10_settled_173 (by decide) ?_
        show Pm G _ _ _ _ 97 [some (.ref (ad G 86)), some (.int (nI w)), some (.int (nI F)), some (.int (nI K)), some (.int (nI (W.2.1 w 3))), some (.long ((smP D W w F K r).2)), none, some (.int ((smP D W w F K r).1)), some (.int (nI r)), some (.long (D.2.2.2 r (W.2.1 w 3))), none, some (.int (nI ((sM D W w F K r q) + 0))), some (.int (nI (q + 1)))] [] f l
        exact Pm.to (ihq) (by rw [sM_s, if_neg (show ¬ tM D W w F K r q = true from by simp [tM, c_116, c_138, c_153])]; simp [lle, sM, Nat.add_comm]) rfl rfl rfl
      refine P.aload_n dX10_settled_156 rfl rfl ?_
      refine g_X10_trustOf (q := 90) ly_86 (by decide) (by decide) fl_X10_19 dX10_settled_157 ?_
      refine P.iload dX10_settled_160 rfl ?_
      refine a_ia ly_90 (by decide) (by omega) (by decide) dX10_settled_162 ?_
      refine Pm.topn (b := D.2.1 q 3) ((hM.tru q (by omega))) ?_
      refine P.goto (tgt := 167) dX10_settled_163 (by decide) ?_
      refine P.iadd_n dX10_settled_167 (nI_add _ _) ?_
      refine P.istore dX10_settled_168 (by decide) ?_
      refine P.iinc dX10_settled_170 rfl (inc1 _) (by decide) ?_
      refine P.goto (tgt := 97) dX10_settled_173 (by decide) ?_
      show Pm G _ _ _ _ 97 [some (.ref (ad G 86)), some (.int (nI w)), some (.int (nI F)), some (.int (nI K)), some (.int (nI (W.2.1 w 3))), some (.long ((smP D W w F K r).2)), none, some (.int ((smP D W w F K r).1)), some (.int (nI r)), some (.long (D.2.2.2 r (W.2.1 w 3))), none, some (.int (nI ((sM D W w F K r q) + (D.2.1 q 3)))), some (.int (nI (q + 1)))] [] f l
      exact Pm.to (ihq) (by rw [sM_s, if_pos (show tM D W w F K r q = true from by simp [tM, c_116, c_138, c_153])]; simp [lle, sM, Nat.add_comm]) rfl rfl rfl
    · show Pm G _ _ _ _ 97 [some (.ref (ad G 86)), some (.int (nI w)), some (.int (nI F)), some (.int (nI K)), some (.int (nI (W.2.1 w 3))), some (.long ((smP D W w F K r).2)), none, some (.int ((smP D W w F K r).1)), some (.int (nI r)), some (.long (D.2.2.2 r (W.2.1 w 3))), none, some (.int (nI (sM D W w F K r D.1))), some (.int (nI D.1))] [] f l
      refine P.iload dX10_settled_97 rfl ?_
      refine P.aload_n dX10_settled_99 rfl rfl ?_
      refine g_X10_rows ly_86 (by decide) fl_X10_106 dX10_settled_100 ?_
      refine Pm.topn (b := D.1) (hM.R) ?_
      refine P.icmp_ge_n (tgt := 176) dX10_settled_103 (by decide) (by omega) (by omega) (fun c_103 => ?_) (fun c_103 => ?_)
      · refine P.iload dX10_settled_176 rfl ?_
        refine P.iload dX10_settled_178 rfl ?_
        refine P.icmp_gt_z (tgt := 198) dX10_settled_180 (by decide) (zN (by have := sM_le hD W w F K r D.1 (Nat.le_refl _); omega)) rfl (fun c_180 => ?_) (fun c_180 => ?_)
        · refine P.iload dX10_settled_198 rfl ?_
          refine P.istore dX10_settled_200 (by decide) ?_
          refine P.lload dX10_settled_202 rfl ?_
          refine P.lstore dX10_settled_204 (by decide) (Nat.le_of_ble_eq_true rfl) ?_
          refine P.iinc dX10_settled_206 rfl (inc1 _) (by decide) ?_
          refine P.goto (tgt := 18) dX10_settled_209 (by decide) ?_
          show Pm G _ _ _ _ 18 [some (.ref (ad G 86)), some (.int (nI w)), some (.int (nI F)), some (.int (nI K)), some (.int (nI (W.2.1 w 3))), some (.long (D.2.2.2 r (W.2.1 w 3))), none, some (.int (nI (sM D W w F K r D.1))), some (.int (nI (r + 1))), some (.long (D.2.2.2 r (W.2.1 w 3))), none, some (.int (nI (sM D W w F K r D.1))), some (.int (nI D.1))] [] f l
          exact Pm.to (ihr) (by rw [smP_gt (show qM D W w F K r = true from by simp [qM, c_35, c_57, c_73]) c_180]; simp [lle]) rfl rfl rfl
        refine P.iload dX10_settled_183 rfl ?_
        refine P.iload dX10_settled_185 rfl ?_
        refine P.icmp_ne_z (tgt := 206) dX10_settled_187 (by decide) (zN (by have := sM_le hD W w F K r D.1 (Nat.le_refl _); omega)) rfl (fun c_187 => ?_) (fun c_187 => ?_)
        · refine P.iinc dX10_settled_206 rfl (inc1 _) (by decide) ?_
          refine P.goto (tgt := 18) dX10_settled_209 (by decide) ?_
          show Pm G _ _ _ _ 18 [some (.ref (ad G 86)), some (.int (nI w)), some (.int (nI F)), some (.int (nI K)), some (.int (nI (W.2.1 w 3))), some (.long ((smP D W w F K r).2)), none, some (.int ((smP D W w F K r).1)), some (.int (nI (r + 1))), some (.long (D.2.2.2 r (W.2.1 w 3))), none, some (.int (nI (sM D W w F K r D.1))), some (.int (nI D.1))] [] f l
          exact Pm.to (ihr) (by rw [smP_lt c_180 c_187]; simp [lle]) rfl rfl rfl
        refine P.lload dX10_settled_190 rfl ?_
        refine P.lload dX10_settled_192 rfl ?_
        refine P.lc_ge (tgt := 206) dX10_settled_194 dX10_settled_195 (by decide) (fun c_194 => ?_) (fun c_194 => ?_)
        · refine P.iinc dX10_settled_206 rfl (inc1 _) (by decide) ?_
          refine P.goto (tgt := 18) dX10_settled_209 (by decide) ?_
          show Pm G _ _ _ _ 18 [some (.ref (ad G 86)), some (.int (nI w)), some (.int (nI F)), some (.int (nI K)), some (.int (nI (W.2.1 w 3))), some (.long ((smP D W w F K r).2)), none, some (.int ((smP D W w F K r).1)), some (.int (nI (r + 1))), some (.long (D.2.2.2 r (W.2.1 w 3))), none, some (.int (nI (sM D W w F K r D.1))), some (.int (nI D.1))] [] f l
          exact Pm.to (ihr) (by rw [smP_ge c_180 c_194]; simp [lle]) rfl rfl rfl
        refine P.iload dX10_settled_198 rfl ?_
        refine P.istore dX10_settled_200 (by decide) ?_
        refine P.lload dX10_settled_202 rfl ?_
        refine P.lstore dX10_settled_204 (by decide) (Nat.le_of_ble_eq_true rfl) ?_
        refine P.iinc dX10_settled_206 rfl (inc1 _) (by decide) ?_
        refine P.goto (tgt := 18) dX10_settled_209 (by decide) ?_
        show Pm G _ _ _ _ 18 [some (.ref (ad G 86)), some (.int (nI w)), some (.int (nI F)), some (.int (nI K)), some (.int (nI (W.2.1 w 3))), some (.long (D.2.2.2 r (W.2.1 w 3))), none, some (.int (nI (sM D W w F K r D.1))), some (.int (nI (r + 1))), some (.long (D.2.2.2 r (W.2.1 w 3))), none, some (.int (nI (sM D W w F K r D.1))), some (.int (nI D.1))] [] f l
        exact Pm.to (ihr) (by rw [smP_eq (show qM D W w F K r = true from by simp [qM, c_35, c_57, c_73]) c_187 c_194]; simp [lle]) rfl rfl rfl
      · exfalso; omega
  · show Pm G _ _ _ _ 18 [some (.ref (ad G 86)), some (.int (nI w)), some (.int (nI F)), some (.int (nI K)), some (.int (nI (W.2.1 w 3))), some (.long ((smP D W w F K D.1).2)), none, some (.int ((smP D W w F K D.1).1)), some (.int (nI D.1)), none, none, none, none] [] f l
    refine P.iload dX10_settled_18 rfl ?_
    refine P.aload_n dX10_settled_20 rfl rfl ?_
    refine g_X10_rows ly_86 (by decide) fl_X10_106 dX10_settled_21 ?_
    refine Pm.topn (b := D.1) (hM.R) ?_
    refine P.icmp_ge_n (tgt := 212) dX10_settled_24 (by decide) (by omega) (by omega) (fun c_24 => ?_) (fun c_24 => ?_)
    · refine P.lload dX10_settled_212 rfl ?_
      exact P.lret rfl dX10_settled_214 rfl rfl
    · exfalso; omega


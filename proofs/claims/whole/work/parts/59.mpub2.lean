-- the model's calls, on: laws: by program (wip/whole/spec59.py)
set_option maxRecDepth 20000 in
theorem t_add {G : GG} {f : Nat → Nat → Nat} {l : Nat → Nat → Int64} {D : DB} {W : LB} {U : QB} {T : TB} {N : Nat} (hM : MV f l D W U T N) (hBW : BW D W U T) {k t a b u : Nat} {c d : Int64} (h10 : W.1 < 10) : Spec G mX10_add [.ref (ad G 86), .int (nI k), .int (nI t), .int (nI a), .int (nI b), .int (nI u), .long c, .long d] 114 (f, l, refT) (some (.int (nI W.1))) 114 (uf (uf (uf (uf (uf (uf (uf (uf f 94 W.1 k) 95 W.1 t) 96 W.1 a) 97 W.1 b) 98 W.1 u) 101 W.1 1) 86 9 (W.1 + 1)) 86 28 0, uf (uf l 99 W.1 c) 100 W.1 d, refT) := by
  obtain ⟨hD, hLW, hUW, hTW⟩ := id hBW
  have hR := hD.1
  have hW1 := hLW.1
  have hU1 := hUW.1
  have hJ1 := hUW.2.1
  refine Spec.of ok_X10_add.1 ⟨Nat.le_refl _, Nat.le_refl _⟩ (Nat.le_of_ble_eq_true rfl) ?_
  show Pm G RX10 cX10_add 10 (KM G mX10_add 114 114 (some (.int (nI W.1))) (uf (uf (uf (uf (uf (uf (uf (uf f 94 W.1 k) 95 W.1 t) 96 W.1 a) 97 W.1 b) 98 W.1 u) 101 W.1 1) 86 9 (W.1 + 1)) 86 28 0, uf (uf l 99 W.1 c) 100 W.1 d, refT)) 0 [some (.ref (ad G 86)), some (.int (nI k)), some (.int (nI t)), some (.int (nI a)), some (.int (nI b)), some (.int (nI u)), some (.long c), none, some (.long d), none] [] f l
  refine P.aload_n dX10_add_0 rfl rfl ?_
  refine g_X10_kind (q := 94) ly_86 (by decide) (by decide) fl_X10_33 dX10_add_1 ?_
  refine P.aload_n dX10_add_4 rfl rfl ?_
  refine g_X10_laws ly_86 (by decide) fl_X10_109 dX10_add_5 ?_
  refine Pm.topn (b := W.1) (hM.W) ?_
  refine P.iload_n dX10_add_8 rfl rfl ?_
  refine s_ia (a := k) ly_94 (by decide) (by omega) (by decide) dX10_add_9 rfl ?_
  refine P.aload_n dX10_add_10 rfl rfl ?_
  refine g_X10_lawTable (q := 95) ly_86 (by decide) (by decide) fl_X10_36 dX10_add_11 ?_
  refine P.aload_n dX10_add_14 rfl rfl ?_
  refine g_X10_laws ly_86 (by decide) fl_X10_109 dX10_add_15 ?_
  refine Pm.topn (b := W.1) ((uf_ne _ _ (Or.inl (by omega))).trans (hM.W)) ?_
  refine P.iload_n dX10_add_18 rfl rfl ?_
  refine s_ia (a := t) ly_95 (by decide) (by omega) (by decide) dX10_add_19 rfl ?_
  refine P.aload_n dX10_add_20 rfl rfl ?_
  refine g_X10_colA (q := 96) ly_86 (by decide) (by decide) fl_X10_39 dX10_add_21 ?_
  refine P.aload_n dX10_add_24 rfl rfl ?_
  refine g_X10_laws ly_86 (by decide) fl_X10_109 dX10_add_25 ?_
  refine Pm.topn (b := W.1) ((uf_ne _ _ (Or.inl (by omega))).trans ((uf_ne _ _ (Or.inl (by omega))).trans (hM.W))) ?_
  refine P.iload_n dX10_add_28 rfl rfl ?_
  refine s_ia (a := a) ly_96 (by decide) (by omega) (by decide) dX10_add_29 rfl ?_
  refine P.aload_n dX10_add_30 rfl rfl ?_
  refine g_X10_colB (q := 97) ly_86 (by decide) (by decide) fl_X10_42 dX10_add_31 ?_
  refine P.aload_n dX10_add_34 rfl rfl ?_
  refine g_X10_laws ly_86 (by decide) fl_X10_109 dX10_add_35 ?_
  refine Pm.topn (b := W.1) ((uf_ne _ _ (Or.inl (by omega))).trans ((uf_ne _ _ (Or.inl (by omega))).trans ((uf_ne _ _ (Or.inl (by omega))).trans (hM.W)))) ?_
  refine P.iload dX10_add_38 rfl ?_
  refine s_ia (a := b) ly_97 (by decide) (by omega) (by decide) dX10_add_40 rfl ?_
  refine P.aload_n dX10_add_41 rfl rfl ?_
  refine g_X10_lawOther (q := 98) ly_86 (by decide) (by decide) fl_X10_45 dX10_add_42 ?_
  refine P.aload_n dX10_add_45 rfl rfl ?_
  refine g_X10_laws ly_86 (by decide) fl_X10_109 dX10_add_46 ?_
  refine Pm.topn (b := W.1) ((uf_ne _ _ (Or.inl (by omega))).trans ((uf_ne _ _ (Or.inl (by omega))).trans ((uf_ne _ _ (Or.inl (by omega))).trans ((uf_ne _ _ (Or.inl (by omega))).trans (hM.W))))) ?_
  refine P.iload dX10_add_49 rfl ?_
  refine s_ia (a := u) ly_98 (by decide) (by omega) (by decide) dX10_add_51 rfl ?_
  refine P.aload_n dX10_add_52 rfl rfl ?_
  refine g_X10_numC (q := 99) ly_86 (by decide) (by decide) fl_X10_48 dX10_add_53 ?_
  refine P.aload_n dX10_add_56 rfl rfl ?_
  refine g_X10_laws ly_86 (by decide) fl_X10_109 dX10_add_57 ?_
  refine Pm.topn (b := W.1) ((uf_ne _ _ (Or.inl (by omega))).trans ((uf_ne _ _ (Or.inl (by omega))).trans ((uf_ne _ _ (Or.inl (by omega))).trans ((uf_ne _ _ (Or.inl (by omega))).trans ((uf_ne _ _ (Or.inl (by omega))).trans (hM.W)))))) ?_
  refine P.lload dX10_add_60 rfl ?_
  refine s_la ly_99 (by decide) (by omega) (by decide) dX10_add_62 ?_
  refine P.aload_n dX10_add_63 rfl rfl ?_
  refine g_X10_numD (q := 100) ly_86 (by decide) (by decide) fl_X10_51 dX10_add_64 ?_
  refine P.aload_n dX10_add_67 rfl rfl ?_
  refine g_X10_laws ly_86 (by decide) fl_X10_109 dX10_add_68 ?_
  refine Pm.topn (b := W.1) ((uf_ne _ _ (Or.inl (by omega))).trans ((uf_ne _ _ (Or.inl (by omega))).trans ((uf_ne _ _ (Or.inl (by omega))).trans ((uf_ne _ _ (Or.inl (by omega))).trans ((uf_ne _ _ (Or.inl (by omega))).trans (hM.W)))))) ?_
  refine P.lload dX10_add_71 rfl ?_
  refine s_la ly_100 (by decide) (by omega) (by decide) dX10_add_73 ?_
  refine P.aload_n dX10_add_74 rfl rfl ?_
  refine g_X10_isInForce (q := 101) ly_86 (by decide) (by decide) fl_X10_54 dX10_add_75 ?_
  refine P.aload_n dX10_add_78 rfl rfl ?_
  refine g_X10_laws ly_86 (by decide) fl_X10_109 dX10_add_79 ?_
  refine Pm.topn (b := W.1) ((uf_ne _ _ (Or.inl (by omega))).trans ((uf_ne _ _ (Or.inl (by omega))).trans ((uf_ne _ _ (Or.inl (by omega))).trans ((uf_ne _ _ (Or.inl (by omega))).trans ((uf_ne _ _ (Or.inl (by omega))).trans (hM.W)))))) ?_
  refine P.iconst dX10_add_82 ic_1 ?_
  refine s_za (a := 1) ly_101 (by decide) (by omega) (by decide) dX10_add_83 rfl (by omega) ?_
  refine P.aload_n dX10_add_84 rfl rfl ?_
  refine P.dup dX10_add_85 rfl ?_
  refine g_X10_laws ly_86 (by decide) fl_X10_109 dX10_add_86 ?_
  refine Pm.topn (b := W.1) ((uf_ne _ _ (Or.inl (by omega))).trans ((uf_ne _ _ (Or.inl (by omega))).trans ((uf_ne _ _ (Or.inl (by omega))).trans ((uf_ne _ _ (Or.inl (by omega))).trans ((uf_ne _ _ (Or.inl (by omega))).trans ((uf_ne _ _ (Or.inl (by omega))).trans (hM.W))))))) ?_
  refine P.iconst dX10_add_89 ic_1 ?_
  refine P.iadd_n dX10_add_90 (nI_add _ _) ?_
  refine p_X10_laws (a := (W.1 + 1)) ly_86 (by decide) fl_X10_109 dX10_add_91 rfl ?_
  refine P.aload_n dX10_add_94 rfl rfl ?_
  refine P.iconst dX10_add_95 ic_0 ?_
  refine p_X10_isKnown (a := 0) ly_86 (by decide) fl_X10_121 dX10_add_96 rfl (by omega) ?_
  refine P.aload_n dX10_add_99 rfl rfl ?_
  refine g_X10_laws ly_86 (by decide) fl_X10_109 dX10_add_100 ?_
  refine Pm.topn (b := (W.1 + 1)) ((uf_ne _ _ (Or.inr (by decide))).trans (uf_self _ _ _ _)) ?_
  refine P.iconst dX10_add_103 ic_1 ?_
  refine P.isub_n dX10_add_104 (pk_sub (by omega)) ?_
  exact P.iret rfl dX10_add_105 rfl rfl

set_option maxRecDepth 20000 in
theorem q_law_a {G : GG} {f : Nat → Nat → Nat} {l : Nat → Nat → Int64} {D : DB} {W : LB} {U : QB} {T : TB} {N : Nat} (hM : MV f l D W U T N) (hBW : BW D W U T) (hKN : KN f D W) {c d : Int64} {x y z u : Int32} (hx : inR x 5 = false) : SpX G mX10_law [.ref (ad G 86), .int x, .int y, .int z, .int u, .long c, .long d] f l (fun rv f1 l1 => rv = (some (.int (-2))) ∧ MJ f l f1 l1 D W U T N) := by
  obtain ⟨hD, hLW, hUW, hTW⟩ := id hBW
  have hR := hD.1
  have hW1 := hLW.1
  have hU1 := hUW.1
  have hJ1 := hUW.2.1
  refine SpX.of ok_X10_law.1 (Nat.le_of_ble_eq_true rfl) ?_
  show Pm G RX10 cX10_law 9 (KX G mX10_law (fun rv f1 l1 => rv = (some (.int (-2))) ∧ MJ f l f1 l1 D W U T N)) 0 [some (.ref (ad G 86)), some (.int x), some (.int y), some (.int z), some (.int u), some (.long c), none, some (.long d), none] [] f l
  refine P.aload_n dX10_law_0 rfl rfl ?_
  refine P.iconst dX10_law_1 ic_0 ?_
  refine p_X10_thrown (a := 0) ly_86 (by decide) fl_X10_93 dX10_law_2 rfl ?_
  have hM := mv_free (k := 86) (j := 0) (v := 0) (by decide) hM
  have hKN := hKN.up (k := 86) (j := 0) (v := 0) (by decide)
  have hCF : CF f l (uf f 86 0 0) l := (CF.rf f l).f (by decide)
  generalize uf f 86 0 0 = f0 at hM hKN hCF ⊢
  refine P.iload_n dX10_law_5 rfl rfl ?_
  refine P.i2l dX10_law_6 rfl ?_
  refine P.lconst (v := 0) dX10_law_7 rfl ?_
  refine P.ldc2 dX10_law_8 co_X10_141 ?_
  refine P.callS (As := [.long ((x).toInt64), .long 0, .long 4]) (rest := []) (by have h := t_inC (G := G) (f := f0) (l := l) (x := x) (R := 5) (b := 4) rfl (by decide); rw [hx] at h; exact h) ok_X10_in (fitX (Nat.le_of_ble_eq_true rfl)) rfl ml_X10_102 rfl (Nat.le_of_ble_eq_true rfl) dX10_law_11 ?_
  refine P.if_eq_b (tgt := 29) dX10_law_14 (by decide) (fun c_14 => ?_) (fun c_14 => ?_)
  · refine P.bipush (v := -2) dX10_law_29 rfl ?_
    exact P.iretX rfl dX10_law_31 ⟨rfl, hM, hKN, hCF⟩
  · exfalso; revert c_14; decide

set_option maxRecDepth 20000 in
theorem q_law_b {G : GG} {f : Nat → Nat → Nat} {l : Nat → Nat → Int64} {D : DB} {W : LB} {U : QB} {T : TB} {N : Nat} (hM : MV f l D W U T N) (hBW : BW D W U T) (hKN : KN f D W) {c d : Int64} {y z u : Int32} (hc : c < 0) : SpX G mX10_law [.ref (ad G 86), .int (nI 4), .int y, .int z, .int u, .long c, .long d] f l (fun rv f1 l1 => rv = (some (.int (-2))) ∧ MJ f l f1 l1 D W U T N) := by
  obtain ⟨hD, hLW, hUW, hTW⟩ := id hBW
  have hR := hD.1
  have hW1 := hLW.1
  have hU1 := hUW.1
  have hJ1 := hUW.2.1
  refine SpX.of ok_X10_law.1 (Nat.le_of_ble_eq_true rfl) ?_
  show Pm G RX10 cX10_law 9 (KX G mX10_law (fun rv f1 l1 => rv = (some (.int (-2))) ∧ MJ f l f1 l1 D W U T N)) 0 [some (.ref (ad G 86)), some (.int (nI 4)), some (.int y), some (.int z), some (.int u), some (.long c), none, some (.long d), none] [] f l
  refine P.aload_n dX10_law_0 rfl rfl ?_
  refine P.iconst dX10_law_1 ic_0 ?_
  refine p_X10_thrown (a := 0) ly_86 (by decide) fl_X10_93 dX10_law_2 rfl ?_
  have hM := mv_free (k := 86) (j := 0) (v := 0) (by decide) hM
  have hKN := hKN.up (k := 86) (j := 0) (v := 0) (by decide)
  have hCF : CF f l (uf f 86 0 0) l := (CF.rf f l).f (by decide)
  generalize uf f 86 0 0 = f0 at hM hKN hCF ⊢
  refine P.iload_n dX10_law_5 rfl rfl ?_
  refine P.i2l dX10_law_6 rfl ?_
  refine P.lconst (v := 0) dX10_law_7 rfl ?_
  refine P.ldc2 dX10_law_8 co_X10_141 ?_
  refine P.callS (As := [.long ((nI 4).toInt64), .long 0, .long 4]) (rest := []) (by have h := t_inC (G := G) (f := f0) (l := l) (x := (nI 4)) (R := 5) (b := 4) rfl (by decide); rw [inR_n (by decide) (by decide)] at h; exact h) ok_X10_in (fitX (Nat.le_of_ble_eq_true rfl)) rfl ml_X10_102 rfl (Nat.le_of_ble_eq_true rfl) dX10_law_11 ?_
  refine P.if_eq_b (tgt := 29) dX10_law_14 (by decide) (fun c_14 => ?_) (fun c_14 => ?_)
  · exfalso; revert c_14; decide
  refine P.iload_n dX10_law_17 rfl rfl ?_
  refine P.iconst dX10_law_18 ic_4 ?_
  refine P.icmp_ne_n (tgt := 32) dX10_law_19 (by decide) (by omega) (by omega) (fun c_19 => ?_) (fun c_19 => ?_)
  · exfalso; omega
  refine P.lload dX10_law_22 rfl ?_
  refine P.lconst (v := 0) dX10_law_24 rfl ?_
  refine P.lc_ge (tgt := 32) dX10_law_25 dX10_law_26 (by decide) (fun c_25 => ?_) (fun c_25 => ?_)
  · exact absurd hc (Int64.not_lt.mpr c_25)
  refine P.bipush (v := -2) dX10_law_29 rfl ?_
  exact P.iretX rfl dX10_law_31 ⟨rfl, hM, hKN, hCF⟩

set_option maxRecDepth 20000 in
theorem q_law_c {G : GG} {f : Nat → Nat → Nat} {l : Nat → Nat → Int64} {D : DB} {W : LB} {U : QB} {T : TB} {N : Nat} (hM : MV f l D W U T N) (hBW : BW D W U T) (hKN : KN f D W) {c d : Int64} {k : Nat} (hk : k < 5) (hk4 : k = 4 → 0 ≤ c) {y z u : Int32} (h10 : W.1 = 10) : SpX G mX10_law [.ref (ad G 86), .int (nI k), .int y, .int z, .int u, .long c, .long d] f l (fun rv f1 l1 => rv = (some (.int (-4))) ∧ MJ f l f1 l1 D W U T N) := by
  obtain ⟨hD, hLW, hUW, hTW⟩ := id hBW
  have hR := hD.1
  have hW1 := hLW.1
  have hU1 := hUW.1
  have hJ1 := hUW.2.1
  refine SpX.of ok_X10_law.1 (Nat.le_of_ble_eq_true rfl) ?_
  show Pm G RX10 cX10_law 9 (KX G mX10_law (fun rv f1 l1 => rv = (some (.int (-4))) ∧ MJ f l f1 l1 D W U T N)) 0 [some (.ref (ad G 86)), some (.int (nI k)), some (.int y), some (.int z), some (.int u), some (.long c), none, some (.long d), none] [] f l
  refine P.aload_n dX10_law_0 rfl rfl ?_
  refine P.iconst dX10_law_1 ic_0 ?_
  refine p_X10_thrown (a := 0) ly_86 (by decide) fl_X10_93 dX10_law_2 rfl ?_
  have hM := mv_free (k := 86) (j := 0) (v := 0) (by decide) hM
  have hKN := hKN.up (k := 86) (j := 0) (v := 0) (by decide)
  have hCF : CF f l (uf f 86 0 0) l := (CF.rf f l).f (by decide)
  generalize uf f 86 0 0 = f0 at hM hKN hCF ⊢
  refine P.iload_n dX10_law_5 rfl rfl ?_
  refine P.i2l dX10_law_6 rfl ?_
  refine P.lconst (v := 0) dX10_law_7 rfl ?_
  refine P.ldc2 dX10_law_8 co_X10_141 ?_
  refine P.callS (As := [.long ((nI k).toInt64), .long 0, .long 4]) (rest := []) (by have h := t_inC (G := G) (f := f0) (l := l) (x := (nI k)) (R := 5) (b := 4) rfl (by decide); rw [inR_n hk (by decide)] at h; exact h) ok_X10_in (fitX (Nat.le_of_ble_eq_true rfl)) rfl ml_X10_102 rfl (Nat.le_of_ble_eq_true rfl) dX10_law_11 ?_
  refine P.if_eq_b (tgt := 29) dX10_law_14 (by decide) (fun c_14 => ?_) (fun c_14 => ?_)
  · exfalso; revert c_14; decide
  refine P.iload_n dX10_law_17 rfl rfl ?_
  refine P.iconst dX10_law_18 ic_4 ?_
  refine P.icmp_ne_n (tgt := 32) dX10_law_19 (by decide) (by omega) (by omega) (fun c_19 => ?_) (fun c_19 => ?_)
  · refine P.aload_n dX10_law_32 rfl rfl ?_
    refine g_X10_laws ly_86 (by decide) fl_X10_109 dX10_law_33 ?_
    refine Pm.topn (b := W.1) (hM.W) ?_
    refine P.bipush (v := nI 10) dX10_law_36 rfl ?_
    refine P.icmp_ne_n (tgt := 44) dX10_law_38 (by decide) (by omega) (by omega) (fun c_38 => ?_) (fun c_38 => ?_)
    · exfalso; omega
    refine P.bipush (v := -4) dX10_law_41 rfl ?_
    exact P.iretX rfl dX10_law_43 ⟨rfl, hM, hKN, hCF⟩
  refine P.lload dX10_law_22 rfl ?_
  refine P.lconst (v := 0) dX10_law_24 rfl ?_
  refine P.lc_ge (tgt := 32) dX10_law_25 dX10_law_26 (by decide) (fun c_25 => ?_) (fun c_25 => ?_)
  · refine P.aload_n dX10_law_32 rfl rfl ?_
    refine g_X10_laws ly_86 (by decide) fl_X10_109 dX10_law_33 ?_
    refine Pm.topn (b := W.1) (hM.W) ?_
    refine P.bipush (v := nI 10) dX10_law_36 rfl ?_
    refine P.icmp_ne_n (tgt := 44) dX10_law_38 (by decide) (by omega) (by omega) (fun c_38 => ?_) (fun c_38 => ?_)
    · exfalso; omega
    refine P.bipush (v := -4) dX10_law_41 rfl ?_
    exact P.iretX rfl dX10_law_43 ⟨rfl, hM, hKN, hCF⟩
  · exact absurd (hk4 c_19) (Int64.not_le.mpr c_25)

set_option maxRecDepth 20000 in
theorem q_law_d {G : GG} {f : Nat → Nat → Nat} {l : Nat → Nat → Int64} {D : DB} {W : LB} {U : QB} {T : TB} {N : Nat} (hM : MV f l D W U T N) (hBW : BW D W U T) (hKN : KN f D W) {c d : Int64} {k : Nat} (hk : k < 5) (hk4 : k = 4 → 0 ≤ c) (h10 : W.1 < 10) {x : Int32} (hx : inR x 4 = false) {z u : Int32} : SpX G mX10_law [.ref (ad G 86), .int (nI k), .int x, .int z, .int u, .long c, .long d] f l (fun rv f1 l1 => rv = (some (.int (-12))) ∧ MJ f l f1 l1 D W U T (N + 1)) := by
  obtain ⟨hD, hLW, hUW, hTW⟩ := id hBW
  have hR := hD.1
  have hW1 := hLW.1
  have hU1 := hUW.1
  have hJ1 := hUW.2.1
  refine SpX.of ok_X10_law.1 (Nat.le_of_ble_eq_true rfl) ?_
  show Pm G RX10 cX10_law 9 (KX G mX10_law (fun rv f1 l1 => rv = (some (.int (-12))) ∧ MJ f l f1 l1 D W U T (N + 1))) 0 [some (.ref (ad G 86)), some (.int (nI k)), some (.int x), some (.int z), some (.int u), some (.long c), none, some (.long d), none] [] f l
  refine P.aload_n dX10_law_0 rfl rfl ?_
  refine P.iconst dX10_law_1 ic_0 ?_
  refine p_X10_thrown (a := 0) ly_86 (by decide) fl_X10_93 dX10_law_2 rfl ?_
  have hM := mv_free (k := 86) (j := 0) (v := 0) (by decide) hM
  have hKN := hKN.up (k := 86) (j := 0) (v := 0) (by decide)
  have hCF : CF f l (uf f 86 0 0) l := (CF.rf f l).f (by decide)
  generalize uf f 86 0 0 = f0 at hM hKN hCF ⊢
  refine P.iload_n dX10_law_5 rfl rfl ?_
  refine P.i2l dX10_law_6 rfl ?_
  refine P.lconst (v := 0) dX10_law_7 rfl ?_
  refine P.ldc2 dX10_law_8 co_X10_141 ?_
  refine P.callS (As := [.long ((nI k).toInt64), .long 0, .long 4]) (rest := []) (by have h := t_inC (G := G) (f := f0) (l := l) (x := (nI k)) (R := 5) (b := 4) rfl (by decide); rw [inR_n hk (by decide)] at h; exact h) ok_X10_in (fitX (Nat.le_of_ble_eq_true rfl)) rfl ml_X10_102 rfl (Nat.le_of_ble_eq_true rfl) dX10_law_11 ?_
  refine P.if_eq_b (tgt := 29) dX10_law_14 (by decide) (fun c_14 => ?_) (fun c_14 => ?_)
  · exfalso; revert c_14; decide
  refine P.iload_n dX10_law_17 rfl rfl ?_
  refine P.iconst dX10_law_18 ic_4 ?_
  refine P.icmp_ne_n (tgt := 32) dX10_law_19 (by decide) (by omega) (by omega) (fun c_19 => ?_) (fun c_19 => ?_)
  · refine P.aload_n dX10_law_32 rfl rfl ?_
    refine g_X10_laws ly_86 (by decide) fl_X10_109 dX10_law_33 ?_
    refine Pm.topn (b := W.1) (hM.W) ?_
    refine P.bipush (v := nI 10) dX10_law_36 rfl ?_
    refine P.icmp_ne_n (tgt := 44) dX10_law_38 (by decide) (by omega) (by omega) (fun c_38 => ?_) (fun c_38 => ?_)
    · refine P.aload_n dX10_law_44 rfl rfl ?_
      refine P.iload_n dX10_law_45 rfl rfl ?_
      refine P.callV (As := [.int x]) (rest := []) (t_lack_out hM hBW hx) ok_X10_lack (fitX (Nat.le_of_ble_eq_true rfl)) rfl ml_X10_116 ly_86 (by decide) (by decide) rfl rfl (Nat.le_of_ble_eq_true rfl) dX10_law_46 ?_
      refine P.if_eq_z (tgt := 62) dX10_law_49 (by decide) (show (-12 : Int32).toInt = -12 from rfl) (fun c_49 => ?_) (fun c_49 => ?_)
      · exfalso; revert c_49; decide
      refine P.aload_n dX10_law_52 rfl rfl ?_
      refine P.aload_n dX10_law_53 rfl rfl ?_
      refine P.iload_n dX10_law_54 rfl rfl ?_
      refine P.callV (As := [.int x]) (rest := [.ref (ad G 86)]) (t_lack_out hM hBW hx) ok_X10_lack (fitX (Nat.le_of_ble_eq_true rfl)) rfl ml_X10_116 ly_86 (by decide) (by decide) rfl rfl (Nat.le_of_ble_eq_true rfl) dX10_law_55 ?_
      refine P.callV (As := [.int (-12)]) (rest := []) (t_finds hM hBW) ok_X10_finds (fitX (Nat.le_of_ble_eq_true rfl)) rfl ml_X10_112 ly_86 (by decide) (by decide) rfl rfl (Nat.le_of_ble_eq_true rfl) dX10_law_58 ?_
      exact P.iretX rfl dX10_law_61 ⟨rfl, (mv_N hM), (KN.up (by omega) hKN), (hCF.f (by decide))⟩
    · exfalso; omega
  refine P.lload dX10_law_22 rfl ?_
  refine P.lconst (v := 0) dX10_law_24 rfl ?_
  refine P.lc_ge (tgt := 32) dX10_law_25 dX10_law_26 (by decide) (fun c_25 => ?_) (fun c_25 => ?_)
  · refine P.aload_n dX10_law_32 rfl rfl ?_
    refine g_X10_laws ly_86 (by decide) fl_X10_109 dX10_law_33 ?_
    refine Pm.topn (b := W.1) (hM.W) ?_
    refine P.bipush (v := nI 10) dX10_law_36 rfl ?_
    refine P.icmp_ne_n (tgt := 44) dX10_law_38 (by decide) (by omega) (by omega) (fun c_38 => ?_) (fun c_38 => ?_)
    · refine P.aload_n dX10_law_44 rfl rfl ?_
      refine P.iload_n dX10_law_45 rfl rfl ?_
      refine P.callV (As := [.int x]) (rest := []) (t_lack_out hM hBW hx) ok_X10_lack (fitX (Nat.le_of_ble_eq_true rfl)) rfl ml_X10_116 ly_86 (by decide) (by decide) rfl rfl (Nat.le_of_ble_eq_true rfl) dX10_law_46 ?_
      refine P.if_eq_z (tgt := 62) dX10_law_49 (by decide) (show (-12 : Int32).toInt = -12 from rfl) (fun c_49 => ?_) (fun c_49 => ?_)
      · exfalso; revert c_49; decide
      refine P.aload_n dX10_law_52 rfl rfl ?_
      refine P.aload_n dX10_law_53 rfl rfl ?_
      refine P.iload_n dX10_law_54 rfl rfl ?_
      refine P.callV (As := [.int x]) (rest := [.ref (ad G 86)]) (t_lack_out hM hBW hx) ok_X10_lack (fitX (Nat.le_of_ble_eq_true rfl)) rfl ml_X10_116 ly_86 (by decide) (by decide) rfl rfl (Nat.le_of_ble_eq_true rfl) dX10_law_55 ?_
      refine P.callV (As := [.int (-12)]) (rest := []) (t_finds hM hBW) ok_X10_finds (fitX (Nat.le_of_ble_eq_true rfl)) rfl ml_X10_112 ly_86 (by decide) (by decide) rfl rfl (Nat.le_of_ble_eq_true rfl) dX10_law_58 ?_
      exact P.iretX rfl dX10_law_61 ⟨rfl, (mv_N hM), (KN.up (by omega) hKN), (hCF.f (by decide))⟩
    · exfalso; omega
  · exact absurd (hk4 c_19) (Int64.not_le.mpr c_25)

set_option maxRecDepth 20000 in
theorem q_law_e {G : GG} {f : Nat → Nat → Nat} {l : Nat → Nat → Int64} {D : DB} {W : LB} {U : QB} {T : TB} {N : Nat} (hM : MV f l D W U T N) (hBW : BW D W U T) (hKN : KN f D W) {c d : Int64} {k : Nat} (hk : k < 5) (hk4 : k = 4 → 0 ≤ c) (h10 : W.1 < 10) {t : Nat} (ht : t < 4) (h0 : T.1 t = 0) {z u : Int32} : SpX G mX10_law [.ref (ad G 86), .int (nI k), .int (nI t), .int z, .int u, .long c, .long d] f l (fun rv f1 l1 => rv = (some (.int (-11))) ∧ MJ f l f1 l1 D W U T (N + 1)) := by
  obtain ⟨hD, hLW, hUW, hTW⟩ := id hBW
  have hR := hD.1
  have hW1 := hLW.1
  have hU1 := hUW.1
  have hJ1 := hUW.2.1
  refine SpX.of ok_X10_law.1 (Nat.le_of_ble_eq_true rfl) ?_
  show Pm G RX10 cX10_law 9 (KX G mX10_law (fun rv f1 l1 => rv = (some (.int (-11))) ∧ MJ f l f1 l1 D W U T (N + 1))) 0 [some (.ref (ad G 86)), some (.int (nI k)), some (.int (nI t)), some (.int z), some (.int u), some (.long c), none, some (.long d), none] [] f l
  refine P.aload_n dX10_law_0 rfl rfl ?_
  refine P.iconst dX10_law_1 ic_0 ?_
  refine p_X10_thrown (a := 0) ly_86 (by decide) fl_X10_93 dX10_law_2 rfl ?_
  have hM := mv_free (k := 86) (j := 0) (v := 0) (by decide) hM
  have hKN := hKN.up (k := 86) (j := 0) (v := 0) (by decide)
  have hCF : CF f l (uf f 86 0 0) l := (CF.rf f l).f (by decide)
  generalize uf f 86 0 0 = f0 at hM hKN hCF ⊢
  refine P.iload_n dX10_law_5 rfl rfl ?_
  refine P.i2l dX10_law_6 rfl ?_
  refine P.lconst (v := 0) dX10_law_7 rfl ?_
  refine P.ldc2 dX10_law_8 co_X10_141 ?_
  refine P.callS (As := [.long ((nI k).toInt64), .long 0, .long 4]) (rest := []) (by have h := t_inC (G := G) (f := f0) (l := l) (x := (nI k)) (R := 5) (b := 4) rfl (by decide); rw [inR_n hk (by decide)] at h; exact h) ok_X10_in (fitX (Nat.le_of_ble_eq_true rfl)) rfl ml_X10_102 rfl (Nat.le_of_ble_eq_true rfl) dX10_law_11 ?_
  refine P.if_eq_b (tgt := 29) dX10_law_14 (by decide) (fun c_14 => ?_) (fun c_14 => ?_)
  · exfalso; revert c_14; decide
  refine P.iload_n dX10_law_17 rfl rfl ?_
  refine P.iconst dX10_law_18 ic_4 ?_
  refine P.icmp_ne_n (tgt := 32) dX10_law_19 (by decide) (by omega) (by omega) (fun c_19 => ?_) (fun c_19 => ?_)
  · refine P.aload_n dX10_law_32 rfl rfl ?_
    refine g_X10_laws ly_86 (by decide) fl_X10_109 dX10_law_33 ?_
    refine Pm.topn (b := W.1) (hM.W) ?_
    refine P.bipush (v := nI 10) dX10_law_36 rfl ?_
    refine P.icmp_ne_n (tgt := 44) dX10_law_38 (by decide) (by omega) (by omega) (fun c_38 => ?_) (fun c_38 => ?_)
    · refine P.aload_n dX10_law_44 rfl rfl ?_
      refine P.iload_n dX10_law_45 rfl rfl ?_
      refine P.callV (As := [.int (nI t)]) (rest := []) (t_lack_null hM hBW ht h0) ok_X10_lack (fitX (Nat.le_of_ble_eq_true rfl)) rfl ml_X10_116 ly_86 (by decide) (by decide) rfl rfl (Nat.le_of_ble_eq_true rfl) dX10_law_46 ?_
      refine P.if_eq_z (tgt := 62) dX10_law_49 (by decide) (show (-11 : Int32).toInt = -11 from rfl) (fun c_49 => ?_) (fun c_49 => ?_)
      · exfalso; revert c_49; decide
      refine P.aload_n dX10_law_52 rfl rfl ?_
      refine P.aload_n dX10_law_53 rfl rfl ?_
      refine P.iload_n dX10_law_54 rfl rfl ?_
      refine P.callV (As := [.int (nI t)]) (rest := [.ref (ad G 86)]) (t_lack_null hM hBW ht h0) ok_X10_lack (fitX (Nat.le_of_ble_eq_true rfl)) rfl ml_X10_116 ly_86 (by decide) (by decide) rfl rfl (Nat.le_of_ble_eq_true rfl) dX10_law_55 ?_
      refine P.callV (As := [.int (-11)]) (rest := []) (t_finds hM hBW) ok_X10_finds (fitX (Nat.le_of_ble_eq_true rfl)) rfl ml_X10_112 ly_86 (by decide) (by decide) rfl rfl (Nat.le_of_ble_eq_true rfl) dX10_law_58 ?_
      exact P.iretX rfl dX10_law_61 ⟨rfl, (mv_N hM), (KN.up (by omega) hKN), (hCF.f (by decide))⟩
    · exfalso; omega
  refine P.lload dX10_law_22 rfl ?_
  refine P.lconst (v := 0) dX10_law_24 rfl ?_
  refine P.lc_ge (tgt := 32) dX10_law_25 dX10_law_26 (by decide) (fun c_25 => ?_) (fun c_25 => ?_)
  · refine P.aload_n dX10_law_32 rfl rfl ?_
    refine g_X10_laws ly_86 (by decide) fl_X10_109 dX10_law_33 ?_
    refine Pm.topn (b := W.1) (hM.W) ?_
    refine P.bipush (v := nI 10) dX10_law_36 rfl ?_
    refine P.icmp_ne_n (tgt := 44) dX10_law_38 (by decide) (by omega) (by omega) (fun c_38 => ?_) (fun c_38 => ?_)
    · refine P.aload_n dX10_law_44 rfl rfl ?_
      refine P.iload_n dX10_law_45 rfl rfl ?_
      refine P.callV (As := [.int (nI t)]) (rest := []) (t_lack_null hM hBW ht h0) ok_X10_lack (fitX (Nat.le_of_ble_eq_true rfl)) rfl ml_X10_116 ly_86 (by decide) (by decide) rfl rfl (Nat.le_of_ble_eq_true rfl) dX10_law_46 ?_
      refine P.if_eq_z (tgt := 62) dX10_law_49 (by decide) (show (-11 : Int32).toInt = -11 from rfl) (fun c_49 => ?_) (fun c_49 => ?_)
      · exfalso; revert c_49; decide
      refine P.aload_n dX10_law_52 rfl rfl ?_
      refine P.aload_n dX10_law_53 rfl rfl ?_
      refine P.iload_n dX10_law_54 rfl rfl ?_
      refine P.callV (As := [.int (nI t)]) (rest := [.ref (ad G 86)]) (t_lack_null hM hBW ht h0) ok_X10_lack (fitX (Nat.le_of_ble_eq_true rfl)) rfl ml_X10_116 ly_86 (by decide) (by decide) rfl rfl (Nat.le_of_ble_eq_true rfl) dX10_law_55 ?_
      refine P.callV (As := [.int (-11)]) (rest := []) (t_finds hM hBW) ok_X10_finds (fitX (Nat.le_of_ble_eq_true rfl)) rfl ml_X10_112 ly_86 (by decide) (by decide) rfl rfl (Nat.le_of_ble_eq_true rfl) dX10_law_58 ?_
      exact P.iretX rfl dX10_law_61 ⟨rfl, (mv_N hM), (KN.up (by omega) hKN), (hCF.f (by decide))⟩
    · exfalso; omega
  · exact absurd (hk4 c_19) (Int64.not_le.mpr c_25)

set_option maxRecDepth 20000 in
theorem q_law_f {G : GG} {f : Nat → Nat → Nat} {l : Nat → Nat → Int64} {D : DB} {W : LB} {U : QB} {T : TB} {N : Nat} (hM : MV f l D W U T N) (hBW : BW D W U T) (hKN : KN f D W) {c d : Int64} {k : Nat} (hk : k < 5) (hk4 : k = 4 → 0 ≤ c) (h10 : W.1 < 10) {t : Nat} (ht : t < 4) (h0 : T.1 t ≠ 0) {y : Int32} (hy : inR y (T.1 t) = false) {u : Int32} : SpX G mX10_law [.ref (ad G 86), .int (nI k), .int (nI t), .int y, .int u, .long c, .long d] f l (fun rv f1 l1 => rv = (some (.int (-12))) ∧ MJ f l f1 l1 D W U T (N + 1)) := by
  obtain ⟨hD, hLW, hUW, hTW⟩ := id hBW
  have hR := hD.1
  have hW1 := hLW.1
  have hU1 := hUW.1
  have hJ1 := hUW.2.1
  have htc := hTW.1 t ht
  refine SpX.of ok_X10_law.1 (Nat.le_of_ble_eq_true rfl) ?_
  show Pm G RX10 cX10_law 9 (KX G mX10_law (fun rv f1 l1 => rv = (some (.int (-12))) ∧ MJ f l f1 l1 D W U T (N + 1))) 0 [some (.ref (ad G 86)), some (.int (nI k)), some (.int (nI t)), some (.int y), some (.int u), some (.long c), none, some (.long d), none] [] f l
  refine P.aload_n dX10_law_0 rfl rfl ?_
  refine P.iconst dX10_law_1 ic_0 ?_
  refine p_X10_thrown (a := 0) ly_86 (by decide) fl_X10_93 dX10_law_2 rfl ?_
  have hM := mv_free (k := 86) (j := 0) (v := 0) (by decide) hM
  have hKN := hKN.up (k := 86) (j := 0) (v := 0) (by decide)
  have hCF : CF f l (uf f 86 0 0) l := (CF.rf f l).f (by decide)
  generalize uf f 86 0 0 = f0 at hM hKN hCF ⊢
  refine P.iload_n dX10_law_5 rfl rfl ?_
  refine P.i2l dX10_law_6 rfl ?_
  refine P.lconst (v := 0) dX10_law_7 rfl ?_
  refine P.ldc2 dX10_law_8 co_X10_141 ?_
  refine P.callS (As := [.long ((nI k).toInt64), .long 0, .long 4]) (rest := []) (by have h := t_inC (G := G) (f := f0) (l := l) (x := (nI k)) (R := 5) (b := 4) rfl (by decide); rw [inR_n hk (by decide)] at h; exact h) ok_X10_in (fitX (Nat.le_of_ble_eq_true rfl)) rfl ml_X10_102 rfl (Nat.le_of_ble_eq_true rfl) dX10_law_11 ?_
  refine P.if_eq_b (tgt := 29) dX10_law_14 (by decide) (fun c_14 => ?_) (fun c_14 => ?_)
  · exfalso; revert c_14; decide
  refine P.iload_n dX10_law_17 rfl rfl ?_
  refine P.iconst dX10_law_18 ic_4 ?_
  refine P.icmp_ne_n (tgt := 32) dX10_law_19 (by decide) (by omega) (by omega) (fun c_19 => ?_) (fun c_19 => ?_)
  · refine P.aload_n dX10_law_32 rfl rfl ?_
    refine g_X10_laws ly_86 (by decide) fl_X10_109 dX10_law_33 ?_
    refine Pm.topn (b := W.1) (hM.W) ?_
    refine P.bipush (v := nI 10) dX10_law_36 rfl ?_
    refine P.icmp_ne_n (tgt := 44) dX10_law_38 (by decide) (by omega) (by omega) (fun c_38 => ?_) (fun c_38 => ?_)
    · refine P.aload_n dX10_law_44 rfl rfl ?_
      refine P.iload_n dX10_law_45 rfl rfl ?_
      refine P.callV (As := [.int (nI t)]) (rest := []) (t_lack_ok hM hBW ht h0) ok_X10_lack (fitX (Nat.le_of_ble_eq_true rfl)) rfl ml_X10_116 ly_86 (by decide) (by decide) rfl rfl (Nat.le_of_ble_eq_true rfl) dX10_law_46 ?_
      refine P.if_eq_n (tgt := 62) dX10_law_49 (by decide) (by omega) (fun c_49 => ?_) (fun c_49 => ?_)
      · refine P.aload_n dX10_law_62 rfl rfl ?_
        refine P.iload_n dX10_law_63 rfl rfl ?_
        refine P.iload_n dX10_law_64 rfl rfl ?_
        refine P.callV (As := [.int (nI t), .int y]) (rest := []) (t_noColumn_f hM hBW ht hy) ok_X10_noColumn (fitX (Nat.le_of_ble_eq_true rfl)) rfl ml_X10_129 ly_86 (by decide) (by decide) rfl rfl (Nat.le_of_ble_eq_true rfl) dX10_law_65 ?_
        refine P.if_ne_b (tgt := 95) dX10_law_68 (by decide) (fun c_68 => ?_) (fun c_68 => ?_)
        · refine P.aload_n dX10_law_95 rfl rfl ?_
          refine P.bipush (v := -12) dX10_law_96 rfl ?_
          refine P.callV (As := [.int (-12)]) (rest := []) (t_finds hM hBW) ok_X10_finds (fitX (Nat.le_of_ble_eq_true rfl)) rfl ml_X10_112 ly_86 (by decide) (by decide) rfl rfl (Nat.le_of_ble_eq_true rfl) dX10_law_98 ?_
          exact P.iretX rfl dX10_law_101 ⟨rfl, (mv_N hM), (KN.up (by omega) hKN), (hCF.f (by decide))⟩
        · exfalso; revert c_68; decide
      · exfalso; omega
    · exfalso; omega
  refine P.lload dX10_law_22 rfl ?_
  refine P.lconst (v := 0) dX10_law_24 rfl ?_
  refine P.lc_ge (tgt := 32) dX10_law_25 dX10_law_26 (by decide) (fun c_25 => ?_) (fun c_25 => ?_)
  · refine P.aload_n dX10_law_32 rfl rfl ?_
    refine g_X10_laws ly_86 (by decide) fl_X10_109 dX10_law_33 ?_
    refine Pm.topn (b := W.1) (hM.W) ?_
    refine P.bipush (v := nI 10) dX10_law_36 rfl ?_
    refine P.icmp_ne_n (tgt := 44) dX10_law_38 (by decide) (by omega) (by omega) (fun c_38 => ?_) (fun c_38 => ?_)
    · refine P.aload_n dX10_law_44 rfl rfl ?_
      refine P.iload_n dX10_law_45 rfl rfl ?_
      refine P.callV (As := [.int (nI t)]) (rest := []) (t_lack_ok hM hBW ht h0) ok_X10_lack (fitX (Nat.le_of_ble_eq_true rfl)) rfl ml_X10_116 ly_86 (by decide) (by decide) rfl rfl (Nat.le_of_ble_eq_true rfl) dX10_law_46 ?_
      refine P.if_eq_n (tgt := 62) dX10_law_49 (by decide) (by omega) (fun c_49 => ?_) (fun c_49 => ?_)
      · refine P.aload_n dX10_law_62 rfl rfl ?_
        refine P.iload_n dX10_law_63 rfl rfl ?_
        refine P.iload_n dX10_law_64 rfl rfl ?_
        refine P.callV (As := [.int (nI t), .int y]) (rest := []) (t_noColumn_f hM hBW ht hy) ok_X10_noColumn (fitX (Nat.le_of_ble_eq_true rfl)) rfl ml_X10_129 ly_86 (by decide) (by decide) rfl rfl (Nat.le_of_ble_eq_true rfl) dX10_law_65 ?_
        refine P.if_ne_b (tgt := 95) dX10_law_68 (by decide) (fun c_68 => ?_) (fun c_68 => ?_)
        · refine P.aload_n dX10_law_95 rfl rfl ?_
          refine P.bipush (v := -12) dX10_law_96 rfl ?_
          refine P.callV (As := [.int (-12)]) (rest := []) (t_finds hM hBW) ok_X10_finds (fitX (Nat.le_of_ble_eq_true rfl)) rfl ml_X10_112 ly_86 (by decide) (by decide) rfl rfl (Nat.le_of_ble_eq_true rfl) dX10_law_98 ?_
          exact P.iretX rfl dX10_law_101 ⟨rfl, (mv_N hM), (KN.up (by omega) hKN), (hCF.f (by decide))⟩
        · exfalso; revert c_68; decide
      · exfalso; omega
    · exfalso; omega
  · exact absurd (hk4 c_19) (Int64.not_le.mpr c_25)

set_option maxRecDepth 20000 in
theorem q_law_g {G : GG} {f : Nat → Nat → Nat} {l : Nat → Nat → Int64} {D : DB} {W : LB} {U : QB} {T : TB} {N : Nat} (hM : MV f l D W U T N) (hBW : BW D W U T) (hKN : KN f D W) {c d : Int64} {k : Nat} (hk : k < 5) (hk4 : k = 4 → 0 ≤ c) (h10 : W.1 < 10) {t : Nat} (ht : t < 4) (h0 : T.1 t ≠ 0) {a : Nat} (hc : a < T.1 t) (h2 : two k = true) {z : Int32} (hz : inR z (T.1 t) = false) : SpX G mX10_law [.ref (ad G 86), .int (nI k), .int (nI t), .int (nI a), .int z, .long c, .long d] f l (fun rv f1 l1 => rv = (some (.int (-12))) ∧ MJ f l f1 l1 D W U T (N + 1)) := by
  obtain ⟨hD, hLW, hUW, hTW⟩ := id hBW
  have hR := hD.1
  have hW1 := hLW.1
  have hU1 := hUW.1
  have hJ1 := hUW.2.1
  have h22 := two_iff.mp h2
  have htc := hTW.1 t ht
  refine SpX.of ok_X10_law.1 (Nat.le_of_ble_eq_true rfl) ?_
  show Pm G RX10 cX10_law 9 (KX G mX10_law (fun rv f1 l1 => rv = (some (.int (-12))) ∧ MJ f l f1 l1 D W U T (N + 1))) 0 [some (.ref (ad G 86)), some (.int (nI k)), some (.int (nI t)), some (.int (nI a)), some (.int z), some (.long c), none, some (.long d), none] [] f l
  refine P.aload_n dX10_law_0 rfl rfl ?_
  refine P.iconst dX10_law_1 ic_0 ?_
  refine p_X10_thrown (a := 0) ly_86 (by decide) fl_X10_93 dX10_law_2 rfl ?_
  have hM := mv_free (k := 86) (j := 0) (v := 0) (by decide) hM
  have hKN := hKN.up (k := 86) (j := 0) (v := 0) (by decide)
  have hCF : CF f l (uf f 86 0 0) l := (CF.rf f l).f (by decide)
  generalize uf f 86 0 0 = f0 at hM hKN hCF ⊢
  refine P.iload_n dX10_law_5 rfl rfl ?_
  refine P.i2l dX10_law_6 rfl ?_
  refine P.lconst (v := 0) dX10_law_7 rfl ?_
  refine P.ldc2 dX10_law_8 co_X10_141 ?_
  refine P.callS (As := [.long ((nI k).toInt64), .long 0, .long 4]) (rest := []) (by have h := t_inC (G := G) (f := f0) (l := l) (x := (nI k)) (R := 5) (b := 4) rfl (by decide); rw [inR_n hk (by decide)] at h; exact h) ok_X10_in (fitX (Nat.le_of_ble_eq_true rfl)) rfl ml_X10_102 rfl (Nat.le_of_ble_eq_true rfl) dX10_law_11 ?_
  refine P.if_eq_b (tgt := 29) dX10_law_14 (by decide) (fun c_14 => ?_) (fun c_14 => ?_)
  · exfalso; revert c_14; decide
  refine P.iload_n dX10_law_17 rfl rfl ?_
  refine P.iconst dX10_law_18 ic_4 ?_
  refine P.icmp_ne_n (tgt := 32) dX10_law_19 (by decide) (by omega) (by omega) (fun c_19 => ?_) (fun c_19 => ?_)
  · refine P.aload_n dX10_law_32 rfl rfl ?_
    refine g_X10_laws ly_86 (by decide) fl_X10_109 dX10_law_33 ?_
    refine Pm.topn (b := W.1) (hM.W) ?_
    refine P.bipush (v := nI 10) dX10_law_36 rfl ?_
    refine P.icmp_ne_n (tgt := 44) dX10_law_38 (by decide) (by omega) (by omega) (fun c_38 => ?_) (fun c_38 => ?_)
    · refine P.aload_n dX10_law_44 rfl rfl ?_
      refine P.iload_n dX10_law_45 rfl rfl ?_
      refine P.callV (As := [.int (nI t)]) (rest := []) (t_lack_ok hM hBW ht h0) ok_X10_lack (fitX (Nat.le_of_ble_eq_true rfl)) rfl ml_X10_116 ly_86 (by decide) (by decide) rfl rfl (Nat.le_of_ble_eq_true rfl) dX10_law_46 ?_
      refine P.if_eq_n (tgt := 62) dX10_law_49 (by decide) (by omega) (fun c_49 => ?_) (fun c_49 => ?_)
      · refine P.aload_n dX10_law_62 rfl rfl ?_
        refine P.iload_n dX10_law_63 rfl rfl ?_
        refine P.iload_n dX10_law_64 rfl rfl ?_
        refine P.callV (As := [.int (nI t), .int (nI a)]) (rest := []) (t_noColumn_t hM hBW ht hc) ok_X10_noColumn (fitX (Nat.le_of_ble_eq_true rfl)) rfl ml_X10_129 ly_86 (by decide) (by decide) rfl rfl (Nat.le_of_ble_eq_true rfl) dX10_law_65 ?_
        refine P.if_ne_b (tgt := 95) dX10_law_68 (by decide) (fun c_68 => ?_) (fun c_68 => ?_)
        · exfalso; revert c_68; decide
        refine P.iload_n dX10_law_71 rfl rfl ?_
        refine P.if_eq_n (tgt := 85) dX10_law_72 (by decide) (by omega) (fun c_72 => ?_) (fun c_72 => ?_)
        · refine P.aload_n dX10_law_85 rfl rfl ?_
          refine P.iload_n dX10_law_86 rfl rfl ?_
          refine P.iload dX10_law_87 rfl ?_
          refine P.callV (As := [.int (nI t), .int z]) (rest := []) (t_noColumn_f hM hBW ht hz) ok_X10_noColumn (fitX (Nat.le_of_ble_eq_true rfl)) rfl ml_X10_129 ly_86 (by decide) (by decide) rfl rfl (Nat.le_of_ble_eq_true rfl) dX10_law_89 ?_
          refine P.if_eq_b (tgt := 102) dX10_law_92 (by decide) (fun c_92 => ?_) (fun c_92 => ?_)
          · exfalso; revert c_92; decide
          refine P.aload_n dX10_law_95 rfl rfl ?_
          refine P.bipush (v := -12) dX10_law_96 rfl ?_
          refine P.callV (As := [.int (-12)]) (rest := []) (t_finds hM hBW) ok_X10_finds (fitX (Nat.le_of_ble_eq_true rfl)) rfl ml_X10_112 ly_86 (by decide) (by decide) rfl rfl (Nat.le_of_ble_eq_true rfl) dX10_law_98 ?_
          exact P.iretX rfl dX10_law_101 ⟨rfl, (mv_N hM), (KN.up (by omega) hKN), (hCF.f (by decide))⟩
        refine P.iload_n dX10_law_75 rfl rfl ?_
        refine P.iconst dX10_law_76 ic_2 ?_
        refine P.icmp_eq_n (tgt := 85) dX10_law_77 (by decide) (by omega) (by omega) (fun c_77 => ?_) (fun c_77 => ?_)
        · refine P.aload_n dX10_law_85 rfl rfl ?_
          refine P.iload_n dX10_law_86 rfl rfl ?_
          refine P.iload dX10_law_87 rfl ?_
          refine P.callV (As := [.int (nI t), .int z]) (rest := []) (t_noColumn_f hM hBW ht hz) ok_X10_noColumn (fitX (Nat.le_of_ble_eq_true rfl)) rfl ml_X10_129 ly_86 (by decide) (by decide) rfl rfl (Nat.le_of_ble_eq_true rfl) dX10_law_89 ?_
          refine P.if_eq_b (tgt := 102) dX10_law_92 (by decide) (fun c_92 => ?_) (fun c_92 => ?_)
          · exfalso; revert c_92; decide
          refine P.aload_n dX10_law_95 rfl rfl ?_
          refine P.bipush (v := -12) dX10_law_96 rfl ?_
          refine P.callV (As := [.int (-12)]) (rest := []) (t_finds hM hBW) ok_X10_finds (fitX (Nat.le_of_ble_eq_true rfl)) rfl ml_X10_112 ly_86 (by decide) (by decide) rfl rfl (Nat.le_of_ble_eq_true rfl) dX10_law_98 ?_
          exact P.iretX rfl dX10_law_101 ⟨rfl, (mv_N hM), (KN.up (by omega) hKN), (hCF.f (by decide))⟩
        refine P.iload_n dX10_law_80 rfl rfl ?_
        refine P.iconst dX10_law_81 ic_4 ?_
        refine P.icmp_ne_n (tgt := 102) dX10_law_82 (by decide) (by omega) (by omega) (fun c_82 => ?_) (fun c_82 => ?_)
        · exfalso; omega
        refine P.aload_n dX10_law_85 rfl rfl ?_
        refine P.iload_n dX10_law_86 rfl rfl ?_
        refine P.iload dX10_law_87 rfl ?_
        refine P.callV (As := [.int (nI t), .int z]) (rest := []) (t_noColumn_f hM hBW ht hz) ok_X10_noColumn (fitX (Nat.le_of_ble_eq_true rfl)) rfl ml_X10_129 ly_86 (by decide) (by decide) rfl rfl (Nat.le_of_ble_eq_true rfl) dX10_law_89 ?_
        refine P.if_eq_b (tgt := 102) dX10_law_92 (by decide) (fun c_92 => ?_) (fun c_92 => ?_)
        · exfalso; revert c_92; decide
        refine P.aload_n dX10_law_95 rfl rfl ?_
        refine P.bipush (v := -12) dX10_law_96 rfl ?_
        refine P.callV (As := [.int (-12)]) (rest := []) (t_finds hM hBW) ok_X10_finds (fitX (Nat.le_of_ble_eq_true rfl)) rfl ml_X10_112 ly_86 (by decide) (by decide) rfl rfl (Nat.le_of_ble_eq_true rfl) dX10_law_98 ?_
        exact P.iretX rfl dX10_law_101 ⟨rfl, (mv_N hM), (KN.up (by omega) hKN), (hCF.f (by decide))⟩
      · exfalso; omega
    · exfalso; omega
  refine P.lload dX10_law_22 rfl ?_
  refine P.lconst (v := 0) dX10_law_24 rfl ?_
  refine P.lc_ge (tgt := 32) dX10_law_25 dX10_law_26 (by decide) (fun c_25 => ?_) (fun c_25 => ?_)
  · refine P.aload_n dX10_law_32 rfl rfl ?_
    refine g_X10_laws ly_86 (by decide) fl_X10_109 dX10_law_33 ?_
    refine Pm.topn (b := W.1) (hM.W) ?_
    refine P.bipush (v := nI 10) dX10_law_36 rfl ?_
    refine P.icmp_ne_n (tgt := 44) dX10_law_38 (by decide) (by omega) (by omega) (fun c_38 => ?_) (fun c_38 => ?_)
    · refine P.aload_n dX10_law_44 rfl rfl ?_
      refine P.iload_n dX10_law_45 rfl rfl ?_
      refine P.callV (As := [.int (nI t)]) (rest := []) (t_lack_ok hM hBW ht h0) ok_X10_lack (fitX (Nat.le_of_ble_eq_true rfl)) rfl ml_X10_116 ly_86 (by decide) (by decide) rfl rfl (Nat.le_of_ble_eq_true rfl) dX10_law_46 ?_
      refine P.if_eq_n (tgt := 62) dX10_law_49 (by decide) (by omega) (fun c_49 => ?_) (fun c_49 => ?_)
      · refine P.aload_n dX10_law_62 rfl rfl ?_
        refine P.iload_n dX10_law_63 rfl rfl ?_
        refine P.iload_n dX10_law_64 rfl rfl ?_
        refine P.callV (As := [.int (nI t), .int (nI a)]) (rest := []) (t_noColumn_t hM hBW ht hc) ok_X10_noColumn (fitX (Nat.le_of_ble_eq_true rfl)) rfl ml_X10_129 ly_86 (by decide) (by decide) rfl rfl (Nat.le_of_ble_eq_true rfl) dX10_law_65 ?_
        refine P.if_ne_b (tgt := 95) dX10_law_68 (by decide) (fun c_68 => ?_) (fun c_68 => ?_)
        · exfalso; revert c_68; decide
        refine P.iload_n dX10_law_71 rfl rfl ?_
        refine P.if_eq_n (tgt := 85) dX10_law_72 (by decide) (by omega) (fun c_72 => ?_) (fun c_72 => ?_)
        · refine P.aload_n dX10_law_85 rfl rfl ?_
          refine P.iload_n dX10_law_86 rfl rfl ?_
          refine P.iload dX10_law_87 rfl ?_
          refine P.callV (As := [.int (nI t), .int z]) (rest := []) (t_noColumn_f hM hBW ht hz) ok_X10_noColumn (fitX (Nat.le_of_ble_eq_true rfl)) rfl ml_X10_129 ly_86 (by decide) (by decide) rfl rfl (Nat.le_of_ble_eq_true rfl) dX10_law_89 ?_
          refine P.if_eq_b (tgt := 102) dX10_law_92 (by decide) (fun c_92 => ?_) (fun c_92 => ?_)
          · exfalso; revert c_92; decide
          refine P.aload_n dX10_law_95 rfl rfl ?_
          refine P.bipush (v := -12) dX10_law_96 rfl ?_
          refine P.callV (As := [.int (-12)]) (rest := []) (t_finds hM hBW) ok_X10_finds (fitX (Nat.le_of_ble_eq_true rfl)) rfl ml_X10_112 ly_86 (by decide) (by decide) rfl rfl (Nat.le_of_ble_eq_true rfl) dX10_law_98 ?_
          exact P.iretX rfl dX10_law_101 ⟨rfl, (mv_N hM), (KN.up (by omega) hKN), (hCF.f (by decide))⟩
        refine P.iload_n dX10_law_75 rfl rfl ?_
        refine P.iconst dX10_law_76 ic_2 ?_
        refine P.icmp_eq_n (tgt := 85) dX10_law_77 (by decide) (by omega) (by omega) (fun c_77 => ?_) (fun c_77 => ?_)
        · refine P.aload_n dX10_law_85 rfl rfl ?_
          refine P.iload_n dX10_law_86 rfl rfl ?_
          refine P.iload dX10_law_87 rfl ?_
          refine P.callV (As := [.int (nI t), .int z]) (rest := []) (t_noColumn_f hM hBW ht hz) ok_X10_noColumn (fitX (Nat.le_of_ble_eq_true rfl)) rfl ml_X10_129 ly_86 (by decide) (by decide) rfl rfl (Nat.le_of_ble_eq_true rfl) dX10_law_89 ?_
          refine P.if_eq_b (tgt := 102) dX10_law_92 (by decide) (fun c_92 => ?_) (fun c_92 => ?_)
          · exfalso; revert c_92; decide
          refine P.aload_n dX10_law_95 rfl rfl ?_
          refine P.bipush (v := -12) dX10_law_96 rfl ?_
          refine P.callV (As := [.int (-12)]) (rest := []) (t_finds hM hBW) ok_X10_finds (fitX (Nat.le_of_ble_eq_true rfl)) rfl ml_X10_112 ly_86 (by decide) (by decide) rfl rfl (Nat.le_of_ble_eq_true rfl) dX10_law_98 ?_
          exact P.iretX rfl dX10_law_101 ⟨rfl, (mv_N hM), (KN.up (by omega) hKN), (hCF.f (by decide))⟩
        refine P.iload_n dX10_law_80 rfl rfl ?_
        refine P.iconst dX10_law_81 ic_4 ?_
        refine P.icmp_ne_n (tgt := 102) dX10_law_82 (by decide) (by omega) (by omega) (fun c_82 => ?_) (fun c_82 => ?_)
        · exfalso; omega
        refine P.aload_n dX10_law_85 rfl rfl ?_
        refine P.iload_n dX10_law_86 rfl rfl ?_
        refine P.iload dX10_law_87 rfl ?_
        refine P.callV (As := [.int (nI t), .int z]) (rest := []) (t_noColumn_f hM hBW ht hz) ok_X10_noColumn (fitX (Nat.le_of_ble_eq_true rfl)) rfl ml_X10_129 ly_86 (by decide) (by decide) rfl rfl (Nat.le_of_ble_eq_true rfl) dX10_law_89 ?_
        refine P.if_eq_b (tgt := 102) dX10_law_92 (by decide) (fun c_92 => ?_) (fun c_92 => ?_)
        · exfalso; revert c_92; decide
        refine P.aload_n dX10_law_95 rfl rfl ?_
        refine P.bipush (v := -12) dX10_law_96 rfl ?_
        refine P.callV (As := [.int (-12)]) (rest := []) (t_finds hM hBW) ok_X10_finds (fitX (Nat.le_of_ble_eq_true rfl)) rfl ml_X10_112 ly_86 (by decide) (by decide) rfl rfl (Nat.le_of_ble_eq_true rfl) dX10_law_98 ?_
        exact P.iretX rfl dX10_law_101 ⟨rfl, (mv_N hM), (KN.up (by omega) hKN), (hCF.f (by decide))⟩
      · exfalso; omega
    · exfalso; omega
  · exact absurd (hk4 c_19) (Int64.not_le.mpr c_25)

set_option maxRecDepth 20000 in
theorem q_law_h {G : GG} {f : Nat → Nat → Nat} {l : Nat → Nat → Int64} {D : DB} {W : LB} {U : QB} {T : TB} {N : Nat} (hM : MV f l D W U T N) (hBW : BW D W U T) (hKN : KN f D W) {c d : Int64} {k : Nat} (hk : k < 5) (hk4 : k = 4 → 0 ≤ c) (h10 : W.1 < 10) {t : Nat} (ht : t < 4) (h0 : T.1 t ≠ 0) {a : Nat} (hc : a < T.1 t) (h2 : two k = true) {b : Nat} (hb : b < T.1 t) : SpX G mX10_law [.ref (ad G 86), .int (nI k), .int (nI t), .int (nI a), .int (nI b), .long c, .long d] f l (fun rv f1 l1 => rv = (some (.int (nI W.1))) ∧ MJ f l f1 l1 D (W.1 + 1, (uf (uf (uf (uf (uf W.2.1 W.1 0 k) W.1 1 t) W.1 7 1) W.1 2 a) W.1 3 b), uf (uf W.2.2 W.1 5 c) W.1 6 d) U T N) := by
  obtain ⟨hD, hLW, hUW, hTW⟩ := id hBW
  have hR := hD.1
  have hW1 := hLW.1
  have hU1 := hUW.1
  have hJ1 := hUW.2.1
  have h22 := two_iff.mp h2
  have htc := hTW.1 t ht
  refine SpX.of ok_X10_law.1 (Nat.le_of_ble_eq_true rfl) ?_
  show Pm G RX10 cX10_law 9 (KX G mX10_law (fun rv f1 l1 => rv = (some (.int (nI W.1))) ∧ MJ f l f1 l1 D (W.1 + 1, (uf (uf (uf (uf (uf W.2.1 W.1 0 k) W.1 1 t) W.1 7 1) W.1 2 a) W.1 3 b), uf (uf W.2.2 W.1 5 c) W.1 6 d) U T N)) 0 [some (.ref (ad G 86)), some (.int (nI k)), some (.int (nI t)), some (.int (nI a)), some (.int (nI b)), some (.long c), none, some (.long d), none] [] f l
  refine P.aload_n dX10_law_0 rfl rfl ?_
  refine P.iconst dX10_law_1 ic_0 ?_
  refine p_X10_thrown (a := 0) ly_86 (by decide) fl_X10_93 dX10_law_2 rfl ?_
  have hM := mv_free (k := 86) (j := 0) (v := 0) (by decide) hM
  have hKN := hKN.up (k := 86) (j := 0) (v := 0) (by decide)
  have hCF : CF f l (uf f 86 0 0) l := (CF.rf f l).f (by decide)
  generalize uf f 86 0 0 = f0 at hM hKN hCF ⊢
  refine P.iload_n dX10_law_5 rfl rfl ?_
  refine P.i2l dX10_law_6 rfl ?_
  refine P.lconst (v := 0) dX10_law_7 rfl ?_
  refine P.ldc2 dX10_law_8 co_X10_141 ?_
  refine P.callS (As := [.long ((nI k).toInt64), .long 0, .long 4]) (rest := []) (by have h := t_inC (G := G) (f := f0) (l := l) (x := (nI k)) (R := 5) (b := 4) rfl (by decide); rw [inR_n hk (by decide)] at h; exact h) ok_X10_in (fitX (Nat.le_of_ble_eq_true rfl)) rfl ml_X10_102 rfl (Nat.le_of_ble_eq_true rfl) dX10_law_11 ?_
  refine P.if_eq_b (tgt := 29) dX10_law_14 (by decide) (fun c_14 => ?_) (fun c_14 => ?_)
  · exfalso; revert c_14; decide
  refine P.iload_n dX10_law_17 rfl rfl ?_
  refine P.iconst dX10_law_18 ic_4 ?_
  refine P.icmp_ne_n (tgt := 32) dX10_law_19 (by decide) (by omega) (by omega) (fun c_19 => ?_) (fun c_19 => ?_)
  · refine P.aload_n dX10_law_32 rfl rfl ?_
    refine g_X10_laws ly_86 (by decide) fl_X10_109 dX10_law_33 ?_
    refine Pm.topn (b := W.1) (hM.W) ?_
    refine P.bipush (v := nI 10) dX10_law_36 rfl ?_
    refine P.icmp_ne_n (tgt := 44) dX10_law_38 (by decide) (by omega) (by omega) (fun c_38 => ?_) (fun c_38 => ?_)
    · refine P.aload_n dX10_law_44 rfl rfl ?_
      refine P.iload_n dX10_law_45 rfl rfl ?_
      refine P.callV (As := [.int (nI t)]) (rest := []) (t_lack_ok hM hBW ht h0) ok_X10_lack (fitX (Nat.le_of_ble_eq_true rfl)) rfl ml_X10_116 ly_86 (by decide) (by decide) rfl rfl (Nat.le_of_ble_eq_true rfl) dX10_law_46 ?_
      refine P.if_eq_n (tgt := 62) dX10_law_49 (by decide) (by omega) (fun c_49 => ?_) (fun c_49 => ?_)
      · refine P.aload_n dX10_law_62 rfl rfl ?_
        refine P.iload_n dX10_law_63 rfl rfl ?_
        refine P.iload_n dX10_law_64 rfl rfl ?_
        refine P.callV (As := [.int (nI t), .int (nI a)]) (rest := []) (t_noColumn_t hM hBW ht hc) ok_X10_noColumn (fitX (Nat.le_of_ble_eq_true rfl)) rfl ml_X10_129 ly_86 (by decide) (by decide) rfl rfl (Nat.le_of_ble_eq_true rfl) dX10_law_65 ?_
        refine P.if_ne_b (tgt := 95) dX10_law_68 (by decide) (fun c_68 => ?_) (fun c_68 => ?_)
        · exfalso; revert c_68; decide
        refine P.iload_n dX10_law_71 rfl rfl ?_
        refine P.if_eq_n (tgt := 85) dX10_law_72 (by decide) (by omega) (fun c_72 => ?_) (fun c_72 => ?_)
        · refine P.aload_n dX10_law_85 rfl rfl ?_
          refine P.iload_n dX10_law_86 rfl rfl ?_
          refine P.iload dX10_law_87 rfl ?_
          refine P.callV (As := [.int (nI t), .int (nI b)]) (rest := []) (t_noColumn_t hM hBW ht hb) ok_X10_noColumn (fitX (Nat.le_of_ble_eq_true rfl)) rfl ml_X10_129 ly_86 (by decide) (by decide) rfl rfl (Nat.le_of_ble_eq_true rfl) dX10_law_89 ?_
          refine P.if_eq_b (tgt := 102) dX10_law_92 (by decide) (fun c_92 => ?_) (fun c_92 => ?_)
          · refine P.aload_n dX10_law_102 rfl rfl ?_
            refine P.iload_n dX10_law_103 rfl rfl ?_
            refine P.iload_n dX10_law_104 rfl rfl ?_
            refine P.iload_n dX10_law_105 rfl rfl ?_
            refine P.iload dX10_law_106 rfl ?_
            refine P.iconst dX10_law_108 ic_0 ?_
            refine P.lload dX10_law_109 rfl ?_
            refine P.lload dX10_law_111 rfl ?_
            refine P.callV (As := [.int (nI k), .int (nI t), .int (nI a), .int (nI b), .int (nI 0), .long c, .long d]) (rest := []) (t_add (k := k) (t := t) (a := a) (b := b) (u := 0) (c := c) (d := d) hM hBW h10) ok_X10_add (fitX (Nat.le_of_ble_eq_true rfl)) rfl ml_X10_143 ly_86 (by decide) (by decide) rfl rfl (Nat.le_of_ble_eq_true rfl) dX10_law_113 ?_
            exact P.iretX rfl dX10_law_116 ⟨rfl, mv_free (by decide) (mv_law (by omega) (fun _ _ => rfl) hM), KN.z _ _ _, ((((((((((hCF.f (by decide)).f (by decide)).f (by decide)).f (by decide)).f (by decide)).f (by decide)).f (by decide)).f (by decide)).l (by decide)).l (by decide))⟩
          · exfalso; revert c_92; decide
        refine P.iload_n dX10_law_75 rfl rfl ?_
        refine P.iconst dX10_law_76 ic_2 ?_
        refine P.icmp_eq_n (tgt := 85) dX10_law_77 (by decide) (by omega) (by omega) (fun c_77 => ?_) (fun c_77 => ?_)
        · refine P.aload_n dX10_law_85 rfl rfl ?_
          refine P.iload_n dX10_law_86 rfl rfl ?_
          refine P.iload dX10_law_87 rfl ?_
          refine P.callV (As := [.int (nI t), .int (nI b)]) (rest := []) (t_noColumn_t hM hBW ht hb) ok_X10_noColumn (fitX (Nat.le_of_ble_eq_true rfl)) rfl ml_X10_129 ly_86 (by decide) (by decide) rfl rfl (Nat.le_of_ble_eq_true rfl) dX10_law_89 ?_
          refine P.if_eq_b (tgt := 102) dX10_law_92 (by decide) (fun c_92 => ?_) (fun c_92 => ?_)
          · refine P.aload_n dX10_law_102 rfl rfl ?_
            refine P.iload_n dX10_law_103 rfl rfl ?_
            refine P.iload_n dX10_law_104 rfl rfl ?_
            refine P.iload_n dX10_law_105 rfl rfl ?_
            refine P.iload dX10_law_106 rfl ?_
            refine P.iconst dX10_law_108 ic_0 ?_
            refine P.lload dX10_law_109 rfl ?_
            refine P.lload dX10_law_111 rfl ?_
            refine P.callV (As := [.int (nI k), .int (nI t), .int (nI a), .int (nI b), .int (nI 0), .long c, .long d]) (rest := []) (t_add (k := k) (t := t) (a := a) (b := b) (u := 0) (c := c) (d := d) hM hBW h10) ok_X10_add (fitX (Nat.le_of_ble_eq_true rfl)) rfl ml_X10_143 ly_86 (by decide) (by decide) rfl rfl (Nat.le_of_ble_eq_true rfl) dX10_law_113 ?_
            exact P.iretX rfl dX10_law_116 ⟨rfl, mv_free (by decide) (mv_law (by omega) (fun _ _ => rfl) hM), KN.z _ _ _, ((((((((((hCF.f (by decide)).f (by decide)).f (by decide)).f (by decide)).f (by decide)).f (by decide)).f (by decide)).f (by decide)).l (by decide)).l (by decide))⟩
          · exfalso; revert c_92; decide
        refine P.iload_n dX10_law_80 rfl rfl ?_
        refine P.iconst dX10_law_81 ic_4 ?_
        refine P.icmp_ne_n (tgt := 102) dX10_law_82 (by decide) (by omega) (by omega) (fun c_82 => ?_) (fun c_82 => ?_)
        · exfalso; omega
        refine P.aload_n dX10_law_85 rfl rfl ?_
        refine P.iload_n dX10_law_86 rfl rfl ?_
        refine P.iload dX10_law_87 rfl ?_
        refine P.callV (As := [.int (nI t), .int (nI b)]) (rest := []) (t_noColumn_t hM hBW ht hb) ok_X10_noColumn (fitX (Nat.le_of_ble_eq_true rfl)) rfl ml_X10_129 ly_86 (by decide) (by decide) rfl rfl (Nat.le_of_ble_eq_true rfl) dX10_law_89 ?_
        refine P.if_eq_b (tgt := 102) dX10_law_92 (by decide) (fun c_92 => ?_) (fun c_92 => ?_)
        · refine P.aload_n dX10_law_102 rfl rfl ?_
          refine P.iload_n dX10_law_103 rfl rfl ?_
          refine P.iload_n dX10_law_104 rfl rfl ?_
          refine P.iload_n dX10_law_105 rfl rfl ?_
          refine P.iload dX10_law_106 rfl ?_
          refine P.iconst dX10_law_108 ic_0 ?_
          refine P.lload dX10_law_109 rfl ?_
          refine P.lload dX10_law_111 rfl ?_
          refine P.callV (As := [.int (nI k), .int (nI t), .int (nI a), .int (nI b), .int (nI 0), .long c, .long d]) (rest := []) (t_add (k := k) (t := t) (a := a) (b := b) (u := 0) (c := c) (d := d) hM hBW h10) ok_X10_add (fitX (Nat.le_of_ble_eq_true rfl)) rfl ml_X10_143 ly_86 (by decide) (by decide) rfl rfl (Nat.le_of_ble_eq_true rfl) dX10_law_113 ?_
          exact P.iretX rfl dX10_law_116 ⟨rfl, mv_free (by decide) (mv_law (by omega) (fun _ _ => rfl) hM), KN.z _ _ _, ((((((((((hCF.f (by decide)).f (by decide)).f (by decide)).f (by decide)).f (by decide)).f (by decide)).f (by decide)).f (by decide)).l (by decide)).l (by decide))⟩
        · exfalso; revert c_92; decide
      · exfalso; omega
    · exfalso; omega
  refine P.lload dX10_law_22 rfl ?_
  refine P.lconst (v := 0) dX10_law_24 rfl ?_
  refine P.lc_ge (tgt := 32) dX10_law_25 dX10_law_26 (by decide) (fun c_25 => ?_) (fun c_25 => ?_)
  · refine P.aload_n dX10_law_32 rfl rfl ?_
    refine g_X10_laws ly_86 (by decide) fl_X10_109 dX10_law_33 ?_
    refine Pm.topn (b := W.1) (hM.W) ?_
    refine P.bipush (v := nI 10) dX10_law_36 rfl ?_
    refine P.icmp_ne_n (tgt := 44) dX10_law_38 (by decide) (by omega) (by omega) (fun c_38 => ?_) (fun c_38 => ?_)
    · refine P.aload_n dX10_law_44 rfl rfl ?_
      refine P.iload_n dX10_law_45 rfl rfl ?_
      refine P.callV (As := [.int (nI t)]) (rest := []) (t_lack_ok hM hBW ht h0) ok_X10_lack (fitX (Nat.le_of_ble_eq_true rfl)) rfl ml_X10_116 ly_86 (by decide) (by decide) rfl rfl (Nat.le_of_ble_eq_true rfl) dX10_law_46 ?_
      refine P.if_eq_n (tgt := 62) dX10_law_49 (by decide) (by omega) (fun c_49 => ?_) (fun c_49 => ?_)
      · refine P.aload_n dX10_law_62 rfl rfl ?_
        refine P.iload_n dX10_law_63 rfl rfl ?_
        refine P.iload_n dX10_law_64 rfl rfl ?_
        refine P.callV (As := [.int (nI t), .int (nI a)]) (rest := []) (t_noColumn_t hM hBW ht hc) ok_X10_noColumn (fitX (Nat.le_of_ble_eq_true rfl)) rfl ml_X10_129 ly_86 (by decide) (by decide) rfl rfl (Nat.le_of_ble_eq_true rfl) dX10_law_65 ?_
        refine P.if_ne_b (tgt := 95) dX10_law_68 (by decide) (fun c_68 => ?_) (fun c_68 => ?_)
        · exfalso; revert c_68; decide
        refine P.iload_n dX10_law_71 rfl rfl ?_
        refine P.if_eq_n (tgt := 85) dX10_law_72 (by decide) (by omega) (fun c_72 => ?_) (fun c_72 => ?_)
        · refine P.aload_n dX10_law_85 rfl rfl ?_
          refine P.iload_n dX10_law_86 rfl rfl ?_
          refine P.iload dX10_law_87 rfl ?_
          refine P.callV (As := [.int (nI t), .int (nI b)]) (rest := []) (t_noColumn_t hM hBW ht hb) ok_X10_noColumn (fitX (Nat.le_of_ble_eq_true rfl)) rfl ml_X10_129 ly_86 (by decide) (by decide) rfl rfl (Nat.le_of_ble_eq_true rfl) dX10_law_89 ?_
          refine P.if_eq_b (tgt := 102) dX10_law_92 (by decide) (fun c_92 => ?_) (fun c_92 => ?_)
          · refine P.aload_n dX10_law_102 rfl rfl ?_
            refine P.iload_n dX10_law_103 rfl rfl ?_
            refine P.iload_n dX10_law_104 rfl rfl ?_
            refine P.iload_n dX10_law_105 rfl rfl ?_
            refine P.iload dX10_law_106 rfl ?_
            refine P.iconst dX10_law_108 ic_0 ?_
            refine P.lload dX10_law_109 rfl ?_
            refine P.lload dX10_law_111 rfl ?_
            refine P.callV (As := [.int (nI k), .int (nI t), .int (nI a), .int (nI b), .int (nI 0), .long c, .long d]) (rest := []) (t_add (k := k) (t := t) (a := a) (b := b) (u := 0) (c := c) (d := d) hM hBW h10) ok_X10_add (fitX (Nat.le_of_ble_eq_true rfl)) rfl ml_X10_143 ly_86 (by decide) (by decide) rfl rfl (Nat.le_of_ble_eq_true rfl) dX10_law_113 ?_
            exact P.iretX rfl dX10_law_116 ⟨rfl, mv_free (by decide) (mv_law (by omega) (fun _ _ => rfl) hM), KN.z _ _ _, ((((((((((hCF.f (by decide)).f (by decide)).f (by decide)).f (by decide)).f (by decide)).f (by decide)).f (by decide)).f (by decide)).l (by decide)).l (by decide))⟩
          · exfalso; revert c_92; decide
        refine P.iload_n dX10_law_75 rfl rfl ?_
        refine P.iconst dX10_law_76 ic_2 ?_
        refine P.icmp_eq_n (tgt := 85) dX10_law_77 (by decide) (by omega) (by omega) (fun c_77 => ?_) (fun c_77 => ?_)
        · refine P.aload_n dX10_law_85 rfl rfl ?_
          refine P.iload_n dX10_law_86 rfl rfl ?_
          refine P.iload dX10_law_87 rfl ?_
          refine P.callV (As := [.int (nI t), .int (nI b)]) (rest := []) (t_noColumn_t hM hBW ht hb) ok_X10_noColumn (fitX (Nat.le_of_ble_eq_true rfl)) rfl ml_X10_129 ly_86 (by decide) (by decide) rfl rfl (Nat.le_of_ble_eq_true rfl) dX10_law_89 ?_
          refine P.if_eq_b (tgt := 102) dX10_law_92 (by decide) (fun c_92 => ?_) (fun c_92 => ?_)
          · refine P.aload_n dX10_law_102 rfl rfl ?_
            refine P.iload_n dX10_law_103 rfl rfl ?_
            refine P.iload_n dX10_law_104 rfl rfl ?_
            refine P.iload_n dX10_law_105 rfl rfl ?_
            refine P.iload dX10_law_106 rfl ?_
            refine P.iconst dX10_law_108 ic_0 ?_
            refine P.lload dX10_law_109 rfl ?_
            refine P.lload dX10_law_111 rfl ?_
            refine P.callV (As := [.int (nI k), .int (nI t), .int (nI a), .int (nI b), .int (nI 0), .long c, .long d]) (rest := []) (t_add (k := k) (t := t) (a := a) (b := b) (u := 0) (c := c) (d := d) hM hBW h10) ok_X10_add (fitX (Nat.le_of_ble_eq_true rfl)) rfl ml_X10_143 ly_86 (by decide) (by decide) rfl rfl (Nat.le_of_ble_eq_true rfl) dX10_law_113 ?_
            exact P.iretX rfl dX10_law_116 ⟨rfl, mv_free (by decide) (mv_law (by omega) (fun _ _ => rfl) hM), KN.z _ _ _, ((((((((((hCF.f (by decide)).f (by decide)).f (by decide)).f (by decide)).f (by decide)).f (by decide)).f (by decide)).f (by decide)).l (by decide)).l (by decide))⟩
          · exfalso; revert c_92; decide
        refine P.iload_n dX10_law_80 rfl rfl ?_
        refine P.iconst dX10_law_81 ic_4 ?_
        refine P.icmp_ne_n (tgt := 102) dX10_law_82 (by decide) (by omega) (by omega) (fun c_82 => ?_) (fun c_82 => ?_)
        · exfalso; omega
        refine P.aload_n dX10_law_85 rfl rfl ?_
        refine P.iload_n dX10_law_86 rfl rfl ?_
        refine P.iload dX10_law_87 rfl ?_
        refine P.callV (As := [.int (nI t), .int (nI b)]) (rest := []) (t_noColumn_t hM hBW ht hb) ok_X10_noColumn (fitX (Nat.le_of_ble_eq_true rfl)) rfl ml_X10_129 ly_86 (by decide) (by decide) rfl rfl (Nat.le_of_ble_eq_true rfl) dX10_law_89 ?_
        refine P.if_eq_b (tgt := 102) dX10_law_92 (by decide) (fun c_92 => ?_) (fun c_92 => ?_)
        · refine P.aload_n dX10_law_102 rfl rfl ?_
          refine P.iload_n dX10_law_103 rfl rfl ?_
          refine P.iload_n dX10_law_104 rfl rfl ?_
          refine P.iload_n dX10_law_105 rfl rfl ?_
          refine P.iload dX10_law_106 rfl ?_
          refine P.iconst dX10_law_108 ic_0 ?_
          refine P.lload dX10_law_109 rfl ?_
          refine P.lload dX10_law_111 rfl ?_
          refine P.callV (As := [.int (nI k), .int (nI t), .int (nI a), .int (nI b), .int (nI 0), .long c, .long d]) (rest := []) (t_add (k := k) (t := t) (a := a) (b := b) (u := 0) (c := c) (d := d) hM hBW h10) ok_X10_add (fitX (Nat.le_of_ble_eq_true rfl)) rfl ml_X10_143 ly_86 (by decide) (by decide) rfl rfl (Nat.le_of_ble_eq_true rfl) dX10_law_113 ?_
          exact P.iretX rfl dX10_law_116 ⟨rfl, mv_free (by decide) (mv_law (by omega) (fun _ _ => rfl) hM), KN.z _ _ _, ((((((((((hCF.f (by decide)).f (by decide)).f (by decide)).f (by decide)).f (by decide)).f (by decide)).f (by decide)).f (by decide)).l (by decide)).l (by decide))⟩
        · exfalso; revert c_92; decide
      · exfalso; omega
    · exfalso; omega
  · exact absurd (hk4 c_19) (Int64.not_le.mpr c_25)

set_option maxRecDepth 20000 in
theorem q_law_i {G : GG} {f : Nat → Nat → Nat} {l : Nat → Nat → Int64} {D : DB} {W : LB} {U : QB} {T : TB} {N : Nat} (hM : MV f l D W U T N) (hBW : BW D W U T) (hKN : KN f D W) {c d : Int64} {k : Nat} (hk : k < 5) (hk4 : k = 4 → 0 ≤ c) (h10 : W.1 < 10) {t : Nat} (ht : t < 4) (h0 : T.1 t ≠ 0) {a : Nat} (hc : a < T.1 t) (h2 : two k = false) {b : Nat} : SpX G mX10_law [.ref (ad G 86), .int (nI k), .int (nI t), .int (nI a), .int (nI b), .long c, .long d] f l (fun rv f1 l1 => rv = (some (.int (nI W.1))) ∧ MJ f l f1 l1 D (W.1 + 1, (uf (uf (uf (uf (uf W.2.1 W.1 0 k) W.1 1 t) W.1 7 1) W.1 2 a) W.1 3 a), uf (uf W.2.2 W.1 5 c) W.1 6 d) U T N) := by
  obtain ⟨hD, hLW, hUW, hTW⟩ := id hBW
  have hR := hD.1
  have hW1 := hLW.1
  have hU1 := hUW.1
  have hJ1 := hUW.2.1
  have h22 := two_f.mp h2
  have htc := hTW.1 t ht
  refine SpX.of ok_X10_law.1 (Nat.le_of_ble_eq_true rfl) ?_
  show Pm G RX10 cX10_law 9 (KX G mX10_law (fun rv f1 l1 => rv = (some (.int (nI W.1))) ∧ MJ f l f1 l1 D (W.1 + 1, (uf (uf (uf (uf (uf W.2.1 W.1 0 k) W.1 1 t) W.1 7 1) W.1 2 a) W.1 3 a), uf (uf W.2.2 W.1 5 c) W.1 6 d) U T N)) 0 [some (.ref (ad G 86)), some (.int (nI k)), some (.int (nI t)), some (.int (nI a)), some (.int (nI b)), some (.long c), none, some (.long d), none] [] f l
  refine P.aload_n dX10_law_0 rfl rfl ?_
  refine P.iconst dX10_law_1 ic_0 ?_
  refine p_X10_thrown (a := 0) ly_86 (by decide) fl_X10_93 dX10_law_2 rfl ?_
  have hM := mv_free (k := 86) (j := 0) (v := 0) (by decide) hM
  have hKN := hKN.up (k := 86) (j := 0) (v := 0) (by decide)
  have hCF : CF f l (uf f 86 0 0) l := (CF.rf f l).f (by decide)
  generalize uf f 86 0 0 = f0 at hM hKN hCF ⊢
  refine P.iload_n dX10_law_5 rfl rfl ?_
  refine P.i2l dX10_law_6 rfl ?_
  refine P.lconst (v := 0) dX10_law_7 rfl ?_
  refine P.ldc2 dX10_law_8 co_X10_141 ?_
  refine P.callS (As := [.long ((nI k).toInt64), .long 0, .long 4]) (rest := []) (by have h := t_inC (G := G) (f := f0) (l := l) (x := (nI k)) (R := 5) (b := 4) rfl (by decide); rw [inR_n hk (by decide)] at h; exact h) ok_X10_in (fitX (Nat.le_of_ble_eq_true rfl)) rfl ml_X10_102 rfl (Nat.le_of_ble_eq_true rfl) dX10_law_11 ?_
  refine P.if_eq_b (tgt := 29) dX10_law_14 (by decide) (fun c_14 => ?_) (fun c_14 => ?_)
  · exfalso; revert c_14; decide
  refine P.iload_n dX10_law_17 rfl rfl ?_
  refine P.iconst dX10_law_18 ic_4 ?_
  refine P.icmp_ne_n (tgt := 32) dX10_law_19 (by decide) (by omega) (by omega) (fun c_19 => ?_) (fun c_19 => ?_)
  · refine P.aload_n dX10_law_32 rfl rfl ?_
    refine g_X10_laws ly_86 (by decide) fl_X10_109 dX10_law_33 ?_
    refine Pm.topn (b := W.1) (hM.W) ?_
    refine P.bipush (v := nI 10) dX10_law_36 rfl ?_
    refine P.icmp_ne_n (tgt := 44) dX10_law_38 (by decide) (by omega) (by omega) (fun c_38 => ?_) (fun c_38 => ?_)
    · refine P.aload_n dX10_law_44 rfl rfl ?_
      refine P.iload_n dX10_law_45 rfl rfl ?_
      refine P.callV (As := [.int (nI t)]) (rest := []) (t_lack_ok hM hBW ht h0) ok_X10_lack (fitX (Nat.le_of_ble_eq_true rfl)) rfl ml_X10_116 ly_86 (by decide) (by decide) rfl rfl (Nat.le_of_ble_eq_true rfl) dX10_law_46 ?_
      refine P.if_eq_n (tgt := 62) dX10_law_49 (by decide) (by omega) (fun c_49 => ?_) (fun c_49 => ?_)
      · refine P.aload_n dX10_law_62 rfl rfl ?_
        refine P.iload_n dX10_law_63 rfl rfl ?_
        refine P.iload_n dX10_law_64 rfl rfl ?_
        refine P.callV (As := [.int (nI t), .int (nI a)]) (rest := []) (t_noColumn_t hM hBW ht hc) ok_X10_noColumn (fitX (Nat.le_of_ble_eq_true rfl)) rfl ml_X10_129 ly_86 (by decide) (by decide) rfl rfl (Nat.le_of_ble_eq_true rfl) dX10_law_65 ?_
        refine P.if_ne_b (tgt := 95) dX10_law_68 (by decide) (fun c_68 => ?_) (fun c_68 => ?_)
        · exfalso; revert c_68; decide
        refine P.iload_n dX10_law_71 rfl rfl ?_
        refine P.if_eq_n (tgt := 85) dX10_law_72 (by decide) (by omega) (fun c_72 => ?_) (fun c_72 => ?_)
        · exfalso; omega
        refine P.iload_n dX10_law_75 rfl rfl ?_
        refine P.iconst dX10_law_76 ic_2 ?_
        refine P.icmp_eq_n (tgt := 85) dX10_law_77 (by decide) (by omega) (by omega) (fun c_77 => ?_) (fun c_77 => ?_)
        · exfalso; omega
        refine P.iload_n dX10_law_80 rfl rfl ?_
        refine P.iconst dX10_law_81 ic_4 ?_
        refine P.icmp_ne_n (tgt := 102) dX10_law_82 (by decide) (by omega) (by omega) (fun c_82 => ?_) (fun c_82 => ?_)
        · refine P.aload_n dX10_law_102 rfl rfl ?_
          refine P.iload_n dX10_law_103 rfl rfl ?_
          refine P.iload_n dX10_law_104 rfl rfl ?_
          refine P.iload_n dX10_law_105 rfl rfl ?_
          refine P.iload dX10_law_106 rfl ?_
          refine P.iconst dX10_law_108 ic_0 ?_
          refine P.lload dX10_law_109 rfl ?_
          refine P.lload dX10_law_111 rfl ?_
          refine P.callV (As := [.int (nI k), .int (nI t), .int (nI a), .int (nI b), .int (nI 0), .long c, .long d]) (rest := []) (t_add (k := k) (t := t) (a := a) (b := b) (u := 0) (c := c) (d := d) hM hBW h10) ok_X10_add (fitX (Nat.le_of_ble_eq_true rfl)) rfl ml_X10_143 ly_86 (by decide) (by decide) rfl rfl (Nat.le_of_ble_eq_true rfl) dX10_law_113 ?_
          exact P.iretX rfl dX10_law_116 ⟨rfl, mv_free (by decide) (mv_law (by omega) (fun a1 a3 => by exfalso; omega) hM), KN.z _ _ _, ((((((((((hCF.f (by decide)).f (by decide)).f (by decide)).f (by decide)).f (by decide)).f (by decide)).f (by decide)).f (by decide)).l (by decide)).l (by decide))⟩
        · exfalso; omega
      · exfalso; omega
    · exfalso; omega
  refine P.lload dX10_law_22 rfl ?_
  refine P.lconst (v := 0) dX10_law_24 rfl ?_
  refine P.lc_ge (tgt := 32) dX10_law_25 dX10_law_26 (by decide) (fun c_25 => ?_) (fun c_25 => ?_)
  · refine P.aload_n dX10_law_32 rfl rfl ?_
    refine g_X10_laws ly_86 (by decide) fl_X10_109 dX10_law_33 ?_
    refine Pm.topn (b := W.1) (hM.W) ?_
    refine P.bipush (v := nI 10) dX10_law_36 rfl ?_
    refine P.icmp_ne_n (tgt := 44) dX10_law_38 (by decide) (by omega) (by omega) (fun c_38 => ?_) (fun c_38 => ?_)
    · refine P.aload_n dX10_law_44 rfl rfl ?_
      refine P.iload_n dX10_law_45 rfl rfl ?_
      refine P.callV (As := [.int (nI t)]) (rest := []) (t_lack_ok hM hBW ht h0) ok_X10_lack (fitX (Nat.le_of_ble_eq_true rfl)) rfl ml_X10_116 ly_86 (by decide) (by decide) rfl rfl (Nat.le_of_ble_eq_true rfl) dX10_law_46 ?_
      refine P.if_eq_n (tgt := 62) dX10_law_49 (by decide) (by omega) (fun c_49 => ?_) (fun c_49 => ?_)
      · refine P.aload_n dX10_law_62 rfl rfl ?_
        refine P.iload_n dX10_law_63 rfl rfl ?_
        refine P.iload_n dX10_law_64 rfl rfl ?_
        refine P.callV (As := [.int (nI t), .int (nI a)]) (rest := []) (t_noColumn_t hM hBW ht hc) ok_X10_noColumn (fitX (Nat.le_of_ble_eq_true rfl)) rfl ml_X10_129 ly_86 (by decide) (by decide) rfl rfl (Nat.le_of_ble_eq_true rfl) dX10_law_65 ?_
        refine P.if_ne_b (tgt := 95) dX10_law_68 (by decide) (fun c_68 => ?_) (fun c_68 => ?_)
        · exfalso; revert c_68; decide
        refine P.iload_n dX10_law_71 rfl rfl ?_
        refine P.if_eq_n (tgt := 85) dX10_law_72 (by decide) (by omega) (fun c_72 => ?_) (fun c_72 => ?_)
        · exfalso; omega
        refine P.iload_n dX10_law_75 rfl rfl ?_
        refine P.iconst dX10_law_76 ic_2 ?_
        refine P.icmp_eq_n (tgt := 85) dX10_law_77 (by decide) (by omega) (by omega) (fun c_77 => ?_) (fun c_77 => ?_)
        · exfalso; omega
        refine P.iload_n dX10_law_80 rfl rfl ?_
        refine P.iconst dX10_law_81 ic_4 ?_
        refine P.icmp_ne_n (tgt := 102) dX10_law_82 (by decide) (by omega) (by omega) (fun c_82 => ?_) (fun c_82 => ?_)
        · refine P.aload_n dX10_law_102 rfl rfl ?_
          refine P.iload_n dX10_law_103 rfl rfl ?_
          refine P.iload_n dX10_law_104 rfl rfl ?_
          refine P.iload_n dX10_law_105 rfl rfl ?_
          refine P.iload dX10_law_106 rfl ?_
          refine P.iconst dX10_law_108 ic_0 ?_
          refine P.lload dX10_law_109 rfl ?_
          refine P.lload dX10_law_111 rfl ?_
          refine P.callV (As := [.int (nI k), .int (nI t), .int (nI a), .int (nI b), .int (nI 0), .long c, .long d]) (rest := []) (t_add (k := k) (t := t) (a := a) (b := b) (u := 0) (c := c) (d := d) hM hBW h10) ok_X10_add (fitX (Nat.le_of_ble_eq_true rfl)) rfl ml_X10_143 ly_86 (by decide) (by decide) rfl rfl (Nat.le_of_ble_eq_true rfl) dX10_law_113 ?_
          exact P.iretX rfl dX10_law_116 ⟨rfl, mv_free (by decide) (mv_law (by omega) (fun a1 a3 => by exfalso; omega) hM), KN.z _ _ _, ((((((((((hCF.f (by decide)).f (by decide)).f (by decide)).f (by decide)).f (by decide)).f (by decide)).f (by decide)).f (by decide)).l (by decide)).l (by decide))⟩
        · exfalso; omega
      · exfalso; omega
    · exfalso; omega
  · exact absurd (hk4 c_19) (Int64.not_le.mpr c_25)

set_option maxRecDepth 20000 in
theorem q_among_a {G : GG} {f : Nat → Nat → Nat} {l : Nat → Nat → Int64} {D : DB} {W : LB} {U : QB} {T : TB} {N : Nat} (hM : MV f l D W U T N) (hBW : BW D W U T) (hKN : KN f D W) {x y z u : Int32} (h10 : W.1 = 10) : SpX G mX10_among [.ref (ad G 86), .int x, .int y, .int z, .int u] f l (fun rv f1 l1 => rv = (some (.int (-4))) ∧ MJ f l f1 l1 D W U T N) := by
  obtain ⟨hD, hLW, hUW, hTW⟩ := id hBW
  have hR := hD.1
  have hW1 := hLW.1
  have hU1 := hUW.1
  have hJ1 := hUW.2.1
  refine SpX.of ok_X10_among.1 (Nat.le_of_ble_eq_true rfl) ?_
  show Pm G RX10 cX10_among 5 (KX G mX10_among (fun rv f1 l1 => rv = (some (.int (-4))) ∧ MJ f l f1 l1 D W U T N)) 0 [some (.ref (ad G 86)), some (.int x), some (.int y), some (.int z), some (.int u)] [] f l
  refine P.aload_n dX10_among_0 rfl rfl ?_
  refine P.iconst dX10_among_1 ic_0 ?_
  refine p_X10_thrown (a := 0) ly_86 (by decide) fl_X10_93 dX10_among_2 rfl ?_
  have hM := mv_free (k := 86) (j := 0) (v := 0) (by decide) hM
  have hKN := hKN.up (k := 86) (j := 0) (v := 0) (by decide)
  have hCF : CF f l (uf f 86 0 0) l := (CF.rf f l).f (by decide)
  generalize uf f 86 0 0 = f0 at hM hKN hCF ⊢
  refine P.aload_n dX10_among_5 rfl rfl ?_
  refine g_X10_laws ly_86 (by decide) fl_X10_109 dX10_among_6 ?_
  refine Pm.topn (b := W.1) (hM.W) ?_
  refine P.bipush (v := nI 10) dX10_among_9 rfl ?_
  refine P.icmp_ne_n (tgt := 17) dX10_among_11 (by decide) (by omega) (by omega) (fun c_11 => ?_) (fun c_11 => ?_)
  · exfalso; omega
  refine P.bipush (v := -4) dX10_among_14 rfl ?_
  exact P.iretX rfl dX10_among_16 ⟨rfl, hM, hKN, hCF⟩

set_option maxRecDepth 20000 in
theorem q_among_b {G : GG} {f : Nat → Nat → Nat} {l : Nat → Nat → Int64} {D : DB} {W : LB} {U : QB} {T : TB} {N : Nat} (hM : MV f l D W U T N) (hBW : BW D W U T) (hKN : KN f D W) (h10 : W.1 < 10) {x : Int32} (hx : inR x 4 = false) {y z u : Int32} : SpX G mX10_among [.ref (ad G 86), .int x, .int y, .int z, .int u] f l (fun rv f1 l1 => rv = (some (.int (-12))) ∧ MJ f l f1 l1 D W U T (N + 1)) := by
  obtain ⟨hD, hLW, hUW, hTW⟩ := id hBW
  have hR := hD.1
  have hW1 := hLW.1
  have hU1 := hUW.1
  have hJ1 := hUW.2.1
  refine SpX.of ok_X10_among.1 (Nat.le_of_ble_eq_true rfl) ?_
  show Pm G RX10 cX10_among 5 (KX G mX10_among (fun rv f1 l1 => rv = (some (.int (-12))) ∧ MJ f l f1 l1 D W U T (N + 1))) 0 [some (.ref (ad G 86)), some (.int x), some (.int y), some (.int z), some (.int u)] [] f l
  refine P.aload_n dX10_among_0 rfl rfl ?_
  refine P.iconst dX10_among_1 ic_0 ?_
  refine p_X10_thrown (a := 0) ly_86 (by decide) fl_X10_93 dX10_among_2 rfl ?_
  have hM := mv_free (k := 86) (j := 0) (v := 0) (by decide) hM
  have hKN := hKN.up (k := 86) (j := 0) (v := 0) (by decide)
  have hCF : CF f l (uf f 86 0 0) l := (CF.rf f l).f (by decide)
  generalize uf f 86 0 0 = f0 at hM hKN hCF ⊢
  refine P.aload_n dX10_among_5 rfl rfl ?_
  refine g_X10_laws ly_86 (by decide) fl_X10_109 dX10_among_6 ?_
  refine Pm.topn (b := W.1) (hM.W) ?_
  refine P.bipush (v := nI 10) dX10_among_9 rfl ?_
  refine P.icmp_ne_n (tgt := 17) dX10_among_11 (by decide) (by omega) (by omega) (fun c_11 => ?_) (fun c_11 => ?_)
  · refine P.aload_n dX10_among_17 rfl rfl ?_
    refine P.iload_n dX10_among_18 rfl rfl ?_
    refine P.callV (As := [.int x]) (rest := []) (t_lack_out hM hBW hx) ok_X10_lack (fitX (Nat.le_of_ble_eq_true rfl)) rfl ml_X10_116 ly_86 (by decide) (by decide) rfl rfl (Nat.le_of_ble_eq_true rfl) dX10_among_19 ?_
    refine P.if_eq_z (tgt := 35) dX10_among_22 (by decide) (show (-12 : Int32).toInt = -12 from rfl) (fun c_22 => ?_) (fun c_22 => ?_)
    · exfalso; revert c_22; decide
    refine P.aload_n dX10_among_25 rfl rfl ?_
    refine P.aload_n dX10_among_26 rfl rfl ?_
    refine P.iload_n dX10_among_27 rfl rfl ?_
    refine P.callV (As := [.int x]) (rest := [.ref (ad G 86)]) (t_lack_out hM hBW hx) ok_X10_lack (fitX (Nat.le_of_ble_eq_true rfl)) rfl ml_X10_116 ly_86 (by decide) (by decide) rfl rfl (Nat.le_of_ble_eq_true rfl) dX10_among_28 ?_
    refine P.callV (As := [.int (-12)]) (rest := []) (t_finds hM hBW) ok_X10_finds (fitX (Nat.le_of_ble_eq_true rfl)) rfl ml_X10_112 ly_86 (by decide) (by decide) rfl rfl (Nat.le_of_ble_eq_true rfl) dX10_among_31 ?_
    exact P.iretX rfl dX10_among_34 ⟨rfl, (mv_N hM), (KN.up (by omega) hKN), (hCF.f (by decide))⟩
  · exfalso; omega

set_option maxRecDepth 20000 in
theorem q_among_c {G : GG} {f : Nat → Nat → Nat} {l : Nat → Nat → Int64} {D : DB} {W : LB} {U : QB} {T : TB} {N : Nat} (hM : MV f l D W U T N) (hBW : BW D W U T) (hKN : KN f D W) (h10 : W.1 < 10) {t : Nat} (ht : t < 4) (h0 : T.1 t = 0) {y z u : Int32} : SpX G mX10_among [.ref (ad G 86), .int (nI t), .int y, .int z, .int u] f l (fun rv f1 l1 => rv = (some (.int (-11))) ∧ MJ f l f1 l1 D W U T (N + 1)) := by
  obtain ⟨hD, hLW, hUW, hTW⟩ := id hBW
  have hR := hD.1
  have hW1 := hLW.1
  have hU1 := hUW.1
  have hJ1 := hUW.2.1
  refine SpX.of ok_X10_among.1 (Nat.le_of_ble_eq_true rfl) ?_
  show Pm G RX10 cX10_among 5 (KX G mX10_among (fun rv f1 l1 => rv = (some (.int (-11))) ∧ MJ f l f1 l1 D W U T (N + 1))) 0 [some (.ref (ad G 86)), some (.int (nI t)), some (.int y), some (.int z), some (.int u)] [] f l
  refine P.aload_n dX10_among_0 rfl rfl ?_
  refine P.iconst dX10_among_1 ic_0 ?_
  refine p_X10_thrown (a := 0) ly_86 (by decide) fl_X10_93 dX10_among_2 rfl ?_
  have hM := mv_free (k := 86) (j := 0) (v := 0) (by decide) hM
  have hKN := hKN.up (k := 86) (j := 0) (v := 0) (by decide)
  have hCF : CF f l (uf f 86 0 0) l := (CF.rf f l).f (by decide)
  generalize uf f 86 0 0 = f0 at hM hKN hCF ⊢
  refine P.aload_n dX10_among_5 rfl rfl ?_
  refine g_X10_laws ly_86 (by decide) fl_X10_109 dX10_among_6 ?_
  refine Pm.topn (b := W.1) (hM.W) ?_
  refine P.bipush (v := nI 10) dX10_among_9 rfl ?_
  refine P.icmp_ne_n (tgt := 17) dX10_among_11 (by decide) (by omega) (by omega) (fun c_11 => ?_) (fun c_11 => ?_)
  · refine P.aload_n dX10_among_17 rfl rfl ?_
    refine P.iload_n dX10_among_18 rfl rfl ?_
    refine P.callV (As := [.int (nI t)]) (rest := []) (t_lack_null hM hBW ht h0) ok_X10_lack (fitX (Nat.le_of_ble_eq_true rfl)) rfl ml_X10_116 ly_86 (by decide) (by decide) rfl rfl (Nat.le_of_ble_eq_true rfl) dX10_among_19 ?_
    refine P.if_eq_z (tgt := 35) dX10_among_22 (by decide) (show (-11 : Int32).toInt = -11 from rfl) (fun c_22 => ?_) (fun c_22 => ?_)
    · exfalso; revert c_22; decide
    refine P.aload_n dX10_among_25 rfl rfl ?_
    refine P.aload_n dX10_among_26 rfl rfl ?_
    refine P.iload_n dX10_among_27 rfl rfl ?_
    refine P.callV (As := [.int (nI t)]) (rest := [.ref (ad G 86)]) (t_lack_null hM hBW ht h0) ok_X10_lack (fitX (Nat.le_of_ble_eq_true rfl)) rfl ml_X10_116 ly_86 (by decide) (by decide) rfl rfl (Nat.le_of_ble_eq_true rfl) dX10_among_28 ?_
    refine P.callV (As := [.int (-11)]) (rest := []) (t_finds hM hBW) ok_X10_finds (fitX (Nat.le_of_ble_eq_true rfl)) rfl ml_X10_112 ly_86 (by decide) (by decide) rfl rfl (Nat.le_of_ble_eq_true rfl) dX10_among_31 ?_
    exact P.iretX rfl dX10_among_34 ⟨rfl, (mv_N hM), (KN.up (by omega) hKN), (hCF.f (by decide))⟩
  · exfalso; omega

set_option maxRecDepth 20000 in
theorem q_among_d {G : GG} {f : Nat → Nat → Nat} {l : Nat → Nat → Int64} {D : DB} {W : LB} {U : QB} {T : TB} {N : Nat} (hM : MV f l D W U T N) (hBW : BW D W U T) (hKN : KN f D W) (h10 : W.1 < 10) {t : Nat} (ht : t < 4) (h0 : T.1 t ≠ 0) {y : Int32} (hy : inR y (T.1 t) = false) {z u : Int32} : SpX G mX10_among [.ref (ad G 86), .int (nI t), .int y, .int z, .int u] f l (fun rv f1 l1 => rv = (some (.int (-12))) ∧ MJ f l f1 l1 D W U T (N + 1)) := by
  obtain ⟨hD, hLW, hUW, hTW⟩ := id hBW
  have hR := hD.1
  have hW1 := hLW.1
  have hU1 := hUW.1
  have hJ1 := hUW.2.1
  have htc := hTW.1 t ht
  refine SpX.of ok_X10_among.1 (Nat.le_of_ble_eq_true rfl) ?_
  show Pm G RX10 cX10_among 5 (KX G mX10_among (fun rv f1 l1 => rv = (some (.int (-12))) ∧ MJ f l f1 l1 D W U T (N + 1))) 0 [some (.ref (ad G 86)), some (.int (nI t)), some (.int y), some (.int z), some (.int u)] [] f l
  refine P.aload_n dX10_among_0 rfl rfl ?_
  refine P.iconst dX10_among_1 ic_0 ?_
  refine p_X10_thrown (a := 0) ly_86 (by decide) fl_X10_93 dX10_among_2 rfl ?_
  have hM := mv_free (k := 86) (j := 0) (v := 0) (by decide) hM
  have hKN := hKN.up (k := 86) (j := 0) (v := 0) (by decide)
  have hCF : CF f l (uf f 86 0 0) l := (CF.rf f l).f (by decide)
  generalize uf f 86 0 0 = f0 at hM hKN hCF ⊢
  refine P.aload_n dX10_among_5 rfl rfl ?_
  refine g_X10_laws ly_86 (by decide) fl_X10_109 dX10_among_6 ?_
  refine Pm.topn (b := W.1) (hM.W) ?_
  refine P.bipush (v := nI 10) dX10_among_9 rfl ?_
  refine P.icmp_ne_n (tgt := 17) dX10_among_11 (by decide) (by omega) (by omega) (fun c_11 => ?_) (fun c_11 => ?_)
  · refine P.aload_n dX10_among_17 rfl rfl ?_
    refine P.iload_n dX10_among_18 rfl rfl ?_
    refine P.callV (As := [.int (nI t)]) (rest := []) (t_lack_ok hM hBW ht h0) ok_X10_lack (fitX (Nat.le_of_ble_eq_true rfl)) rfl ml_X10_116 ly_86 (by decide) (by decide) rfl rfl (Nat.le_of_ble_eq_true rfl) dX10_among_19 ?_
    refine P.if_eq_n (tgt := 35) dX10_among_22 (by decide) (by omega) (fun c_22 => ?_) (fun c_22 => ?_)
    · refine P.aload_n dX10_among_35 rfl rfl ?_
      refine P.iload_n dX10_among_36 rfl rfl ?_
      refine P.iload_n dX10_among_37 rfl rfl ?_
      refine P.callV (As := [.int (nI t), .int y]) (rest := []) (t_noColumn_f hM hBW ht hy) ok_X10_noColumn (fitX (Nat.le_of_ble_eq_true rfl)) rfl ml_X10_129 ly_86 (by decide) (by decide) rfl rfl (Nat.le_of_ble_eq_true rfl) dX10_among_38 ?_
      refine P.if_eq_b (tgt := 51) dX10_among_41 (by decide) (fun c_41 => ?_) (fun c_41 => ?_)
      · exfalso; revert c_41; decide
      refine P.aload_n dX10_among_44 rfl rfl ?_
      refine P.bipush (v := -12) dX10_among_45 rfl ?_
      refine P.callV (As := [.int (-12)]) (rest := []) (t_finds hM hBW) ok_X10_finds (fitX (Nat.le_of_ble_eq_true rfl)) rfl ml_X10_112 ly_86 (by decide) (by decide) rfl rfl (Nat.le_of_ble_eq_true rfl) dX10_among_47 ?_
      exact P.iretX rfl dX10_among_50 ⟨rfl, (mv_N hM), (KN.up (by omega) hKN), (hCF.f (by decide))⟩
    · exfalso; omega
  · exfalso; omega

set_option maxRecDepth 20000 in
theorem q_among_e {G : GG} {f : Nat → Nat → Nat} {l : Nat → Nat → Int64} {D : DB} {W : LB} {U : QB} {T : TB} {N : Nat} (hM : MV f l D W U T N) (hBW : BW D W U T) (hKN : KN f D W) (h10 : W.1 < 10) {t : Nat} (ht : t < 4) (h0 : T.1 t ≠ 0) {c : Nat} (hc : c < T.1 t) {x : Int32} (hx : inR x 4 = false) {z : Int32} : SpX G mX10_among [.ref (ad G 86), .int (nI t), .int (nI c), .int x, .int z] f l (fun rv f1 l1 => rv = (some (.int (-12))) ∧ MJ f l f1 l1 D W U T (N + 1)) := by
  obtain ⟨hD, hLW, hUW, hTW⟩ := id hBW
  have hR := hD.1
  have hW1 := hLW.1
  have hU1 := hUW.1
  have hJ1 := hUW.2.1
  have htc := hTW.1 t ht
  refine SpX.of ok_X10_among.1 (Nat.le_of_ble_eq_true rfl) ?_
  show Pm G RX10 cX10_among 5 (KX G mX10_among (fun rv f1 l1 => rv = (some (.int (-12))) ∧ MJ f l f1 l1 D W U T (N + 1))) 0 [some (.ref (ad G 86)), some (.int (nI t)), some (.int (nI c)), some (.int x), some (.int z)] [] f l
  refine P.aload_n dX10_among_0 rfl rfl ?_
  refine P.iconst dX10_among_1 ic_0 ?_
  refine p_X10_thrown (a := 0) ly_86 (by decide) fl_X10_93 dX10_among_2 rfl ?_
  have hM := mv_free (k := 86) (j := 0) (v := 0) (by decide) hM
  have hKN := hKN.up (k := 86) (j := 0) (v := 0) (by decide)
  have hCF : CF f l (uf f 86 0 0) l := (CF.rf f l).f (by decide)
  generalize uf f 86 0 0 = f0 at hM hKN hCF ⊢
  refine P.aload_n dX10_among_5 rfl rfl ?_
  refine g_X10_laws ly_86 (by decide) fl_X10_109 dX10_among_6 ?_
  refine Pm.topn (b := W.1) (hM.W) ?_
  refine P.bipush (v := nI 10) dX10_among_9 rfl ?_
  refine P.icmp_ne_n (tgt := 17) dX10_among_11 (by decide) (by omega) (by omega) (fun c_11 => ?_) (fun c_11 => ?_)
  · refine P.aload_n dX10_among_17 rfl rfl ?_
    refine P.iload_n dX10_among_18 rfl rfl ?_
    refine P.callV (As := [.int (nI t)]) (rest := []) (t_lack_ok hM hBW ht h0) ok_X10_lack (fitX (Nat.le_of_ble_eq_true rfl)) rfl ml_X10_116 ly_86 (by decide) (by decide) rfl rfl (Nat.le_of_ble_eq_true rfl) dX10_among_19 ?_
    refine P.if_eq_n (tgt := 35) dX10_among_22 (by decide) (by omega) (fun c_22 => ?_) (fun c_22 => ?_)
    · refine P.aload_n dX10_among_35 rfl rfl ?_
      refine P.iload_n dX10_among_36 rfl rfl ?_
      refine P.iload_n dX10_among_37 rfl rfl ?_
      refine P.callV (As := [.int (nI t), .int (nI c)]) (rest := []) (t_noColumn_t hM hBW ht hc) ok_X10_noColumn (fitX (Nat.le_of_ble_eq_true rfl)) rfl ml_X10_129 ly_86 (by decide) (by decide) rfl rfl (Nat.le_of_ble_eq_true rfl) dX10_among_38 ?_
      refine P.if_eq_b (tgt := 51) dX10_among_41 (by decide) (fun c_41 => ?_) (fun c_41 => ?_)
      · refine P.aload_n dX10_among_51 rfl rfl ?_
        refine P.iload_n dX10_among_52 rfl rfl ?_
        refine P.callV (As := [.int x]) (rest := []) (t_lack_out hM hBW hx) ok_X10_lack (fitX (Nat.le_of_ble_eq_true rfl)) rfl ml_X10_116 ly_86 (by decide) (by decide) rfl rfl (Nat.le_of_ble_eq_true rfl) dX10_among_53 ?_
        refine P.if_eq_z (tgt := 69) dX10_among_56 (by decide) (show (-12 : Int32).toInt = -12 from rfl) (fun c_56 => ?_) (fun c_56 => ?_)
        · exfalso; revert c_56; decide
        refine P.aload_n dX10_among_59 rfl rfl ?_
        refine P.aload_n dX10_among_60 rfl rfl ?_
        refine P.iload_n dX10_among_61 rfl rfl ?_
        refine P.callV (As := [.int x]) (rest := [.ref (ad G 86)]) (t_lack_out hM hBW hx) ok_X10_lack (fitX (Nat.le_of_ble_eq_true rfl)) rfl ml_X10_116 ly_86 (by decide) (by decide) rfl rfl (Nat.le_of_ble_eq_true rfl) dX10_among_62 ?_
        refine P.callV (As := [.int (-12)]) (rest := []) (t_finds hM hBW) ok_X10_finds (fitX (Nat.le_of_ble_eq_true rfl)) rfl ml_X10_112 ly_86 (by decide) (by decide) rfl rfl (Nat.le_of_ble_eq_true rfl) dX10_among_65 ?_
        exact P.iretX rfl dX10_among_68 ⟨rfl, (mv_N hM), (KN.up (by omega) hKN), (hCF.f (by decide))⟩
      · exfalso; revert c_41; decide
    · exfalso; omega
  · exfalso; omega

set_option maxRecDepth 20000 in
theorem q_among_f {G : GG} {f : Nat → Nat → Nat} {l : Nat → Nat → Int64} {D : DB} {W : LB} {U : QB} {T : TB} {N : Nat} (hM : MV f l D W U T N) (hBW : BW D W U T) (hKN : KN f D W) (h10 : W.1 < 10) {t : Nat} (ht : t < 4) (h0 : T.1 t ≠ 0) {c : Nat} (hc : c < T.1 t) {u : Nat} (hu : u < 4) (hu0 : T.1 u = 0) {z : Int32} : SpX G mX10_among [.ref (ad G 86), .int (nI t), .int (nI c), .int (nI u), .int z] f l (fun rv f1 l1 => rv = (some (.int (-11))) ∧ MJ f l f1 l1 D W U T (N + 1)) := by
  obtain ⟨hD, hLW, hUW, hTW⟩ := id hBW
  have hR := hD.1
  have hW1 := hLW.1
  have hU1 := hUW.1
  have hJ1 := hUW.2.1
  have htc := hTW.1 t ht
  refine SpX.of ok_X10_among.1 (Nat.le_of_ble_eq_true rfl) ?_
  show Pm G RX10 cX10_among 5 (KX G mX10_among (fun rv f1 l1 => rv = (some (.int (-11))) ∧ MJ f l f1 l1 D W U T (N + 1))) 0 [some (.ref (ad G 86)), some (.int (nI t)), some (.int (nI c)), some (.int (nI u)), some (.int z)] [] f l
  refine P.aload_n dX10_among_0 rfl rfl ?_
  refine P.iconst dX10_among_1 ic_0 ?_
  refine p_X10_thrown (a := 0) ly_86 (by decide) fl_X10_93 dX10_among_2 rfl ?_
  have hM := mv_free (k := 86) (j := 0) (v := 0) (by decide) hM
  have hKN := hKN.up (k := 86) (j := 0) (v := 0) (by decide)
  have hCF : CF f l (uf f 86 0 0) l := (CF.rf f l).f (by decide)
  generalize uf f 86 0 0 = f0 at hM hKN hCF ⊢
  refine P.aload_n dX10_among_5 rfl rfl ?_
  refine g_X10_laws ly_86 (by decide) fl_X10_109 dX10_among_6 ?_
  refine Pm.topn (b := W.1) (hM.W) ?_
  refine P.bipush (v := nI 10) dX10_among_9 rfl ?_
  refine P.icmp_ne_n (tgt := 17) dX10_among_11 (by decide) (by omega) (by omega) (fun c_11 => ?_) (fun c_11 => ?_)
  · refine P.aload_n dX10_among_17 rfl rfl ?_
    refine P.iload_n dX10_among_18 rfl rfl ?_
    refine P.callV (As := [.int (nI t)]) (rest := []) (t_lack_ok hM hBW ht h0) ok_X10_lack (fitX (Nat.le_of_ble_eq_true rfl)) rfl ml_X10_116 ly_86 (by decide) (by decide) rfl rfl (Nat.le_of_ble_eq_true rfl) dX10_among_19 ?_
    refine P.if_eq_n (tgt := 35) dX10_among_22 (by decide) (by omega) (fun c_22 => ?_) (fun c_22 => ?_)
    · refine P.aload_n dX10_among_35 rfl rfl ?_
      refine P.iload_n dX10_among_36 rfl rfl ?_
      refine P.iload_n dX10_among_37 rfl rfl ?_
      refine P.callV (As := [.int (nI t), .int (nI c)]) (rest := []) (t_noColumn_t hM hBW ht hc) ok_X10_noColumn (fitX (Nat.le_of_ble_eq_true rfl)) rfl ml_X10_129 ly_86 (by decide) (by decide) rfl rfl (Nat.le_of_ble_eq_true rfl) dX10_among_38 ?_
      refine P.if_eq_b (tgt := 51) dX10_among_41 (by decide) (fun c_41 => ?_) (fun c_41 => ?_)
      · refine P.aload_n dX10_among_51 rfl rfl ?_
        refine P.iload_n dX10_among_52 rfl rfl ?_
        refine P.callV (As := [.int (nI u)]) (rest := []) (t_lack_null hM hBW hu hu0) ok_X10_lack (fitX (Nat.le_of_ble_eq_true rfl)) rfl ml_X10_116 ly_86 (by decide) (by decide) rfl rfl (Nat.le_of_ble_eq_true rfl) dX10_among_53 ?_
        refine P.if_eq_z (tgt := 69) dX10_among_56 (by decide) (show (-11 : Int32).toInt = -11 from rfl) (fun c_56 => ?_) (fun c_56 => ?_)
        · exfalso; revert c_56; decide
        refine P.aload_n dX10_among_59 rfl rfl ?_
        refine P.aload_n dX10_among_60 rfl rfl ?_
        refine P.iload_n dX10_among_61 rfl rfl ?_
        refine P.callV (As := [.int (nI u)]) (rest := [.ref (ad G 86)]) (t_lack_null hM hBW hu hu0) ok_X10_lack (fitX (Nat.le_of_ble_eq_true rfl)) rfl ml_X10_116 ly_86 (by decide) (by decide) rfl rfl (Nat.le_of_ble_eq_true rfl) dX10_among_62 ?_
        refine P.callV (As := [.int (-11)]) (rest := []) (t_finds hM hBW) ok_X10_finds (fitX (Nat.le_of_ble_eq_true rfl)) rfl ml_X10_112 ly_86 (by decide) (by decide) rfl rfl (Nat.le_of_ble_eq_true rfl) dX10_among_65 ?_
        exact P.iretX rfl dX10_among_68 ⟨rfl, (mv_N hM), (KN.up (by omega) hKN), (hCF.f (by decide))⟩
      · exfalso; revert c_41; decide
    · exfalso; omega
  · exfalso; omega

set_option maxRecDepth 20000 in
theorem q_among_g {G : GG} {f : Nat → Nat → Nat} {l : Nat → Nat → Int64} {D : DB} {W : LB} {U : QB} {T : TB} {N : Nat} (hM : MV f l D W U T N) (hBW : BW D W U T) (hKN : KN f D W) (h10 : W.1 < 10) {t : Nat} (ht : t < 4) (h0 : T.1 t ≠ 0) {c : Nat} (hc : c < T.1 t) {u : Nat} (hu : u < 4) (hu0 : T.1 u ≠ 0) {y : Int32} (hy : inR y (T.1 u) = false) : SpX G mX10_among [.ref (ad G 86), .int (nI t), .int (nI c), .int (nI u), .int y] f l (fun rv f1 l1 => rv = (some (.int (-12))) ∧ MJ f l f1 l1 D W U T (N + 1)) := by
  obtain ⟨hD, hLW, hUW, hTW⟩ := id hBW
  have hR := hD.1
  have hW1 := hLW.1
  have hU1 := hUW.1
  have hJ1 := hUW.2.1
  have htc := hTW.1 t ht
  refine SpX.of ok_X10_among.1 (Nat.le_of_ble_eq_true rfl) ?_
  show Pm G RX10 cX10_among 5 (KX G mX10_among (fun rv f1 l1 => rv = (some (.int (-12))) ∧ MJ f l f1 l1 D W U T (N + 1))) 0 [some (.ref (ad G 86)), some (.int (nI t)), some (.int (nI c)), some (.int (nI u)), some (.int y)] [] f l
  refine P.aload_n dX10_among_0 rfl rfl ?_
  refine P.iconst dX10_among_1 ic_0 ?_
  refine p_X10_thrown (a := 0) ly_86 (by decide) fl_X10_93 dX10_among_2 rfl ?_
  have hM := mv_free (k := 86) (j := 0) (v := 0) (by decide) hM
  have hKN := hKN.up (k := 86) (j := 0) (v := 0) (by decide)
  have hCF : CF f l (uf f 86 0 0) l := (CF.rf f l).f (by decide)
  generalize uf f 86 0 0 = f0 at hM hKN hCF ⊢
  refine P.aload_n dX10_among_5 rfl rfl ?_
  refine g_X10_laws ly_86 (by decide) fl_X10_109 dX10_among_6 ?_
  refine Pm.topn (b := W.1) (hM.W) ?_
  refine P.bipush (v := nI 10) dX10_among_9 rfl ?_
  refine P.icmp_ne_n (tgt := 17) dX10_among_11 (by decide) (by omega) (by omega) (fun c_11 => ?_) (fun c_11 => ?_)
  · refine P.aload_n dX10_among_17 rfl rfl ?_
    refine P.iload_n dX10_among_18 rfl rfl ?_
    refine P.callV (As := [.int (nI t)]) (rest := []) (t_lack_ok hM hBW ht h0) ok_X10_lack (fitX (Nat.le_of_ble_eq_true rfl)) rfl ml_X10_116 ly_86 (by decide) (by decide) rfl rfl (Nat.le_of_ble_eq_true rfl) dX10_among_19 ?_
    refine P.if_eq_n (tgt := 35) dX10_among_22 (by decide) (by omega) (fun c_22 => ?_) (fun c_22 => ?_)
    · refine P.aload_n dX10_among_35 rfl rfl ?_
      refine P.iload_n dX10_among_36 rfl rfl ?_
      refine P.iload_n dX10_among_37 rfl rfl ?_
      refine P.callV (As := [.int (nI t), .int (nI c)]) (rest := []) (t_noColumn_t hM hBW ht hc) ok_X10_noColumn (fitX (Nat.le_of_ble_eq_true rfl)) rfl ml_X10_129 ly_86 (by decide) (by decide) rfl rfl (Nat.le_of_ble_eq_true rfl) dX10_among_38 ?_
      refine P.if_eq_b (tgt := 51) dX10_among_41 (by decide) (fun c_41 => ?_) (fun c_41 => ?_)
      · refine P.aload_n dX10_among_51 rfl rfl ?_
        refine P.iload_n dX10_among_52 rfl rfl ?_
        refine P.callV (As := [.int (nI u)]) (rest := []) (t_lack_ok hM hBW hu hu0) ok_X10_lack (fitX (Nat.le_of_ble_eq_true rfl)) rfl ml_X10_116 ly_86 (by decide) (by decide) rfl rfl (Nat.le_of_ble_eq_true rfl) dX10_among_53 ?_
        refine P.if_eq_n (tgt := 69) dX10_among_56 (by decide) (by omega) (fun c_56 => ?_) (fun c_56 => ?_)
        · refine P.aload_n dX10_among_69 rfl rfl ?_
          refine P.iload_n dX10_among_70 rfl rfl ?_
          refine P.iload dX10_among_71 rfl ?_
          refine P.callV (As := [.int (nI u), .int y]) (rest := []) (t_noColumn_f hM hBW hu hy) ok_X10_noColumn (fitX (Nat.le_of_ble_eq_true rfl)) rfl ml_X10_129 ly_86 (by decide) (by decide) rfl rfl (Nat.le_of_ble_eq_true rfl) dX10_among_73 ?_
          refine P.if_eq_b (tgt := 86) dX10_among_76 (by decide) (fun c_76 => ?_) (fun c_76 => ?_)
          · exfalso; revert c_76; decide
          refine P.aload_n dX10_among_79 rfl rfl ?_
          refine P.bipush (v := -12) dX10_among_80 rfl ?_
          refine P.callV (As := [.int (-12)]) (rest := []) (t_finds hM hBW) ok_X10_finds (fitX (Nat.le_of_ble_eq_true rfl)) rfl ml_X10_112 ly_86 (by decide) (by decide) rfl rfl (Nat.le_of_ble_eq_true rfl) dX10_among_82 ?_
          exact P.iretX rfl dX10_among_85 ⟨rfl, (mv_N hM), (KN.up (by omega) hKN), (hCF.f (by decide))⟩
        · exfalso; omega
      · exfalso; revert c_41; decide
    · exfalso; omega
  · exfalso; omega

set_option maxRecDepth 20000 in
theorem q_among_h {G : GG} {f : Nat → Nat → Nat} {l : Nat → Nat → Int64} {D : DB} {W : LB} {U : QB} {T : TB} {N : Nat} (hM : MV f l D W U T N) (hBW : BW D W U T) (hKN : KN f D W) (h10 : W.1 < 10) {t : Nat} (ht : t < 4) (h0 : T.1 t ≠ 0) {c : Nat} (hc : c < T.1 t) {u : Nat} (hu : u < 4) (hu0 : T.1 u ≠ 0) {d : Nat} (hd : d < T.1 u) : SpX G mX10_among [.ref (ad G 86), .int (nI t), .int (nI c), .int (nI u), .int (nI d)] f l (fun rv f1 l1 => rv = (some (.int (nI W.1))) ∧ MJ f l f1 l1 D (W.1 + 1, (uf (uf (uf (uf (uf (uf W.2.1 W.1 0 5) W.1 1 t) W.1 7 1) W.1 2 c) W.1 4 u) W.1 3 d), W.2.2) U T N) := by
  obtain ⟨hD, hLW, hUW, hTW⟩ := id hBW
  have hR := hD.1
  have hW1 := hLW.1
  have hU1 := hUW.1
  have hJ1 := hUW.2.1
  have htc := hTW.1 t ht
  refine SpX.of ok_X10_among.1 (Nat.le_of_ble_eq_true rfl) ?_
  show Pm G RX10 cX10_among 5 (KX G mX10_among (fun rv f1 l1 => rv = (some (.int (nI W.1))) ∧ MJ f l f1 l1 D (W.1 + 1, (uf (uf (uf (uf (uf (uf W.2.1 W.1 0 5) W.1 1 t) W.1 7 1) W.1 2 c) W.1 4 u) W.1 3 d), W.2.2) U T N)) 0 [some (.ref (ad G 86)), some (.int (nI t)), some (.int (nI c)), some (.int (nI u)), some (.int (nI d))] [] f l
  refine P.aload_n dX10_among_0 rfl rfl ?_
  refine P.iconst dX10_among_1 ic_0 ?_
  refine p_X10_thrown (a := 0) ly_86 (by decide) fl_X10_93 dX10_among_2 rfl ?_
  have hM := mv_free (k := 86) (j := 0) (v := 0) (by decide) hM
  have hKN := hKN.up (k := 86) (j := 0) (v := 0) (by decide)
  have hCF : CF f l (uf f 86 0 0) l := (CF.rf f l).f (by decide)
  generalize uf f 86 0 0 = f0 at hM hKN hCF ⊢
  refine P.aload_n dX10_among_5 rfl rfl ?_
  refine g_X10_laws ly_86 (by decide) fl_X10_109 dX10_among_6 ?_
  refine Pm.topn (b := W.1) (hM.W) ?_
  refine P.bipush (v := nI 10) dX10_among_9 rfl ?_
  refine P.icmp_ne_n (tgt := 17) dX10_among_11 (by decide) (by omega) (by omega) (fun c_11 => ?_) (fun c_11 => ?_)
  · refine P.aload_n dX10_among_17 rfl rfl ?_
    refine P.iload_n dX10_among_18 rfl rfl ?_
    refine P.callV (As := [.int (nI t)]) (rest := []) (t_lack_ok hM hBW ht h0) ok_X10_lack (fitX (Nat.le_of_ble_eq_true rfl)) rfl ml_X10_116 ly_86 (by decide) (by decide) rfl rfl (Nat.le_of_ble_eq_true rfl) dX10_among_19 ?_
    refine P.if_eq_n (tgt := 35) dX10_among_22 (by decide) (by omega) (fun c_22 => ?_) (fun c_22 => ?_)
    · refine P.aload_n dX10_among_35 rfl rfl ?_
      refine P.iload_n dX10_among_36 rfl rfl ?_
      refine P.iload_n dX10_among_37 rfl rfl ?_
      refine P.callV (As := [.int (nI t), .int (nI c)]) (rest := []) (t_noColumn_t hM hBW ht hc) ok_X10_noColumn (fitX (Nat.le_of_ble_eq_true rfl)) rfl ml_X10_129 ly_86 (by decide) (by decide) rfl rfl (Nat.le_of_ble_eq_true rfl) dX10_among_38 ?_
      refine P.if_eq_b (tgt := 51) dX10_among_41 (by decide) (fun c_41 => ?_) (fun c_41 => ?_)
      · refine P.aload_n dX10_among_51 rfl rfl ?_
        refine P.iload_n dX10_among_52 rfl rfl ?_
        refine P.callV (As := [.int (nI u)]) (rest := []) (t_lack_ok hM hBW hu hu0) ok_X10_lack (fitX (Nat.le_of_ble_eq_true rfl)) rfl ml_X10_116 ly_86 (by decide) (by decide) rfl rfl (Nat.le_of_ble_eq_true rfl) dX10_among_53 ?_
        refine P.if_eq_n (tgt := 69) dX10_among_56 (by decide) (by omega) (fun c_56 => ?_) (fun c_56 => ?_)
        · refine P.aload_n dX10_among_69 rfl rfl ?_
          refine P.iload_n dX10_among_70 rfl rfl ?_
          refine P.iload dX10_among_71 rfl ?_
          refine P.callV (As := [.int (nI u), .int (nI d)]) (rest := []) (t_noColumn_t hM hBW hu hd) ok_X10_noColumn (fitX (Nat.le_of_ble_eq_true rfl)) rfl ml_X10_129 ly_86 (by decide) (by decide) rfl rfl (Nat.le_of_ble_eq_true rfl) dX10_among_73 ?_
          refine P.if_eq_b (tgt := 86) dX10_among_76 (by decide) (fun c_76 => ?_) (fun c_76 => ?_)
          · refine P.aload_n dX10_among_86 rfl rfl ?_
            refine P.iconst dX10_among_87 ic_5 ?_
            refine P.iload_n dX10_among_88 rfl rfl ?_
            refine P.iload_n dX10_among_89 rfl rfl ?_
            refine P.iload dX10_among_90 rfl ?_
            refine P.iload_n dX10_among_92 rfl rfl ?_
            refine P.lconst (v := 0) dX10_among_93 rfl ?_
            refine P.lconst (v := 0) dX10_among_94 rfl ?_
            refine P.callV (As := [.int (nI 5), .int (nI t), .int (nI c), .int (nI d), .int (nI u), .long 0, .long 0]) (rest := []) (t_add (k := 5) (t := t) (a := c) (b := d) (u := u) (c := 0) (d := 0) hM hBW h10) ok_X10_add (fitX (Nat.le_of_ble_eq_true rfl)) rfl ml_X10_143 ly_86 (by decide) (by decide) rfl rfl (Nat.le_of_ble_eq_true rfl) dX10_among_95 ?_
            exact P.iretX rfl dX10_among_98 ⟨rfl, mv_free (by decide) (mv_among hM), KN.z _ _ _, ((((((((((hCF.f (by decide)).f (by decide)).f (by decide)).f (by decide)).f (by decide)).f (by decide)).f (by decide)).f (by decide)).l (by decide)).l (by decide))⟩
          · exfalso; revert c_76; decide
        · exfalso; omega
      · exfalso; revert c_41; decide
    · exfalso; omega
  · exfalso; omega

set_option maxRecDepth 20000 in
theorem q_force_a {G : GG} {f : Nat → Nat → Nat} {l : Nat → Nat → Int64} {D : DB} {W : LB} {U : QB} {T : TB} {N : Nat} (hM : MV f l D W U T N) (hBW : BW D W U T) (hKN : KN f D W) {x : Int32} (hx : inR x W.1 = false) {b : Nat} (hb : b < 2)  : SpX G mX10_force [.ref (ad G 86), .int x, .int (nI b)] f l (fun rv f1 l1 => rv = (some (.int (-1))) ∧ MJ f l f1 l1 D W U T N) := by
  obtain ⟨hD, hLW, hUW, hTW⟩ := id hBW
  have hR := hD.1
  have hW1 := hLW.1
  have hU1 := hUW.1
  have hJ1 := hUW.2.1
  refine SpX.of ok_X10_force.1 (Nat.le_of_ble_eq_true rfl) ?_
  show Pm G RX10 cX10_force 4 (KX G mX10_force (fun rv f1 l1 => rv = (some (.int (-1))) ∧ MJ f l f1 l1 D W U T N)) 0 [some (.ref (ad G 86)), some (.int x), some (.int (nI b)), none] [] f l
  refine P.aload_n dX10_force_0 rfl rfl ?_
  refine P.iconst dX10_force_1 ic_0 ?_
  refine p_X10_thrown (a := 0) ly_86 (by decide) fl_X10_93 dX10_force_2 rfl ?_
  have hM := mv_free (k := 86) (j := 0) (v := 0) (by decide) hM
  have hKN := hKN.up (k := 86) (j := 0) (v := 0) (by decide)
  have hCF : CF f l (uf f 86 0 0) l := (CF.rf f l).f (by decide)
  generalize uf f 86 0 0 = f0 at hM hKN hCF ⊢
  refine P.aload_n dX10_force_5 rfl rfl ?_
  refine P.iload_n dX10_force_6 rfl rfl ?_
  refine P.callV (As := [.int x]) (rest := []) (t_noLaw_f hM hBW hx) ok_X10_noLaw (fitX (Nat.le_of_ble_eq_true rfl)) rfl ml_X10_147 ly_86 (by decide) (by decide) rfl rfl (Nat.le_of_ble_eq_true rfl) dX10_force_7 ?_
  refine P.if_eq_b (tgt := 15) dX10_force_10 (by decide) (fun c_10 => ?_) (fun c_10 => ?_)
  · exfalso; revert c_10; decide
  refine P.iconst (v := -1) dX10_force_13 rfl ?_
  exact P.iretX rfl dX10_force_14 ⟨rfl, hM, hKN, hCF⟩

set_option maxRecDepth 20000 in
theorem q_force_b {G : GG} {f : Nat → Nat → Nat} {l : Nat → Nat → Int64} {D : DB} {W : LB} {U : QB} {T : TB} {N : Nat} (hM : MV f l D W U T N) (hBW : BW D W U T) (hKN : KN f D W) {r : Nat} (hr : r < W.1) {b : Nat} (hb : b < 2)  : SpX G mX10_force [.ref (ad G 86), .int (nI r), .int (nI b)] f l (fun rv f1 l1 => rv = (some (.int (nI (W.2.1 r 7)))) ∧ MJ f l f1 l1 D (W.1, uf W.2.1 r 7 b, W.2.2) U T N) := by
  obtain ⟨hD, hLW, hUW, hTW⟩ := id hBW
  have hR := hD.1
  have hW1 := hLW.1
  have hU1 := hUW.1
  have hJ1 := hUW.2.1
  have hw7 := (hLW.2 r hr).2.2.2.2.2
  refine SpX.of ok_X10_force.1 (Nat.le_of_ble_eq_true rfl) ?_
  show Pm G RX10 cX10_force 4 (KX G mX10_force (fun rv f1 l1 => rv = (some (.int (nI (W.2.1 r 7)))) ∧ MJ f l f1 l1 D (W.1, uf W.2.1 r 7 b, W.2.2) U T N)) 0 [some (.ref (ad G 86)), some (.int (nI r)), some (.int (nI b)), none] [] f l
  refine P.aload_n dX10_force_0 rfl rfl ?_
  refine P.iconst dX10_force_1 ic_0 ?_
  refine p_X10_thrown (a := 0) ly_86 (by decide) fl_X10_93 dX10_force_2 rfl ?_
  have hM := mv_free (k := 86) (j := 0) (v := 0) (by decide) hM
  have hKN := hKN.up (k := 86) (j := 0) (v := 0) (by decide)
  have hCF : CF f l (uf f 86 0 0) l := (CF.rf f l).f (by decide)
  generalize uf f 86 0 0 = f0 at hM hKN hCF ⊢
  refine P.aload_n dX10_force_5 rfl rfl ?_
  refine P.iload_n dX10_force_6 rfl rfl ?_
  refine P.callV (As := [.int (nI r)]) (rest := []) (t_noLaw_t hM hBW hr) ok_X10_noLaw (fitX (Nat.le_of_ble_eq_true rfl)) rfl ml_X10_147 ly_86 (by decide) (by decide) rfl rfl (Nat.le_of_ble_eq_true rfl) dX10_force_7 ?_
  refine P.if_eq_b (tgt := 15) dX10_force_10 (by decide) (fun c_10 => ?_) (fun c_10 => ?_)
  · refine P.aload_n dX10_force_15 rfl rfl ?_
    refine g_X10_isInForce (q := 101) ly_86 (by decide) (by decide) fl_X10_54 dX10_force_16 ?_
    refine P.iload_n dX10_force_19 rfl rfl ?_
    refine a_za ly_101 (by decide) (by omega) (by decide) dX10_force_20 ?_
    refine Pm.topn (b := W.2.1 r 7) ((hM.frc r (by omega))) ?_
    refine P.if_eq_n (tgt := 28) dX10_force_21 (by decide) (by omega) (fun c_21 => ?_) (fun c_21 => ?_)
    · refine P.iconst dX10_force_28 ic_0 ?_
      refine P.istore_n dX10_force_29 rfl (by decide) ?_
      refine P.aload_n dX10_force_30 rfl rfl ?_
      refine g_X10_isInForce (q := 101) ly_86 (by decide) (by decide) fl_X10_54 dX10_force_31 ?_
      refine P.iload_n dX10_force_34 rfl rfl ?_
      refine P.iload_n dX10_force_35 rfl rfl ?_
      refine s_za (a := b) ly_101 (by decide) (by omega) (by decide) dX10_force_36 rfl (by omega) ?_
      refine P.aload_n dX10_force_37 rfl rfl ?_
      refine P.iconst dX10_force_38 ic_0 ?_
      refine p_X10_isKnown (a := 0) ly_86 (by decide) fl_X10_121 dX10_force_39 rfl (by omega) ?_
      refine P.iload_n dX10_force_42 rfl rfl ?_
      exact P.iretX rfl dX10_force_43 ⟨by rw [show W.2.1 r 7 = 0 by omega], (mv_free (by decide) (mv_frc hM)), (KN.z _ _ _), ((hCF.f (by decide)).f (by decide))⟩
    refine P.iconst dX10_force_24 ic_1 ?_
    refine P.goto (tgt := 29) dX10_force_25 (by decide) ?_
    refine P.istore_n dX10_force_29 rfl (by decide) ?_
    refine P.aload_n dX10_force_30 rfl rfl ?_
    refine g_X10_isInForce (q := 101) ly_86 (by decide) (by decide) fl_X10_54 dX10_force_31 ?_
    refine P.iload_n dX10_force_34 rfl rfl ?_
    refine P.iload_n dX10_force_35 rfl rfl ?_
    refine s_za (a := b) ly_101 (by decide) (by omega) (by decide) dX10_force_36 rfl (by omega) ?_
    refine P.aload_n dX10_force_37 rfl rfl ?_
    refine P.iconst dX10_force_38 ic_0 ?_
    refine p_X10_isKnown (a := 0) ly_86 (by decide) fl_X10_121 dX10_force_39 rfl (by omega) ?_
    refine P.iload_n dX10_force_42 rfl rfl ?_
    exact P.iretX rfl dX10_force_43 ⟨by rw [show W.2.1 r 7 = 1 by omega], (mv_free (by decide) (mv_frc hM)), (KN.z _ _ _), ((hCF.f (by decide)).f (by decide))⟩
  · exfalso; revert c_10; decide

set_option maxRecDepth 20000 in
theorem q_most_a {G : GG} {f : Nat → Nat → Nat} {l : Nat → Nat → Int64} {D : DB} {W : LB} {U : QB} {T : TB} {N : Nat} (hM : MV f l D W U T N) (hBW : BW D W U T) (hKN : KN f D W) {x : Int32} (hx : inR x W.1 = false)  : SpX G mX10_most [.ref (ad G 86), .int x] f l (fun rv f1 l1 => rv = (some (.long (-1))) ∧ MJ f l f1 l1 D W U T N) := by
  obtain ⟨hD, hLW, hUW, hTW⟩ := id hBW
  have hR := hD.1
  have hW1 := hLW.1
  have hU1 := hUW.1
  have hJ1 := hUW.2.1
  refine SpX.of ok_X10_most.1 (Nat.le_of_ble_eq_true rfl) ?_
  show Pm G RX10 cX10_most 2 (KX G mX10_most (fun rv f1 l1 => rv = (some (.long (-1))) ∧ MJ f l f1 l1 D W U T N)) 0 [some (.ref (ad G 86)), some (.int x)] [] f l
  refine P.aload_n dX10_most_0 rfl rfl ?_
  refine P.iconst dX10_most_1 ic_0 ?_
  refine p_X10_thrown (a := 0) ly_86 (by decide) fl_X10_93 dX10_most_2 rfl ?_
  have hM := mv_free (k := 86) (j := 0) (v := 0) (by decide) hM
  have hKN := hKN.up (k := 86) (j := 0) (v := 0) (by decide)
  have hCF : CF f l (uf f 86 0 0) l := (CF.rf f l).f (by decide)
  generalize uf f 86 0 0 = f0 at hM hKN hCF ⊢
  refine P.aload_n dX10_most_5 rfl rfl ?_
  refine P.iload_n dX10_most_6 rfl rfl ?_
  refine P.callV (As := [.int x]) (rest := []) (t_noLaw_f hM hBW hx) ok_X10_noLaw (fitX (Nat.le_of_ble_eq_true rfl)) rfl ml_X10_147 ly_86 (by decide) (by decide) rfl rfl (Nat.le_of_ble_eq_true rfl) dX10_most_7 ?_
  refine P.if_eq_b (tgt := 19) dX10_most_10 (by decide) (fun c_10 => ?_) (fun c_10 => ?_)
  · exfalso; revert c_10; decide
  refine P.ldc2 dX10_most_13 co_X10_137 ?_
  refine P.goto (tgt := 45) dX10_most_16 (by decide) ?_
  exact P.lretX rfl dX10_most_45 ⟨rfl, hM, hKN, hCF⟩

set_option maxRecDepth 20000 in
theorem q_most_b {G : GG} {f : Nat → Nat → Nat} {l : Nat → Nat → Int64} {D : DB} {W : LB} {U : QB} {T : TB} {N : Nat} (hM : MV f l D W U T N) (hBW : BW D W U T) (hKN : KN f D W) {r : Nat} (hr : r < W.1) (hk : W.2.1 r 0 ≠ 4) : SpX G mX10_most [.ref (ad G 86), .int (nI r)] f l (fun rv f1 l1 => rv = (some (.long (-13))) ∧ MJ f l f1 l1 D W U T (N + 1)) := by
  obtain ⟨hD, hLW, hUW, hTW⟩ := id hBW
  have hR := hD.1
  have hW1 := hLW.1
  have hU1 := hUW.1
  have hJ1 := hUW.2.1
  obtain ⟨hw0, hw1, hw2, hw3, -⟩ := hLW.2 r hr
  refine SpX.of ok_X10_most.1 (Nat.le_of_ble_eq_true rfl) ?_
  show Pm G RX10 cX10_most 2 (KX G mX10_most (fun rv f1 l1 => rv = (some (.long (-13))) ∧ MJ f l f1 l1 D W U T (N + 1))) 0 [some (.ref (ad G 86)), some (.int (nI r))] [] f l
  refine P.aload_n dX10_most_0 rfl rfl ?_
  refine P.iconst dX10_most_1 ic_0 ?_
  refine p_X10_thrown (a := 0) ly_86 (by decide) fl_X10_93 dX10_most_2 rfl ?_
  have hM := mv_free (k := 86) (j := 0) (v := 0) (by decide) hM
  have hKN := hKN.up (k := 86) (j := 0) (v := 0) (by decide)
  have hCF : CF f l (uf f 86 0 0) l := (CF.rf f l).f (by decide)
  generalize uf f 86 0 0 = f0 at hM hKN hCF ⊢
  refine P.aload_n dX10_most_5 rfl rfl ?_
  refine P.iload_n dX10_most_6 rfl rfl ?_
  refine P.callV (As := [.int (nI r)]) (rest := []) (t_noLaw_t hM hBW hr) ok_X10_noLaw (fitX (Nat.le_of_ble_eq_true rfl)) rfl ml_X10_147 ly_86 (by decide) (by decide) rfl rfl (Nat.le_of_ble_eq_true rfl) dX10_most_7 ?_
  refine P.if_eq_b (tgt := 19) dX10_most_10 (by decide) (fun c_10 => ?_) (fun c_10 => ?_)
  · refine P.aload_n dX10_most_19 rfl rfl ?_
    refine g_X10_kind (q := 94) ly_86 (by decide) (by decide) fl_X10_33 dX10_most_20 ?_
    refine P.iload_n dX10_most_23 rfl rfl ?_
    refine a_ia ly_94 (by decide) (by omega) (by decide) dX10_most_24 ?_
    refine Pm.topn (b := W.2.1 r 0) ((hM.knd r (by omega))) ?_
    refine P.iconst dX10_most_25 ic_4 ?_
    refine P.icmp_ne_n (tgt := 38) dX10_most_26 (by decide) (by omega) (by omega) (fun c_26 => ?_) (fun c_26 => ?_)
    · refine P.aload_n dX10_most_38 rfl rfl ?_
      refine P.bipush (v := -13) dX10_most_39 rfl ?_
      refine P.callV (As := [.int (-13)]) (rest := []) (t_finds hM hBW) ok_X10_finds (fitX (Nat.le_of_ble_eq_true rfl)) rfl ml_X10_112 ly_86 (by decide) (by decide) rfl rfl (Nat.le_of_ble_eq_true rfl) dX10_most_41 ?_
      refine P.i2l dX10_most_44 rfl ?_
      exact P.lretX rfl dX10_most_45 ⟨rfl, (mv_N hM), (KN.up (by omega) hKN), (hCF.f (by decide))⟩
    · exfalso; omega
  · exfalso; revert c_10; decide

set_option maxRecDepth 20000 in
theorem q_most_c {G : GG} {f : Nat → Nat → Nat} {l : Nat → Nat → Int64} {D : DB} {W : LB} {U : QB} {T : TB} {N : Nat} (hM : MV f l D W U T N) (hBW : BW D W U T) (hKN : KN f D W) {r : Nat} (hr : r < W.1) (hk : W.2.1 r 0 = 4) : SpX G mX10_most [.ref (ad G 86), .int (nI r)] f l (fun rv f1 l1 => rv = (some (.long (W.2.2 r 5))) ∧ MJ f l f1 l1 D W U T N) := by
  obtain ⟨hD, hLW, hUW, hTW⟩ := id hBW
  have hR := hD.1
  have hW1 := hLW.1
  have hU1 := hUW.1
  have hJ1 := hUW.2.1
  obtain ⟨hw0, hw1, hw2, hw3, -⟩ := hLW.2 r hr
  have hk5 : W.2.1 r 0 ≠ 5 := by omega
  refine SpX.of ok_X10_most.1 (Nat.le_of_ble_eq_true rfl) ?_
  show Pm G RX10 cX10_most 2 (KX G mX10_most (fun rv f1 l1 => rv = (some (.long (W.2.2 r 5))) ∧ MJ f l f1 l1 D W U T N)) 0 [some (.ref (ad G 86)), some (.int (nI r))] [] f l
  refine P.aload_n dX10_most_0 rfl rfl ?_
  refine P.iconst dX10_most_1 ic_0 ?_
  refine p_X10_thrown (a := 0) ly_86 (by decide) fl_X10_93 dX10_most_2 rfl ?_
  have hM := mv_free (k := 86) (j := 0) (v := 0) (by decide) hM
  have hKN := hKN.up (k := 86) (j := 0) (v := 0) (by decide)
  have hCF : CF f l (uf f 86 0 0) l := (CF.rf f l).f (by decide)
  generalize uf f 86 0 0 = f0 at hM hKN hCF ⊢
  refine P.aload_n dX10_most_5 rfl rfl ?_
  refine P.iload_n dX10_most_6 rfl rfl ?_
  refine P.callV (As := [.int (nI r)]) (rest := []) (t_noLaw_t hM hBW hr) ok_X10_noLaw (fitX (Nat.le_of_ble_eq_true rfl)) rfl ml_X10_147 ly_86 (by decide) (by decide) rfl rfl (Nat.le_of_ble_eq_true rfl) dX10_most_7 ?_
  refine P.if_eq_b (tgt := 19) dX10_most_10 (by decide) (fun c_10 => ?_) (fun c_10 => ?_)
  · refine P.aload_n dX10_most_19 rfl rfl ?_
    refine g_X10_kind (q := 94) ly_86 (by decide) (by decide) fl_X10_33 dX10_most_20 ?_
    refine P.iload_n dX10_most_23 rfl rfl ?_
    refine a_ia ly_94 (by decide) (by omega) (by decide) dX10_most_24 ?_
    refine Pm.topn (b := W.2.1 r 0) ((hM.knd r (by omega))) ?_
    refine P.iconst dX10_most_25 ic_4 ?_
    refine P.icmp_ne_n (tgt := 38) dX10_most_26 (by decide) (by omega) (by omega) (fun c_26 => ?_) (fun c_26 => ?_)
    · exfalso; omega
    refine P.aload_n dX10_most_29 rfl rfl ?_
    refine g_X10_numC (q := 99) ly_86 (by decide) (by decide) fl_X10_48 dX10_most_30 ?_
    refine P.iload_n dX10_most_33 rfl rfl ?_
    refine a_la ly_99 (by decide) (by omega) (by decide) dX10_most_34 ?_
    refine Pm.topl (b := W.2.2 r 5) ((hM.lc r (by omega) hk5)) ?_
    refine P.goto (tgt := 45) dX10_most_35 (by decide) ?_
    exact P.lretX rfl dX10_most_45 ⟨rfl, hM, hKN, hCF⟩
  · exfalso; revert c_10; decide

theorem t_findQuarrels {G : GG} {f : Nat → Nat → Nat} {l : Nat → Nat → Int64} {D : DB} {W : LB} {U : QB} {T : TB} {N : Nat} (hM : MV f l D W U T N) (hBW : BW D W U T) {w : Nat} (hw : w < W.1) (hQ : mQn D W w (2 ^ D.1) = cQ D W w (keptD D)) : Spec G mX10_findQuarrels [.ref (ad G 86), .int (nI w)] 114 (f, l, refT) none 114 (wrM f (cQ D W w (keptD D)), l, refT) := by
  rw [← hQ]
  by_cases h4 : W.2.1 w 0 = 4
  · exact t_findQuarrels_4 hM hBW hw h4
  · by_cases h0 : W.2.1 w 0 = 0
    · exact t_findQuarrels_0 hM hBW hw h0
    · by_cases h2 : W.2.1 w 0 = 2
      · exact t_findQuarrels_2 hM hBW hw h2
      · exact t_findQuarrels_x hM hBW hw ⟨h0, h2, h4⟩

set_option maxRecDepth 20000 in
theorem q_quarrels_a {G : GG} {f : Nat → Nat → Nat} {l : Nat → Nat → Int64} {D : DB} {W : LB} {U : QB} {T : TB} {N : Nat} (hM : MV f l D W U T N) (hBW : BW D W U T) (hKN : KN f D W) {x : Int32} (hx : inR x W.1 = false)  : SpX G mX10_quarrels [.ref (ad G 86), .int x] f l (fun rv f1 l1 => rv = (some (.int (-1))) ∧ MJ f l f1 l1 D W U T N) := by
  obtain ⟨hD, hLW, hUW, hTW⟩ := id hBW
  have hR := hD.1
  have hW1 := hLW.1
  have hU1 := hUW.1
  have hJ1 := hUW.2.1
  refine SpX.of ok_X10_quarrels.1 (Nat.le_of_ble_eq_true rfl) ?_
  show Pm G RX10 cX10_quarrels 2 (KX G mX10_quarrels (fun rv f1 l1 => rv = (some (.int (-1))) ∧ MJ f l f1 l1 D W U T N)) 0 [some (.ref (ad G 86)), some (.int x)] [] f l
  refine P.aload_n dX10_quarrels_0 rfl rfl ?_
  refine P.iconst dX10_quarrels_1 ic_0 ?_
  refine p_X10_thrown (a := 0) ly_86 (by decide) fl_X10_93 dX10_quarrels_2 rfl ?_
  have hM := mv_free (k := 86) (j := 0) (v := 0) (by decide) hM
  have hKN := hKN.up (k := 86) (j := 0) (v := 0) (by decide)
  have hCF : CF f l (uf f 86 0 0) l := (CF.rf f l).f (by decide)
  generalize uf f 86 0 0 = f0 at hM hKN hCF ⊢
  refine P.aload_n dX10_quarrels_5 rfl rfl ?_
  refine P.iload_n dX10_quarrels_6 rfl rfl ?_
  refine P.callV (As := [.int x]) (rest := []) (t_noLaw_f hM hBW hx) ok_X10_noLaw (fitX (Nat.le_of_ble_eq_true rfl)) rfl ml_X10_147 ly_86 (by decide) (by decide) rfl rfl (Nat.le_of_ble_eq_true rfl) dX10_quarrels_7 ?_
  refine P.if_eq_b (tgt := 15) dX10_quarrels_10 (by decide) (fun c_10 => ?_) (fun c_10 => ?_)
  · exfalso; revert c_10; decide
  refine P.iconst (v := -1) dX10_quarrels_13 rfl ?_
  exact P.iretX rfl dX10_quarrels_14 ⟨rfl, hM, hKN, hCF⟩

set_option maxRecDepth 20000 in
theorem q_quarrels_b {G : GG} {f : Nat → Nat → Nat} {l : Nat → Nat → Int64} {D : DB} {W : LB} {U : QB} {T : TB} {N : Nat} (hM : MV f l D W U T N) (hBW : BW D W U T) (hKN : KN f D W) {r : Nat} (hr : r < W.1) (hQ : mQn D W r (2 ^ D.1) = cQ D W r (keptD D))  : SpX G mX10_quarrels [.ref (ad G 86), .int (nI r)] f l (fun rv f1 l1 => rv = (some (.int (nI ((cQ D W r (keptD D)).length)))) ∧ MJ f l f1 l1 D W U T N) := by
  obtain ⟨hD, hLW, hUW, hTW⟩ := id hBW
  have hR := hD.1
  have hW1 := hLW.1
  have hU1 := hUW.1
  have hJ1 := hUW.2.1
  refine SpX.of ok_X10_quarrels.1 (Nat.le_of_ble_eq_true rfl) ?_
  show Pm G RX10 cX10_quarrels 2 (KX G mX10_quarrels (fun rv f1 l1 => rv = (some (.int (nI ((cQ D W r (keptD D)).length)))) ∧ MJ f l f1 l1 D W U T N)) 0 [some (.ref (ad G 86)), some (.int (nI r))] [] f l
  refine P.aload_n dX10_quarrels_0 rfl rfl ?_
  refine P.iconst dX10_quarrels_1 ic_0 ?_
  refine p_X10_thrown (a := 0) ly_86 (by decide) fl_X10_93 dX10_quarrels_2 rfl ?_
  have hM := mv_free (k := 86) (j := 0) (v := 0) (by decide) hM
  have hKN := hKN.up (k := 86) (j := 0) (v := 0) (by decide)
  have hCF : CF f l (uf f 86 0 0) l := (CF.rf f l).f (by decide)
  generalize uf f 86 0 0 = f0 at hM hKN hCF ⊢
  refine P.aload_n dX10_quarrels_5 rfl rfl ?_
  refine P.iload_n dX10_quarrels_6 rfl rfl ?_
  refine P.callV (As := [.int (nI r)]) (rest := []) (t_noLaw_t hM hBW hr) ok_X10_noLaw (fitX (Nat.le_of_ble_eq_true rfl)) rfl ml_X10_147 ly_86 (by decide) (by decide) rfl rfl (Nat.le_of_ble_eq_true rfl) dX10_quarrels_7 ?_
  refine P.if_eq_b (tgt := 15) dX10_quarrels_10 (by decide) (fun c_10 => ?_) (fun c_10 => ?_)
  · refine P.aload_n dX10_quarrels_15 rfl rfl ?_
    refine P.iload_n dX10_quarrels_16 rfl rfl ?_
    refine P.callV (As := [.int (nI r)]) (rest := []) (t_findQuarrels hM hBW hr hQ) ok_X10_findQuarrels (fitX (Nat.le_of_ble_eq_true rfl)) rfl ml_X10_186 ly_86 (by decide) (by decide) rfl rfl (Nat.le_of_ble_eq_true rfl) dX10_quarrels_17 ?_
    refine P.aload_n dX10_quarrels_20 rfl rfl ?_
    refine g_X10_quarrelsFound ly_86 (by decide) fl_X10_174 dX10_quarrels_21 ?_
    refine Pm.topn (b := (cQ D W r (keptD D)).length) ((wrM_len _ _)) ?_
    exact P.iretX rfl dX10_quarrels_24 ⟨rfl, hM.wrM _, hKN.wM _, hCF.tr (CF.wrM _ _ _)⟩
  · exfalso; revert c_10; decide

set_option maxRecDepth 20000 in
theorem q_quarrel_a {G : GG} {f : Nat → Nat → Nat} {l : Nat → Nat → Int64} {D : DB} {W : LB} {U : QB} {T : TB} {N : Nat} (hM : MV f l D W U T N) (hBW : BW D W U T) (hKN : KN f D W) {x : Int32} (hx : inR x W.1 = false) {y : Int32} : SpX G mX10_quarrel [.ref (ad G 86), .int x, .int y] f l (fun rv f1 l1 => rv = (some (.int (-1))) ∧ MJ f l f1 l1 D W U T N) := by
  obtain ⟨hD, hLW, hUW, hTW⟩ := id hBW
  have hR := hD.1
  have hW1 := hLW.1
  have hU1 := hUW.1
  have hJ1 := hUW.2.1
  refine SpX.of ok_X10_quarrel.1 (Nat.le_of_ble_eq_true rfl) ?_
  show Pm G RX10 cX10_quarrel 3 (KX G mX10_quarrel (fun rv f1 l1 => rv = (some (.int (-1))) ∧ MJ f l f1 l1 D W U T N)) 0 [some (.ref (ad G 86)), some (.int x), some (.int y)] [] f l
  refine P.aload_n dX10_quarrel_0 rfl rfl ?_
  refine P.iconst dX10_quarrel_1 ic_0 ?_
  refine p_X10_thrown (a := 0) ly_86 (by decide) fl_X10_93 dX10_quarrel_2 rfl ?_
  have hM := mv_free (k := 86) (j := 0) (v := 0) (by decide) hM
  have hKN := hKN.up (k := 86) (j := 0) (v := 0) (by decide)
  have hCF : CF f l (uf f 86 0 0) l := (CF.rf f l).f (by decide)
  generalize uf f 86 0 0 = f0 at hM hKN hCF ⊢
  refine P.aload_n dX10_quarrel_5 rfl rfl ?_
  refine P.iload_n dX10_quarrel_6 rfl rfl ?_
  refine P.callV (As := [.int x]) (rest := []) (t_noLaw_f hM hBW hx) ok_X10_noLaw (fitX (Nat.le_of_ble_eq_true rfl)) rfl ml_X10_147 ly_86 (by decide) (by decide) rfl rfl (Nat.le_of_ble_eq_true rfl) dX10_quarrel_7 ?_
  refine P.if_eq_b (tgt := 15) dX10_quarrel_10 (by decide) (fun c_10 => ?_) (fun c_10 => ?_)
  · exfalso; revert c_10; decide
  refine P.iconst (v := -1) dX10_quarrel_13 rfl ?_
  exact P.iretX rfl dX10_quarrel_14 ⟨rfl, hM, hKN, hCF⟩

set_option maxRecDepth 20000 in
theorem q_quarrel_b {G : GG} {f : Nat → Nat → Nat} {l : Nat → Nat → Int64} {D : DB} {W : LB} {U : QB} {T : TB} {N : Nat} (hM : MV f l D W U T N) (hBW : BW D W U T) (hKN : KN f D W) {r : Nat} (hr : r < W.1) (hQ : mQn D W r (2 ^ D.1) = cQ D W r (keptD D)) {y : Int32} (hy : inR y (cQ D W r (keptD D)).length = false) : SpX G mX10_quarrel [.ref (ad G 86), .int (nI r), .int y] f l (fun rv f1 l1 => rv = (some (.int (-9))) ∧ MJ f l f1 l1 D W U T N) := by
  obtain ⟨hD, hLW, hUW, hTW⟩ := id hBW
  have hR := hD.1
  have hW1 := hLW.1
  have hU1 := hUW.1
  have hJ1 := hUW.2.1
  have hlq := cQ_len hD W r (keptD D)
  refine SpX.of ok_X10_quarrel.1 (Nat.le_of_ble_eq_true rfl) ?_
  show Pm G RX10 cX10_quarrel 3 (KX G mX10_quarrel (fun rv f1 l1 => rv = (some (.int (-9))) ∧ MJ f l f1 l1 D W U T N)) 0 [some (.ref (ad G 86)), some (.int (nI r)), some (.int y)] [] f l
  refine P.aload_n dX10_quarrel_0 rfl rfl ?_
  refine P.iconst dX10_quarrel_1 ic_0 ?_
  refine p_X10_thrown (a := 0) ly_86 (by decide) fl_X10_93 dX10_quarrel_2 rfl ?_
  have hM := mv_free (k := 86) (j := 0) (v := 0) (by decide) hM
  have hKN := hKN.up (k := 86) (j := 0) (v := 0) (by decide)
  have hCF : CF f l (uf f 86 0 0) l := (CF.rf f l).f (by decide)
  generalize uf f 86 0 0 = f0 at hM hKN hCF ⊢
  refine P.aload_n dX10_quarrel_5 rfl rfl ?_
  refine P.iload_n dX10_quarrel_6 rfl rfl ?_
  refine P.callV (As := [.int (nI r)]) (rest := []) (t_noLaw_t hM hBW hr) ok_X10_noLaw (fitX (Nat.le_of_ble_eq_true rfl)) rfl ml_X10_147 ly_86 (by decide) (by decide) rfl rfl (Nat.le_of_ble_eq_true rfl) dX10_quarrel_7 ?_
  refine P.if_eq_b (tgt := 15) dX10_quarrel_10 (by decide) (fun c_10 => ?_) (fun c_10 => ?_)
  · refine P.aload_n dX10_quarrel_15 rfl rfl ?_
    refine P.iload_n dX10_quarrel_16 rfl rfl ?_
    refine P.callV (As := [.int (nI r)]) (rest := []) (t_findQuarrels hM hBW hr hQ) ok_X10_findQuarrels (fitX (Nat.le_of_ble_eq_true rfl)) rfl ml_X10_186 ly_86 (by decide) (by decide) rfl rfl (Nat.le_of_ble_eq_true rfl) dX10_quarrel_17 ?_
    refine P.iload_n dX10_quarrel_20 rfl rfl ?_
    refine P.i2l dX10_quarrel_21 rfl ?_
    refine P.lconst (v := 0) dX10_quarrel_22 rfl ?_
    refine P.aload_n dX10_quarrel_23 rfl rfl ?_
    refine g_X10_quarrelsFound ly_86 (by decide) fl_X10_174 dX10_quarrel_24 ?_
    refine Pm.topn (b := (cQ D W r (keptD D)).length) ((wrM_len _ _)) ?_
    refine P.iconst dX10_quarrel_27 ic_1 ?_
    refine P.isub_n dX10_quarrel_28 rfl ?_
    refine P.i2l dX10_quarrel_29 rfl ?_
    refine P.callS (As := [.long ((y).toInt64), .long 0, .long (((nI (cQ D W r (keptD D)).length - nI 1)).toInt64)]) (rest := []) (by have h := t_inR (G := G) (f := (wrM f0 (cQ D W r (keptD D)))) (l := l) (x := y) (R := (cQ D W r (keptD D)).length) (by omega); rw [hy] at h; exact h) ok_X10_in (fitX (Nat.le_of_ble_eq_true rfl)) rfl ml_X10_102 rfl (Nat.le_of_ble_eq_true rfl) dX10_quarrel_30 ?_
    refine P.if_eq_b (tgt := 45) dX10_quarrel_33 (by decide) (fun c_33 => ?_) (fun c_33 => ?_)
    · refine P.bipush (v := -9) dX10_quarrel_45 rfl ?_
      exact P.iretX rfl dX10_quarrel_47 ⟨rfl, hM.wrM _, hKN.wM _, hCF.tr (CF.wrM _ _ _)⟩
    · exfalso; revert c_33; decide
  · exfalso; revert c_10; decide

set_option maxRecDepth 20000 in
theorem q_quarrel_c {G : GG} {f : Nat → Nat → Nat} {l : Nat → Nat → Int64} {D : DB} {W : LB} {U : QB} {T : TB} {N : Nat} (hM : MV f l D W U T N) (hBW : BW D W U T) (hKN : KN f D W) {r : Nat} (hr : r < W.1) (hQ : mQn D W r (2 ^ D.1) = cQ D W r (keptD D)) {i : Nat} (hi : i < (cQ D W r (keptD D)).length) : SpX G mX10_quarrel [.ref (ad G 86), .int (nI r), .int (nI i)] f l (fun rv f1 l1 => rv = (some (.int (nI ((cQ D W r (keptD D)).getD i 0)))) ∧ MJ f l f1 l1 D W U T N) := by
  obtain ⟨hD, hLW, hUW, hTW⟩ := id hBW
  have hR := hD.1
  have hW1 := hLW.1
  have hU1 := hUW.1
  have hJ1 := hUW.2.1
  have hlq := cQ_len hD W r (keptD D)
  refine SpX.of ok_X10_quarrel.1 (Nat.le_of_ble_eq_true rfl) ?_
  show Pm G RX10 cX10_quarrel 3 (KX G mX10_quarrel (fun rv f1 l1 => rv = (some (.int (nI ((cQ D W r (keptD D)).getD i 0)))) ∧ MJ f l f1 l1 D W U T N)) 0 [some (.ref (ad G 86)), some (.int (nI r)), some (.int (nI i))] [] f l
  refine P.aload_n dX10_quarrel_0 rfl rfl ?_
  refine P.iconst dX10_quarrel_1 ic_0 ?_
  refine p_X10_thrown (a := 0) ly_86 (by decide) fl_X10_93 dX10_quarrel_2 rfl ?_
  have hM := mv_free (k := 86) (j := 0) (v := 0) (by decide) hM
  have hKN := hKN.up (k := 86) (j := 0) (v := 0) (by decide)
  have hCF : CF f l (uf f 86 0 0) l := (CF.rf f l).f (by decide)
  generalize uf f 86 0 0 = f0 at hM hKN hCF ⊢
  refine P.aload_n dX10_quarrel_5 rfl rfl ?_
  refine P.iload_n dX10_quarrel_6 rfl rfl ?_
  refine P.callV (As := [.int (nI r)]) (rest := []) (t_noLaw_t hM hBW hr) ok_X10_noLaw (fitX (Nat.le_of_ble_eq_true rfl)) rfl ml_X10_147 ly_86 (by decide) (by decide) rfl rfl (Nat.le_of_ble_eq_true rfl) dX10_quarrel_7 ?_
  refine P.if_eq_b (tgt := 15) dX10_quarrel_10 (by decide) (fun c_10 => ?_) (fun c_10 => ?_)
  · refine P.aload_n dX10_quarrel_15 rfl rfl ?_
    refine P.iload_n dX10_quarrel_16 rfl rfl ?_
    refine P.callV (As := [.int (nI r)]) (rest := []) (t_findQuarrels hM hBW hr hQ) ok_X10_findQuarrels (fitX (Nat.le_of_ble_eq_true rfl)) rfl ml_X10_186 ly_86 (by decide) (by decide) rfl rfl (Nat.le_of_ble_eq_true rfl) dX10_quarrel_17 ?_
    refine P.iload_n dX10_quarrel_20 rfl rfl ?_
    refine P.i2l dX10_quarrel_21 rfl ?_
    refine P.lconst (v := 0) dX10_quarrel_22 rfl ?_
    refine P.aload_n dX10_quarrel_23 rfl rfl ?_
    refine g_X10_quarrelsFound ly_86 (by decide) fl_X10_174 dX10_quarrel_24 ?_
    refine Pm.topn (b := (cQ D W r (keptD D)).length) ((wrM_len _ _)) ?_
    refine P.iconst dX10_quarrel_27 ic_1 ?_
    refine P.isub_n dX10_quarrel_28 rfl ?_
    refine P.i2l dX10_quarrel_29 rfl ?_
    refine P.callS (As := [.long ((nI i).toInt64), .long 0, .long (((nI (cQ D W r (keptD D)).length - nI 1)).toInt64)]) (rest := []) (by have h := t_inR (G := G) (f := (wrM f0 (cQ D W r (keptD D)))) (l := l) (x := (nI i)) (R := (cQ D W r (keptD D)).length) (by omega); rw [inR_n hi (by omega)] at h; exact h) ok_X10_in (fitX (Nat.le_of_ble_eq_true rfl)) rfl ml_X10_102 rfl (Nat.le_of_ble_eq_true rfl) dX10_quarrel_30 ?_
    refine P.if_eq_b (tgt := 45) dX10_quarrel_33 (by decide) (fun c_33 => ?_) (fun c_33 => ?_)
    · exfalso; revert c_33; decide
    refine P.aload_n dX10_quarrel_36 rfl rfl ?_
    refine g_X10_quarrelOf (q := 111) ly_86 (by decide) (by decide) fl_X10_84 dX10_quarrel_37 ?_
    refine P.iload_n dX10_quarrel_40 rfl rfl ?_
    refine a_ia ly_111 (by decide) (by omega) (by decide) dX10_quarrel_41 ?_
    refine Pm.topn (b := (cQ D W r (keptD D)).getD i 0) ((wrM_at _ (by omega))) ?_
    refine P.goto (tgt := 47) dX10_quarrel_42 (by decide) ?_
    exact P.iretX rfl dX10_quarrel_47 ⟨rfl, hM.wrM _, hKN.wM _, hCF.tr (CF.wrM _ _ _)⟩
  · exfalso; revert c_10; decide

set_option maxRecDepth 20000 in
theorem q_clean {G : GG} {f : Nat → Nat → Nat} {l : Nat → Nat → Int64} {D : DB} {W : LB} {U : QB} {T : TB} {N : Nat} (hM : MV f l D W U T N) (hBW : BW D W U T) (hKN : KN f D W)  : SpX G mX10_clean [.ref (ad G 86)] f l (fun rv f1 l1 => rv = (some (.int (nI (bN (fstP (fB D W (keptD D)) W.1).isNone)))) ∧ MJ f l f1 l1 D W U T N) := by
  obtain ⟨hD, hLW, hUW, hTW⟩ := id hBW
  have hR := hD.1
  have hW1 := hLW.1
  have hU1 := hUW.1
  have hJ1 := hUW.2.1
  have hK4 := keptD_lt hD
  refine SpX.of ok_X10_clean.1 (Nat.le_of_ble_eq_true rfl) ?_
  show Pm G RX10 cX10_clean 1 (KX G mX10_clean (fun rv f1 l1 => rv = (some (.int (nI (bN (fstP (fB D W (keptD D)) W.1).isNone)))) ∧ MJ f l f1 l1 D W U T N)) 0 [some (.ref (ad G 86))] [] f l
  refine P.aload_n dX10_clean_0 rfl rfl ?_
  refine P.iconst dX10_clean_1 ic_0 ?_
  refine p_X10_thrown (a := 0) ly_86 (by decide) fl_X10_93 dX10_clean_2 rfl ?_
  have hM := mv_free (k := 86) (j := 0) (v := 0) (by decide) hM
  have hKN := hKN.up (k := 86) (j := 0) (v := 0) (by decide)
  have hCF : CF f l (uf f 86 0 0) l := (CF.rf f l).f (by decide)
  generalize uf f 86 0 0 = f0 at hM hKN hCF ⊢
  refine P.aload_n dX10_clean_5 rfl rfl ?_
  refine P.aload_n dX10_clean_6 rfl rfl ?_
  refine P.callV (As := []) (rest := [.ref (ad G 86)]) (t_keptSet hM hBW) ok_X10_keptSet (fitX (Nat.le_of_ble_eq_true rfl)) rfl ml_X10_170 ly_86 (by decide) (by decide) rfl rfl (Nat.le_of_ble_eq_true rfl) dX10_clean_7 ?_
  refine P.callV (As := [.int (nI (keptD D))]) (rest := []) (t_firstBroken (S := keptD D) hM hBW (by omega)) ok_X10_firstBroken (fitX (Nat.le_of_ble_eq_true rfl)) rfl ml_X10_190 ly_86 (by decide) (by decide) rfl rfl (Nat.le_of_ble_eq_true rfl) dX10_clean_10 ?_
  refine P.bipush (v := -9) dX10_clean_13 rfl ?_
  refine P.icmp_ne_z (tgt := 22) dX10_clean_15 (by decide) rfl (show (-9 : Int32).toInt = -9 from rfl) (fun c_15 => ?_) (fun c_15 => ?_)
  · refine P.iconst dX10_clean_22 ic_0 ?_
    exact P.iretX rfl dX10_clean_23 ⟨by rw [Bool.eq_false_iff.mpr (fun z => c_15 ((fb_none hW1).mpr z))]; rfl, hM, hKN, hCF⟩
  refine P.iconst dX10_clean_18 ic_1 ?_
  refine P.goto (tgt := 23) dX10_clean_19 (by decide) ?_
  exact P.iretX rfl dX10_clean_23 ⟨by rw [(fb_none hW1).mp c_15]; rfl, hM, hKN, hCF⟩

set_option maxRecDepth 20000 in
theorem q_breaks_a {G : GG} {f : Nat → Nat → Nat} {l : Nat → Nat → Int64} {D : DB} {W : LB} {U : QB} {T : TB} {N : Nat} (hM : MV f l D W U T N) (hBW : BW D W U T) (hKN : KN f D W) {x : Int32} (hx : ¬ (x &&& (nI (keptD D) ^^^ (-1))) = 0) : SpX G mX10_breaks [.ref (ad G 86), .int x] f l (fun rv f1 l1 => rv = (some (.int (-2))) ∧ MJ f l f1 l1 D W U T N) := by
  obtain ⟨hD, hLW, hUW, hTW⟩ := id hBW
  have hR := hD.1
  have hW1 := hLW.1
  have hU1 := hUW.1
  have hJ1 := hUW.2.1
  refine SpX.of ok_X10_breaks.1 (Nat.le_of_ble_eq_true rfl) ?_
  show Pm G RX10 cX10_breaks 2 (KX G mX10_breaks (fun rv f1 l1 => rv = (some (.int (-2))) ∧ MJ f l f1 l1 D W U T N)) 0 [some (.ref (ad G 86)), some (.int x)] [] f l
  refine P.aload_n dX10_breaks_0 rfl rfl ?_
  refine P.iconst dX10_breaks_1 ic_0 ?_
  refine p_X10_thrown (a := 0) ly_86 (by decide) fl_X10_93 dX10_breaks_2 rfl ?_
  have hM := mv_free (k := 86) (j := 0) (v := 0) (by decide) hM
  have hKN := hKN.up (k := 86) (j := 0) (v := 0) (by decide)
  have hCF : CF f l (uf f 86 0 0) l := (CF.rf f l).f (by decide)
  generalize uf f 86 0 0 = f0 at hM hKN hCF ⊢
  refine P.iload_n dX10_breaks_5 rfl rfl ?_
  refine P.aload_n dX10_breaks_6 rfl rfl ?_
  refine P.callV (As := []) (rest := [.int x]) (t_keptSet hM hBW) ok_X10_keptSet (fitX (Nat.le_of_ble_eq_true rfl)) rfl ml_X10_170 ly_86 (by decide) (by decide) rfl rfl (Nat.le_of_ble_eq_true rfl) dX10_breaks_7 ?_
  refine P.iconst (v := -1) dX10_breaks_10 rfl ?_
  refine P.ixor dX10_breaks_11 ?_
  refine P.iand dX10_breaks_12 ?_
  refine P.if_eq (tgt := 21) dX10_breaks_13 (by decide) (fun c_13 => ?_) (fun c_13 => ?_)
  · exact absurd c_13 hx
  refine P.bipush (v := -2) dX10_breaks_16 rfl ?_
  refine P.goto (tgt := 26) dX10_breaks_18 (by decide) ?_
  exact P.iretX rfl dX10_breaks_26 ⟨rfl, hM, hKN, hCF⟩

set_option maxRecDepth 20000 in
theorem q_breaks_b {G : GG} {f : Nat → Nat → Nat} {l : Nat → Nat → Int64} {D : DB} {W : LB} {U : QB} {T : TB} {N : Nat} (hM : MV f l D W U T N) (hBW : BW D W U T) (hKN : KN f D W) {S : Nat} (hS : subN S (keptD D)) : SpX G mX10_breaks [.ref (ad G 86), .int (nI S)] f l (fun rv f1 l1 => rv = (some (.int (ans9 (fstP (fB D W S) W.1)))) ∧ MJ f l f1 l1 D W U T N) := by
  obtain ⟨hD, hLW, hUW, hTW⟩ := id hBW
  have hR := hD.1
  have hW1 := hLW.1
  have hU1 := hUW.1
  have hJ1 := hUW.2.1
  have hK4 := keptD_lt hD
  have hS4 : S < 4096 := by have := hS.le; omega
  refine SpX.of ok_X10_breaks.1 (Nat.le_of_ble_eq_true rfl) ?_
  show Pm G RX10 cX10_breaks 2 (KX G mX10_breaks (fun rv f1 l1 => rv = (some (.int (ans9 (fstP (fB D W S) W.1)))) ∧ MJ f l f1 l1 D W U T N)) 0 [some (.ref (ad G 86)), some (.int (nI S))] [] f l
  refine P.aload_n dX10_breaks_0 rfl rfl ?_
  refine P.iconst dX10_breaks_1 ic_0 ?_
  refine p_X10_thrown (a := 0) ly_86 (by decide) fl_X10_93 dX10_breaks_2 rfl ?_
  have hM := mv_free (k := 86) (j := 0) (v := 0) (by decide) hM
  have hKN := hKN.up (k := 86) (j := 0) (v := 0) (by decide)
  have hCF : CF f l (uf f 86 0 0) l := (CF.rf f l).f (by decide)
  generalize uf f 86 0 0 = f0 at hM hKN hCF ⊢
  refine P.iload_n dX10_breaks_5 rfl rfl ?_
  refine P.aload_n dX10_breaks_6 rfl rfl ?_
  refine P.callV (As := []) (rest := [.int (nI S)]) (t_keptSet hM hBW) ok_X10_keptSet (fitX (Nat.le_of_ble_eq_true rfl)) rfl ml_X10_170 ly_86 (by decide) (by decide) rfl rfl (Nat.le_of_ble_eq_true rfl) dX10_breaks_7 ?_
  refine P.iconst (v := -1) dX10_breaks_10 rfl ?_
  refine P.ixor dX10_breaks_11 ?_
  refine P.iand_n dX10_breaks_12 (n_not _ _) ?_
  refine P.if_eq_n (tgt := 21) dX10_breaks_13 (by decide) (by have := sd_le S (keptD D); omega) (fun c_13 => ?_) (fun c_13 => ?_)
  · refine P.aload_n dX10_breaks_21 rfl rfl ?_
    refine P.iload_n dX10_breaks_22 rfl rfl ?_
    refine P.callV (As := [.int (nI S)]) (rest := []) (t_firstBroken (S := S) hM hBW (by omega)) ok_X10_firstBroken (fitX (Nat.le_of_ble_eq_true rfl)) rfl ml_X10_190 ly_86 (by decide) (by decide) rfl rfl (Nat.le_of_ble_eq_true rfl) dX10_breaks_23 ?_
    exact P.iretX rfl dX10_breaks_26 ⟨rfl, hM, hKN, hCF⟩
  · exact absurd (sd_0.mpr hS) c_13


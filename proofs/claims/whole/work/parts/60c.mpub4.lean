-- the model's settle: by program (wip/whole/spec60c.py)
set_option maxRecDepth 20000 in
theorem q_settle_a {G : GG} {f : Nat → Nat → Nat} {l : Nat → Nat → Int64} {D : DB} {W : LB} {U : QB} {T : TB} {N : Nat} (hM : MV f l D W U T N) (hBW : BW D W U T) (hKN : KN f D W) {x : Int32} (hx : inR x W.1 = false)  : SpX G mX10_settle [.ref (ad G 86), .int x] f l (fun rv f1 l1 => rv = (some (.int (-1))) ∧ MJ f l f1 l1 D W U T N) := by
  obtain ⟨hD, hLW, hUW, hTW⟩ := id hBW
  have hR := hD.1
  have hW1 := hLW.1
  have hU1 := hUW.1
  have hJ1 := hUW.2.1
  refine SpX.of ok_X10_settle.1 (Nat.le_of_ble_eq_true rfl) ?_
  show Pm G RX10 cX10_settle 7 (KX G mX10_settle (fun rv f1 l1 => rv = (some (.int (-1))) ∧ MJ f l f1 l1 D W U T N)) 0 [some (.ref (ad G 86)), some (.int x), none, none, none, none, none] [] f l
  refine P.aload_n dX10_settle_0 rfl rfl ?_
  refine P.iconst dX10_settle_1 ic_0 ?_
  refine p_X10_thrown (a := 0) ly_86 (by decide) fl_X10_93 dX10_settle_2 rfl ?_
  have hM := mv_free (k := 86) (j := 0) (v := 0) (by decide) hM
  have hKN := hKN.up (k := 86) (j := 0) (v := 0) (by decide)
  have hCF : CF f l (uf f 86 0 0) l := (CF.rf f l).f (by decide)
  generalize uf f 86 0 0 = f0 at hM hKN hCF ⊢
  refine P.aload_n dX10_settle_5 rfl rfl ?_
  refine P.iload_n dX10_settle_6 rfl rfl ?_
  refine P.callV (As := [.int x]) (rest := []) (t_noLaw_f hM hBW hx) ok_X10_noLaw (fitX (Nat.le_of_ble_eq_true rfl)) rfl ml_X10_147 ly_86 (by decide) (by decide) rfl rfl (Nat.le_of_ble_eq_true rfl) dX10_settle_7 ?_
  refine P.if_eq_b (tgt := 15) dX10_settle_10 (by decide) (fun c_10 => ?_) (fun c_10 => ?_)
  · exfalso; revert c_10; decide
  refine P.iconst (v := -1) dX10_settle_13 rfl ?_
  exact P.iretX rfl dX10_settle_14 ⟨rfl, hM, hKN, hCF⟩

set_option maxRecDepth 20000 in
theorem q_settle_b {G : GG} {f : Nat → Nat → Nat} {l : Nat → Nat → Int64} {D : DB} {W : LB} {U : QB} {T : TB} {N : Nat} (hM : MV f l D W U T N) (hBW : BW D W U T) (hKN : KN f D W) {r : Nat} (hr : r < W.1) (hk : W.2.1 r 0 ≠ 0) : SpX G mX10_settle [.ref (ad G 86), .int (nI r)] f l (fun rv f1 l1 => rv = (some (.int (-13))) ∧ MJ f l f1 l1 D W U T (N + 1)) := by
  obtain ⟨hD, hLW, hUW, hTW⟩ := id hBW
  have hR := hD.1
  have hW1 := hLW.1
  have hU1 := hUW.1
  have hJ1 := hUW.2.1
  obtain ⟨hw0, hw1, hw2, hw3, -⟩ := hLW.2 r hr
  refine SpX.of ok_X10_settle.1 (Nat.le_of_ble_eq_true rfl) ?_
  show Pm G RX10 cX10_settle 7 (KX G mX10_settle (fun rv f1 l1 => rv = (some (.int (-13))) ∧ MJ f l f1 l1 D W U T (N + 1))) 0 [some (.ref (ad G 86)), some (.int (nI r)), none, none, none, none, none] [] f l
  refine P.aload_n dX10_settle_0 rfl rfl ?_
  refine P.iconst dX10_settle_1 ic_0 ?_
  refine p_X10_thrown (a := 0) ly_86 (by decide) fl_X10_93 dX10_settle_2 rfl ?_
  have hM := mv_free (k := 86) (j := 0) (v := 0) (by decide) hM
  have hKN := hKN.up (k := 86) (j := 0) (v := 0) (by decide)
  have hCF : CF f l (uf f 86 0 0) l := (CF.rf f l).f (by decide)
  generalize uf f 86 0 0 = f0 at hM hKN hCF ⊢
  refine P.aload_n dX10_settle_5 rfl rfl ?_
  refine P.iload_n dX10_settle_6 rfl rfl ?_
  refine P.callV (As := [.int (nI r)]) (rest := []) (t_noLaw_t hM hBW hr) ok_X10_noLaw (fitX (Nat.le_of_ble_eq_true rfl)) rfl ml_X10_147 ly_86 (by decide) (by decide) rfl rfl (Nat.le_of_ble_eq_true rfl) dX10_settle_7 ?_
  refine P.if_eq_b (tgt := 15) dX10_settle_10 (by decide) (fun c_10 => ?_) (fun c_10 => ?_)
  · refine P.aload_n dX10_settle_15 rfl rfl ?_
    refine g_X10_kind (q := 94) ly_86 (by decide) (by decide) fl_X10_33 dX10_settle_16 ?_
    refine P.iload_n dX10_settle_19 rfl rfl ?_
    refine a_ia ly_94 (by decide) (by omega) (by decide) dX10_settle_20 ?_
    refine Pm.topn (b := W.2.1 r 0) ((hM.knd r (by omega))) ?_
    refine P.if_eq_n (tgt := 31) dX10_settle_21 (by decide) (by omega) (fun c_21 => ?_) (fun c_21 => ?_)
    · exfalso; omega
    refine P.aload_n dX10_settle_24 rfl rfl ?_
    refine P.bipush (v := -13) dX10_settle_25 rfl ?_
    refine P.callV (As := [.int (-13)]) (rest := []) (t_finds hM hBW) ok_X10_finds (fitX (Nat.le_of_ble_eq_true rfl)) rfl ml_X10_112 ly_86 (by decide) (by decide) rfl rfl (Nat.le_of_ble_eq_true rfl) dX10_settle_27 ?_
    exact P.iretX rfl dX10_settle_30 ⟨rfl, (mv_N hM), (KN.up (by omega) hKN), (hCF.f (by decide))⟩
  · exfalso; revert c_10; decide

set_option maxRecDepth 20000 in
theorem q_settle_c {G : GG} {f : Nat → Nat → Nat} {l : Nat → Nat → Int64} {D : DB} {W : LB} {U : QB} {T : TB} {N : Nat} (hM : MV f l D W U T N) (hBW : BW D W U T) (hKN : KN f D W) {r : Nat} (hr : r < W.1) (hk : W.2.1 r 0 = 0) (hne : W.2.1 r 2 = W.2.1 r 3) : SpX G mX10_settle [.ref (ad G 86), .int (nI r)] f l (fun rv f1 l1 => rv = (some (.int (-3))) ∧ MJ f l f1 l1 D W U T N) := by
  obtain ⟨hD, hLW, hUW, hTW⟩ := id hBW
  have hR := hD.1
  have hW1 := hLW.1
  have hU1 := hUW.1
  have hJ1 := hUW.2.1
  obtain ⟨hw0, hw1, hw2, hw3, -⟩ := hLW.2 r hr
  have hK4 := keptD_lt hD
  have hk1 : W.2.1 r 0 ≠ 1 := by omega
  have hk3 : W.2.1 r 0 ≠ 3 := by omega
  refine SpX.of ok_X10_settle.1 (Nat.le_of_ble_eq_true rfl) ?_
  show Pm G RX10 cX10_settle 7 (KX G mX10_settle (fun rv f1 l1 => rv = (some (.int (-3))) ∧ MJ f l f1 l1 D W U T N)) 0 [some (.ref (ad G 86)), some (.int (nI r)), none, none, none, none, none] [] f l
  refine P.aload_n dX10_settle_0 rfl rfl ?_
  refine P.iconst dX10_settle_1 ic_0 ?_
  refine p_X10_thrown (a := 0) ly_86 (by decide) fl_X10_93 dX10_settle_2 rfl ?_
  have hM := mv_free (k := 86) (j := 0) (v := 0) (by decide) hM
  have hKN := hKN.up (k := 86) (j := 0) (v := 0) (by decide)
  have hCF : CF f l (uf f 86 0 0) l := (CF.rf f l).f (by decide)
  generalize uf f 86 0 0 = f0 at hM hKN hCF ⊢
  refine P.aload_n dX10_settle_5 rfl rfl ?_
  refine P.iload_n dX10_settle_6 rfl rfl ?_
  refine P.callV (As := [.int (nI r)]) (rest := []) (t_noLaw_t hM hBW hr) ok_X10_noLaw (fitX (Nat.le_of_ble_eq_true rfl)) rfl ml_X10_147 ly_86 (by decide) (by decide) rfl rfl (Nat.le_of_ble_eq_true rfl) dX10_settle_7 ?_
  refine P.if_eq_b (tgt := 15) dX10_settle_10 (by decide) (fun c_10 => ?_) (fun c_10 => ?_)
  · refine P.aload_n dX10_settle_15 rfl rfl ?_
    refine g_X10_kind (q := 94) ly_86 (by decide) (by decide) fl_X10_33 dX10_settle_16 ?_
    refine P.iload_n dX10_settle_19 rfl rfl ?_
    refine a_ia ly_94 (by decide) (by omega) (by decide) dX10_settle_20 ?_
    refine Pm.topn (b := W.2.1 r 0) ((hM.knd r (by omega))) ?_
    refine P.if_eq_n (tgt := 31) dX10_settle_21 (by decide) (by omega) (fun c_21 => ?_) (fun c_21 => ?_)
    · refine P.aload_n dX10_settle_31 rfl rfl ?_
      refine g_X10_colA (q := 96) ly_86 (by decide) (by decide) fl_X10_39 dX10_settle_32 ?_
      refine P.iload_n dX10_settle_35 rfl rfl ?_
      refine a_ia ly_96 (by decide) (by omega) (by decide) dX10_settle_36 ?_
      refine Pm.topn (b := W.2.1 r 2) ((hM.fst r (by omega))) ?_
      refine P.aload_n dX10_settle_37 rfl rfl ?_
      refine g_X10_colB (q := 97) ly_86 (by decide) (by decide) fl_X10_42 dX10_settle_38 ?_
      refine P.iload_n dX10_settle_41 rfl rfl ?_
      refine a_ia ly_97 (by decide) (by omega) (by decide) dX10_settle_42 ?_
      refine Pm.topn (b := W.2.1 r 3) ((hM.snd r (by omega) hk1 hk3)) ?_
      refine P.icmp_ne_n (tgt := 49) dX10_settle_43 (by decide) (by omega) (by omega) (fun c_43 => ?_) (fun c_43 => ?_)
      · exfalso; omega
      refine P.bipush (v := -3) dX10_settle_46 rfl ?_
      exact P.iretX rfl dX10_settle_48 ⟨rfl, hM, hKN, hCF⟩
    · exfalso; omega
  · exfalso; revert c_10; decide

set_option maxRecDepth 20000 in
theorem q_settle_d {G : GG} {f : Nat → Nat → Nat} {l : Nat → Nat → Int64} {D : DB} {W : LB} {U : QB} {T : TB} {N : Nat} (hM : MV f l D W U T N) (hBW : BW D W U T) (hKN : KN f D W) {r : Nat} (hr : r < W.1) (hk : W.2.1 r 0 = 0) (hne : W.2.1 r 2 ≠ W.2.1 r 3) : SpX G mX10_settle [.ref (ad G 86), .int (nI r)] f l (fun rv f1 l1 => rv = (some (.int (nI (cSall D (W.2.1 r 1) (W.2.1 r 2) (W.2.1 r 3) (thD D (W.2.1 r 1) (W.2.1 r 2) (W.2.1 r 3)))))) ∧ MJ f l f1 l1 (setlD D (W.2.1 r 1) (W.2.1 r 2) (W.2.1 r 3)) W U T N) := by
  obtain ⟨hD, hLW, hUW, hTW⟩ := id hBW
  have hR := hD.1
  have hW1 := hLW.1
  have hU1 := hUW.1
  have hJ1 := hUW.2.1
  obtain ⟨hw0, hw1, hw2, hw3, -⟩ := hLW.2 r hr
  have hK4 := keptD_lt hD
  have hk1 : W.2.1 r 0 ≠ 1 := by omega
  have hk3 : W.2.1 r 0 ≠ 3 := by omega
  refine SpX.of ok_X10_settle.1 (Nat.le_of_ble_eq_true rfl) ?_
  show Pm G RX10 cX10_settle 7 (KX G mX10_settle (fun rv f1 l1 => rv = (some (.int (nI (cSall D (W.2.1 r 1) (W.2.1 r 2) (W.2.1 r 3) (thD D (W.2.1 r 1) (W.2.1 r 2) (W.2.1 r 3)))))) ∧ MJ f l f1 l1 (setlD D (W.2.1 r 1) (W.2.1 r 2) (W.2.1 r 3)) W U T N)) 0 [some (.ref (ad G 86)), some (.int (nI r)), none, none, none, none, none] [] f l
  refine P.aload_n dX10_settle_0 rfl rfl ?_
  refine P.iconst dX10_settle_1 ic_0 ?_
  refine p_X10_thrown (a := 0) ly_86 (by decide) fl_X10_93 dX10_settle_2 rfl ?_
  have hM := mv_free (k := 86) (j := 0) (v := 0) (by decide) hM
  have hKN := hKN.up (k := 86) (j := 0) (v := 0) (by decide)
  have hCF : CF f l (uf f 86 0 0) l := (CF.rf f l).f (by decide)
  generalize uf f 86 0 0 = f0 at hM hKN hCF ⊢
  refine P.aload_n dX10_settle_5 rfl rfl ?_
  refine P.iload_n dX10_settle_6 rfl rfl ?_
  refine P.callV (As := [.int (nI r)]) (rest := []) (t_noLaw_t hM hBW hr) ok_X10_noLaw (fitX (Nat.le_of_ble_eq_true rfl)) rfl ml_X10_147 ly_86 (by decide) (by decide) rfl rfl (Nat.le_of_ble_eq_true rfl) dX10_settle_7 ?_
  refine P.if_eq_b (tgt := 15) dX10_settle_10 (by decide) (fun c_10 => ?_) (fun c_10 => ?_)
  · refine P.aload_n dX10_settle_15 rfl rfl ?_
    refine g_X10_kind (q := 94) ly_86 (by decide) (by decide) fl_X10_33 dX10_settle_16 ?_
    refine P.iload_n dX10_settle_19 rfl rfl ?_
    refine a_ia ly_94 (by decide) (by omega) (by decide) dX10_settle_20 ?_
    refine Pm.topn (b := W.2.1 r 0) ((hM.knd r (by omega))) ?_
    refine P.if_eq_n (tgt := 31) dX10_settle_21 (by decide) (by omega) (fun c_21 => ?_) (fun c_21 => ?_)
    · refine P.aload_n dX10_settle_31 rfl rfl ?_
      refine g_X10_colA (q := 96) ly_86 (by decide) (by decide) fl_X10_39 dX10_settle_32 ?_
      refine P.iload_n dX10_settle_35 rfl rfl ?_
      refine a_ia ly_96 (by decide) (by omega) (by decide) dX10_settle_36 ?_
      refine Pm.topn (b := W.2.1 r 2) ((hM.fst r (by omega))) ?_
      refine P.aload_n dX10_settle_37 rfl rfl ?_
      refine g_X10_colB (q := 97) ly_86 (by decide) (by decide) fl_X10_42 dX10_settle_38 ?_
      refine P.iload_n dX10_settle_41 rfl rfl ?_
      refine a_ia ly_97 (by decide) (by omega) (by decide) dX10_settle_42 ?_
      refine Pm.topn (b := W.2.1 r 3) ((hM.snd r (by omega) hk1 hk3)) ?_
      refine P.icmp_ne_n (tgt := 49) dX10_settle_43 (by decide) (by omega) (by omega) (fun c_43 => ?_) (fun c_43 => ?_)
      · refine P.aload_n dX10_settle_49 rfl rfl ?_
        refine P.callV (As := []) (rest := []) (t_keptSet hM hBW) ok_X10_keptSet (fitX (Nat.le_of_ble_eq_true rfl)) rfl ml_X10_170 ly_86 (by decide) (by decide) rfl rfl (Nat.le_of_ble_eq_true rfl) dX10_settle_50 ?_
        refine P.istore_n dX10_settle_53 rfl (by decide) ?_
        refine P.aload_n dX10_settle_54 rfl rfl ?_
        refine g_X10_colB (q := 97) ly_86 (by decide) (by decide) fl_X10_42 dX10_settle_55 ?_
        refine P.iload_n dX10_settle_58 rfl rfl ?_
        refine a_ia ly_97 (by decide) (by omega) (by decide) dX10_settle_59 ?_
        refine Pm.topn (b := W.2.1 r 3) ((hM.snd r (by omega) hk1 hk3)) ?_
        refine P.istore_n dX10_settle_60 rfl (by decide) ?_
        refine P.iconst dX10_settle_61 ic_0 ?_
        refine P.istore dX10_settle_62 (by decide) ?_
        have hM0 := hM
        refine Pm.cl (bcW_0 l D (W.2.1 r 1) (W.2.1 r 2) (W.2.1 r 3)) ?_
        show Pm G _ _ _ _ 64 [some (.ref (ad G 86)), some (.int (nI r)), some (.int (nI (keptD D))), some (.int (nI (W.2.1 r 3))), some (.int (nI 0)), none, none] [] f0 l
        refine P.to (ls := [some (.ref (ad G 86)), some (.int (nI r)), some (.int (nI (keptD D))), some (.int (nI (W.2.1 r 3))), some (.int (nI 0)), none, none]) ?_ (by simp [lle])
        refine loop_up (M := fun (i : Nat) => Pm G _ _ _ _ 64 [some (.ref (ad G 86)), some (.int (nI r)), some (.int (nI (keptD D))), some (.int (nI (W.2.1 r 3))), some (.int (nI i)), none, none] [] f0 (bcW l D (W.2.1 r 1) (W.2.1 r 2) (W.2.1 r 3) i)) (lo := 0) (N := D.1) (by first | exact Nat.zero_le _ | omega) (fun i hi0 hi1 ihi => ?_) ?_
        · have hM := hM0.bcW (W.2.1 r 1) (W.2.1 r 2) (W.2.1 r 3) i
          show Pm G _ _ _ _ 64 [some (.ref (ad G 86)), some (.int (nI r)), some (.int (nI (keptD D))), some (.int (nI (W.2.1 r 3))), some (.int (nI i)), none, none] [] f0 (bcW l D (W.2.1 r 1) (W.2.1 r 2) (W.2.1 r 3) i)
          refine P.iload dX10_settle_64 rfl ?_
          refine P.aload_n dX10_settle_66 rfl rfl ?_
          refine g_X10_rows ly_86 (by decide) fl_X10_106 dX10_settle_67 ?_
          refine Pm.topn (b := D.1) (hM.R) ?_
          refine P.icmp_ge_n (tgt := 155) dX10_settle_70 (by decide) (by omega) (by omega) (fun c_70 => ?_) (fun c_70 => ?_)
          · exfalso; omega
          refine P.aload_n dX10_settle_73 rfl rfl ?_
          refine g_X10_become (q := 112) ly_86 (by decide) (by decide) fl_X10_87 dX10_settle_74 ?_
          refine P.iload dX10_settle_77 rfl ?_
          refine P.aload_n dX10_settle_79 rfl rfl ?_
          refine P.iload_n dX10_settle_80 rfl rfl ?_
          refine P.iload dX10_settle_81 rfl ?_
          refine P.iload_n dX10_settle_83 rfl rfl ?_
          refine P.callV (As := [.int (nI r), .int (nI i), .int (nI (keptD D))]) (rest := [.int (nI i), .ref (ad G 112)]) (t_isOf (w := r) (r := i) (S := keptD D) hM hBW hr (by omega) (by omega)) ok_X10_isOf (fitX (Nat.le_of_ble_eq_true rfl)) rfl ml_X10_154 ly_86 (by decide) (by decide) rfl rfl (Nat.le_of_ble_eq_true rfl) dX10_settle_84 ?_
          refine P.if_eq_b (tgt := 136) dX10_settle_87 (by decide) (fun c_87 => ?_) (fun c_87 => ?_)
          · refine P.aload_n dX10_settle_136 rfl rfl ?_
            refine g_X10_told (q := 93) ly_86 (by decide) (by decide) fl_X10_29 dX10_settle_137 ?_
            refine P.bipush (v := nI 6) dX10_settle_140 rfl ?_
            refine P.iload dX10_settle_142 rfl ?_
            refine P.imul_n dX10_settle_144 (pk_mul _ _) ?_
            refine P.iload_n dX10_settle_145 rfl rfl ?_
            refine P.iadd_n dX10_settle_146 (nI_add _ _) ?_
            refine a_la ly_93 (by decide) (by omega) (by decide) dX10_settle_147 ?_
            refine Pm.topl (b := D.2.2.2 i (W.2.1 r 3)) ((hM.num i (by omega) (W.2.1 r 3) (by omega))) ?_
            refine Pm.topl (b := becV D (W.2.1 r 1) (W.2.1 r 2) (W.2.1 r 3) i) ((becV_f (th_f1 c_87)).symm) ?_
            refine s_la ly_112 (by decide) (by omega) (by decide) dX10_settle_148 ?_
            refine P.iinc dX10_settle_149 rfl (inc1 _) (by decide) ?_
            refine P.goto (tgt := 64) dX10_settle_152 (by decide) ?_
            show Pm G _ _ _ _ 64 [some (.ref (ad G 86)), some (.int (nI r)), some (.int (nI (keptD D))), some (.int (nI (W.2.1 r 3))), some (.int (nI (i + 1))), none, none] [] f0 (uf (bcW l D (W.2.1 r 1) (W.2.1 r 2) (W.2.1 r 3) i) 112 i (becV D (W.2.1 r 1) (W.2.1 r 2) (W.2.1 r 3) i))
            exact Pm.to (ihi) (by simp [lle]) rfl rfl (by exact (bcW_s l D (W.2.1 r 1) (W.2.1 r 2) (W.2.1 r 3) i).symm)
          refine P.aload_n dX10_settle_90 rfl rfl ?_
          refine g_X10_isThere (q := 92) ly_86 (by decide) (by decide) fl_X10_26 dX10_settle_91 ?_
          refine P.bipush (v := nI 6) dX10_settle_94 rfl ?_
          refine P.iload dX10_settle_96 rfl ?_
          refine P.imul_n dX10_settle_98 (pk_mul _ _) ?_
          refine P.aload_n dX10_settle_99 rfl rfl ?_
          refine g_X10_colA (q := 96) ly_86 (by decide) (by decide) fl_X10_39 dX10_settle_100 ?_
          refine P.iload_n dX10_settle_103 rfl rfl ?_
          refine a_ia ly_96 (by decide) (by omega) (by decide) dX10_settle_104 ?_
          refine Pm.topn (b := W.2.1 r 2) ((hM.fst r (by omega))) ?_
          refine P.iadd_n dX10_settle_105 (nI_add _ _) ?_
          refine a_za ly_92 (by decide) (by omega) (by decide) dX10_settle_106 ?_
          refine Pm.topn (b := D.2.2.1 i (W.2.1 r 2)) ((hM.the i (by omega) (W.2.1 r 2) (by omega))) ?_
          refine P.if_eq_n (tgt := 136) dX10_settle_107 (by decide) (by have := (hD.2.2.2 i hi1).2.2.2.2 (W.2.1 r 2); omega) (fun c_107 => ?_) (fun c_107 => ?_)
          · refine P.aload_n dX10_settle_136 rfl rfl ?_
            refine g_X10_told (q := 93) ly_86 (by decide) (by decide) fl_X10_29 dX10_settle_137 ?_
            refine P.bipush (v := nI 6) dX10_settle_140 rfl ?_
            refine P.iload dX10_settle_142 rfl ?_
            refine P.imul_n dX10_settle_144 (pk_mul _ _) ?_
            refine P.iload_n dX10_settle_145 rfl rfl ?_
            refine P.iadd_n dX10_settle_146 (nI_add _ _) ?_
            refine a_la ly_93 (by decide) (by omega) (by decide) dX10_settle_147 ?_
            refine Pm.topl (b := D.2.2.2 i (W.2.1 r 3)) ((hM.num i (by omega) (W.2.1 r 3) (by omega))) ?_
            refine Pm.topl (b := becV D (W.2.1 r 1) (W.2.1 r 2) (W.2.1 r 3) i) ((becV_f (th_f2 c_107)).symm) ?_
            refine s_la ly_112 (by decide) (by omega) (by decide) dX10_settle_148 ?_
            refine P.iinc dX10_settle_149 rfl (inc1 _) (by decide) ?_
            refine P.goto (tgt := 64) dX10_settle_152 (by decide) ?_
            show Pm G _ _ _ _ 64 [some (.ref (ad G 86)), some (.int (nI r)), some (.int (nI (keptD D))), some (.int (nI (W.2.1 r 3))), some (.int (nI (i + 1))), none, none] [] f0 (uf (bcW l D (W.2.1 r 1) (W.2.1 r 2) (W.2.1 r 3) i) 112 i (becV D (W.2.1 r 1) (W.2.1 r 2) (W.2.1 r 3) i))
            exact Pm.to (ihi) (by simp [lle]) rfl rfl (by exact (bcW_s l D (W.2.1 r 1) (W.2.1 r 2) (W.2.1 r 3) i).symm)
          refine P.aload_n dX10_settle_110 rfl rfl ?_
          refine g_X10_isThere (q := 92) ly_86 (by decide) (by decide) fl_X10_26 dX10_settle_111 ?_
          refine P.bipush (v := nI 6) dX10_settle_114 rfl ?_
          refine P.iload dX10_settle_116 rfl ?_
          refine P.imul_n dX10_settle_118 (pk_mul _ _) ?_
          refine P.iload_n dX10_settle_119 rfl rfl ?_
          refine P.iadd_n dX10_settle_120 (nI_add _ _) ?_
          refine a_za ly_92 (by decide) (by omega) (by decide) dX10_settle_121 ?_
          refine Pm.topn (b := D.2.2.1 i (W.2.1 r 3)) ((hM.the i (by omega) (W.2.1 r 3) (by omega))) ?_
          refine P.if_eq_n (tgt := 136) dX10_settle_122 (by decide) (by have := (hD.2.2.2 i hi1).2.2.2.2 (W.2.1 r 3); omega) (fun c_122 => ?_) (fun c_122 => ?_)
          · refine P.aload_n dX10_settle_136 rfl rfl ?_
            refine g_X10_told (q := 93) ly_86 (by decide) (by decide) fl_X10_29 dX10_settle_137 ?_
            refine P.bipush (v := nI 6) dX10_settle_140 rfl ?_
            refine P.iload dX10_settle_142 rfl ?_
            refine P.imul_n dX10_settle_144 (pk_mul _ _) ?_
            refine P.iload_n dX10_settle_145 rfl rfl ?_
            refine P.iadd_n dX10_settle_146 (nI_add _ _) ?_
            refine a_la ly_93 (by decide) (by omega) (by decide) dX10_settle_147 ?_
            refine Pm.topl (b := D.2.2.2 i (W.2.1 r 3)) ((hM.num i (by omega) (W.2.1 r 3) (by omega))) ?_
            refine Pm.topl (b := becV D (W.2.1 r 1) (W.2.1 r 2) (W.2.1 r 3) i) ((becV_f (th_f3 c_122)).symm) ?_
            refine s_la ly_112 (by decide) (by omega) (by decide) dX10_settle_148 ?_
            refine P.iinc dX10_settle_149 rfl (inc1 _) (by decide) ?_
            refine P.goto (tgt := 64) dX10_settle_152 (by decide) ?_
            show Pm G _ _ _ _ 64 [some (.ref (ad G 86)), some (.int (nI r)), some (.int (nI (keptD D))), some (.int (nI (W.2.1 r 3))), some (.int (nI (i + 1))), none, none] [] f0 (uf (bcW l D (W.2.1 r 1) (W.2.1 r 2) (W.2.1 r 3) i) 112 i (becV D (W.2.1 r 1) (W.2.1 r 2) (W.2.1 r 3) i))
            exact Pm.to (ihi) (by simp [lle]) rfl rfl (by exact (bcW_s l D (W.2.1 r 1) (W.2.1 r 2) (W.2.1 r 3) i).symm)
          refine P.aload_n dX10_settle_125 rfl rfl ?_
          refine P.iload_n dX10_settle_126 rfl rfl ?_
          refine P.iload dX10_settle_127 rfl ?_
          refine P.iload_n dX10_settle_129 rfl rfl ?_
          refine P.callV (As := [.int (nI r), .int (nI i), .int (nI (keptD D))]) (rest := [.int (nI i), .ref (ad G 112)]) (t_settled (w := r) (F := i) (K := keptD D) hM hBW hr (by omega) (by omega) hk) ok_X10_settled (fitX (Nat.le_of_ble_eq_true rfl)) rfl ml_X10_205 ly_86 (by decide) (by decide) rfl rfl (Nat.le_of_ble_eq_true rfl) dX10_settle_130 ?_
          refine P.goto (tgt := 148) dX10_settle_133 (by decide) ?_
          refine Pm.topl (b := becV D (W.2.1 r 1) (W.2.1 r 2) (W.2.1 r 3) i) (((settled_eq hD (th_t hi1 c_87 c_107 c_122)).trans (becV_t (th_t hi1 c_87 c_107 c_122)).symm)) ?_
          refine s_la ly_112 (by decide) (by omega) (by decide) dX10_settle_148 ?_
          refine P.iinc dX10_settle_149 rfl (inc1 _) (by decide) ?_
          refine P.goto (tgt := 64) dX10_settle_152 (by decide) ?_
          show Pm G _ _ _ _ 64 [some (.ref (ad G 86)), some (.int (nI r)), some (.int (nI (keptD D))), some (.int (nI (W.2.1 r 3))), some (.int (nI (i + 1))), none, none] [] f0 (uf (bcW l D (W.2.1 r 1) (W.2.1 r 2) (W.2.1 r 3) i) 112 i (becV D (W.2.1 r 1) (W.2.1 r 2) (W.2.1 r 3) i))
          exact Pm.to (ihi) (by simp [lle]) rfl rfl (by exact (bcW_s l D (W.2.1 r 1) (W.2.1 r 2) (W.2.1 r 3) i).symm)
        · have hM := hM0.bcW (W.2.1 r 1) (W.2.1 r 2) (W.2.1 r 3) D.1
          show Pm G _ _ _ _ 64 [some (.ref (ad G 86)), some (.int (nI r)), some (.int (nI (keptD D))), some (.int (nI (W.2.1 r 3))), some (.int (nI D.1)), none, none] [] f0 (bcW l D (W.2.1 r 1) (W.2.1 r 2) (W.2.1 r 3) D.1)
          refine P.iload dX10_settle_64 rfl ?_
          refine P.aload_n dX10_settle_66 rfl rfl ?_
          refine g_X10_rows ly_86 (by decide) fl_X10_106 dX10_settle_67 ?_
          refine Pm.topn (b := D.1) (hM.R) ?_
          refine P.icmp_ge_n (tgt := 155) dX10_settle_70 (by decide) (by omega) (by omega) (fun c_70 => ?_) (fun c_70 => ?_)
          · refine P.iconst dX10_settle_155 ic_0 ?_
            refine P.istore dX10_settle_156 (by decide) ?_
            refine P.iconst dX10_settle_158 ic_0 ?_
            refine P.istore dX10_settle_159 (by decide) ?_
            refine Pm.cl (stW_0 (bcW l D (W.2.1 r 1) (W.2.1 r 2) (W.2.1 r 3) D.1) D (W.2.1 r 1) (W.2.1 r 2) (W.2.1 r 3)) ?_
            show Pm G _ _ _ _ 161 [some (.ref (ad G 86)), some (.int (nI r)), some (.int (nI (keptD D))), some (.int (nI (W.2.1 r 3))), some (.int (nI 0)), some (.int (nI 0)), none] [] f0 (stW (bcW l D (W.2.1 r 1) (W.2.1 r 2) (W.2.1 r 3) D.1) D (W.2.1 r 1) (W.2.1 r 2) (W.2.1 r 3) 0)
            refine P.to (ls := [some (.ref (ad G 86)), some (.int (nI r)), some (.int (nI (keptD D))), some (.int (nI (W.2.1 r 3))), some (.int (nI (cntN (cPs D (W.2.1 r 1) (W.2.1 r 2) (W.2.1 r 3)) 0))), some (.int (nI 0)), none]) ?_ (by simp [lle, cntN, fo])
            refine loop_up (M := fun (i : Nat) => Pm G _ _ _ _ 161 [some (.ref (ad G 86)), some (.int (nI r)), some (.int (nI (keptD D))), some (.int (nI (W.2.1 r 3))), some (.int (nI (cntN (cPs D (W.2.1 r 1) (W.2.1 r 2) (W.2.1 r 3)) i))), some (.int (nI i)), none] [] f0 (stW (bcW l D (W.2.1 r 1) (W.2.1 r 2) (W.2.1 r 3) D.1) D (W.2.1 r 1) (W.2.1 r 2) (W.2.1 r 3) i)) (lo := 0) (N := D.1) (by first | exact Nat.zero_le _ | omega) (fun i hi0 hi1 ihi => ?_) ?_
            · have hMi := mv_sti (W.2.1 r 1) (W.2.1 r 2) hw3 i hM0
              show Pm G _ _ _ _ 161 [some (.ref (ad G 86)), some (.int (nI r)), some (.int (nI (keptD D))), some (.int (nI (W.2.1 r 3))), some (.int (nI (cntN (cPs D (W.2.1 r 1) (W.2.1 r 2) (W.2.1 r 3)) i))), some (.int (nI i)), none] [] f0 (stW (bcW l D (W.2.1 r 1) (W.2.1 r 2) (W.2.1 r 3) D.1) D (W.2.1 r 1) (W.2.1 r 2) (W.2.1 r 3) i)
              refine P.iload dX10_settle_161 rfl ?_
              refine P.aload_n dX10_settle_163 rfl rfl ?_
              refine g_X10_rows ly_86 (by decide) fl_X10_106 dX10_settle_164 ?_
              refine Pm.topn (b := D.1) (hM.R) ?_
              refine P.icmp_ge_n (tgt := 271) dX10_settle_167 (by decide) (by omega) (by omega) (fun c_167 => ?_) (fun c_167 => ?_)
              · exfalso; omega
              refine P.aload_n dX10_settle_170 rfl rfl ?_
              refine P.iload_n dX10_settle_171 rfl rfl ?_
              refine P.iload dX10_settle_172 rfl ?_
              refine P.iload_n dX10_settle_174 rfl rfl ?_
              refine P.callV (As := [.int (nI r), .int (nI i), .int (nI (keptD D))]) (rest := []) (t_isOf_sti (w := r) (r := i) (S := keptD D) (W.2.1 r 1) (W.2.1 r 2) (W.2.1 r 3) i hMi hBW hr (by omega) (by omega)) ok_X10_isOf (fitX (Nat.le_of_ble_eq_true rfl)) rfl ml_X10_154 ly_86 (by decide) (by decide) rfl rfl (Nat.le_of_ble_eq_true rfl) dX10_settle_175 ?_
              refine P.if_eq_b (tgt := 208) dX10_settle_178 (by decide) (fun c_178 => ?_) (fun c_178 => ?_)
              · refine P.iconst dX10_settle_208 ic_0 ?_
                refine P.istore dX10_settle_209 (by decide) ?_
                refine P.iload dX10_settle_211 rfl ?_
                refine P.iload dX10_settle_213 rfl ?_
                refine P.if_eq_n (tgt := 222) dX10_settle_215 (by decide) (by omega) (fun c_215 => ?_) (fun c_215 => ?_)
                · refine P.iconst dX10_settle_222 ic_0 ?_
                  refine P.iadd_n dX10_settle_223 (nI_add _ _) ?_
                  refine P.istore dX10_settle_224 (by decide) ?_
                  refine P.aload_n dX10_settle_226 rfl rfl ?_
                  refine g_X10_told (q := 93) ly_86 (by decide) (by decide) fl_X10_29 dX10_settle_227 ?_
                  refine P.bipush (v := nI 6) dX10_settle_230 rfl ?_
                  refine P.iload dX10_settle_232 rfl ?_
                  refine P.imul_n dX10_settle_234 (pk_mul _ _) ?_
                  refine P.iload_n dX10_settle_235 rfl rfl ?_
                  refine P.iadd_n dX10_settle_236 (nI_add _ _) ?_
                  refine P.iload dX10_settle_237 rfl ?_
                  refine P.if_eq_n (tgt := 252) dX10_settle_239 (by decide) (by omega) (fun c_239 => ?_) (fun c_239 => ?_)
                  · refine P.aload_n dX10_settle_252 rfl rfl ?_
                    refine g_X10_told (q := 93) ly_86 (by decide) (by decide) fl_X10_29 dX10_settle_253 ?_
                    refine P.bipush (v := nI 6) dX10_settle_256 rfl ?_
                    refine P.iload dX10_settle_258 rfl ?_
                    refine P.imul_n dX10_settle_260 (pk_mul _ _) ?_
                    refine P.iload_n dX10_settle_261 rfl rfl ?_
                    refine P.iadd_n dX10_settle_262 (nI_add _ _) ?_
                    refine a_la ly_93 (by decide) (by omega) (by decide) dX10_settle_263 ?_
                    refine Pm.topl (b := D.2.2.2 i (W.2.1 r 3)) (((stW_ne _ _ _ _ _ _ (Or.inr (Or.inr (by omega)))).trans ((bcW_ne _ _ _ _ _ _ (by decide)).trans (hM0.num i (by omega) (W.2.1 r 3) (by omega))))) ?_
                    refine Pm.topl (b := becV D (W.2.1 r 1) (W.2.1 r 2) (W.2.1 r 3) i) ((becV_f (th_f1 c_178)).symm) ?_
                    refine s_la ly_93 (by decide) (by omega) (by decide) dX10_settle_264 ?_
                    refine P.iinc dX10_settle_265 rfl (inc1 _) (by decide) ?_
                    refine P.goto (tgt := 161) dX10_settle_268 (by decide) ?_
                    show Pm G _ _ _ _ 161 [some (.ref (ad G 86)), some (.int (nI r)), some (.int (nI (keptD D))), some (.int (nI (W.2.1 r 3))), some (.int (nI ((cntN (cPs D (W.2.1 r 1) (W.2.1 r 2) (W.2.1 r 3)) i) + 0))), some (.int (nI (i + 1))), some (.int (nI 0))] [] f0 (uf (stW (bcW l D (W.2.1 r 1) (W.2.1 r 2) (W.2.1 r 3) D.1) D (W.2.1 r 1) (W.2.1 r 2) (W.2.1 r 3) i) 93 ((6 * i) + (W.2.1 r 3)) (becV D (W.2.1 r 1) (W.2.1 r 2) (W.2.1 r 3) i))
                    exact Pm.to (ihi) (by rw [cntN_s, cP_0 (becV_f (th_f1 c_178))]; simp [lle, bN_f]) rfl rfl (by exact (stW_s (bcW l D (W.2.1 r 1) (W.2.1 r 2) (W.2.1 r 3) D.1) D (W.2.1 r 1) (W.2.1 r 2) (W.2.1 r 3) i hw3).symm)
                  · exfalso; omega
                · exfalso; omega
              refine P.aload_n dX10_settle_181 rfl rfl ?_
              refine g_X10_become (q := 112) ly_86 (by decide) (by decide) fl_X10_87 dX10_settle_182 ?_
              refine P.iload dX10_settle_185 rfl ?_
              refine a_la ly_112 (by decide) (by omega) (by decide) dX10_settle_187 ?_
              refine Pm.topl (b := becV D (W.2.1 r 1) (W.2.1 r 2) (W.2.1 r 3) i) (((stW_ne _ _ _ _ _ _ (Or.inl (by decide))).trans (bcW_at (by omega)))) ?_
              refine P.aload_n dX10_settle_188 rfl rfl ?_
              refine g_X10_told (q := 93) ly_86 (by decide) (by decide) fl_X10_29 dX10_settle_189 ?_
              refine P.bipush (v := nI 6) dX10_settle_192 rfl ?_
              refine P.iload dX10_settle_194 rfl ?_
              refine P.imul_n dX10_settle_196 (pk_mul _ _) ?_
              refine P.iload_n dX10_settle_197 rfl rfl ?_
              refine P.iadd_n dX10_settle_198 (nI_add _ _) ?_
              refine a_la ly_93 (by decide) (by omega) (by decide) dX10_settle_199 ?_
              refine Pm.topl (b := D.2.2.2 i (W.2.1 r 3)) (((stW_ne _ _ _ _ _ _ (Or.inr (Or.inr (by omega)))).trans ((bcW_ne _ _ _ _ _ _ (by decide)).trans (hM0.num i (by omega) (W.2.1 r 3) (by omega))))) ?_
              refine P.lc_eq (tgt := 208) dX10_settle_200 dX10_settle_201 (by decide) (fun c_200 => ?_) (fun c_200 => ?_)
              · refine P.iconst dX10_settle_208 ic_0 ?_
                refine P.istore dX10_settle_209 (by decide) ?_
                refine P.iload dX10_settle_211 rfl ?_
                refine P.iload dX10_settle_213 rfl ?_
                refine P.if_eq_n (tgt := 222) dX10_settle_215 (by decide) (by omega) (fun c_215 => ?_) (fun c_215 => ?_)
                · refine P.iconst dX10_settle_222 ic_0 ?_
                  refine P.iadd_n dX10_settle_223 (nI_add _ _) ?_
                  refine P.istore dX10_settle_224 (by decide) ?_
                  refine P.aload_n dX10_settle_226 rfl rfl ?_
                  refine g_X10_told (q := 93) ly_86 (by decide) (by decide) fl_X10_29 dX10_settle_227 ?_
                  refine P.bipush (v := nI 6) dX10_settle_230 rfl ?_
                  refine P.iload dX10_settle_232 rfl ?_
                  refine P.imul_n dX10_settle_234 (pk_mul _ _) ?_
                  refine P.iload_n dX10_settle_235 rfl rfl ?_
                  refine P.iadd_n dX10_settle_236 (nI_add _ _) ?_
                  refine P.iload dX10_settle_237 rfl ?_
                  refine P.if_eq_n (tgt := 252) dX10_settle_239 (by decide) (by omega) (fun c_239 => ?_) (fun c_239 => ?_)
                  · refine P.aload_n dX10_settle_252 rfl rfl ?_
                    refine g_X10_told (q := 93) ly_86 (by decide) (by decide) fl_X10_29 dX10_settle_253 ?_
                    refine P.bipush (v := nI 6) dX10_settle_256 rfl ?_
                    refine P.iload dX10_settle_258 rfl ?_
                    refine P.imul_n dX10_settle_260 (pk_mul _ _) ?_
                    refine P.iload_n dX10_settle_261 rfl rfl ?_
                    refine P.iadd_n dX10_settle_262 (nI_add _ _) ?_
                    refine a_la ly_93 (by decide) (by omega) (by decide) dX10_settle_263 ?_
                    refine Pm.topl (b := D.2.2.2 i (W.2.1 r 3)) (((stW_ne _ _ _ _ _ _ (Or.inr (Or.inr (by omega)))).trans ((bcW_ne _ _ _ _ _ _ (by decide)).trans (hM0.num i (by omega) (W.2.1 r 3) (by omega))))) ?_
                    refine Pm.topl (b := becV D (W.2.1 r 1) (W.2.1 r 2) (W.2.1 r 3) i) (c_200.symm) ?_
                    refine s_la ly_93 (by decide) (by omega) (by decide) dX10_settle_264 ?_
                    refine P.iinc dX10_settle_265 rfl (inc1 _) (by decide) ?_
                    refine P.goto (tgt := 161) dX10_settle_268 (by decide) ?_
                    show Pm G _ _ _ _ 161 [some (.ref (ad G 86)), some (.int (nI r)), some (.int (nI (keptD D))), some (.int (nI (W.2.1 r 3))), some (.int (nI ((cntN (cPs D (W.2.1 r 1) (W.2.1 r 2) (W.2.1 r 3)) i) + 0))), some (.int (nI (i + 1))), some (.int (nI 0))] [] f0 (uf (stW (bcW l D (W.2.1 r 1) (W.2.1 r 2) (W.2.1 r 3) D.1) D (W.2.1 r 1) (W.2.1 r 2) (W.2.1 r 3) i) 93 ((6 * i) + (W.2.1 r 3)) (becV D (W.2.1 r 1) (W.2.1 r 2) (W.2.1 r 3) i))
                    exact Pm.to (ihi) (by rw [cntN_s, cP_0 c_200]; simp [lle, bN_f]) rfl rfl (by exact (stW_s (bcW l D (W.2.1 r 1) (W.2.1 r 2) (W.2.1 r 3) D.1) D (W.2.1 r 1) (W.2.1 r 2) (W.2.1 r 3) i hw3).symm)
                  · exfalso; omega
                · exfalso; omega
              refine P.iconst dX10_settle_204 ic_1 ?_
              refine P.goto (tgt := 209) dX10_settle_205 (by decide) ?_
              refine P.istore dX10_settle_209 (by decide) ?_
              refine P.iload dX10_settle_211 rfl ?_
              refine P.iload dX10_settle_213 rfl ?_
              refine P.if_eq_n (tgt := 222) dX10_settle_215 (by decide) (by omega) (fun c_215 => ?_) (fun c_215 => ?_)
              · exfalso; omega
              refine P.iconst dX10_settle_218 ic_1 ?_
              refine P.goto (tgt := 223) dX10_settle_219 (by decide) ?_
              refine P.iadd_n dX10_settle_223 (nI_add _ _) ?_
              refine P.istore dX10_settle_224 (by decide) ?_
              refine P.aload_n dX10_settle_226 rfl rfl ?_
              refine g_X10_told (q := 93) ly_86 (by decide) (by decide) fl_X10_29 dX10_settle_227 ?_
              refine P.bipush (v := nI 6) dX10_settle_230 rfl ?_
              refine P.iload dX10_settle_232 rfl ?_
              refine P.imul_n dX10_settle_234 (pk_mul _ _) ?_
              refine P.iload_n dX10_settle_235 rfl rfl ?_
              refine P.iadd_n dX10_settle_236 (nI_add _ _) ?_
              refine P.iload dX10_settle_237 rfl ?_
              refine P.if_eq_n (tgt := 252) dX10_settle_239 (by decide) (by omega) (fun c_239 => ?_) (fun c_239 => ?_)
              · exfalso; omega
              refine P.aload_n dX10_settle_242 rfl rfl ?_
              refine g_X10_become (q := 112) ly_86 (by decide) (by decide) fl_X10_87 dX10_settle_243 ?_
              refine P.iload dX10_settle_246 rfl ?_
              refine a_la ly_112 (by decide) (by omega) (by decide) dX10_settle_248 ?_
              refine Pm.topl (b := becV D (W.2.1 r 1) (W.2.1 r 2) (W.2.1 r 3) i) (((stW_ne _ _ _ _ _ _ (Or.inl (by decide))).trans (bcW_at (by omega)))) ?_
              refine P.goto (tgt := 264) dX10_settle_249 (by decide) ?_
              skip
              refine s_la ly_93 (by decide) (by omega) (by decide) dX10_settle_264 ?_
              refine P.iinc dX10_settle_265 rfl (inc1 _) (by decide) ?_
              refine P.goto (tgt := 161) dX10_settle_268 (by decide) ?_
              show Pm G _ _ _ _ 161 [some (.ref (ad G 86)), some (.int (nI r)), some (.int (nI (keptD D))), some (.int (nI (W.2.1 r 3))), some (.int (nI ((cntN (cPs D (W.2.1 r 1) (W.2.1 r 2) (W.2.1 r 3)) i) + 1))), some (.int (nI (i + 1))), some (.int (nI 1))] [] f0 (uf (stW (bcW l D (W.2.1 r 1) (W.2.1 r 2) (W.2.1 r 3) D.1) D (W.2.1 r 1) (W.2.1 r 2) (W.2.1 r 3) i) 93 ((6 * i) + (W.2.1 r 3)) (becV D (W.2.1 r 1) (W.2.1 r 2) (W.2.1 r 3) i))
              exact Pm.to (ihi) (by rw [cntN_s, cP_1 c_200]; simp [lle, bN_t]) rfl rfl (by exact (stW_s (bcW l D (W.2.1 r 1) (W.2.1 r 2) (W.2.1 r 3) D.1) D (W.2.1 r 1) (W.2.1 r 2) (W.2.1 r 3) i hw3).symm)
            · show Pm G _ _ _ _ 161 [some (.ref (ad G 86)), some (.int (nI r)), some (.int (nI (keptD D))), some (.int (nI (W.2.1 r 3))), some (.int (nI (cntN (cPs D (W.2.1 r 1) (W.2.1 r 2) (W.2.1 r 3)) D.1))), some (.int (nI D.1)), none] [] f0 (stW (bcW l D (W.2.1 r 1) (W.2.1 r 2) (W.2.1 r 3) D.1) D (W.2.1 r 1) (W.2.1 r 2) (W.2.1 r 3) D.1)
              refine P.iload dX10_settle_161 rfl ?_
              refine P.aload_n dX10_settle_163 rfl rfl ?_
              refine g_X10_rows ly_86 (by decide) fl_X10_106 dX10_settle_164 ?_
              refine Pm.topn (b := D.1) (hM.R) ?_
              refine P.icmp_ge_n (tgt := 271) dX10_settle_167 (by decide) (by omega) (by omega) (fun c_167 => ?_) (fun c_167 => ?_)
              · refine P.aload_n dX10_settle_271 rfl rfl ?_
                refine P.iconst dX10_settle_272 ic_0 ?_
                refine p_X10_isKnown (a := 0) ly_86 (by decide) fl_X10_121 dX10_settle_273 rfl (by omega) ?_
                refine P.iload dX10_settle_276 rfl ?_
                exact P.iretX rfl dX10_settle_278 ⟨rfl, mv_free (by decide) (mv_stl _ _ hw3 hM0), KN.z _ _ _, fun q hq => ⟨fun j => ((hCF.f (by decide)) q hq).1 j, fun j => (stW_ne _ _ _ _ _ _ (Or.inl (by omega))).trans ((bcW_ne _ _ _ _ _ _ (by omega)).trans ((hCF q hq).2 j))⟩⟩
              · exfalso; omega
          · exfalso; omega
      · exfalso; omega
    · exfalso; omega
  · exfalso; revert c_10; decide


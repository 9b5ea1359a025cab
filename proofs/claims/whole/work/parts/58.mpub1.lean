-- the model's calls, case by case: by program (wip/whole/spec58.py)
set_option maxRecDepth 20000 in
theorem q_table_a {G : GG} {f : Nat → Nat → Nat} {l : Nat → Nat → Int64} {D : DB} {W : LB} {U : QB} {T : TB} {N : Nat} (hM : MV f l D W U T N) (hBW : BW D W U T) (hKN : KN f D W) {x : Int32} (hx : inR x 4 = false) {y z : Int32} : SpX G mX10_table [.ref (ad G 86), .int x, .int y, .int z] f l (fun rv f1 l1 => rv = (some (.int (-12))) ∧ MJ f l f1 l1 D W U T (N + 1)) := by
  obtain ⟨hD, hLW, hUW, hTW⟩ := id hBW
  have hR := hD.1
  have hW1 := hLW.1
  have hU1 := hUW.1
  have hJ1 := hUW.2.1
  refine SpX.of ok_X10_table.1 (Nat.le_of_ble_eq_true rfl) ?_
  show Pm G RX10 cX10_table 7 (KX G mX10_table (fun rv f1 l1 => rv = (some (.int (-12))) ∧ MJ f l f1 l1 D W U T (N + 1))) 0 [some (.ref (ad G 86)), some (.int x), some (.int y), some (.int z), none, none, none] [] f l
  refine P.aload_n dX10_table_0 rfl rfl ?_
  refine P.iconst dX10_table_1 ic_0 ?_
  refine p_X10_thrown (a := 0) ly_86 (by decide) fl_X10_93 dX10_table_2 rfl ?_
  have hM := mv_free (k := 86) (j := 0) (v := 0) (by decide) hM
  have hKN := hKN.up (k := 86) (j := 0) (v := 0) (by decide)
  have hCF : CF f l (uf f 86 0 0) l := (CF.rf f l).f (by decide)
  generalize uf f 86 0 0 = f0 at hM hKN hCF ⊢
  refine P.iload_n dX10_table_5 rfl rfl ?_
  refine P.i2l dX10_table_6 rfl ?_
  refine P.lconst (v := 0) dX10_table_7 rfl ?_
  refine P.ldc2 dX10_table_8 co_X10_100 ?_
  refine P.callS (As := [.long ((x).toInt64), .long 0, .long 3]) (rest := []) (by have h := t_inC (G := G) (f := f0) (l := l) (x := x) (R := 4) (b := 3) rfl (by decide); rw [hx] at h; exact h) ok_X10_in (fitX (Nat.le_of_ble_eq_true rfl)) rfl ml_X10_102 rfl (Nat.le_of_ble_eq_true rfl) dX10_table_11 ?_
  refine P.if_ne_b (tgt := 24) dX10_table_14 (by decide) (fun c_14 => ?_) (fun c_14 => ?_)
  · exfalso; revert c_14; decide
  refine P.aload_n dX10_table_17 rfl rfl ?_
  refine P.bipush (v := -12) dX10_table_18 rfl ?_
  refine P.callV (As := [.int (-12)]) (rest := []) (t_finds hM hBW) ok_X10_finds (fitX (Nat.le_of_ble_eq_true rfl)) rfl ml_X10_112 ly_86 (by decide) (by decide) rfl rfl (Nat.le_of_ble_eq_true rfl) dX10_table_20 ?_
  exact P.iretX rfl dX10_table_23 ⟨rfl, (mv_N hM), (KN.up (by omega) hKN), (hCF.f (by decide))⟩

set_option maxRecDepth 20000 in
theorem q_table_b {G : GG} {f : Nat → Nat → Nat} {l : Nat → Nat → Int64} {D : DB} {W : LB} {U : QB} {T : TB} {N : Nat} (hM : MV f l D W U T N) (hBW : BW D W U T) (hKN : KN f D W) {t : Nat} (ht : t < 4) {y z : Int32} (hy : y.toInt < 0) : SpX G mX10_table [.ref (ad G 86), .int (nI t), .int y, .int z] f l (fun rv f1 l1 => rv = (some (.int (-14))) ∧ MJ f l f1 l1 D W U T (N + 1)) := by
  obtain ⟨hD, hLW, hUW, hTW⟩ := id hBW
  have hR := hD.1
  have hW1 := hLW.1
  have hU1 := hUW.1
  have hJ1 := hUW.2.1
  refine SpX.of ok_X10_table.1 (Nat.le_of_ble_eq_true rfl) ?_
  show Pm G RX10 cX10_table 7 (KX G mX10_table (fun rv f1 l1 => rv = (some (.int (-14))) ∧ MJ f l f1 l1 D W U T (N + 1))) 0 [some (.ref (ad G 86)), some (.int (nI t)), some (.int y), some (.int z), none, none, none] [] f l
  refine P.aload_n dX10_table_0 rfl rfl ?_
  refine P.iconst dX10_table_1 ic_0 ?_
  refine p_X10_thrown (a := 0) ly_86 (by decide) fl_X10_93 dX10_table_2 rfl ?_
  have hM := mv_free (k := 86) (j := 0) (v := 0) (by decide) hM
  have hKN := hKN.up (k := 86) (j := 0) (v := 0) (by decide)
  have hCF : CF f l (uf f 86 0 0) l := (CF.rf f l).f (by decide)
  generalize uf f 86 0 0 = f0 at hM hKN hCF ⊢
  refine P.iload_n dX10_table_5 rfl rfl ?_
  refine P.i2l dX10_table_6 rfl ?_
  refine P.lconst (v := 0) dX10_table_7 rfl ?_
  refine P.ldc2 dX10_table_8 co_X10_100 ?_
  refine P.callS (As := [.long ((nI t).toInt64), .long 0, .long 3]) (rest := []) (by have h := t_inC (G := G) (f := f0) (l := l) (x := (nI t)) (R := 4) (b := 3) rfl (by decide); rw [inR_n ht (by decide)] at h; exact h) ok_X10_in (fitX (Nat.le_of_ble_eq_true rfl)) rfl ml_X10_102 rfl (Nat.le_of_ble_eq_true rfl) dX10_table_11 ?_
  refine P.if_ne_b (tgt := 24) dX10_table_14 (by decide) (fun c_14 => ?_) (fun c_14 => ?_)
  · refine P.iload_n dX10_table_24 rfl rfl ?_
    refine P.if_ge_z (tgt := 35) dX10_table_25 (by decide) rfl (fun c_25 => ?_) (fun c_25 => ?_)
    · exfalso; omega
    refine P.aload_n dX10_table_28 rfl rfl ?_
    refine P.bipush (v := -14) dX10_table_29 rfl ?_
    refine P.callV (As := [.int (-14)]) (rest := []) (t_finds hM hBW) ok_X10_finds (fitX (Nat.le_of_ble_eq_true rfl)) rfl ml_X10_112 ly_86 (by decide) (by decide) rfl rfl (Nat.le_of_ble_eq_true rfl) dX10_table_31 ?_
    exact P.iretX rfl dX10_table_34 ⟨rfl, (mv_N hM), (KN.up (by omega) hKN), (hCF.f (by decide))⟩
  · exfalso; revert c_14; decide

set_option maxRecDepth 20000 in
theorem q_table_c0 {G : GG} {f : Nat → Nat → Nat} {l : Nat → Nat → Int64} {D : DB} {W : LB} {U : QB} {T : TB} {N : Nat} (hM : MV f l D W U T N) (hBW : BW D W U T) (hKN : KN f D W) {t : Nat} (ht : t < 4) {z : Int32} : SpX G mX10_table [.ref (ad G 86), .int (nI t), .int (nI 0), .int z] f l (fun rv f1 l1 => rv = (some (.int (-2))) ∧ MJ f l f1 l1 D W U T N) := by
  obtain ⟨hD, hLW, hUW, hTW⟩ := id hBW
  have hR := hD.1
  have hW1 := hLW.1
  have hU1 := hUW.1
  have hJ1 := hUW.2.1
  refine SpX.of ok_X10_table.1 (Nat.le_of_ble_eq_true rfl) ?_
  show Pm G RX10 cX10_table 7 (KX G mX10_table (fun rv f1 l1 => rv = (some (.int (-2))) ∧ MJ f l f1 l1 D W U T N)) 0 [some (.ref (ad G 86)), some (.int (nI t)), some (.int (nI 0)), some (.int z), none, none, none] [] f l
  refine P.aload_n dX10_table_0 rfl rfl ?_
  refine P.iconst dX10_table_1 ic_0 ?_
  refine p_X10_thrown (a := 0) ly_86 (by decide) fl_X10_93 dX10_table_2 rfl ?_
  have hM := mv_free (k := 86) (j := 0) (v := 0) (by decide) hM
  have hKN := hKN.up (k := 86) (j := 0) (v := 0) (by decide)
  have hCF : CF f l (uf f 86 0 0) l := (CF.rf f l).f (by decide)
  generalize uf f 86 0 0 = f0 at hM hKN hCF ⊢
  refine P.iload_n dX10_table_5 rfl rfl ?_
  refine P.i2l dX10_table_6 rfl ?_
  refine P.lconst (v := 0) dX10_table_7 rfl ?_
  refine P.ldc2 dX10_table_8 co_X10_100 ?_
  refine P.callS (As := [.long ((nI t).toInt64), .long 0, .long 3]) (rest := []) (by have h := t_inC (G := G) (f := f0) (l := l) (x := (nI t)) (R := 4) (b := 3) rfl (by decide); rw [inR_n ht (by decide)] at h; exact h) ok_X10_in (fitX (Nat.le_of_ble_eq_true rfl)) rfl ml_X10_102 rfl (Nat.le_of_ble_eq_true rfl) dX10_table_11 ?_
  refine P.if_ne_b (tgt := 24) dX10_table_14 (by decide) (fun c_14 => ?_) (fun c_14 => ?_)
  · refine P.iload_n dX10_table_24 rfl rfl ?_
    refine P.if_ge_z (tgt := 35) dX10_table_25 (by decide) (zN (by omega)) (fun c_25 => ?_) (fun c_25 => ?_)
    · refine P.iload_n dX10_table_35 rfl rfl ?_
      refine P.if_eq_n (tgt := 49) dX10_table_36 (by decide) (by omega) (fun c_36 => ?_) (fun c_36 => ?_)
      · refine P.bipush (v := -2) dX10_table_49 rfl ?_
        exact P.iretX rfl dX10_table_51 ⟨rfl, hM, hKN, hCF⟩
      · exfalso; omega
    · exfalso; omega
  · exfalso; revert c_14; decide

set_option maxRecDepth 20000 in
theorem q_table_c {G : GG} {f : Nat → Nat → Nat} {l : Nat → Nat → Int64} {D : DB} {W : LB} {U : QB} {T : TB} {N : Nat} (hM : MV f l D W U T N) (hBW : BW D W U T) (hKN : KN f D W) {t : Nat} (ht : t < 4) {y z : Int32} (hy : 6 < y.toInt) : SpX G mX10_table [.ref (ad G 86), .int (nI t), .int y, .int z] f l (fun rv f1 l1 => rv = (some (.int (-2))) ∧ MJ f l f1 l1 D W U T N) := by
  obtain ⟨hD, hLW, hUW, hTW⟩ := id hBW
  have hR := hD.1
  have hW1 := hLW.1
  have hU1 := hUW.1
  have hJ1 := hUW.2.1
  refine SpX.of ok_X10_table.1 (Nat.le_of_ble_eq_true rfl) ?_
  show Pm G RX10 cX10_table 7 (KX G mX10_table (fun rv f1 l1 => rv = (some (.int (-2))) ∧ MJ f l f1 l1 D W U T N)) 0 [some (.ref (ad G 86)), some (.int (nI t)), some (.int y), some (.int z), none, none, none] [] f l
  refine P.aload_n dX10_table_0 rfl rfl ?_
  refine P.iconst dX10_table_1 ic_0 ?_
  refine p_X10_thrown (a := 0) ly_86 (by decide) fl_X10_93 dX10_table_2 rfl ?_
  have hM := mv_free (k := 86) (j := 0) (v := 0) (by decide) hM
  have hKN := hKN.up (k := 86) (j := 0) (v := 0) (by decide)
  have hCF : CF f l (uf f 86 0 0) l := (CF.rf f l).f (by decide)
  generalize uf f 86 0 0 = f0 at hM hKN hCF ⊢
  refine P.iload_n dX10_table_5 rfl rfl ?_
  refine P.i2l dX10_table_6 rfl ?_
  refine P.lconst (v := 0) dX10_table_7 rfl ?_
  refine P.ldc2 dX10_table_8 co_X10_100 ?_
  refine P.callS (As := [.long ((nI t).toInt64), .long 0, .long 3]) (rest := []) (by have h := t_inC (G := G) (f := f0) (l := l) (x := (nI t)) (R := 4) (b := 3) rfl (by decide); rw [inR_n ht (by decide)] at h; exact h) ok_X10_in (fitX (Nat.le_of_ble_eq_true rfl)) rfl ml_X10_102 rfl (Nat.le_of_ble_eq_true rfl) dX10_table_11 ?_
  refine P.if_ne_b (tgt := 24) dX10_table_14 (by decide) (fun c_14 => ?_) (fun c_14 => ?_)
  · refine P.iload_n dX10_table_24 rfl rfl ?_
    refine P.if_ge_z (tgt := 35) dX10_table_25 (by decide) rfl (fun c_25 => ?_) (fun c_25 => ?_)
    · refine P.iload_n dX10_table_35 rfl rfl ?_
      refine P.if_eq_z (tgt := 49) dX10_table_36 (by decide) rfl (fun c_36 => ?_) (fun c_36 => ?_)
      · exfalso; omega
      refine P.iload_n dX10_table_39 rfl rfl ?_
      refine P.bipush (v := nI 6) dX10_table_40 rfl ?_
      refine P.icmp_gt_z (tgt := 49) dX10_table_42 (by decide) rfl (zN (by omega)) (fun c_42 => ?_) (fun c_42 => ?_)
      · refine P.bipush (v := -2) dX10_table_49 rfl ?_
        exact P.iretX rfl dX10_table_51 ⟨rfl, hM, hKN, hCF⟩
      · exfalso; omega
    · exfalso; omega
  · exfalso; revert c_14; decide

set_option maxRecDepth 20000 in
theorem q_table_d {G : GG} {f : Nat → Nat → Nat} {l : Nat → Nat → Int64} {D : DB} {W : LB} {U : QB} {T : TB} {N : Nat} (hM : MV f l D W U T N) (hBW : BW D W U T) (hKN : KN f D W) {t : Nat} (ht : t < 4) {k : Nat} (hk1 : 1 ≤ k) (hk6 : k ≤ 6) {z : Int32} (hz : z.toInt < 0) : SpX G mX10_table [.ref (ad G 86), .int (nI t), .int (nI k), .int z] f l (fun rv f1 l1 => rv = (some (.int (-2))) ∧ MJ f l f1 l1 D W U T N) := by
  obtain ⟨hD, hLW, hUW, hTW⟩ := id hBW
  have hR := hD.1
  have hW1 := hLW.1
  have hU1 := hUW.1
  have hJ1 := hUW.2.1
  refine SpX.of ok_X10_table.1 (Nat.le_of_ble_eq_true rfl) ?_
  show Pm G RX10 cX10_table 7 (KX G mX10_table (fun rv f1 l1 => rv = (some (.int (-2))) ∧ MJ f l f1 l1 D W U T N)) 0 [some (.ref (ad G 86)), some (.int (nI t)), some (.int (nI k)), some (.int z), none, none, none] [] f l
  refine P.aload_n dX10_table_0 rfl rfl ?_
  refine P.iconst dX10_table_1 ic_0 ?_
  refine p_X10_thrown (a := 0) ly_86 (by decide) fl_X10_93 dX10_table_2 rfl ?_
  have hM := mv_free (k := 86) (j := 0) (v := 0) (by decide) hM
  have hKN := hKN.up (k := 86) (j := 0) (v := 0) (by decide)
  have hCF : CF f l (uf f 86 0 0) l := (CF.rf f l).f (by decide)
  generalize uf f 86 0 0 = f0 at hM hKN hCF ⊢
  refine P.iload_n dX10_table_5 rfl rfl ?_
  refine P.i2l dX10_table_6 rfl ?_
  refine P.lconst (v := 0) dX10_table_7 rfl ?_
  refine P.ldc2 dX10_table_8 co_X10_100 ?_
  refine P.callS (As := [.long ((nI t).toInt64), .long 0, .long 3]) (rest := []) (by have h := t_inC (G := G) (f := f0) (l := l) (x := (nI t)) (R := 4) (b := 3) rfl (by decide); rw [inR_n ht (by decide)] at h; exact h) ok_X10_in (fitX (Nat.le_of_ble_eq_true rfl)) rfl ml_X10_102 rfl (Nat.le_of_ble_eq_true rfl) dX10_table_11 ?_
  refine P.if_ne_b (tgt := 24) dX10_table_14 (by decide) (fun c_14 => ?_) (fun c_14 => ?_)
  · refine P.iload_n dX10_table_24 rfl rfl ?_
    refine P.if_ge_z (tgt := 35) dX10_table_25 (by decide) (zN (by omega)) (fun c_25 => ?_) (fun c_25 => ?_)
    · refine P.iload_n dX10_table_35 rfl rfl ?_
      refine P.if_eq_n (tgt := 49) dX10_table_36 (by decide) (by omega) (fun c_36 => ?_) (fun c_36 => ?_)
      · exfalso; omega
      refine P.iload_n dX10_table_39 rfl rfl ?_
      refine P.bipush (v := nI 6) dX10_table_40 rfl ?_
      refine P.icmp_gt_n (tgt := 49) dX10_table_42 (by decide) (by omega) (by omega) (fun c_42 => ?_) (fun c_42 => ?_)
      · exfalso; omega
      refine P.iload_n dX10_table_45 rfl rfl ?_
      refine P.if_ge_z (tgt := 52) dX10_table_46 (by decide) rfl (fun c_46 => ?_) (fun c_46 => ?_)
      · exfalso; omega
      refine P.bipush (v := -2) dX10_table_49 rfl ?_
      exact P.iretX rfl dX10_table_51 ⟨rfl, hM, hKN, hCF⟩
    · exfalso; omega
  · exfalso; revert c_14; decide

set_option maxRecDepth 20000 in
theorem q_table_e {G : GG} {f : Nat → Nat → Nat} {l : Nat → Nat → Int64} {D : DB} {W : LB} {U : QB} {T : TB} {N : Nat} (hM : MV f l D W U T N) (hBW : BW D W U T) (hKN : KN f D W) {t : Nat} (ht : t < 4) {k : Nat} (hk1 : 1 ≤ k) (hk6 : k ≤ 6) {m : Nat} (hm : m < 2147483648) (hlb : lanesB k m = false) : SpX G mX10_table [.ref (ad G 86), .int (nI t), .int (nI k), .int (nI m)] f l (fun rv f1 l1 => rv = (some (.int (-2))) ∧ MJ f l f1 l1 D W U T N) := by
  obtain ⟨hD, hLW, hUW, hTW⟩ := id hBW
  have hR := hD.1
  have hW1 := hLW.1
  have hU1 := hUW.1
  have hJ1 := hUW.2.1
  refine SpX.of ok_X10_table.1 (Nat.le_of_ble_eq_true rfl) ?_
  show Pm G RX10 cX10_table 7 (KX G mX10_table (fun rv f1 l1 => rv = (some (.int (-2))) ∧ MJ f l f1 l1 D W U T N)) 0 [some (.ref (ad G 86)), some (.int (nI t)), some (.int (nI k)), some (.int (nI m)), none, none, none] [] f l
  refine P.aload_n dX10_table_0 rfl rfl ?_
  refine P.iconst dX10_table_1 ic_0 ?_
  refine p_X10_thrown (a := 0) ly_86 (by decide) fl_X10_93 dX10_table_2 rfl ?_
  have hM := mv_free (k := 86) (j := 0) (v := 0) (by decide) hM
  have hKN := hKN.up (k := 86) (j := 0) (v := 0) (by decide)
  have hCF : CF f l (uf f 86 0 0) l := (CF.rf f l).f (by decide)
  generalize uf f 86 0 0 = f0 at hM hKN hCF ⊢
  refine P.iload_n dX10_table_5 rfl rfl ?_
  refine P.i2l dX10_table_6 rfl ?_
  refine P.lconst (v := 0) dX10_table_7 rfl ?_
  refine P.ldc2 dX10_table_8 co_X10_100 ?_
  refine P.callS (As := [.long ((nI t).toInt64), .long 0, .long 3]) (rest := []) (by have h := t_inC (G := G) (f := f0) (l := l) (x := (nI t)) (R := 4) (b := 3) rfl (by decide); rw [inR_n ht (by decide)] at h; exact h) ok_X10_in (fitX (Nat.le_of_ble_eq_true rfl)) rfl ml_X10_102 rfl (Nat.le_of_ble_eq_true rfl) dX10_table_11 ?_
  refine P.if_ne_b (tgt := 24) dX10_table_14 (by decide) (fun c_14 => ?_) (fun c_14 => ?_)
  · refine P.iload_n dX10_table_24 rfl rfl ?_
    refine P.if_ge_z (tgt := 35) dX10_table_25 (by decide) (zN (by omega)) (fun c_25 => ?_) (fun c_25 => ?_)
    · refine P.iload_n dX10_table_35 rfl rfl ?_
      refine P.if_eq_n (tgt := 49) dX10_table_36 (by decide) (by omega) (fun c_36 => ?_) (fun c_36 => ?_)
      · exfalso; omega
      refine P.iload_n dX10_table_39 rfl rfl ?_
      refine P.bipush (v := nI 6) dX10_table_40 rfl ?_
      refine P.icmp_gt_n (tgt := 49) dX10_table_42 (by decide) (by omega) (by omega) (fun c_42 => ?_) (fun c_42 => ?_)
      · exfalso; omega
      refine P.iload_n dX10_table_45 rfl rfl ?_
      refine P.if_ge_z (tgt := 52) dX10_table_46 (by decide) (zN (by omega)) (fun c_46 => ?_) (fun c_46 => ?_)
      · refine P.iload_n dX10_table_52 rfl rfl ?_
        refine P.istore dX10_table_53 (by decide) ?_
        refine P.iconst dX10_table_55 ic_1 ?_
        refine P.istore dX10_table_56 (by decide) ?_
        refine P.iconst dX10_table_58 ic_0 ?_
        refine P.istore dX10_table_59 (by decide) ?_
        show Pm G _ _ _ _ 61 [some (.ref (ad G 86)), some (.int (nI t)), some (.int (nI k)), some (.int (nI m)), some (.int (nI m)), some (.int (nI 1)), some (.int (nI 0))] [] f0 l
        refine P.to (ls := [some (.ref (ad G 86)), some (.int (nI t)), some (.int (nI k)), some (.int (nI m)), some (.int (nI (m / 10 ^ 0))), some (.int (nI (bN (!anyN (fun j => decide (5 < m / 10 ^ j % 10)) 0)))), some (.int (nI 0))]) ?_ (by simp [lle, nx_0])
        refine loop_up (M := fun (i : Nat) => Pm G _ _ _ _ 61 [some (.ref (ad G 86)), some (.int (nI t)), some (.int (nI k)), some (.int (nI m)), some (.int (nI (m / 10 ^ i))), some (.int (nI (bN (!anyN (fun j => decide (5 < m / 10 ^ j % 10)) i)))), some (.int (nI i))] [] f0 l) (lo := 0) (N := k) (by first | exact Nat.zero_le _ | omega) (fun i hi0 hi1 ihi => ?_) ?_
        · have hdl := Nat.div_le_self m (10 ^ i)
          show Pm G _ _ _ _ 61 [some (.ref (ad G 86)), some (.int (nI t)), some (.int (nI k)), some (.int (nI m)), some (.int (nI (m / 10 ^ i))), some (.int (nI (bN (!anyN (fun j => decide (5 < m / 10 ^ j % 10)) i)))), some (.int (nI i))] [] f0 l
          refine P.iload dX10_table_61 rfl ?_
          refine P.iload_n dX10_table_63 rfl rfl ?_
          refine P.icmp_ge_n (tgt := 102) dX10_table_64 (by decide) (by omega) (by omega) (fun c_64 => ?_) (fun c_64 => ?_)
          · exfalso; omega
          refine P.iload dX10_table_67 rfl ?_
          refine P.if_eq_n (tgt := 86) dX10_table_69 (by decide) (Nat.lt_trans (bN_lt _) (by decide)) (fun c_69 => ?_) (fun c_69 => ?_)
          · refine P.iconst dX10_table_86 ic_0 ?_
            refine P.istore dX10_table_87 (by decide) ?_
            refine P.iload dX10_table_89 rfl ?_
            refine P.bipush (v := nI 10) dX10_table_91 rfl ?_
            refine P.idiv_n dX10_table_93 (v := nI (m / 10 ^ (i + 1))) (nI_ne0 (by omega) (by omega)) ((pk_div (by omega) (by omega) (by omega)).trans (by rw [ten_s])) ?_
            refine P.istore dX10_table_94 (by decide) ?_
            refine P.iinc dX10_table_96 rfl (inc1 _) (by decide) ?_
            refine P.goto (tgt := 61) dX10_table_99 (by decide) ?_
            show Pm G _ _ _ _ 61 [some (.ref (ad G 86)), some (.int (nI t)), some (.int (nI k)), some (.int (nI m)), some (.int (nI (m / 10 ^ (i + 1)))), some (.int (nI 0)), some (.int (nI (i + 1)))] [] f0 l
            exact Pm.to (ihi) (by rw [nx_a c_69]; simp [lle]) rfl rfl rfl
          refine P.iload dX10_table_72 rfl ?_
          refine P.bipush (v := nI 10) dX10_table_74 rfl ?_
          refine P.irem_n dX10_table_76 (v := nI (m / 10 ^ i % 10)) (nI_ne0 (by omega) (by omega)) (pk_rem (by omega) (by omega) (by omega)) ?_
          refine P.bipush (v := nI 6) dX10_table_77 rfl ?_
          refine P.icmp_ge_n (tgt := 86) dX10_table_79 (by decide) (by omega) (by omega) (fun c_79 => ?_) (fun c_79 => ?_)
          · refine P.iconst dX10_table_86 ic_0 ?_
            refine P.istore dX10_table_87 (by decide) ?_
            refine P.iload dX10_table_89 rfl ?_
            refine P.bipush (v := nI 10) dX10_table_91 rfl ?_
            refine P.idiv_n dX10_table_93 (v := nI (m / 10 ^ (i + 1))) (nI_ne0 (by omega) (by omega)) ((pk_div (by omega) (by omega) (by omega)).trans (by rw [ten_s])) ?_
            refine P.istore dX10_table_94 (by decide) ?_
            refine P.iinc dX10_table_96 rfl (inc1 _) (by decide) ?_
            refine P.goto (tgt := 61) dX10_table_99 (by decide) ?_
            show Pm G _ _ _ _ 61 [some (.ref (ad G 86)), some (.int (nI t)), some (.int (nI k)), some (.int (nI m)), some (.int (nI (m / 10 ^ (i + 1)))), some (.int (nI 0)), some (.int (nI (i + 1)))] [] f0 l
            exact Pm.to (ihi) (by rw [nx_b (decide_eq_true (by omega))]; simp [lle]) rfl rfl rfl
          refine P.iconst dX10_table_82 ic_1 ?_
          refine P.goto (tgt := 87) dX10_table_83 (by decide) ?_
          refine P.istore dX10_table_87 (by decide) ?_
          refine P.iload dX10_table_89 rfl ?_
          refine P.bipush (v := nI 10) dX10_table_91 rfl ?_
          refine P.idiv_n dX10_table_93 (v := nI (m / 10 ^ (i + 1))) (nI_ne0 (by omega) (by omega)) ((pk_div (by omega) (by omega) (by omega)).trans (by rw [ten_s])) ?_
          refine P.istore dX10_table_94 (by decide) ?_
          refine P.iinc dX10_table_96 rfl (inc1 _) (by decide) ?_
          refine P.goto (tgt := 61) dX10_table_99 (by decide) ?_
          show Pm G _ _ _ _ 61 [some (.ref (ad G 86)), some (.int (nI t)), some (.int (nI k)), some (.int (nI m)), some (.int (nI (m / 10 ^ (i + 1)))), some (.int (nI 1)), some (.int (nI (i + 1)))] [] f0 l
          exact Pm.to (ihi) (by rw [nx_1 c_69 (decide_eq_false (by omega))]; simp [lle]) rfl rfl rfl
        · have hdl := Nat.div_le_self m (10 ^ k)
          show Pm G _ _ _ _ 61 [some (.ref (ad G 86)), some (.int (nI t)), some (.int (nI k)), some (.int (nI m)), some (.int (nI (m / 10 ^ k))), some (.int (nI (bN (!anyN (fun j => decide (5 < m / 10 ^ j % 10)) k)))), some (.int (nI k))] [] f0 l
          refine P.iload dX10_table_61 rfl ?_
          refine P.iload_n dX10_table_63 rfl rfl ?_
          refine P.icmp_ge_n (tgt := 102) dX10_table_64 (by decide) (by omega) (by omega) (fun c_64 => ?_) (fun c_64 => ?_)
          · refine P.iload dX10_table_102 rfl ?_
            refine P.if_eq_n (tgt := 112) dX10_table_104 (by decide) (Nat.lt_trans (bN_lt _) (by decide)) (fun c_104 => ?_) (fun c_104 => ?_)
            · refine P.bipush (v := -2) dX10_table_112 rfl ?_
              exact P.iretX rfl dX10_table_114 ⟨rfl, hM, hKN, hCF⟩
            refine P.iload dX10_table_107 rfl ?_
            refine P.if_le_z (tgt := 115) dX10_table_109 (by decide) (zN (by omega)) (fun c_109 => ?_) (fun c_109 => ?_)
            · exact absurd hlb (by rw [lanesB, bN_nz.mp c_104, show m / 10 ^ k = 0 by (generalize m / 10 ^ k = z at c_109 ⊢; omega)]; decide)
            refine P.bipush (v := -2) dX10_table_112 rfl ?_
            exact P.iretX rfl dX10_table_114 ⟨rfl, hM, hKN, hCF⟩
          · exfalso; omega
      · exfalso; omega
    · exfalso; omega
  · exfalso; revert c_14; decide

set_option maxRecDepth 20000 in
theorem q_table_f {G : GG} {f : Nat → Nat → Nat} {l : Nat → Nat → Int64} {D : DB} {W : LB} {U : QB} {T : TB} {N : Nat} (hM : MV f l D W U T N) (hBW : BW D W U T) (hKN : KN f D W) {t : Nat} (ht : t < 4) (h0 : T.1 t ≠ 0) {k : Nat} (hk1 : 1 ≤ k) (hk6 : k ≤ 6) {m : Nat} (hm : m < 2147483648) (hlb : lanesB k m = true) : SpX G mX10_table [.ref (ad G 86), .int (nI t), .int (nI k), .int (nI m)] f l (fun rv f1 l1 => rv = (some (.int (-3))) ∧ MJ f l f1 l1 D W U T N) := by
  obtain ⟨hD, hLW, hUW, hTW⟩ := id hBW
  have hR := hD.1
  have hW1 := hLW.1
  have hU1 := hUW.1
  have hJ1 := hUW.2.1
  obtain ⟨hlb1, hlb2⟩ := lanesB_t hlb
  have htc := hTW.1 t ht
  refine SpX.of ok_X10_table.1 (Nat.le_of_ble_eq_true rfl) ?_
  show Pm G RX10 cX10_table 7 (KX G mX10_table (fun rv f1 l1 => rv = (some (.int (-3))) ∧ MJ f l f1 l1 D W U T N)) 0 [some (.ref (ad G 86)), some (.int (nI t)), some (.int (nI k)), some (.int (nI m)), none, none, none] [] f l
  refine P.aload_n dX10_table_0 rfl rfl ?_
  refine P.iconst dX10_table_1 ic_0 ?_
  refine p_X10_thrown (a := 0) ly_86 (by decide) fl_X10_93 dX10_table_2 rfl ?_
  have hM := mv_free (k := 86) (j := 0) (v := 0) (by decide) hM
  have hKN := hKN.up (k := 86) (j := 0) (v := 0) (by decide)
  have hCF : CF f l (uf f 86 0 0) l := (CF.rf f l).f (by decide)
  generalize uf f 86 0 0 = f0 at hM hKN hCF ⊢
  refine P.iload_n dX10_table_5 rfl rfl ?_
  refine P.i2l dX10_table_6 rfl ?_
  refine P.lconst (v := 0) dX10_table_7 rfl ?_
  refine P.ldc2 dX10_table_8 co_X10_100 ?_
  refine P.callS (As := [.long ((nI t).toInt64), .long 0, .long 3]) (rest := []) (by have h := t_inC (G := G) (f := f0) (l := l) (x := (nI t)) (R := 4) (b := 3) rfl (by decide); rw [inR_n ht (by decide)] at h; exact h) ok_X10_in (fitX (Nat.le_of_ble_eq_true rfl)) rfl ml_X10_102 rfl (Nat.le_of_ble_eq_true rfl) dX10_table_11 ?_
  refine P.if_ne_b (tgt := 24) dX10_table_14 (by decide) (fun c_14 => ?_) (fun c_14 => ?_)
  · refine P.iload_n dX10_table_24 rfl rfl ?_
    refine P.if_ge_z (tgt := 35) dX10_table_25 (by decide) (zN (by omega)) (fun c_25 => ?_) (fun c_25 => ?_)
    · refine P.iload_n dX10_table_35 rfl rfl ?_
      refine P.if_eq_n (tgt := 49) dX10_table_36 (by decide) (by omega) (fun c_36 => ?_) (fun c_36 => ?_)
      · exfalso; omega
      refine P.iload_n dX10_table_39 rfl rfl ?_
      refine P.bipush (v := nI 6) dX10_table_40 rfl ?_
      refine P.icmp_gt_n (tgt := 49) dX10_table_42 (by decide) (by omega) (by omega) (fun c_42 => ?_) (fun c_42 => ?_)
      · exfalso; omega
      refine P.iload_n dX10_table_45 rfl rfl ?_
      refine P.if_ge_z (tgt := 52) dX10_table_46 (by decide) (zN (by omega)) (fun c_46 => ?_) (fun c_46 => ?_)
      · refine P.iload_n dX10_table_52 rfl rfl ?_
        refine P.istore dX10_table_53 (by decide) ?_
        refine P.iconst dX10_table_55 ic_1 ?_
        refine P.istore dX10_table_56 (by decide) ?_
        refine P.iconst dX10_table_58 ic_0 ?_
        refine P.istore dX10_table_59 (by decide) ?_
        show Pm G _ _ _ _ 61 [some (.ref (ad G 86)), some (.int (nI t)), some (.int (nI k)), some (.int (nI m)), some (.int (nI m)), some (.int (nI 1)), some (.int (nI 0))] [] f0 l
        refine P.to (ls := [some (.ref (ad G 86)), some (.int (nI t)), some (.int (nI k)), some (.int (nI m)), some (.int (nI (m / 10 ^ 0))), some (.int (nI (bN (!anyN (fun j => decide (5 < m / 10 ^ j % 10)) 0)))), some (.int (nI 0))]) ?_ (by simp [lle, nx_0])
        refine loop_up (M := fun (i : Nat) => Pm G _ _ _ _ 61 [some (.ref (ad G 86)), some (.int (nI t)), some (.int (nI k)), some (.int (nI m)), some (.int (nI (m / 10 ^ i))), some (.int (nI (bN (!anyN (fun j => decide (5 < m / 10 ^ j % 10)) i)))), some (.int (nI i))] [] f0 l) (lo := 0) (N := k) (by first | exact Nat.zero_le _ | omega) (fun i hi0 hi1 ihi => ?_) ?_
        · have hdl := Nat.div_le_self m (10 ^ i)
          show Pm G _ _ _ _ 61 [some (.ref (ad G 86)), some (.int (nI t)), some (.int (nI k)), some (.int (nI m)), some (.int (nI (m / 10 ^ i))), some (.int (nI (bN (!anyN (fun j => decide (5 < m / 10 ^ j % 10)) i)))), some (.int (nI i))] [] f0 l
          refine P.iload dX10_table_61 rfl ?_
          refine P.iload_n dX10_table_63 rfl rfl ?_
          refine P.icmp_ge_n (tgt := 102) dX10_table_64 (by decide) (by omega) (by omega) (fun c_64 => ?_) (fun c_64 => ?_)
          · exfalso; omega
          refine P.iload dX10_table_67 rfl ?_
          refine P.if_eq_n (tgt := 86) dX10_table_69 (by decide) (Nat.lt_trans (bN_lt _) (by decide)) (fun c_69 => ?_) (fun c_69 => ?_)
          · refine P.iconst dX10_table_86 ic_0 ?_
            refine P.istore dX10_table_87 (by decide) ?_
            refine P.iload dX10_table_89 rfl ?_
            refine P.bipush (v := nI 10) dX10_table_91 rfl ?_
            refine P.idiv_n dX10_table_93 (v := nI (m / 10 ^ (i + 1))) (nI_ne0 (by omega) (by omega)) ((pk_div (by omega) (by omega) (by omega)).trans (by rw [ten_s])) ?_
            refine P.istore dX10_table_94 (by decide) ?_
            refine P.iinc dX10_table_96 rfl (inc1 _) (by decide) ?_
            refine P.goto (tgt := 61) dX10_table_99 (by decide) ?_
            show Pm G _ _ _ _ 61 [some (.ref (ad G 86)), some (.int (nI t)), some (.int (nI k)), some (.int (nI m)), some (.int (nI (m / 10 ^ (i + 1)))), some (.int (nI 0)), some (.int (nI (i + 1)))] [] f0 l
            exact Pm.to (ihi) (by rw [nx_a c_69]; simp [lle]) rfl rfl rfl
          refine P.iload dX10_table_72 rfl ?_
          refine P.bipush (v := nI 10) dX10_table_74 rfl ?_
          refine P.irem_n dX10_table_76 (v := nI (m / 10 ^ i % 10)) (nI_ne0 (by omega) (by omega)) (pk_rem (by omega) (by omega) (by omega)) ?_
          refine P.bipush (v := nI 6) dX10_table_77 rfl ?_
          refine P.icmp_ge_n (tgt := 86) dX10_table_79 (by decide) (by omega) (by omega) (fun c_79 => ?_) (fun c_79 => ?_)
          · refine P.iconst dX10_table_86 ic_0 ?_
            refine P.istore dX10_table_87 (by decide) ?_
            refine P.iload dX10_table_89 rfl ?_
            refine P.bipush (v := nI 10) dX10_table_91 rfl ?_
            refine P.idiv_n dX10_table_93 (v := nI (m / 10 ^ (i + 1))) (nI_ne0 (by omega) (by omega)) ((pk_div (by omega) (by omega) (by omega)).trans (by rw [ten_s])) ?_
            refine P.istore dX10_table_94 (by decide) ?_
            refine P.iinc dX10_table_96 rfl (inc1 _) (by decide) ?_
            refine P.goto (tgt := 61) dX10_table_99 (by decide) ?_
            show Pm G _ _ _ _ 61 [some (.ref (ad G 86)), some (.int (nI t)), some (.int (nI k)), some (.int (nI m)), some (.int (nI (m / 10 ^ (i + 1)))), some (.int (nI 0)), some (.int (nI (i + 1)))] [] f0 l
            exact Pm.to (ihi) (by rw [nx_b (decide_eq_true (by omega))]; simp [lle]) rfl rfl rfl
          refine P.iconst dX10_table_82 ic_1 ?_
          refine P.goto (tgt := 87) dX10_table_83 (by decide) ?_
          refine P.istore dX10_table_87 (by decide) ?_
          refine P.iload dX10_table_89 rfl ?_
          refine P.bipush (v := nI 10) dX10_table_91 rfl ?_
          refine P.idiv_n dX10_table_93 (v := nI (m / 10 ^ (i + 1))) (nI_ne0 (by omega) (by omega)) ((pk_div (by omega) (by omega) (by omega)).trans (by rw [ten_s])) ?_
          refine P.istore dX10_table_94 (by decide) ?_
          refine P.iinc dX10_table_96 rfl (inc1 _) (by decide) ?_
          refine P.goto (tgt := 61) dX10_table_99 (by decide) ?_
          show Pm G _ _ _ _ 61 [some (.ref (ad G 86)), some (.int (nI t)), some (.int (nI k)), some (.int (nI m)), some (.int (nI (m / 10 ^ (i + 1)))), some (.int (nI 1)), some (.int (nI (i + 1)))] [] f0 l
          exact Pm.to (ihi) (by rw [nx_1 c_69 (decide_eq_false (by omega))]; simp [lle]) rfl rfl rfl
        · have hdl := Nat.div_le_self m (10 ^ k)
          show Pm G _ _ _ _ 61 [some (.ref (ad G 86)), some (.int (nI t)), some (.int (nI k)), some (.int (nI m)), some (.int (nI (m / 10 ^ k))), some (.int (nI (bN (!anyN (fun j => decide (5 < m / 10 ^ j % 10)) k)))), some (.int (nI k))] [] f0 l
          refine P.iload dX10_table_61 rfl ?_
          refine P.iload_n dX10_table_63 rfl rfl ?_
          refine P.icmp_ge_n (tgt := 102) dX10_table_64 (by decide) (by omega) (by omega) (fun c_64 => ?_) (fun c_64 => ?_)
          · refine P.iload dX10_table_102 rfl ?_
            refine P.if_eq_n (tgt := 112) dX10_table_104 (by decide) (Nat.lt_trans (bN_lt _) (by decide)) (fun c_104 => ?_) (fun c_104 => ?_)
            · exact absurd (bN_z.mp c_104) (by rw [hlb1]; decide)
            refine P.iload dX10_table_107 rfl ?_
            refine P.if_le_z (tgt := 115) dX10_table_109 (by decide) (zN (by omega)) (fun c_109 => ?_) (fun c_109 => ?_)
            · refine P.aload_n dX10_table_115 rfl rfl ?_
              refine g_X10_columns (q := 87) ly_86 (by decide) (by decide) fl_X10_7 dX10_table_116 ?_
              refine P.iload_n dX10_table_119 rfl rfl ?_
              refine a_ia ly_87 (by decide) (by omega) (by decide) dX10_table_120 ?_
              refine Pm.topn (b := T.1 t) ((hM.col t (by omega))) ?_
              refine P.if_le_z (tgt := 127) dX10_table_121 (by decide) (zN (by have := hTW.1 _ (by assumption); omega)) (fun c_121 => ?_) (fun c_121 => ?_)
              · exfalso; omega
              refine P.bipush (v := -3) dX10_table_124 rfl ?_
              exact P.iretX rfl dX10_table_126 ⟨rfl, hM, hKN, hCF⟩
            · exfalso; omega
          · exfalso; omega
      · exfalso; omega
    · exfalso; omega
  · exfalso; revert c_14; decide

set_option maxRecDepth 20000 in
theorem q_table_g {G : GG} {f : Nat → Nat → Nat} {l : Nat → Nat → Int64} {D : DB} {W : LB} {U : QB} {T : TB} {N : Nat} (hM : MV f l D W U T N) (hBW : BW D W U T) (hKN : KN f D W) {t : Nat} (ht : t < 4) (h0 : T.1 t = 0) {k : Nat} (hk1 : 1 ≤ k) (hk6 : k ≤ 6) {m : Nat} (hm : m < 2147483648) (hlb : lanesB k m = true) : SpX G mX10_table [.ref (ad G 86), .int (nI t), .int (nI k), .int (nI m)] f l (fun rv f1 l1 => rv = (some (.int (nI k))) ∧ MJ f l f1 l1 D W U (tabT T t k m) N) := by
  obtain ⟨hD, hLW, hUW, hTW⟩ := id hBW
  have hR := hD.1
  have hW1 := hLW.1
  have hU1 := hUW.1
  have hJ1 := hUW.2.1
  obtain ⟨hlb1, hlb2⟩ := lanesB_t hlb
  have htc := hTW.1 t ht
  refine SpX.of ok_X10_table.1 (Nat.le_of_ble_eq_true rfl) ?_
  show Pm G RX10 cX10_table 7 (KX G mX10_table (fun rv f1 l1 => rv = (some (.int (nI k))) ∧ MJ f l f1 l1 D W U (tabT T t k m) N)) 0 [some (.ref (ad G 86)), some (.int (nI t)), some (.int (nI k)), some (.int (nI m)), none, none, none] [] f l
  refine P.aload_n dX10_table_0 rfl rfl ?_
  refine P.iconst dX10_table_1 ic_0 ?_
  refine p_X10_thrown (a := 0) ly_86 (by decide) fl_X10_93 dX10_table_2 rfl ?_
  have hM := mv_free (k := 86) (j := 0) (v := 0) (by decide) hM
  have hKN := hKN.up (k := 86) (j := 0) (v := 0) (by decide)
  have hCF : CF f l (uf f 86 0 0) l := (CF.rf f l).f (by decide)
  generalize uf f 86 0 0 = f0 at hM hKN hCF ⊢
  refine P.iload_n dX10_table_5 rfl rfl ?_
  refine P.i2l dX10_table_6 rfl ?_
  refine P.lconst (v := 0) dX10_table_7 rfl ?_
  refine P.ldc2 dX10_table_8 co_X10_100 ?_
  refine P.callS (As := [.long ((nI t).toInt64), .long 0, .long 3]) (rest := []) (by have h := t_inC (G := G) (f := f0) (l := l) (x := (nI t)) (R := 4) (b := 3) rfl (by decide); rw [inR_n ht (by decide)] at h; exact h) ok_X10_in (fitX (Nat.le_of_ble_eq_true rfl)) rfl ml_X10_102 rfl (Nat.le_of_ble_eq_true rfl) dX10_table_11 ?_
  refine P.if_ne_b (tgt := 24) dX10_table_14 (by decide) (fun c_14 => ?_) (fun c_14 => ?_)
  · refine P.iload_n dX10_table_24 rfl rfl ?_
    refine P.if_ge_z (tgt := 35) dX10_table_25 (by decide) (zN (by omega)) (fun c_25 => ?_) (fun c_25 => ?_)
    · refine P.iload_n dX10_table_35 rfl rfl ?_
      refine P.if_eq_n (tgt := 49) dX10_table_36 (by decide) (by omega) (fun c_36 => ?_) (fun c_36 => ?_)
      · exfalso; omega
      refine P.iload_n dX10_table_39 rfl rfl ?_
      refine P.bipush (v := nI 6) dX10_table_40 rfl ?_
      refine P.icmp_gt_n (tgt := 49) dX10_table_42 (by decide) (by omega) (by omega) (fun c_42 => ?_) (fun c_42 => ?_)
      · exfalso; omega
      refine P.iload_n dX10_table_45 rfl rfl ?_
      refine P.if_ge_z (tgt := 52) dX10_table_46 (by decide) (zN (by omega)) (fun c_46 => ?_) (fun c_46 => ?_)
      · refine P.iload_n dX10_table_52 rfl rfl ?_
        refine P.istore dX10_table_53 (by decide) ?_
        refine P.iconst dX10_table_55 ic_1 ?_
        refine P.istore dX10_table_56 (by decide) ?_
        refine P.iconst dX10_table_58 ic_0 ?_
        refine P.istore dX10_table_59 (by decide) ?_
        show Pm G _ _ _ _ 61 [some (.ref (ad G 86)), some (.int (nI t)), some (.int (nI k)), some (.int (nI m)), some (.int (nI m)), some (.int (nI 1)), some (.int (nI 0))] [] f0 l
        refine P.to (ls := [some (.ref (ad G 86)), some (.int (nI t)), some (.int (nI k)), some (.int (nI m)), some (.int (nI (m / 10 ^ 0))), some (.int (nI (bN (!anyN (fun j => decide (5 < m / 10 ^ j % 10)) 0)))), some (.int (nI 0))]) ?_ (by simp [lle, nx_0])
        refine loop_up (M := fun (i : Nat) => Pm G _ _ _ _ 61 [some (.ref (ad G 86)), some (.int (nI t)), some (.int (nI k)), some (.int (nI m)), some (.int (nI (m / 10 ^ i))), some (.int (nI (bN (!anyN (fun j => decide (5 < m / 10 ^ j % 10)) i)))), some (.int (nI i))] [] f0 l) (lo := 0) (N := k) (by first | exact Nat.zero_le _ | omega) (fun i hi0 hi1 ihi => ?_) ?_
        · have hdl := Nat.div_le_self m (10 ^ i)
          show Pm G _ _ _ _ 61 [some (.ref (ad G 86)), some (.int (nI t)), some (.int (nI k)), some (.int (nI m)), some (.int (nI (m / 10 ^ i))), some (.int (nI (bN (!anyN (fun j => decide (5 < m / 10 ^ j % 10)) i)))), some (.int (nI i))] [] f0 l
          refine P.iload dX10_table_61 rfl ?_
          refine P.iload_n dX10_table_63 rfl rfl ?_
          refine P.icmp_ge_n (tgt := 102) dX10_table_64 (by decide) (by omega) (by omega) (fun c_64 => ?_) (fun c_64 => ?_)
          · exfalso; omega
          refine P.iload dX10_table_67 rfl ?_
          refine P.if_eq_n (tgt := 86) dX10_table_69 (by decide) (Nat.lt_trans (bN_lt _) (by decide)) (fun c_69 => ?_) (fun c_69 => ?_)
          · refine P.iconst dX10_table_86 ic_0 ?_
            refine P.istore dX10_table_87 (by decide) ?_
            refine P.iload dX10_table_89 rfl ?_
            refine P.bipush (v := nI 10) dX10_table_91 rfl ?_
            refine P.idiv_n dX10_table_93 (v := nI (m / 10 ^ (i + 1))) (nI_ne0 (by omega) (by omega)) ((pk_div (by omega) (by omega) (by omega)).trans (by rw [ten_s])) ?_
            refine P.istore dX10_table_94 (by decide) ?_
            refine P.iinc dX10_table_96 rfl (inc1 _) (by decide) ?_
            refine P.goto (tgt := 61) dX10_table_99 (by decide) ?_
            show Pm G _ _ _ _ 61 [some (.ref (ad G 86)), some (.int (nI t)), some (.int (nI k)), some (.int (nI m)), some (.int (nI (m / 10 ^ (i + 1)))), some (.int (nI 0)), some (.int (nI (i + 1)))] [] f0 l
            exact Pm.to (ihi) (by rw [nx_a c_69]; simp [lle]) rfl rfl rfl
          refine P.iload dX10_table_72 rfl ?_
          refine P.bipush (v := nI 10) dX10_table_74 rfl ?_
          refine P.irem_n dX10_table_76 (v := nI (m / 10 ^ i % 10)) (nI_ne0 (by omega) (by omega)) (pk_rem (by omega) (by omega) (by omega)) ?_
          refine P.bipush (v := nI 6) dX10_table_77 rfl ?_
          refine P.icmp_ge_n (tgt := 86) dX10_table_79 (by decide) (by omega) (by omega) (fun c_79 => ?_) (fun c_79 => ?_)
          · refine P.iconst dX10_table_86 ic_0 ?_
            refine P.istore dX10_table_87 (by decide) ?_
            refine P.iload dX10_table_89 rfl ?_
            refine P.bipush (v := nI 10) dX10_table_91 rfl ?_
            refine P.idiv_n dX10_table_93 (v := nI (m / 10 ^ (i + 1))) (nI_ne0 (by omega) (by omega)) ((pk_div (by omega) (by omega) (by omega)).trans (by rw [ten_s])) ?_
            refine P.istore dX10_table_94 (by decide) ?_
            refine P.iinc dX10_table_96 rfl (inc1 _) (by decide) ?_
            refine P.goto (tgt := 61) dX10_table_99 (by decide) ?_
            show Pm G _ _ _ _ 61 [some (.ref (ad G 86)), some (.int (nI t)), some (.int (nI k)), some (.int (nI m)), some (.int (nI (m / 10 ^ (i + 1)))), some (.int (nI 0)), some (.int (nI (i + 1)))] [] f0 l
            exact Pm.to (ihi) (by rw [nx_b (decide_eq_true (by omega))]; simp [lle]) rfl rfl rfl
          refine P.iconst dX10_table_82 ic_1 ?_
          refine P.goto (tgt := 87) dX10_table_83 (by decide) ?_
          refine P.istore dX10_table_87 (by decide) ?_
          refine P.iload dX10_table_89 rfl ?_
          refine P.bipush (v := nI 10) dX10_table_91 rfl ?_
          refine P.idiv_n dX10_table_93 (v := nI (m / 10 ^ (i + 1))) (nI_ne0 (by omega) (by omega)) ((pk_div (by omega) (by omega) (by omega)).trans (by rw [ten_s])) ?_
          refine P.istore dX10_table_94 (by decide) ?_
          refine P.iinc dX10_table_96 rfl (inc1 _) (by decide) ?_
          refine P.goto (tgt := 61) dX10_table_99 (by decide) ?_
          show Pm G _ _ _ _ 61 [some (.ref (ad G 86)), some (.int (nI t)), some (.int (nI k)), some (.int (nI m)), some (.int (nI (m / 10 ^ (i + 1)))), some (.int (nI 1)), some (.int (nI (i + 1)))] [] f0 l
          exact Pm.to (ihi) (by rw [nx_1 c_69 (decide_eq_false (by omega))]; simp [lle]) rfl rfl rfl
        · have hdl := Nat.div_le_self m (10 ^ k)
          show Pm G _ _ _ _ 61 [some (.ref (ad G 86)), some (.int (nI t)), some (.int (nI k)), some (.int (nI m)), some (.int (nI (m / 10 ^ k))), some (.int (nI (bN (!anyN (fun j => decide (5 < m / 10 ^ j % 10)) k)))), some (.int (nI k))] [] f0 l
          refine P.iload dX10_table_61 rfl ?_
          refine P.iload_n dX10_table_63 rfl rfl ?_
          refine P.icmp_ge_n (tgt := 102) dX10_table_64 (by decide) (by omega) (by omega) (fun c_64 => ?_) (fun c_64 => ?_)
          · refine P.iload dX10_table_102 rfl ?_
            refine P.if_eq_n (tgt := 112) dX10_table_104 (by decide) (Nat.lt_trans (bN_lt _) (by decide)) (fun c_104 => ?_) (fun c_104 => ?_)
            · exact absurd (bN_z.mp c_104) (by rw [hlb1]; decide)
            refine P.iload dX10_table_107 rfl ?_
            refine P.if_le_z (tgt := 115) dX10_table_109 (by decide) (zN (by omega)) (fun c_109 => ?_) (fun c_109 => ?_)
            · refine P.aload_n dX10_table_115 rfl rfl ?_
              refine g_X10_columns (q := 87) ly_86 (by decide) (by decide) fl_X10_7 dX10_table_116 ?_
              refine P.iload_n dX10_table_119 rfl rfl ?_
              refine a_ia ly_87 (by decide) (by omega) (by decide) dX10_table_120 ?_
              refine Pm.topn (b := T.1 t) ((hM.col t (by omega))) ?_
              refine P.if_le_z (tgt := 127) dX10_table_121 (by decide) (zN (by have := hTW.1 _ (by assumption); omega)) (fun c_121 => ?_) (fun c_121 => ?_)
              · refine P.aload_n dX10_table_127 rfl rfl ?_
                refine g_X10_columns (q := 87) ly_86 (by decide) (by decide) fl_X10_7 dX10_table_128 ?_
                refine P.iload_n dX10_table_131 rfl rfl ?_
                refine P.iload_n dX10_table_132 rfl rfl ?_
                refine s_ia (a := k) ly_87 (by decide) (by omega) (by decide) dX10_table_133 rfl ?_
                refine P.iload_n dX10_table_134 rfl rfl ?_
                refine P.istore dX10_table_135 (by decide) ?_
                refine P.iconst dX10_table_137 ic_0 ?_
                refine P.istore dX10_table_138 (by decide) ?_
                show Pm G _ _ _ _ 140 _ _ (mlW (uf f0 87 t k) t m 0) l
                show Pm G _ _ _ _ 140 [some (.ref (ad G 86)), some (.int (nI t)), some (.int (nI k)), some (.int (nI m)), some (.int (nI m)), some (.int (nI (bN (!anyN (fun j => decide (5 < m / 10 ^ j % 10)) k)))), some (.int (nI 0))] [] (uf f0 87 t k) l
                refine P.to (ls := [some (.ref (ad G 86)), some (.int (nI t)), some (.int (nI k)), some (.int (nI m)), some (.int (nI (m / 10 ^ 0))), some (.int (nI (bN (!anyN (fun j => decide (5 < m / 10 ^ j % 10)) k)))), some (.int (nI 0))]) ?_ (by simp [lle])
                refine loop_up (M := fun (i : Nat) => Pm G _ _ _ _ 140 [some (.ref (ad G 86)), some (.int (nI t)), some (.int (nI k)), some (.int (nI m)), some (.int (nI (m / 10 ^ i))), some (.int (nI (bN (!anyN (fun j => decide (5 < m / 10 ^ j % 10)) k)))), some (.int (nI i))] [] (mlW (uf f0 87 t k) t m i) l) (lo := 0) (N := k) (by first | exact Nat.zero_le _ | omega) (fun i hi0 hi1 ihi => ?_) ?_
                · have hdl := Nat.div_le_self m (10 ^ i)
                  show Pm G _ _ _ _ 140 [some (.ref (ad G 86)), some (.int (nI t)), some (.int (nI k)), some (.int (nI m)), some (.int (nI (m / 10 ^ i))), some (.int (nI (bN (!anyN (fun j => decide (5 < m / 10 ^ j % 10)) k)))), some (.int (nI i))] [] (mlW (uf f0 87 t k) t m i) l
                  refine P.iload dX10_table_140 rfl ?_
                  refine P.iload_n dX10_table_142 rfl rfl ?_
                  refine P.icmp_ge_n (tgt := 176) dX10_table_143 (by decide) (by omega) (by omega) (fun c_143 => ?_) (fun c_143 => ?_)
                  · exfalso; omega
                  refine P.aload_n dX10_table_146 rfl rfl ?_
                  refine g_X10_laneOf (q := 88) ly_86 (by decide) (by decide) fl_X10_13 dX10_table_147 ?_
                  refine P.bipush (v := nI 6) dX10_table_150 rfl ?_
                  refine P.iload_n dX10_table_152 rfl rfl ?_
                  refine P.imul_n dX10_table_153 (pk_mul _ _) ?_
                  refine P.iload dX10_table_154 rfl ?_
                  refine P.iadd_n dX10_table_156 (nI_add _ _) ?_
                  refine P.iload dX10_table_157 rfl ?_
                  refine P.bipush (v := nI 10) dX10_table_159 rfl ?_
                  refine P.irem_n dX10_table_161 (v := nI (m / 10 ^ i % 10)) (nI_ne0 (by omega) (by omega)) (pk_rem (by omega) (by omega) (by omega)) ?_
                  refine s_ia (a := (m / 10 ^ i % 10)) ly_88 (by decide) (by omega) (by decide) dX10_table_162 rfl ?_
                  refine P.iload dX10_table_163 rfl ?_
                  refine P.bipush (v := nI 10) dX10_table_165 rfl ?_
                  refine P.idiv_n dX10_table_167 (v := nI (m / 10 ^ (i + 1))) (nI_ne0 (by omega) (by omega)) ((pk_div (by omega) (by omega) (by omega)).trans (by rw [ten_s])) ?_
                  refine P.istore dX10_table_168 (by decide) ?_
                  refine P.iinc dX10_table_170 rfl (inc1 _) (by decide) ?_
                  refine P.goto (tgt := 140) dX10_table_173 (by decide) ?_
                  show Pm G _ _ _ _ 140 [some (.ref (ad G 86)), some (.int (nI t)), some (.int (nI k)), some (.int (nI m)), some (.int (nI (m / 10 ^ (i + 1)))), some (.int (nI (bN (!anyN (fun j => decide (5 < m / 10 ^ j % 10)) k)))), some (.int (nI (i + 1)))] [] (uf (mlW (uf f0 87 t k) t m i) 88 ((6 * t) + i) (m / 10 ^ i % 10)) l
                  exact Pm.to (ihi) (by simp [lle]) rfl rfl rfl
                · have hKt : KN (mlW (uf f0 87 t k) t m k) D W := by
                    have h1 := hKN.up (k := 87) (j := t) (v := k) (by omega)
                    exact ⟨by rw [mlW_ne _ _ _ _ (by decide)]; exact h1.1, fun h0 => by
                      rw [mlW_ne _ _ _ _ (by decide)] at h0
                      exact ⟨(mlW_ne _ _ _ _ (by decide)).trans (h1.2 h0).1, fun j hj => (mlW_ne _ _ _ _ (by decide)).trans ((h1.2 h0).2 j hj)⟩⟩
                  have hCt : CF f l (mlW (uf f0 87 t k) t m k) l := fun q hq => ⟨fun j => (mlW_ne _ _ _ _ (by omega)).trans (((hCF.f (by decide)) q hq).1 j), fun j => (hCF q hq).2 j⟩
                  show Pm G _ _ _ _ 140 [some (.ref (ad G 86)), some (.int (nI t)), some (.int (nI k)), some (.int (nI m)), some (.int (nI (m / 10 ^ k))), some (.int (nI (bN (!anyN (fun j => decide (5 < m / 10 ^ j % 10)) k)))), some (.int (nI k))] [] (mlW (uf f0 87 t k) t m k) l
                  refine P.iload dX10_table_140 rfl ?_
                  refine P.iload_n dX10_table_142 rfl rfl ?_
                  refine P.icmp_ge_n (tgt := 176) dX10_table_143 (by decide) (by omega) (by omega) (fun c_143 => ?_) (fun c_143 => ?_)
                  · refine P.iload_n dX10_table_176 rfl rfl ?_
                    exact P.iretX rfl dX10_table_177 ⟨rfl, mv_lns t m (mv_col hM) k hk6, hKt, hCt⟩
                  · exfalso; omega
              · exfalso; omega
            · exfalso; omega
          · exfalso; omega
      · exfalso; omega
    · exfalso; omega
  · exfalso; revert c_14; decide

set_option maxRecDepth 20000 in
theorem q_row_a {G : GG} {f : Nat → Nat → Nat} {l : Nat → Nat → Int64} {D : DB} {W : LB} {U : QB} {T : TB} {N : Nat} (hM : MV f l D W U T N) (hBW : BW D W U T) (hKN : KN f D W) {x : Int32} (hx : inR x 4 = false) {y : Int32} : SpX G mX10_row [.ref (ad G 86), .int x, .int y] f l (fun rv f1 l1 => rv = (some (.int (-12))) ∧ MJ f l f1 l1 D W U T (N + 1)) := by
  obtain ⟨hD, hLW, hUW, hTW⟩ := id hBW
  have hR := hD.1
  have hW1 := hLW.1
  have hU1 := hUW.1
  have hJ1 := hUW.2.1
  refine SpX.of ok_X10_row.1 (Nat.le_of_ble_eq_true rfl) ?_
  show Pm G RX10 cX10_row 3 (KX G mX10_row (fun rv f1 l1 => rv = (some (.int (-12))) ∧ MJ f l f1 l1 D W U T (N + 1))) 0 [some (.ref (ad G 86)), some (.int x), some (.int y)] [] f l
  refine P.aload_n dX10_row_0 rfl rfl ?_
  refine P.iconst dX10_row_1 ic_0 ?_
  refine p_X10_thrown (a := 0) ly_86 (by decide) fl_X10_93 dX10_row_2 rfl ?_
  have hM := mv_free (k := 86) (j := 0) (v := 0) (by decide) hM
  have hKN := hKN.up (k := 86) (j := 0) (v := 0) (by decide)
  have hCF : CF f l (uf f 86 0 0) l := (CF.rf f l).f (by decide)
  generalize uf f 86 0 0 = f0 at hM hKN hCF ⊢
  refine P.aload_n dX10_row_5 rfl rfl ?_
  refine P.iload_n dX10_row_6 rfl rfl ?_
  refine P.callV (As := [.int x]) (rest := []) (t_lack_out hM hBW hx) ok_X10_lack (fitX (Nat.le_of_ble_eq_true rfl)) rfl ml_X10_116 ly_86 (by decide) (by decide) rfl rfl (Nat.le_of_ble_eq_true rfl) dX10_row_7 ?_
  refine P.if_eq_z (tgt := 23) dX10_row_10 (by decide) (show (-12 : Int32).toInt = -12 from rfl) (fun c_10 => ?_) (fun c_10 => ?_)
  · exfalso; revert c_10; decide
  refine P.aload_n dX10_row_13 rfl rfl ?_
  refine P.aload_n dX10_row_14 rfl rfl ?_
  refine P.iload_n dX10_row_15 rfl rfl ?_
  refine P.callV (As := [.int x]) (rest := [.ref (ad G 86)]) (t_lack_out hM hBW hx) ok_X10_lack (fitX (Nat.le_of_ble_eq_true rfl)) rfl ml_X10_116 ly_86 (by decide) (by decide) rfl rfl (Nat.le_of_ble_eq_true rfl) dX10_row_16 ?_
  refine P.callV (As := [.int (-12)]) (rest := []) (t_finds hM hBW) ok_X10_finds (fitX (Nat.le_of_ble_eq_true rfl)) rfl ml_X10_112 ly_86 (by decide) (by decide) rfl rfl (Nat.le_of_ble_eq_true rfl) dX10_row_19 ?_
  exact P.iretX rfl dX10_row_22 ⟨rfl, (mv_N hM), (KN.up (by omega) hKN), (hCF.f (by decide))⟩

set_option maxRecDepth 20000 in
theorem q_row_b {G : GG} {f : Nat → Nat → Nat} {l : Nat → Nat → Int64} {D : DB} {W : LB} {U : QB} {T : TB} {N : Nat} (hM : MV f l D W U T N) (hBW : BW D W U T) (hKN : KN f D W) {t : Nat} (ht : t < 4) (h0 : T.1 t = 0) {y : Int32} : SpX G mX10_row [.ref (ad G 86), .int (nI t), .int y] f l (fun rv f1 l1 => rv = (some (.int (-11))) ∧ MJ f l f1 l1 D W U T (N + 1)) := by
  obtain ⟨hD, hLW, hUW, hTW⟩ := id hBW
  have hR := hD.1
  have hW1 := hLW.1
  have hU1 := hUW.1
  have hJ1 := hUW.2.1
  refine SpX.of ok_X10_row.1 (Nat.le_of_ble_eq_true rfl) ?_
  show Pm G RX10 cX10_row 3 (KX G mX10_row (fun rv f1 l1 => rv = (some (.int (-11))) ∧ MJ f l f1 l1 D W U T (N + 1))) 0 [some (.ref (ad G 86)), some (.int (nI t)), some (.int y)] [] f l
  refine P.aload_n dX10_row_0 rfl rfl ?_
  refine P.iconst dX10_row_1 ic_0 ?_
  refine p_X10_thrown (a := 0) ly_86 (by decide) fl_X10_93 dX10_row_2 rfl ?_
  have hM := mv_free (k := 86) (j := 0) (v := 0) (by decide) hM
  have hKN := hKN.up (k := 86) (j := 0) (v := 0) (by decide)
  have hCF : CF f l (uf f 86 0 0) l := (CF.rf f l).f (by decide)
  generalize uf f 86 0 0 = f0 at hM hKN hCF ⊢
  refine P.aload_n dX10_row_5 rfl rfl ?_
  refine P.iload_n dX10_row_6 rfl rfl ?_
  refine P.callV (As := [.int (nI t)]) (rest := []) (t_lack_null hM hBW ht h0) ok_X10_lack (fitX (Nat.le_of_ble_eq_true rfl)) rfl ml_X10_116 ly_86 (by decide) (by decide) rfl rfl (Nat.le_of_ble_eq_true rfl) dX10_row_7 ?_
  refine P.if_eq_z (tgt := 23) dX10_row_10 (by decide) (show (-11 : Int32).toInt = -11 from rfl) (fun c_10 => ?_) (fun c_10 => ?_)
  · exfalso; revert c_10; decide
  refine P.aload_n dX10_row_13 rfl rfl ?_
  refine P.aload_n dX10_row_14 rfl rfl ?_
  refine P.iload_n dX10_row_15 rfl rfl ?_
  refine P.callV (As := [.int (nI t)]) (rest := [.ref (ad G 86)]) (t_lack_null hM hBW ht h0) ok_X10_lack (fitX (Nat.le_of_ble_eq_true rfl)) rfl ml_X10_116 ly_86 (by decide) (by decide) rfl rfl (Nat.le_of_ble_eq_true rfl) dX10_row_16 ?_
  refine P.callV (As := [.int (-11)]) (rest := []) (t_finds hM hBW) ok_X10_finds (fitX (Nat.le_of_ble_eq_true rfl)) rfl ml_X10_112 ly_86 (by decide) (by decide) rfl rfl (Nat.le_of_ble_eq_true rfl) dX10_row_19 ?_
  exact P.iretX rfl dX10_row_22 ⟨rfl, (mv_N hM), (KN.up (by omega) hKN), (hCF.f (by decide))⟩

set_option maxRecDepth 20000 in
theorem q_row_c {G : GG} {f : Nat → Nat → Nat} {l : Nat → Nat → Int64} {D : DB} {W : LB} {U : QB} {T : TB} {N : Nat} (hM : MV f l D W U T N) (hBW : BW D W U T) (hKN : KN f D W) {t : Nat} (ht : t < 4) (h0 : T.1 t ≠ 0) {y : Int32} (hy : trOK y = false) : SpX G mX10_row [.ref (ad G 86), .int (nI t), .int y] f l (fun rv f1 l1 => rv = (some (.int (-2))) ∧ MJ f l f1 l1 D W U T N) := by
  obtain ⟨hD, hLW, hUW, hTW⟩ := id hBW
  have hR := hD.1
  have hW1 := hLW.1
  have hU1 := hUW.1
  have hJ1 := hUW.2.1
  refine SpX.of ok_X10_row.1 (Nat.le_of_ble_eq_true rfl) ?_
  show Pm G RX10 cX10_row 3 (KX G mX10_row (fun rv f1 l1 => rv = (some (.int (-2))) ∧ MJ f l f1 l1 D W U T N)) 0 [some (.ref (ad G 86)), some (.int (nI t)), some (.int y)] [] f l
  refine P.aload_n dX10_row_0 rfl rfl ?_
  refine P.iconst dX10_row_1 ic_0 ?_
  refine p_X10_thrown (a := 0) ly_86 (by decide) fl_X10_93 dX10_row_2 rfl ?_
  have hM := mv_free (k := 86) (j := 0) (v := 0) (by decide) hM
  have hKN := hKN.up (k := 86) (j := 0) (v := 0) (by decide)
  have hCF : CF f l (uf f 86 0 0) l := (CF.rf f l).f (by decide)
  generalize uf f 86 0 0 = f0 at hM hKN hCF ⊢
  refine P.aload_n dX10_row_5 rfl rfl ?_
  refine P.iload_n dX10_row_6 rfl rfl ?_
  refine P.callV (As := [.int (nI t)]) (rest := []) (t_lack_ok hM hBW ht h0) ok_X10_lack (fitX (Nat.le_of_ble_eq_true rfl)) rfl ml_X10_116 ly_86 (by decide) (by decide) rfl rfl (Nat.le_of_ble_eq_true rfl) dX10_row_7 ?_
  refine P.if_eq_n (tgt := 23) dX10_row_10 (by decide) (by omega) (fun c_10 => ?_) (fun c_10 => ?_)
  · refine P.iload_n dX10_row_23 rfl rfl ?_
    refine P.i2l dX10_row_24 rfl ?_
    refine P.lconst (v := 1) dX10_row_25 rfl ?_
    refine P.ldc2 dX10_row_26 co_X10_119 ?_
    refine P.callS (As := [.long ((y).toInt64), .long 1, .long 100]) (rest := []) (by have h := t_in (G := G) (f := f0) (l := l) (v := y.toInt64) (a := 1) (b := 100); rw [trL, hy] at h; exact h) ok_X10_in (fitX (Nat.le_of_ble_eq_true rfl)) rfl ml_X10_102 rfl (Nat.le_of_ble_eq_true rfl) dX10_row_29 ?_
    refine P.if_ne_b (tgt := 38) dX10_row_32 (by decide) (fun c_32 => ?_) (fun c_32 => ?_)
    · exfalso; revert c_32; decide
    refine P.bipush (v := -2) dX10_row_35 rfl ?_
    exact P.iretX rfl dX10_row_37 ⟨rfl, hM, hKN, hCF⟩
  · exfalso; omega

set_option maxRecDepth 20000 in
theorem q_row_d {G : GG} {f : Nat → Nat → Nat} {l : Nat → Nat → Int64} {D : DB} {W : LB} {U : QB} {T : TB} {N : Nat} (hM : MV f l D W U T N) (hBW : BW D W U T) (hKN : KN f D W) {t : Nat} (ht : t < 4) (h0 : T.1 t ≠ 0) {a : Nat} (ha1 : 1 ≤ a) (ha2 : a ≤ 100) (h12 : D.1 = 12) : SpX G mX10_row [.ref (ad G 86), .int (nI t), .int (nI a)] f l (fun rv f1 l1 => rv = (some (.int (-4))) ∧ MJ f l f1 l1 D W U T N) := by
  obtain ⟨hD, hLW, hUW, hTW⟩ := id hBW
  have hR := hD.1
  have hW1 := hLW.1
  have hU1 := hUW.1
  have hJ1 := hUW.2.1
  refine SpX.of ok_X10_row.1 (Nat.le_of_ble_eq_true rfl) ?_
  show Pm G RX10 cX10_row 3 (KX G mX10_row (fun rv f1 l1 => rv = (some (.int (-4))) ∧ MJ f l f1 l1 D W U T N)) 0 [some (.ref (ad G 86)), some (.int (nI t)), some (.int (nI a))] [] f l
  refine P.aload_n dX10_row_0 rfl rfl ?_
  refine P.iconst dX10_row_1 ic_0 ?_
  refine p_X10_thrown (a := 0) ly_86 (by decide) fl_X10_93 dX10_row_2 rfl ?_
  have hM := mv_free (k := 86) (j := 0) (v := 0) (by decide) hM
  have hKN := hKN.up (k := 86) (j := 0) (v := 0) (by decide)
  have hCF : CF f l (uf f 86 0 0) l := (CF.rf f l).f (by decide)
  generalize uf f 86 0 0 = f0 at hM hKN hCF ⊢
  refine P.aload_n dX10_row_5 rfl rfl ?_
  refine P.iload_n dX10_row_6 rfl rfl ?_
  refine P.callV (As := [.int (nI t)]) (rest := []) (t_lack_ok hM hBW ht h0) ok_X10_lack (fitX (Nat.le_of_ble_eq_true rfl)) rfl ml_X10_116 ly_86 (by decide) (by decide) rfl rfl (Nat.le_of_ble_eq_true rfl) dX10_row_7 ?_
  refine P.if_eq_n (tgt := 23) dX10_row_10 (by decide) (by omega) (fun c_10 => ?_) (fun c_10 => ?_)
  · refine P.iload_n dX10_row_23 rfl rfl ?_
    refine P.i2l dX10_row_24 rfl ?_
    refine P.lconst (v := 1) dX10_row_25 rfl ?_
    refine P.ldc2 dX10_row_26 co_X10_119 ?_
    refine P.callS (As := [.long ((nI a).toInt64), .long 1, .long 100]) (rest := []) (by have h := t_in (G := G) (f := f0) (l := l) (v := (nI a).toInt64) (a := 1) (b := 100); rw [trL, trOK_n ha1 ha2] at h; exact h) ok_X10_in (fitX (Nat.le_of_ble_eq_true rfl)) rfl ml_X10_102 rfl (Nat.le_of_ble_eq_true rfl) dX10_row_29 ?_
    refine P.if_ne_b (tgt := 38) dX10_row_32 (by decide) (fun c_32 => ?_) (fun c_32 => ?_)
    · refine P.aload_n dX10_row_38 rfl rfl ?_
      refine g_X10_rows ly_86 (by decide) fl_X10_106 dX10_row_39 ?_
      refine Pm.topn (b := D.1) (hM.R) ?_
      refine P.bipush (v := nI 12) dX10_row_42 rfl ?_
      refine P.icmp_ne_n (tgt := 50) dX10_row_44 (by decide) (by omega) (by omega) (fun c_44 => ?_) (fun c_44 => ?_)
      · exfalso; omega
      refine P.bipush (v := -4) dX10_row_47 rfl ?_
      exact P.iretX rfl dX10_row_49 ⟨rfl, hM, hKN, hCF⟩
    · exfalso; revert c_32; decide
  · exfalso; omega

set_option maxRecDepth 20000 in
theorem q_row_e {G : GG} {f : Nat → Nat → Nat} {l : Nat → Nat → Int64} {D : DB} {W : LB} {U : QB} {T : TB} {N : Nat} (hM : MV f l D W U T N) (hBW : BW D W U T) (hKN : KN f D W) {t : Nat} (ht : t < 4) (h0 : T.1 t ≠ 0) {a : Nat} (ha1 : 1 ≤ a) (ha2 : a ≤ 100) (h12 : D.1 < 12) : SpX G mX10_row [.ref (ad G 86), .int (nI t), .int (nI a)] f l (fun rv f1 l1 => rv = (some (.int (nI D.1))) ∧ MJ f l f1 l1 (D.1 + 1, uf (uf (uf D.2.1 D.1 2 t) D.1 3 a) D.1 4 1, D.2.2) W U T N) := by
  obtain ⟨hD, hLW, hUW, hTW⟩ := id hBW
  have hR := hD.1
  have hW1 := hLW.1
  have hU1 := hUW.1
  have hJ1 := hUW.2.1
  refine SpX.of ok_X10_row.1 (Nat.le_of_ble_eq_true rfl) ?_
  show Pm G RX10 cX10_row 3 (KX G mX10_row (fun rv f1 l1 => rv = (some (.int (nI D.1))) ∧ MJ f l f1 l1 (D.1 + 1, uf (uf (uf D.2.1 D.1 2 t) D.1 3 a) D.1 4 1, D.2.2) W U T N)) 0 [some (.ref (ad G 86)), some (.int (nI t)), some (.int (nI a))] [] f l
  refine P.aload_n dX10_row_0 rfl rfl ?_
  refine P.iconst dX10_row_1 ic_0 ?_
  refine p_X10_thrown (a := 0) ly_86 (by decide) fl_X10_93 dX10_row_2 rfl ?_
  have hM := mv_free (k := 86) (j := 0) (v := 0) (by decide) hM
  have hKN := hKN.up (k := 86) (j := 0) (v := 0) (by decide)
  have hCF : CF f l (uf f 86 0 0) l := (CF.rf f l).f (by decide)
  generalize uf f 86 0 0 = f0 at hM hKN hCF ⊢
  refine P.aload_n dX10_row_5 rfl rfl ?_
  refine P.iload_n dX10_row_6 rfl rfl ?_
  refine P.callV (As := [.int (nI t)]) (rest := []) (t_lack_ok hM hBW ht h0) ok_X10_lack (fitX (Nat.le_of_ble_eq_true rfl)) rfl ml_X10_116 ly_86 (by decide) (by decide) rfl rfl (Nat.le_of_ble_eq_true rfl) dX10_row_7 ?_
  refine P.if_eq_n (tgt := 23) dX10_row_10 (by decide) (by omega) (fun c_10 => ?_) (fun c_10 => ?_)
  · refine P.iload_n dX10_row_23 rfl rfl ?_
    refine P.i2l dX10_row_24 rfl ?_
    refine P.lconst (v := 1) dX10_row_25 rfl ?_
    refine P.ldc2 dX10_row_26 co_X10_119 ?_
    refine P.callS (As := [.long ((nI a).toInt64), .long 1, .long 100]) (rest := []) (by have h := t_in (G := G) (f := f0) (l := l) (v := (nI a).toInt64) (a := 1) (b := 100); rw [trL, trOK_n ha1 ha2] at h; exact h) ok_X10_in (fitX (Nat.le_of_ble_eq_true rfl)) rfl ml_X10_102 rfl (Nat.le_of_ble_eq_true rfl) dX10_row_29 ?_
    refine P.if_ne_b (tgt := 38) dX10_row_32 (by decide) (fun c_32 => ?_) (fun c_32 => ?_)
    · refine P.aload_n dX10_row_38 rfl rfl ?_
      refine g_X10_rows ly_86 (by decide) fl_X10_106 dX10_row_39 ?_
      refine Pm.topn (b := D.1) (hM.R) ?_
      refine P.bipush (v := nI 12) dX10_row_42 rfl ?_
      refine P.icmp_ne_n (tgt := 50) dX10_row_44 (by decide) (by omega) (by omega) (fun c_44 => ?_) (fun c_44 => ?_)
      · refine P.aload_n dX10_row_50 rfl rfl ?_
        refine g_X10_tableOf (q := 89) ly_86 (by decide) (by decide) fl_X10_16 dX10_row_51 ?_
        refine P.aload_n dX10_row_54 rfl rfl ?_
        refine g_X10_rows ly_86 (by decide) fl_X10_106 dX10_row_55 ?_
        refine Pm.topn (b := D.1) (hM.R) ?_
        refine P.iload_n dX10_row_58 rfl rfl ?_
        refine s_ia (a := t) ly_89 (by decide) (by omega) (by decide) dX10_row_59 rfl ?_
        refine P.aload_n dX10_row_60 rfl rfl ?_
        refine g_X10_trustOf (q := 90) ly_86 (by decide) (by decide) fl_X10_19 dX10_row_61 ?_
        refine P.aload_n dX10_row_64 rfl rfl ?_
        refine g_X10_rows ly_86 (by decide) fl_X10_106 dX10_row_65 ?_
        refine Pm.topn (b := D.1) ((uf_ne _ _ (Or.inl (by omega))).trans (hM.R)) ?_
        refine P.iload_n dX10_row_68 rfl rfl ?_
        refine s_ia (a := a) ly_90 (by decide) (by omega) (by decide) dX10_row_69 rfl ?_
        refine P.aload_n dX10_row_70 rfl rfl ?_
        refine g_X10_isKept (q := 91) ly_86 (by decide) (by decide) fl_X10_22 dX10_row_71 ?_
        refine P.aload_n dX10_row_74 rfl rfl ?_
        refine g_X10_rows ly_86 (by decide) fl_X10_106 dX10_row_75 ?_
        refine Pm.topn (b := D.1) ((uf_ne _ _ (Or.inl (by omega))).trans ((uf_ne _ _ (Or.inl (by omega))).trans (hM.R))) ?_
        refine P.iconst dX10_row_78 ic_1 ?_
        refine s_za (a := 1) ly_91 (by decide) (by omega) (by decide) dX10_row_79 rfl (by omega) ?_
        refine P.aload_n dX10_row_80 rfl rfl ?_
        refine P.dup dX10_row_81 rfl ?_
        refine g_X10_rows ly_86 (by decide) fl_X10_106 dX10_row_82 ?_
        refine Pm.topn (b := D.1) ((uf_ne _ _ (Or.inl (by omega))).trans ((uf_ne _ _ (Or.inl (by omega))).trans ((uf_ne _ _ (Or.inl (by omega))).trans (hM.R)))) ?_
        refine P.iconst dX10_row_85 ic_1 ?_
        refine P.iadd_n dX10_row_86 (nI_add _ _) ?_
        refine p_X10_rows (a := (D.1 + 1)) ly_86 (by decide) fl_X10_106 dX10_row_87 rfl ?_
        refine P.aload_n dX10_row_90 rfl rfl ?_
        refine P.iconst dX10_row_91 ic_0 ?_
        refine p_X10_isKnown (a := 0) ly_86 (by decide) fl_X10_121 dX10_row_92 rfl (by omega) ?_
        refine P.aload_n dX10_row_95 rfl rfl ?_
        refine g_X10_rows ly_86 (by decide) fl_X10_106 dX10_row_96 ?_
        refine Pm.topn (b := (D.1 + 1)) ((uf_ne _ _ (Or.inr (by decide))).trans (uf_self _ _ _ _)) ?_
        refine P.iconst dX10_row_99 ic_1 ?_
        refine P.isub_n dX10_row_100 (pk_sub (by omega)) ?_
        exact P.iretX rfl dX10_row_101 ⟨rfl, (mv_free (by decide) (mv_R (mv_kep (mv_tru (mv_tab hM))))), (KN.z _ _ _), (((((hCF.f (by decide)).f (by decide)).f (by decide)).f (by decide)).f (by decide))⟩
      · exfalso; omega
    · exfalso; revert c_32; decide
  · exfalso; omega

set_option maxRecDepth 20000 in
theorem q_put_a {G : GG} {f : Nat → Nat → Nat} {l : Nat → Nat → Int64} {D : DB} {W : LB} {U : QB} {T : TB} {N : Nat} (hM : MV f l D W U T N) (hBW : BW D W U T) (hKN : KN f D W) {x : Int32} (hx : inR x D.1 = false) {y : Int32} {v : Int64}  : SpX G mX10_put [.ref (ad G 86), .int x, .int y, .long v] f l (fun rv f1 l1 => rv = (some (.int (-1))) ∧ MJ f l f1 l1 D W U T N) := by
  obtain ⟨hD, hLW, hUW, hTW⟩ := id hBW
  have hR := hD.1
  have hW1 := hLW.1
  have hU1 := hUW.1
  have hJ1 := hUW.2.1
  refine SpX.of ok_X10_put.1 (Nat.le_of_ble_eq_true rfl) ?_
  show Pm G RX10 cX10_put 5 (KX G mX10_put (fun rv f1 l1 => rv = (some (.int (-1))) ∧ MJ f l f1 l1 D W U T N)) 0 [some (.ref (ad G 86)), some (.int x), some (.int y), some (.long v), none] [] f l
  refine P.aload_n dX10_put_0 rfl rfl ?_
  refine P.iconst dX10_put_1 ic_0 ?_
  refine p_X10_thrown (a := 0) ly_86 (by decide) fl_X10_93 dX10_put_2 rfl ?_
  have hM := mv_free (k := 86) (j := 0) (v := 0) (by decide) hM
  have hKN := hKN.up (k := 86) (j := 0) (v := 0) (by decide)
  have hCF : CF f l (uf f 86 0 0) l := (CF.rf f l).f (by decide)
  generalize uf f 86 0 0 = f0 at hM hKN hCF ⊢
  refine P.aload_n dX10_put_5 rfl rfl ?_
  refine P.iload_n dX10_put_6 rfl rfl ?_
  refine P.callV (As := [.int x]) (rest := []) (t_noRow_f hM hBW hx) ok_X10_noRow (fitX (Nat.le_of_ble_eq_true rfl)) rfl ml_X10_125 ly_86 (by decide) (by decide) rfl rfl (Nat.le_of_ble_eq_true rfl) dX10_put_7 ?_
  refine P.if_eq_b (tgt := 15) dX10_put_10 (by decide) (fun c_10 => ?_) (fun c_10 => ?_)
  · exfalso; revert c_10; decide
  refine P.iconst (v := -1) dX10_put_13 rfl ?_
  exact P.iretX rfl dX10_put_14 ⟨rfl, hM, hKN, hCF⟩

set_option maxRecDepth 20000 in
theorem q_put_b {G : GG} {f : Nat → Nat → Nat} {l : Nat → Nat → Int64} {D : DB} {W : LB} {U : QB} {T : TB} {N : Nat} (hM : MV f l D W U T N) (hBW : BW D W U T) (hKN : KN f D W) {r : Nat} (hr : r < D.1) {y : Int32} (hy : inR y (T.1 (D.2.1 r 2)) = false) {v : Int64}  : SpX G mX10_put [.ref (ad G 86), .int (nI r), .int y, .long v] f l (fun rv f1 l1 => rv = (some (.int (-12))) ∧ MJ f l f1 l1 D W U T (N + 1)) := by
  obtain ⟨hD, hLW, hUW, hTW⟩ := id hBW
  have hR := hD.1
  have hW1 := hLW.1
  have hU1 := hUW.1
  have hJ1 := hUW.2.1
  have htb : D.2.1 r 2 < 4 := (hD.2.2.2 r hr).1
  have htc := hTW.1 _ htb
  refine SpX.of ok_X10_put.1 (Nat.le_of_ble_eq_true rfl) ?_
  show Pm G RX10 cX10_put 5 (KX G mX10_put (fun rv f1 l1 => rv = (some (.int (-12))) ∧ MJ f l f1 l1 D W U T (N + 1))) 0 [some (.ref (ad G 86)), some (.int (nI r)), some (.int y), some (.long v), none] [] f l
  refine P.aload_n dX10_put_0 rfl rfl ?_
  refine P.iconst dX10_put_1 ic_0 ?_
  refine p_X10_thrown (a := 0) ly_86 (by decide) fl_X10_93 dX10_put_2 rfl ?_
  have hM := mv_free (k := 86) (j := 0) (v := 0) (by decide) hM
  have hKN := hKN.up (k := 86) (j := 0) (v := 0) (by decide)
  have hCF : CF f l (uf f 86 0 0) l := (CF.rf f l).f (by decide)
  generalize uf f 86 0 0 = f0 at hM hKN hCF ⊢
  refine P.aload_n dX10_put_5 rfl rfl ?_
  refine P.iload_n dX10_put_6 rfl rfl ?_
  refine P.callV (As := [.int (nI r)]) (rest := []) (t_noRow_t hM hBW hr) ok_X10_noRow (fitX (Nat.le_of_ble_eq_true rfl)) rfl ml_X10_125 ly_86 (by decide) (by decide) rfl rfl (Nat.le_of_ble_eq_true rfl) dX10_put_7 ?_
  refine P.if_eq_b (tgt := 15) dX10_put_10 (by decide) (fun c_10 => ?_) (fun c_10 => ?_)
  · refine P.aload_n dX10_put_15 rfl rfl ?_
    refine P.aload_n dX10_put_16 rfl rfl ?_
    refine g_X10_tableOf (q := 89) ly_86 (by decide) (by decide) fl_X10_16 dX10_put_17 ?_
    refine P.iload_n dX10_put_20 rfl rfl ?_
    refine a_ia ly_89 (by decide) (by omega) (by decide) dX10_put_21 ?_
    refine Pm.topn (b := D.2.1 r 2) ((hM.tab r (by omega))) ?_
    refine P.iload_n dX10_put_22 rfl rfl ?_
    refine P.callV (As := [.int (nI (D.2.1 r 2)), .int y]) (rest := []) (t_noColumn_f hM hBW htb hy) ok_X10_noColumn (fitX (Nat.le_of_ble_eq_true rfl)) rfl ml_X10_129 ly_86 (by decide) (by decide) rfl rfl (Nat.le_of_ble_eq_true rfl) dX10_put_23 ?_
    refine P.if_eq_b (tgt := 36) dX10_put_26 (by decide) (fun c_26 => ?_) (fun c_26 => ?_)
    · exfalso; revert c_26; decide
    refine P.aload_n dX10_put_29 rfl rfl ?_
    refine P.bipush (v := -12) dX10_put_30 rfl ?_
    refine P.callV (As := [.int (-12)]) (rest := []) (t_finds hM hBW) ok_X10_finds (fitX (Nat.le_of_ble_eq_true rfl)) rfl ml_X10_112 ly_86 (by decide) (by decide) rfl rfl (Nat.le_of_ble_eq_true rfl) dX10_put_32 ?_
    exact P.iretX rfl dX10_put_35 ⟨rfl, (mv_N hM), (KN.up (by omega) hKN), (hCF.f (by decide))⟩
  · exfalso; revert c_10; decide

set_option maxRecDepth 20000 in
theorem q_put_c {G : GG} {f : Nat → Nat → Nat} {l : Nat → Nat → Int64} {D : DB} {W : LB} {U : QB} {T : TB} {N : Nat} (hM : MV f l D W U T N) (hBW : BW D W U T) (hKN : KN f D W) {r : Nat} (hr : r < D.1) {c : Nat} (hc : c < T.1 (D.2.1 r 2)) {v : Int64}  : SpX G mX10_put [.ref (ad G 86), .int (nI r), .int (nI c), .long v] f l (fun rv f1 l1 => rv = (some (.int (nI 1))) ∧ MJ f l f1 l1 (D.1, D.2.1, uf D.2.2.1 r c 1, uf D.2.2.2 r c (asLane (T.2 (D.2.1 r 2) c) v)) W U T N) := by
  obtain ⟨hD, hLW, hUW, hTW⟩ := id hBW
  have hR := hD.1
  have hW1 := hLW.1
  have hU1 := hUW.1
  have hJ1 := hUW.2.1
  have htb : D.2.1 r 2 < 4 := (hD.2.2.2 r hr).1
  have htc := hTW.1 _ htb
  have hb2 := (hD.2.2.2 r hr).2.2.2.2 c
  refine SpX.of ok_X10_put.1 (Nat.le_of_ble_eq_true rfl) ?_
  show Pm G RX10 cX10_put 5 (KX G mX10_put (fun rv f1 l1 => rv = (some (.int (nI 1))) ∧ MJ f l f1 l1 (D.1, D.2.1, uf D.2.2.1 r c 1, uf D.2.2.2 r c (asLane (T.2 (D.2.1 r 2) c) v)) W U T N)) 0 [some (.ref (ad G 86)), some (.int (nI r)), some (.int (nI c)), some (.long v), none] [] f l
  refine P.aload_n dX10_put_0 rfl rfl ?_
  refine P.iconst dX10_put_1 ic_0 ?_
  refine p_X10_thrown (a := 0) ly_86 (by decide) fl_X10_93 dX10_put_2 rfl ?_
  have hM := mv_free (k := 86) (j := 0) (v := 0) (by decide) hM
  have hKN := hKN.up (k := 86) (j := 0) (v := 0) (by decide)
  have hCF : CF f l (uf f 86 0 0) l := (CF.rf f l).f (by decide)
  generalize uf f 86 0 0 = f0 at hM hKN hCF ⊢
  refine P.aload_n dX10_put_5 rfl rfl ?_
  refine P.iload_n dX10_put_6 rfl rfl ?_
  refine P.callV (As := [.int (nI r)]) (rest := []) (t_noRow_t hM hBW hr) ok_X10_noRow (fitX (Nat.le_of_ble_eq_true rfl)) rfl ml_X10_125 ly_86 (by decide) (by decide) rfl rfl (Nat.le_of_ble_eq_true rfl) dX10_put_7 ?_
  refine P.if_eq_b (tgt := 15) dX10_put_10 (by decide) (fun c_10 => ?_) (fun c_10 => ?_)
  · refine P.aload_n dX10_put_15 rfl rfl ?_
    refine P.aload_n dX10_put_16 rfl rfl ?_
    refine g_X10_tableOf (q := 89) ly_86 (by decide) (by decide) fl_X10_16 dX10_put_17 ?_
    refine P.iload_n dX10_put_20 rfl rfl ?_
    refine a_ia ly_89 (by decide) (by omega) (by decide) dX10_put_21 ?_
    refine Pm.topn (b := D.2.1 r 2) ((hM.tab r (by omega))) ?_
    refine P.iload_n dX10_put_22 rfl rfl ?_
    refine P.callV (As := [.int (nI (D.2.1 r 2)), .int (nI c)]) (rest := []) (t_noColumn_t hM hBW htb hc) ok_X10_noColumn (fitX (Nat.le_of_ble_eq_true rfl)) rfl ml_X10_129 ly_86 (by decide) (by decide) rfl rfl (Nat.le_of_ble_eq_true rfl) dX10_put_23 ?_
    refine P.if_eq_b (tgt := 36) dX10_put_26 (by decide) (fun c_26 => ?_) (fun c_26 => ?_)
    · refine P.aload_n dX10_put_36 rfl rfl ?_
      refine g_X10_told (q := 93) ly_86 (by decide) (by decide) fl_X10_29 dX10_put_37 ?_
      refine P.bipush (v := nI 6) dX10_put_40 rfl ?_
      refine P.iload_n dX10_put_42 rfl rfl ?_
      refine P.imul_n dX10_put_43 (pk_mul _ _) ?_
      refine P.iload_n dX10_put_44 rfl rfl ?_
      refine P.iadd_n dX10_put_45 (nI_add _ _) ?_
      refine P.aload_n dX10_put_46 rfl rfl ?_
      refine g_X10_laneOf (q := 88) ly_86 (by decide) (by decide) fl_X10_13 dX10_put_47 ?_
      refine P.bipush (v := nI 6) dX10_put_50 rfl ?_
      refine P.aload_n dX10_put_52 rfl rfl ?_
      refine g_X10_tableOf (q := 89) ly_86 (by decide) (by decide) fl_X10_16 dX10_put_53 ?_
      refine P.iload_n dX10_put_56 rfl rfl ?_
      refine a_ia ly_89 (by decide) (by omega) (by decide) dX10_put_57 ?_
      refine Pm.topn (b := D.2.1 r 2) ((hM.tab r (by omega))) ?_
      refine P.imul_n dX10_put_58 (pk_mul _ _) ?_
      refine P.iload_n dX10_put_59 rfl rfl ?_
      refine P.iadd_n dX10_put_60 (nI_add _ _) ?_
      refine a_ia ly_88 (by decide) (by omega) (by decide) dX10_put_61 ?_
      refine Pm.topn (b := T.2 (D.2.1 r 2) c) ((hM.lan (D.2.1 r 2) (by omega) c (by omega))) ?_
      refine P.lload_n dX10_put_62 rfl rfl ?_
      refine P.callS (As := [.int (nI (T.2 (D.2.1 r 2) c)), .long v]) (rest := [.int (nI ((6 * r) + c)), .ref (ad G 93)]) (t_lies (hTW.2 _ htb c)) ok_X10_lies (fitX (Nat.le_of_ble_eq_true rfl)) rfl ml_X10_133 rfl (Nat.le_of_ble_eq_true rfl) dX10_put_63 ?_
      refine s_la ly_93 (by decide) (by omega) (by decide) dX10_put_66 ?_
      refine P.aload_n dX10_put_67 rfl rfl ?_
      refine g_X10_isThere (q := 92) ly_86 (by decide) (by decide) fl_X10_26 dX10_put_68 ?_
      refine P.bipush (v := nI 6) dX10_put_71 rfl ?_
      refine P.iload_n dX10_put_73 rfl rfl ?_
      refine P.imul_n dX10_put_74 (pk_mul _ _) ?_
      refine P.iload_n dX10_put_75 rfl rfl ?_
      refine P.iadd_n dX10_put_76 (nI_add _ _) ?_
      refine P.iconst dX10_put_77 ic_1 ?_
      refine s_za (a := 1) ly_92 (by decide) (by omega) (by decide) dX10_put_78 rfl (by omega) ?_
      refine P.aload_n dX10_put_79 rfl rfl ?_
      refine P.iconst dX10_put_80 ic_0 ?_
      refine p_X10_isKnown (a := 0) ly_86 (by decide) fl_X10_121 dX10_put_81 rfl (by omega) ?_
      refine P.iconst dX10_put_84 ic_1 ?_
      exact P.iretX rfl dX10_put_85 ⟨rfl, (mv_num (by omega) (mv_free (by decide) (mv_the (by omega) hM))), (KN.z _ _ _), (((hCF.f (by decide)).f (by decide)).l (by decide))⟩
    · exfalso; revert c_26; decide
  · exfalso; revert c_10; decide

set_option maxRecDepth 20000 in
theorem q_miss_a {G : GG} {f : Nat → Nat → Nat} {l : Nat → Nat → Int64} {D : DB} {W : LB} {U : QB} {T : TB} {N : Nat} (hM : MV f l D W U T N) (hBW : BW D W U T) (hKN : KN f D W) {x : Int32} (hx : inR x D.1 = false) {y : Int32}  : SpX G mX10_miss [.ref (ad G 86), .int x, .int y] f l (fun rv f1 l1 => rv = (some (.int (-1))) ∧ MJ f l f1 l1 D W U T N) := by
  obtain ⟨hD, hLW, hUW, hTW⟩ := id hBW
  have hR := hD.1
  have hW1 := hLW.1
  have hU1 := hUW.1
  have hJ1 := hUW.2.1
  refine SpX.of ok_X10_miss.1 (Nat.le_of_ble_eq_true rfl) ?_
  show Pm G RX10 cX10_miss 4 (KX G mX10_miss (fun rv f1 l1 => rv = (some (.int (-1))) ∧ MJ f l f1 l1 D W U T N)) 0 [some (.ref (ad G 86)), some (.int x), some (.int y), none] [] f l
  refine P.aload_n dX10_miss_0 rfl rfl ?_
  refine P.iconst dX10_miss_1 ic_0 ?_
  refine p_X10_thrown (a := 0) ly_86 (by decide) fl_X10_93 dX10_miss_2 rfl ?_
  have hM := mv_free (k := 86) (j := 0) (v := 0) (by decide) hM
  have hKN := hKN.up (k := 86) (j := 0) (v := 0) (by decide)
  have hCF : CF f l (uf f 86 0 0) l := (CF.rf f l).f (by decide)
  generalize uf f 86 0 0 = f0 at hM hKN hCF ⊢
  refine P.aload_n dX10_miss_5 rfl rfl ?_
  refine P.iload_n dX10_miss_6 rfl rfl ?_
  refine P.callV (As := [.int x]) (rest := []) (t_noRow_f hM hBW hx) ok_X10_noRow (fitX (Nat.le_of_ble_eq_true rfl)) rfl ml_X10_125 ly_86 (by decide) (by decide) rfl rfl (Nat.le_of_ble_eq_true rfl) dX10_miss_7 ?_
  refine P.if_eq_b (tgt := 15) dX10_miss_10 (by decide) (fun c_10 => ?_) (fun c_10 => ?_)
  · exfalso; revert c_10; decide
  refine P.iconst (v := -1) dX10_miss_13 rfl ?_
  exact P.iretX rfl dX10_miss_14 ⟨rfl, hM, hKN, hCF⟩

set_option maxRecDepth 20000 in
theorem q_miss_b {G : GG} {f : Nat → Nat → Nat} {l : Nat → Nat → Int64} {D : DB} {W : LB} {U : QB} {T : TB} {N : Nat} (hM : MV f l D W U T N) (hBW : BW D W U T) (hKN : KN f D W) {r : Nat} (hr : r < D.1) {y : Int32} (hy : inR y (T.1 (D.2.1 r 2)) = false)  : SpX G mX10_miss [.ref (ad G 86), .int (nI r), .int y] f l (fun rv f1 l1 => rv = (some (.int (-12))) ∧ MJ f l f1 l1 D W U T (N + 1)) := by
  obtain ⟨hD, hLW, hUW, hTW⟩ := id hBW
  have hR := hD.1
  have hW1 := hLW.1
  have hU1 := hUW.1
  have hJ1 := hUW.2.1
  have htb : D.2.1 r 2 < 4 := (hD.2.2.2 r hr).1
  have htc := hTW.1 _ htb
  refine SpX.of ok_X10_miss.1 (Nat.le_of_ble_eq_true rfl) ?_
  show Pm G RX10 cX10_miss 4 (KX G mX10_miss (fun rv f1 l1 => rv = (some (.int (-12))) ∧ MJ f l f1 l1 D W U T (N + 1))) 0 [some (.ref (ad G 86)), some (.int (nI r)), some (.int y), none] [] f l
  refine P.aload_n dX10_miss_0 rfl rfl ?_
  refine P.iconst dX10_miss_1 ic_0 ?_
  refine p_X10_thrown (a := 0) ly_86 (by decide) fl_X10_93 dX10_miss_2 rfl ?_
  have hM := mv_free (k := 86) (j := 0) (v := 0) (by decide) hM
  have hKN := hKN.up (k := 86) (j := 0) (v := 0) (by decide)
  have hCF : CF f l (uf f 86 0 0) l := (CF.rf f l).f (by decide)
  generalize uf f 86 0 0 = f0 at hM hKN hCF ⊢
  refine P.aload_n dX10_miss_5 rfl rfl ?_
  refine P.iload_n dX10_miss_6 rfl rfl ?_
  refine P.callV (As := [.int (nI r)]) (rest := []) (t_noRow_t hM hBW hr) ok_X10_noRow (fitX (Nat.le_of_ble_eq_true rfl)) rfl ml_X10_125 ly_86 (by decide) (by decide) rfl rfl (Nat.le_of_ble_eq_true rfl) dX10_miss_7 ?_
  refine P.if_eq_b (tgt := 15) dX10_miss_10 (by decide) (fun c_10 => ?_) (fun c_10 => ?_)
  · refine P.aload_n dX10_miss_15 rfl rfl ?_
    refine P.aload_n dX10_miss_16 rfl rfl ?_
    refine g_X10_tableOf (q := 89) ly_86 (by decide) (by decide) fl_X10_16 dX10_miss_17 ?_
    refine P.iload_n dX10_miss_20 rfl rfl ?_
    refine a_ia ly_89 (by decide) (by omega) (by decide) dX10_miss_21 ?_
    refine Pm.topn (b := D.2.1 r 2) ((hM.tab r (by omega))) ?_
    refine P.iload_n dX10_miss_22 rfl rfl ?_
    refine P.callV (As := [.int (nI (D.2.1 r 2)), .int y]) (rest := []) (t_noColumn_f hM hBW htb hy) ok_X10_noColumn (fitX (Nat.le_of_ble_eq_true rfl)) rfl ml_X10_129 ly_86 (by decide) (by decide) rfl rfl (Nat.le_of_ble_eq_true rfl) dX10_miss_23 ?_
    refine P.if_eq_b (tgt := 36) dX10_miss_26 (by decide) (fun c_26 => ?_) (fun c_26 => ?_)
    · exfalso; revert c_26; decide
    refine P.aload_n dX10_miss_29 rfl rfl ?_
    refine P.bipush (v := -12) dX10_miss_30 rfl ?_
    refine P.callV (As := [.int (-12)]) (rest := []) (t_finds hM hBW) ok_X10_finds (fitX (Nat.le_of_ble_eq_true rfl)) rfl ml_X10_112 ly_86 (by decide) (by decide) rfl rfl (Nat.le_of_ble_eq_true rfl) dX10_miss_32 ?_
    exact P.iretX rfl dX10_miss_35 ⟨rfl, (mv_N hM), (KN.up (by omega) hKN), (hCF.f (by decide))⟩
  · exfalso; revert c_10; decide

set_option maxRecDepth 20000 in
theorem q_miss_c {G : GG} {f : Nat → Nat → Nat} {l : Nat → Nat → Int64} {D : DB} {W : LB} {U : QB} {T : TB} {N : Nat} (hM : MV f l D W U T N) (hBW : BW D W U T) (hKN : KN f D W) {r : Nat} (hr : r < D.1) {c : Nat} (hc : c < T.1 (D.2.1 r 2))  : SpX G mX10_miss [.ref (ad G 86), .int (nI r), .int (nI c)] f l (fun rv f1 l1 => rv = (some (.int (nI (bN (D.2.2.1 r c == 0))))) ∧ MJ f l f1 l1 (D.1, D.2.1, uf D.2.2.1 r c 0, uf D.2.2.2 r c 0) W U T N) := by
  obtain ⟨hD, hLW, hUW, hTW⟩ := id hBW
  have hR := hD.1
  have hW1 := hLW.1
  have hU1 := hUW.1
  have hJ1 := hUW.2.1
  have htb : D.2.1 r 2 < 4 := (hD.2.2.2 r hr).1
  have htc := hTW.1 _ htb
  have hb2 := (hD.2.2.2 r hr).2.2.2.2 c
  refine SpX.of ok_X10_miss.1 (Nat.le_of_ble_eq_true rfl) ?_
  show Pm G RX10 cX10_miss 4 (KX G mX10_miss (fun rv f1 l1 => rv = (some (.int (nI (bN (D.2.2.1 r c == 0))))) ∧ MJ f l f1 l1 (D.1, D.2.1, uf D.2.2.1 r c 0, uf D.2.2.2 r c 0) W U T N)) 0 [some (.ref (ad G 86)), some (.int (nI r)), some (.int (nI c)), none] [] f l
  refine P.aload_n dX10_miss_0 rfl rfl ?_
  refine P.iconst dX10_miss_1 ic_0 ?_
  refine p_X10_thrown (a := 0) ly_86 (by decide) fl_X10_93 dX10_miss_2 rfl ?_
  have hM := mv_free (k := 86) (j := 0) (v := 0) (by decide) hM
  have hKN := hKN.up (k := 86) (j := 0) (v := 0) (by decide)
  have hCF : CF f l (uf f 86 0 0) l := (CF.rf f l).f (by decide)
  generalize uf f 86 0 0 = f0 at hM hKN hCF ⊢
  refine P.aload_n dX10_miss_5 rfl rfl ?_
  refine P.iload_n dX10_miss_6 rfl rfl ?_
  refine P.callV (As := [.int (nI r)]) (rest := []) (t_noRow_t hM hBW hr) ok_X10_noRow (fitX (Nat.le_of_ble_eq_true rfl)) rfl ml_X10_125 ly_86 (by decide) (by decide) rfl rfl (Nat.le_of_ble_eq_true rfl) dX10_miss_7 ?_
  refine P.if_eq_b (tgt := 15) dX10_miss_10 (by decide) (fun c_10 => ?_) (fun c_10 => ?_)
  · refine P.aload_n dX10_miss_15 rfl rfl ?_
    refine P.aload_n dX10_miss_16 rfl rfl ?_
    refine g_X10_tableOf (q := 89) ly_86 (by decide) (by decide) fl_X10_16 dX10_miss_17 ?_
    refine P.iload_n dX10_miss_20 rfl rfl ?_
    refine a_ia ly_89 (by decide) (by omega) (by decide) dX10_miss_21 ?_
    refine Pm.topn (b := D.2.1 r 2) ((hM.tab r (by omega))) ?_
    refine P.iload_n dX10_miss_22 rfl rfl ?_
    refine P.callV (As := [.int (nI (D.2.1 r 2)), .int (nI c)]) (rest := []) (t_noColumn_t hM hBW htb hc) ok_X10_noColumn (fitX (Nat.le_of_ble_eq_true rfl)) rfl ml_X10_129 ly_86 (by decide) (by decide) rfl rfl (Nat.le_of_ble_eq_true rfl) dX10_miss_23 ?_
    refine P.if_eq_b (tgt := 36) dX10_miss_26 (by decide) (fun c_26 => ?_) (fun c_26 => ?_)
    · refine P.aload_n dX10_miss_36 rfl rfl ?_
      refine g_X10_isThere (q := 92) ly_86 (by decide) (by decide) fl_X10_26 dX10_miss_37 ?_
      refine P.bipush (v := nI 6) dX10_miss_40 rfl ?_
      refine P.iload_n dX10_miss_42 rfl rfl ?_
      refine P.imul_n dX10_miss_43 (pk_mul _ _) ?_
      refine P.iload_n dX10_miss_44 rfl rfl ?_
      refine P.iadd_n dX10_miss_45 (nI_add _ _) ?_
      refine a_za ly_92 (by decide) (by omega) (by decide) dX10_miss_46 ?_
      refine Pm.topn (b := D.2.2.1 r c) ((hM.the r (by omega) c (by omega))) ?_
      refine P.if_eq_n (tgt := 54) dX10_miss_47 (by decide) (hD.2.2.1 _ _) (fun c_47 => ?_) (fun c_47 => ?_)
      · refine P.iconst dX10_miss_54 ic_1 ?_
        refine P.istore_n dX10_miss_55 rfl (by decide) ?_
        refine P.aload_n dX10_miss_56 rfl rfl ?_
        refine g_X10_isThere (q := 92) ly_86 (by decide) (by decide) fl_X10_26 dX10_miss_57 ?_
        refine P.bipush (v := nI 6) dX10_miss_60 rfl ?_
        refine P.iload_n dX10_miss_62 rfl rfl ?_
        refine P.imul_n dX10_miss_63 (pk_mul _ _) ?_
        refine P.iload_n dX10_miss_64 rfl rfl ?_
        refine P.iadd_n dX10_miss_65 (nI_add _ _) ?_
        refine P.iconst dX10_miss_66 ic_0 ?_
        refine s_za (a := 0) ly_92 (by decide) (by omega) (by decide) dX10_miss_67 rfl (by omega) ?_
        refine P.aload_n dX10_miss_68 rfl rfl ?_
        refine g_X10_told (q := 93) ly_86 (by decide) (by decide) fl_X10_29 dX10_miss_69 ?_
        refine P.bipush (v := nI 6) dX10_miss_72 rfl ?_
        refine P.iload_n dX10_miss_74 rfl rfl ?_
        refine P.imul_n dX10_miss_75 (pk_mul _ _) ?_
        refine P.iload_n dX10_miss_76 rfl rfl ?_
        refine P.iadd_n dX10_miss_77 (nI_add _ _) ?_
        refine P.lconst (v := 0) dX10_miss_78 rfl ?_
        refine s_la ly_93 (by decide) (by omega) (by decide) dX10_miss_79 ?_
        refine P.aload_n dX10_miss_80 rfl rfl ?_
        refine P.iconst dX10_miss_81 ic_0 ?_
        refine p_X10_isKnown (a := 0) ly_86 (by decide) fl_X10_121 dX10_miss_82 rfl (by omega) ?_
        refine P.iload_n dX10_miss_85 rfl rfl ?_
        exact P.iretX rfl dX10_miss_86 ⟨by rw [c_47]; rfl, (mv_num (by omega) (mv_free (by decide) (mv_the (by omega) hM))), (KN.z _ _ _), (((hCF.f (by decide)).f (by decide)).l (by decide))⟩
      refine P.iconst dX10_miss_50 ic_0 ?_
      refine P.goto (tgt := 55) dX10_miss_51 (by decide) ?_
      refine P.istore_n dX10_miss_55 rfl (by decide) ?_
      refine P.aload_n dX10_miss_56 rfl rfl ?_
      refine g_X10_isThere (q := 92) ly_86 (by decide) (by decide) fl_X10_26 dX10_miss_57 ?_
      refine P.bipush (v := nI 6) dX10_miss_60 rfl ?_
      refine P.iload_n dX10_miss_62 rfl rfl ?_
      refine P.imul_n dX10_miss_63 (pk_mul _ _) ?_
      refine P.iload_n dX10_miss_64 rfl rfl ?_
      refine P.iadd_n dX10_miss_65 (nI_add _ _) ?_
      refine P.iconst dX10_miss_66 ic_0 ?_
      refine s_za (a := 0) ly_92 (by decide) (by omega) (by decide) dX10_miss_67 rfl (by omega) ?_
      refine P.aload_n dX10_miss_68 rfl rfl ?_
      refine g_X10_told (q := 93) ly_86 (by decide) (by decide) fl_X10_29 dX10_miss_69 ?_
      refine P.bipush (v := nI 6) dX10_miss_72 rfl ?_
      refine P.iload_n dX10_miss_74 rfl rfl ?_
      refine P.imul_n dX10_miss_75 (pk_mul _ _) ?_
      refine P.iload_n dX10_miss_76 rfl rfl ?_
      refine P.iadd_n dX10_miss_77 (nI_add _ _) ?_
      refine P.lconst (v := 0) dX10_miss_78 rfl ?_
      refine s_la ly_93 (by decide) (by omega) (by decide) dX10_miss_79 ?_
      refine P.aload_n dX10_miss_80 rfl rfl ?_
      refine P.iconst dX10_miss_81 ic_0 ?_
      refine p_X10_isKnown (a := 0) ly_86 (by decide) fl_X10_121 dX10_miss_82 rfl (by omega) ?_
      refine P.iload_n dX10_miss_85 rfl rfl ?_
      exact P.iretX rfl dX10_miss_86 ⟨by rw [beq_false_of_ne c_47]; rfl, (mv_num (by omega) (mv_free (by decide) (mv_the (by omega) hM))), (KN.z _ _ _), (((hCF.f (by decide)).f (by decide)).l (by decide))⟩
    · exfalso; revert c_26; decide
  · exfalso; revert c_10; decide

set_option maxRecDepth 20000 in
theorem q_has_a {G : GG} {f : Nat → Nat → Nat} {l : Nat → Nat → Int64} {D : DB} {W : LB} {U : QB} {T : TB} {N : Nat} (hM : MV f l D W U T N) (hBW : BW D W U T) (hKN : KN f D W) {x : Int32} (hx : inR x D.1 = false) {y : Int32}  : SpX G mX10_has [.ref (ad G 86), .int x, .int y] f l (fun rv f1 l1 => rv = (some (.int (-1))) ∧ MJ f l f1 l1 D W U T N) := by
  obtain ⟨hD, hLW, hUW, hTW⟩ := id hBW
  have hR := hD.1
  have hW1 := hLW.1
  have hU1 := hUW.1
  have hJ1 := hUW.2.1
  refine SpX.of ok_X10_has.1 (Nat.le_of_ble_eq_true rfl) ?_
  show Pm G RX10 cX10_has 3 (KX G mX10_has (fun rv f1 l1 => rv = (some (.int (-1))) ∧ MJ f l f1 l1 D W U T N)) 0 [some (.ref (ad G 86)), some (.int x), some (.int y)] [] f l
  refine P.aload_n dX10_has_0 rfl rfl ?_
  refine P.iconst dX10_has_1 ic_0 ?_
  refine p_X10_thrown (a := 0) ly_86 (by decide) fl_X10_93 dX10_has_2 rfl ?_
  have hM := mv_free (k := 86) (j := 0) (v := 0) (by decide) hM
  have hKN := hKN.up (k := 86) (j := 0) (v := 0) (by decide)
  have hCF : CF f l (uf f 86 0 0) l := (CF.rf f l).f (by decide)
  generalize uf f 86 0 0 = f0 at hM hKN hCF ⊢
  refine P.aload_n dX10_has_5 rfl rfl ?_
  refine P.iload_n dX10_has_6 rfl rfl ?_
  refine P.callV (As := [.int x]) (rest := []) (t_noRow_f hM hBW hx) ok_X10_noRow (fitX (Nat.le_of_ble_eq_true rfl)) rfl ml_X10_125 ly_86 (by decide) (by decide) rfl rfl (Nat.le_of_ble_eq_true rfl) dX10_has_7 ?_
  refine P.if_eq_b (tgt := 15) dX10_has_10 (by decide) (fun c_10 => ?_) (fun c_10 => ?_)
  · exfalso; revert c_10; decide
  refine P.iconst (v := -1) dX10_has_13 rfl ?_
  exact P.iretX rfl dX10_has_14 ⟨rfl, hM, hKN, hCF⟩

set_option maxRecDepth 20000 in
theorem q_has_b {G : GG} {f : Nat → Nat → Nat} {l : Nat → Nat → Int64} {D : DB} {W : LB} {U : QB} {T : TB} {N : Nat} (hM : MV f l D W U T N) (hBW : BW D W U T) (hKN : KN f D W) {r : Nat} (hr : r < D.1) {y : Int32} (hy : inR y (T.1 (D.2.1 r 2)) = false)  : SpX G mX10_has [.ref (ad G 86), .int (nI r), .int y] f l (fun rv f1 l1 => rv = (some (.int (-12))) ∧ MJ f l f1 l1 D W U T (N + 1)) := by
  obtain ⟨hD, hLW, hUW, hTW⟩ := id hBW
  have hR := hD.1
  have hW1 := hLW.1
  have hU1 := hUW.1
  have hJ1 := hUW.2.1
  have htb : D.2.1 r 2 < 4 := (hD.2.2.2 r hr).1
  have htc := hTW.1 _ htb
  refine SpX.of ok_X10_has.1 (Nat.le_of_ble_eq_true rfl) ?_
  show Pm G RX10 cX10_has 3 (KX G mX10_has (fun rv f1 l1 => rv = (some (.int (-12))) ∧ MJ f l f1 l1 D W U T (N + 1))) 0 [some (.ref (ad G 86)), some (.int (nI r)), some (.int y)] [] f l
  refine P.aload_n dX10_has_0 rfl rfl ?_
  refine P.iconst dX10_has_1 ic_0 ?_
  refine p_X10_thrown (a := 0) ly_86 (by decide) fl_X10_93 dX10_has_2 rfl ?_
  have hM := mv_free (k := 86) (j := 0) (v := 0) (by decide) hM
  have hKN := hKN.up (k := 86) (j := 0) (v := 0) (by decide)
  have hCF : CF f l (uf f 86 0 0) l := (CF.rf f l).f (by decide)
  generalize uf f 86 0 0 = f0 at hM hKN hCF ⊢
  refine P.aload_n dX10_has_5 rfl rfl ?_
  refine P.iload_n dX10_has_6 rfl rfl ?_
  refine P.callV (As := [.int (nI r)]) (rest := []) (t_noRow_t hM hBW hr) ok_X10_noRow (fitX (Nat.le_of_ble_eq_true rfl)) rfl ml_X10_125 ly_86 (by decide) (by decide) rfl rfl (Nat.le_of_ble_eq_true rfl) dX10_has_7 ?_
  refine P.if_eq_b (tgt := 15) dX10_has_10 (by decide) (fun c_10 => ?_) (fun c_10 => ?_)
  · refine P.aload_n dX10_has_15 rfl rfl ?_
    refine P.aload_n dX10_has_16 rfl rfl ?_
    refine g_X10_tableOf (q := 89) ly_86 (by decide) (by decide) fl_X10_16 dX10_has_17 ?_
    refine P.iload_n dX10_has_20 rfl rfl ?_
    refine a_ia ly_89 (by decide) (by omega) (by decide) dX10_has_21 ?_
    refine Pm.topn (b := D.2.1 r 2) ((hM.tab r (by omega))) ?_
    refine P.iload_n dX10_has_22 rfl rfl ?_
    refine P.callV (As := [.int (nI (D.2.1 r 2)), .int y]) (rest := []) (t_noColumn_f hM hBW htb hy) ok_X10_noColumn (fitX (Nat.le_of_ble_eq_true rfl)) rfl ml_X10_129 ly_86 (by decide) (by decide) rfl rfl (Nat.le_of_ble_eq_true rfl) dX10_has_23 ?_
    refine P.if_eq_b (tgt := 38) dX10_has_26 (by decide) (fun c_26 => ?_) (fun c_26 => ?_)
    · exfalso; revert c_26; decide
    refine P.aload_n dX10_has_29 rfl rfl ?_
    refine P.bipush (v := -12) dX10_has_30 rfl ?_
    refine P.callV (As := [.int (-12)]) (rest := []) (t_finds hM hBW) ok_X10_finds (fitX (Nat.le_of_ble_eq_true rfl)) rfl ml_X10_112 ly_86 (by decide) (by decide) rfl rfl (Nat.le_of_ble_eq_true rfl) dX10_has_32 ?_
    refine P.goto (tgt := 57) dX10_has_35 (by decide) ?_
    exact P.iretX rfl dX10_has_57 ⟨rfl, (mv_N hM), (KN.up (by omega) hKN), (hCF.f (by decide))⟩
  · exfalso; revert c_10; decide

set_option maxRecDepth 20000 in
theorem q_has_c {G : GG} {f : Nat → Nat → Nat} {l : Nat → Nat → Int64} {D : DB} {W : LB} {U : QB} {T : TB} {N : Nat} (hM : MV f l D W U T N) (hBW : BW D W U T) (hKN : KN f D W) {r : Nat} (hr : r < D.1) {c : Nat} (hc : c < T.1 (D.2.1 r 2))  : SpX G mX10_has [.ref (ad G 86), .int (nI r), .int (nI c)] f l (fun rv f1 l1 => rv = (some (.int (nI (D.2.2.1 r c)))) ∧ MJ f l f1 l1 D W U T N) := by
  obtain ⟨hD, hLW, hUW, hTW⟩ := id hBW
  have hR := hD.1
  have hW1 := hLW.1
  have hU1 := hUW.1
  have hJ1 := hUW.2.1
  have htb : D.2.1 r 2 < 4 := (hD.2.2.2 r hr).1
  have htc := hTW.1 _ htb
  have hb2 := (hD.2.2.2 r hr).2.2.2.2 c
  refine SpX.of ok_X10_has.1 (Nat.le_of_ble_eq_true rfl) ?_
  show Pm G RX10 cX10_has 3 (KX G mX10_has (fun rv f1 l1 => rv = (some (.int (nI (D.2.2.1 r c)))) ∧ MJ f l f1 l1 D W U T N)) 0 [some (.ref (ad G 86)), some (.int (nI r)), some (.int (nI c))] [] f l
  refine P.aload_n dX10_has_0 rfl rfl ?_
  refine P.iconst dX10_has_1 ic_0 ?_
  refine p_X10_thrown (a := 0) ly_86 (by decide) fl_X10_93 dX10_has_2 rfl ?_
  have hM := mv_free (k := 86) (j := 0) (v := 0) (by decide) hM
  have hKN := hKN.up (k := 86) (j := 0) (v := 0) (by decide)
  have hCF : CF f l (uf f 86 0 0) l := (CF.rf f l).f (by decide)
  generalize uf f 86 0 0 = f0 at hM hKN hCF ⊢
  refine P.aload_n dX10_has_5 rfl rfl ?_
  refine P.iload_n dX10_has_6 rfl rfl ?_
  refine P.callV (As := [.int (nI r)]) (rest := []) (t_noRow_t hM hBW hr) ok_X10_noRow (fitX (Nat.le_of_ble_eq_true rfl)) rfl ml_X10_125 ly_86 (by decide) (by decide) rfl rfl (Nat.le_of_ble_eq_true rfl) dX10_has_7 ?_
  refine P.if_eq_b (tgt := 15) dX10_has_10 (by decide) (fun c_10 => ?_) (fun c_10 => ?_)
  · refine P.aload_n dX10_has_15 rfl rfl ?_
    refine P.aload_n dX10_has_16 rfl rfl ?_
    refine g_X10_tableOf (q := 89) ly_86 (by decide) (by decide) fl_X10_16 dX10_has_17 ?_
    refine P.iload_n dX10_has_20 rfl rfl ?_
    refine a_ia ly_89 (by decide) (by omega) (by decide) dX10_has_21 ?_
    refine Pm.topn (b := D.2.1 r 2) ((hM.tab r (by omega))) ?_
    refine P.iload_n dX10_has_22 rfl rfl ?_
    refine P.callV (As := [.int (nI (D.2.1 r 2)), .int (nI c)]) (rest := []) (t_noColumn_t hM hBW htb hc) ok_X10_noColumn (fitX (Nat.le_of_ble_eq_true rfl)) rfl ml_X10_129 ly_86 (by decide) (by decide) rfl rfl (Nat.le_of_ble_eq_true rfl) dX10_has_23 ?_
    refine P.if_eq_b (tgt := 38) dX10_has_26 (by decide) (fun c_26 => ?_) (fun c_26 => ?_)
    · refine P.aload_n dX10_has_38 rfl rfl ?_
      refine g_X10_isThere (q := 92) ly_86 (by decide) (by decide) fl_X10_26 dX10_has_39 ?_
      refine P.bipush (v := nI 6) dX10_has_42 rfl ?_
      refine P.iload_n dX10_has_44 rfl rfl ?_
      refine P.imul_n dX10_has_45 (pk_mul _ _) ?_
      refine P.iload_n dX10_has_46 rfl rfl ?_
      refine P.iadd_n dX10_has_47 (nI_add _ _) ?_
      refine a_za ly_92 (by decide) (by omega) (by decide) dX10_has_48 ?_
      refine Pm.topn (b := D.2.2.1 r c) ((hM.the r (by omega) c (by omega))) ?_
      refine P.if_eq_n (tgt := 56) dX10_has_49 (by decide) (hD.2.2.1 _ _) (fun c_49 => ?_) (fun c_49 => ?_)
      · refine P.iconst dX10_has_56 ic_0 ?_
        exact P.iretX rfl dX10_has_57 ⟨by rw [show D.2.2.1 r c = 0 by omega], hM, hKN, hCF⟩
      refine P.iconst dX10_has_52 ic_1 ?_
      refine P.goto (tgt := 57) dX10_has_53 (by decide) ?_
      exact P.iretX rfl dX10_has_57 ⟨by rw [show D.2.2.1 r c = 1 by omega], hM, hKN, hCF⟩
    · exfalso; revert c_26; decide
  · exfalso; revert c_10; decide

set_option maxRecDepth 20000 in
theorem q_cell_a {G : GG} {f : Nat → Nat → Nat} {l : Nat → Nat → Int64} {D : DB} {W : LB} {U : QB} {T : TB} {N : Nat} (hM : MV f l D W U T N) (hBW : BW D W U T) (hKN : KN f D W) {x : Int32} (hx : inR x D.1 = false) {y : Int32}  : SpX G mX10_cell [.ref (ad G 86), .int x, .int y] f l (fun rv f1 l1 => rv = (some (.long (-1))) ∧ MJ f l f1 l1 D W U T N) := by
  obtain ⟨hD, hLW, hUW, hTW⟩ := id hBW
  have hR := hD.1
  have hW1 := hLW.1
  have hU1 := hUW.1
  have hJ1 := hUW.2.1
  refine SpX.of ok_X10_cell.1 (Nat.le_of_ble_eq_true rfl) ?_
  show Pm G RX10 cX10_cell 3 (KX G mX10_cell (fun rv f1 l1 => rv = (some (.long (-1))) ∧ MJ f l f1 l1 D W U T N)) 0 [some (.ref (ad G 86)), some (.int x), some (.int y)] [] f l
  refine P.aload_n dX10_cell_0 rfl rfl ?_
  refine P.iconst dX10_cell_1 ic_0 ?_
  refine p_X10_thrown (a := 0) ly_86 (by decide) fl_X10_93 dX10_cell_2 rfl ?_
  have hM := mv_free (k := 86) (j := 0) (v := 0) (by decide) hM
  have hKN := hKN.up (k := 86) (j := 0) (v := 0) (by decide)
  have hCF : CF f l (uf f 86 0 0) l := (CF.rf f l).f (by decide)
  generalize uf f 86 0 0 = f0 at hM hKN hCF ⊢
  refine P.aload_n dX10_cell_5 rfl rfl ?_
  refine P.iload_n dX10_cell_6 rfl rfl ?_
  refine P.callV (As := [.int x]) (rest := []) (t_noRow_f hM hBW hx) ok_X10_noRow (fitX (Nat.le_of_ble_eq_true rfl)) rfl ml_X10_125 ly_86 (by decide) (by decide) rfl rfl (Nat.le_of_ble_eq_true rfl) dX10_cell_7 ?_
  refine P.if_eq_b (tgt := 17) dX10_cell_10 (by decide) (fun c_10 => ?_) (fun c_10 => ?_)
  · exfalso; revert c_10; decide
  refine P.ldc2 dX10_cell_13 co_X10_137 ?_
  exact P.lretX rfl dX10_cell_16 ⟨rfl, hM, hKN, hCF⟩

set_option maxRecDepth 20000 in
theorem q_cell_b {G : GG} {f : Nat → Nat → Nat} {l : Nat → Nat → Int64} {D : DB} {W : LB} {U : QB} {T : TB} {N : Nat} (hM : MV f l D W U T N) (hBW : BW D W U T) (hKN : KN f D W) {r : Nat} (hr : r < D.1) {y : Int32} (hy : inR y (T.1 (D.2.1 r 2)) = false)  : SpX G mX10_cell [.ref (ad G 86), .int (nI r), .int y] f l (fun rv f1 l1 => rv = (some (.long (-12))) ∧ MJ f l f1 l1 D W U T (N + 1)) := by
  obtain ⟨hD, hLW, hUW, hTW⟩ := id hBW
  have hR := hD.1
  have hW1 := hLW.1
  have hU1 := hUW.1
  have hJ1 := hUW.2.1
  have htb : D.2.1 r 2 < 4 := (hD.2.2.2 r hr).1
  have htc := hTW.1 _ htb
  refine SpX.of ok_X10_cell.1 (Nat.le_of_ble_eq_true rfl) ?_
  show Pm G RX10 cX10_cell 3 (KX G mX10_cell (fun rv f1 l1 => rv = (some (.long (-12))) ∧ MJ f l f1 l1 D W U T (N + 1))) 0 [some (.ref (ad G 86)), some (.int (nI r)), some (.int y)] [] f l
  refine P.aload_n dX10_cell_0 rfl rfl ?_
  refine P.iconst dX10_cell_1 ic_0 ?_
  refine p_X10_thrown (a := 0) ly_86 (by decide) fl_X10_93 dX10_cell_2 rfl ?_
  have hM := mv_free (k := 86) (j := 0) (v := 0) (by decide) hM
  have hKN := hKN.up (k := 86) (j := 0) (v := 0) (by decide)
  have hCF : CF f l (uf f 86 0 0) l := (CF.rf f l).f (by decide)
  generalize uf f 86 0 0 = f0 at hM hKN hCF ⊢
  refine P.aload_n dX10_cell_5 rfl rfl ?_
  refine P.iload_n dX10_cell_6 rfl rfl ?_
  refine P.callV (As := [.int (nI r)]) (rest := []) (t_noRow_t hM hBW hr) ok_X10_noRow (fitX (Nat.le_of_ble_eq_true rfl)) rfl ml_X10_125 ly_86 (by decide) (by decide) rfl rfl (Nat.le_of_ble_eq_true rfl) dX10_cell_7 ?_
  refine P.if_eq_b (tgt := 17) dX10_cell_10 (by decide) (fun c_10 => ?_) (fun c_10 => ?_)
  · refine P.aload_n dX10_cell_17 rfl rfl ?_
    refine P.aload_n dX10_cell_18 rfl rfl ?_
    refine g_X10_tableOf (q := 89) ly_86 (by decide) (by decide) fl_X10_16 dX10_cell_19 ?_
    refine P.iload_n dX10_cell_22 rfl rfl ?_
    refine a_ia ly_89 (by decide) (by omega) (by decide) dX10_cell_23 ?_
    refine Pm.topn (b := D.2.1 r 2) ((hM.tab r (by omega))) ?_
    refine P.iload_n dX10_cell_24 rfl rfl ?_
    refine P.callV (As := [.int (nI (D.2.1 r 2)), .int y]) (rest := []) (t_noColumn_f hM hBW htb hy) ok_X10_noColumn (fitX (Nat.le_of_ble_eq_true rfl)) rfl ml_X10_129 ly_86 (by decide) (by decide) rfl rfl (Nat.le_of_ble_eq_true rfl) dX10_cell_25 ?_
    refine P.if_eq_b (tgt := 41) dX10_cell_28 (by decide) (fun c_28 => ?_) (fun c_28 => ?_)
    · exfalso; revert c_28; decide
    refine P.aload_n dX10_cell_31 rfl rfl ?_
    refine P.bipush (v := -12) dX10_cell_32 rfl ?_
    refine P.callV (As := [.int (-12)]) (rest := []) (t_finds hM hBW) ok_X10_finds (fitX (Nat.le_of_ble_eq_true rfl)) rfl ml_X10_112 ly_86 (by decide) (by decide) rfl rfl (Nat.le_of_ble_eq_true rfl) dX10_cell_34 ?_
    refine P.i2l dX10_cell_37 rfl ?_
    refine P.goto (tgt := 70) dX10_cell_38 (by decide) ?_
    exact P.lretX rfl dX10_cell_70 ⟨rfl, (mv_N hM), (KN.up (by omega) hKN), (hCF.f (by decide))⟩
  · exfalso; revert c_10; decide

set_option maxRecDepth 20000 in
theorem q_cell_c {G : GG} {f : Nat → Nat → Nat} {l : Nat → Nat → Int64} {D : DB} {W : LB} {U : QB} {T : TB} {N : Nat} (hM : MV f l D W U T N) (hBW : BW D W U T) (hKN : KN f D W) {r : Nat} (hr : r < D.1) {c : Nat} (hc : c < T.1 (D.2.1 r 2)) (hZ : ZZ D)  : SpX G mX10_cell [.ref (ad G 86), .int (nI r), .int (nI c)] f l (fun rv f1 l1 => rv = (some (.long (D.2.2.2 r c))) ∧ MJ f l f1 l1 D W U T N) := by
  obtain ⟨hD, hLW, hUW, hTW⟩ := id hBW
  have hR := hD.1
  have hW1 := hLW.1
  have hU1 := hUW.1
  have hJ1 := hUW.2.1
  have htb : D.2.1 r 2 < 4 := (hD.2.2.2 r hr).1
  have htc := hTW.1 _ htb
  have hb2 := (hD.2.2.2 r hr).2.2.2.2 c
  refine SpX.of ok_X10_cell.1 (Nat.le_of_ble_eq_true rfl) ?_
  show Pm G RX10 cX10_cell 3 (KX G mX10_cell (fun rv f1 l1 => rv = (some (.long (D.2.2.2 r c))) ∧ MJ f l f1 l1 D W U T N)) 0 [some (.ref (ad G 86)), some (.int (nI r)), some (.int (nI c))] [] f l
  refine P.aload_n dX10_cell_0 rfl rfl ?_
  refine P.iconst dX10_cell_1 ic_0 ?_
  refine p_X10_thrown (a := 0) ly_86 (by decide) fl_X10_93 dX10_cell_2 rfl ?_
  have hM := mv_free (k := 86) (j := 0) (v := 0) (by decide) hM
  have hKN := hKN.up (k := 86) (j := 0) (v := 0) (by decide)
  have hCF : CF f l (uf f 86 0 0) l := (CF.rf f l).f (by decide)
  generalize uf f 86 0 0 = f0 at hM hKN hCF ⊢
  refine P.aload_n dX10_cell_5 rfl rfl ?_
  refine P.iload_n dX10_cell_6 rfl rfl ?_
  refine P.callV (As := [.int (nI r)]) (rest := []) (t_noRow_t hM hBW hr) ok_X10_noRow (fitX (Nat.le_of_ble_eq_true rfl)) rfl ml_X10_125 ly_86 (by decide) (by decide) rfl rfl (Nat.le_of_ble_eq_true rfl) dX10_cell_7 ?_
  refine P.if_eq_b (tgt := 17) dX10_cell_10 (by decide) (fun c_10 => ?_) (fun c_10 => ?_)
  · refine P.aload_n dX10_cell_17 rfl rfl ?_
    refine P.aload_n dX10_cell_18 rfl rfl ?_
    refine g_X10_tableOf (q := 89) ly_86 (by decide) (by decide) fl_X10_16 dX10_cell_19 ?_
    refine P.iload_n dX10_cell_22 rfl rfl ?_
    refine a_ia ly_89 (by decide) (by omega) (by decide) dX10_cell_23 ?_
    refine Pm.topn (b := D.2.1 r 2) ((hM.tab r (by omega))) ?_
    refine P.iload_n dX10_cell_24 rfl rfl ?_
    refine P.callV (As := [.int (nI (D.2.1 r 2)), .int (nI c)]) (rest := []) (t_noColumn_t hM hBW htb hc) ok_X10_noColumn (fitX (Nat.le_of_ble_eq_true rfl)) rfl ml_X10_129 ly_86 (by decide) (by decide) rfl rfl (Nat.le_of_ble_eq_true rfl) dX10_cell_25 ?_
    refine P.if_eq_b (tgt := 41) dX10_cell_28 (by decide) (fun c_28 => ?_) (fun c_28 => ?_)
    · refine P.aload_n dX10_cell_41 rfl rfl ?_
      refine g_X10_isThere (q := 92) ly_86 (by decide) (by decide) fl_X10_26 dX10_cell_42 ?_
      refine P.bipush (v := nI 6) dX10_cell_45 rfl ?_
      refine P.iload_n dX10_cell_47 rfl rfl ?_
      refine P.imul_n dX10_cell_48 (pk_mul _ _) ?_
      refine P.iload_n dX10_cell_49 rfl rfl ?_
      refine P.iadd_n dX10_cell_50 (nI_add _ _) ?_
      refine a_za ly_92 (by decide) (by omega) (by decide) dX10_cell_51 ?_
      refine Pm.topn (b := D.2.2.1 r c) ((hM.the r (by omega) c (by omega))) ?_
      refine P.if_eq_n (tgt := 69) dX10_cell_52 (by decide) (hD.2.2.1 _ _) (fun c_52 => ?_) (fun c_52 => ?_)
      · refine P.lconst (v := 0) dX10_cell_69 rfl ?_
        exact P.lretX rfl dX10_cell_70 ⟨by rw [hZ r (by omega) c c_52], hM, hKN, hCF⟩
      refine P.aload_n dX10_cell_55 rfl rfl ?_
      refine g_X10_told (q := 93) ly_86 (by decide) (by decide) fl_X10_29 dX10_cell_56 ?_
      refine P.bipush (v := nI 6) dX10_cell_59 rfl ?_
      refine P.iload_n dX10_cell_61 rfl rfl ?_
      refine P.imul_n dX10_cell_62 (pk_mul _ _) ?_
      refine P.iload_n dX10_cell_63 rfl rfl ?_
      refine P.iadd_n dX10_cell_64 (nI_add _ _) ?_
      refine a_la ly_93 (by decide) (by omega) (by decide) dX10_cell_65 ?_
      refine Pm.topl (b := D.2.2.2 r c) ((hM.num r (by omega) c (by omega))) ?_
      refine P.goto (tgt := 70) dX10_cell_66 (by decide) ?_
      exact P.lretX rfl dX10_cell_70 ⟨rfl, hM, hKN, hCF⟩
    · exfalso; revert c_28; decide
  · exfalso; revert c_10; decide

set_option maxRecDepth 20000 in
theorem q_column_a {G : GG} {f : Nat → Nat → Nat} {l : Nat → Nat → Int64} {D : DB} {W : LB} {U : QB} {T : TB} {N : Nat} (hM : MV f l D W U T N) (hBW : BW D W U T) (hKN : KN f D W) {x : Int32} (hx : inR x 4 = false) {y z : Int32} : SpX G mX10_column [.ref (ad G 86), .int x, .int y, .int z] f l (fun rv f1 l1 => rv = (some (.int (-12))) ∧ MJ f l f1 l1 D W U T (N + 1)) := by
  obtain ⟨hD, hLW, hUW, hTW⟩ := id hBW
  have hR := hD.1
  have hW1 := hLW.1
  have hU1 := hUW.1
  have hJ1 := hUW.2.1
  refine SpX.of ok_X10_column.1 (Nat.le_of_ble_eq_true rfl) ?_
  show Pm G RX10 cX10_column 6 (KX G mX10_column (fun rv f1 l1 => rv = (some (.int (-12))) ∧ MJ f l f1 l1 D W U T (N + 1))) 0 [some (.ref (ad G 86)), some (.int x), some (.int y), some (.int z), none, none] [] f l
  refine P.aload_n dX10_column_0 rfl rfl ?_
  refine P.iconst dX10_column_1 ic_0 ?_
  refine p_X10_thrown (a := 0) ly_86 (by decide) fl_X10_93 dX10_column_2 rfl ?_
  have hM := mv_free (k := 86) (j := 0) (v := 0) (by decide) hM
  have hKN := hKN.up (k := 86) (j := 0) (v := 0) (by decide)
  have hCF : CF f l (uf f 86 0 0) l := (CF.rf f l).f (by decide)
  generalize uf f 86 0 0 = f0 at hM hKN hCF ⊢
  refine P.aload_n dX10_column_5 rfl rfl ?_
  refine P.iload_n dX10_column_6 rfl rfl ?_
  refine P.callV (As := [.int x]) (rest := []) (t_lack_out hM hBW hx) ok_X10_lack (fitX (Nat.le_of_ble_eq_true rfl)) rfl ml_X10_116 ly_86 (by decide) (by decide) rfl rfl (Nat.le_of_ble_eq_true rfl) dX10_column_7 ?_
  refine P.if_eq_z (tgt := 23) dX10_column_10 (by decide) (show (-12 : Int32).toInt = -12 from rfl) (fun c_10 => ?_) (fun c_10 => ?_)
  · exfalso; revert c_10; decide
  refine P.aload_n dX10_column_13 rfl rfl ?_
  refine P.aload_n dX10_column_14 rfl rfl ?_
  refine P.iload_n dX10_column_15 rfl rfl ?_
  refine P.callV (As := [.int x]) (rest := [.ref (ad G 86)]) (t_lack_out hM hBW hx) ok_X10_lack (fitX (Nat.le_of_ble_eq_true rfl)) rfl ml_X10_116 ly_86 (by decide) (by decide) rfl rfl (Nat.le_of_ble_eq_true rfl) dX10_column_16 ?_
  refine P.callV (As := [.int (-12)]) (rest := []) (t_finds hM hBW) ok_X10_finds (fitX (Nat.le_of_ble_eq_true rfl)) rfl ml_X10_112 ly_86 (by decide) (by decide) rfl rfl (Nat.le_of_ble_eq_true rfl) dX10_column_19 ?_
  exact P.iretX rfl dX10_column_22 ⟨rfl, (mv_N hM), (KN.up (by omega) hKN), (hCF.f (by decide))⟩

set_option maxRecDepth 20000 in
theorem q_column_b {G : GG} {f : Nat → Nat → Nat} {l : Nat → Nat → Int64} {D : DB} {W : LB} {U : QB} {T : TB} {N : Nat} (hM : MV f l D W U T N) (hBW : BW D W U T) (hKN : KN f D W) {t : Nat} (ht : t < 4) (h0 : T.1 t = 0) {y z : Int32} : SpX G mX10_column [.ref (ad G 86), .int (nI t), .int y, .int z] f l (fun rv f1 l1 => rv = (some (.int (-11))) ∧ MJ f l f1 l1 D W U T (N + 1)) := by
  obtain ⟨hD, hLW, hUW, hTW⟩ := id hBW
  have hR := hD.1
  have hW1 := hLW.1
  have hU1 := hUW.1
  have hJ1 := hUW.2.1
  refine SpX.of ok_X10_column.1 (Nat.le_of_ble_eq_true rfl) ?_
  show Pm G RX10 cX10_column 6 (KX G mX10_column (fun rv f1 l1 => rv = (some (.int (-11))) ∧ MJ f l f1 l1 D W U T (N + 1))) 0 [some (.ref (ad G 86)), some (.int (nI t)), some (.int y), some (.int z), none, none] [] f l
  refine P.aload_n dX10_column_0 rfl rfl ?_
  refine P.iconst dX10_column_1 ic_0 ?_
  refine p_X10_thrown (a := 0) ly_86 (by decide) fl_X10_93 dX10_column_2 rfl ?_
  have hM := mv_free (k := 86) (j := 0) (v := 0) (by decide) hM
  have hKN := hKN.up (k := 86) (j := 0) (v := 0) (by decide)
  have hCF : CF f l (uf f 86 0 0) l := (CF.rf f l).f (by decide)
  generalize uf f 86 0 0 = f0 at hM hKN hCF ⊢
  refine P.aload_n dX10_column_5 rfl rfl ?_
  refine P.iload_n dX10_column_6 rfl rfl ?_
  refine P.callV (As := [.int (nI t)]) (rest := []) (t_lack_null hM hBW ht h0) ok_X10_lack (fitX (Nat.le_of_ble_eq_true rfl)) rfl ml_X10_116 ly_86 (by decide) (by decide) rfl rfl (Nat.le_of_ble_eq_true rfl) dX10_column_7 ?_
  refine P.if_eq_z (tgt := 23) dX10_column_10 (by decide) (show (-11 : Int32).toInt = -11 from rfl) (fun c_10 => ?_) (fun c_10 => ?_)
  · exfalso; revert c_10; decide
  refine P.aload_n dX10_column_13 rfl rfl ?_
  refine P.aload_n dX10_column_14 rfl rfl ?_
  refine P.iload_n dX10_column_15 rfl rfl ?_
  refine P.callV (As := [.int (nI t)]) (rest := [.ref (ad G 86)]) (t_lack_null hM hBW ht h0) ok_X10_lack (fitX (Nat.le_of_ble_eq_true rfl)) rfl ml_X10_116 ly_86 (by decide) (by decide) rfl rfl (Nat.le_of_ble_eq_true rfl) dX10_column_16 ?_
  refine P.callV (As := [.int (-11)]) (rest := []) (t_finds hM hBW) ok_X10_finds (fitX (Nat.le_of_ble_eq_true rfl)) rfl ml_X10_112 ly_86 (by decide) (by decide) rfl rfl (Nat.le_of_ble_eq_true rfl) dX10_column_19 ?_
  exact P.iretX rfl dX10_column_22 ⟨rfl, (mv_N hM), (KN.up (by omega) hKN), (hCF.f (by decide))⟩

set_option maxRecDepth 20000 in
theorem q_column_c {G : GG} {f : Nat → Nat → Nat} {l : Nat → Nat → Int64} {D : DB} {W : LB} {U : QB} {T : TB} {N : Nat} (hM : MV f l D W U T N) (hBW : BW D W U T) (hKN : KN f D W) {t : Nat} (ht : t < 4) (h0 : T.1 t ≠ 0) {y z : Int32} (hz : inR z 6 = false) : SpX G mX10_column [.ref (ad G 86), .int (nI t), .int y, .int z] f l (fun rv f1 l1 => rv = (some (.int (-2))) ∧ MJ f l f1 l1 D W U T N) := by
  obtain ⟨hD, hLW, hUW, hTW⟩ := id hBW
  have hR := hD.1
  have hW1 := hLW.1
  have hU1 := hUW.1
  have hJ1 := hUW.2.1
  refine SpX.of ok_X10_column.1 (Nat.le_of_ble_eq_true rfl) ?_
  show Pm G RX10 cX10_column 6 (KX G mX10_column (fun rv f1 l1 => rv = (some (.int (-2))) ∧ MJ f l f1 l1 D W U T N)) 0 [some (.ref (ad G 86)), some (.int (nI t)), some (.int y), some (.int z), none, none] [] f l
  refine P.aload_n dX10_column_0 rfl rfl ?_
  refine P.iconst dX10_column_1 ic_0 ?_
  refine p_X10_thrown (a := 0) ly_86 (by decide) fl_X10_93 dX10_column_2 rfl ?_
  have hM := mv_free (k := 86) (j := 0) (v := 0) (by decide) hM
  have hKN := hKN.up (k := 86) (j := 0) (v := 0) (by decide)
  have hCF : CF f l (uf f 86 0 0) l := (CF.rf f l).f (by decide)
  generalize uf f 86 0 0 = f0 at hM hKN hCF ⊢
  refine P.aload_n dX10_column_5 rfl rfl ?_
  refine P.iload_n dX10_column_6 rfl rfl ?_
  refine P.callV (As := [.int (nI t)]) (rest := []) (t_lack_ok hM hBW ht h0) ok_X10_lack (fitX (Nat.le_of_ble_eq_true rfl)) rfl ml_X10_116 ly_86 (by decide) (by decide) rfl rfl (Nat.le_of_ble_eq_true rfl) dX10_column_7 ?_
  refine P.if_eq_n (tgt := 23) dX10_column_10 (by decide) (by omega) (fun c_10 => ?_) (fun c_10 => ?_)
  · refine P.iload_n dX10_column_23 rfl rfl ?_
    refine P.i2l dX10_column_24 rfl ?_
    refine P.lconst (v := 0) dX10_column_25 rfl ?_
    refine P.ldc2 dX10_column_26 co_X10_139 ?_
    refine P.callS (As := [.long ((z).toInt64), .long 0, .long 5]) (rest := []) (by have h := t_inC (G := G) (f := f0) (l := l) (x := z) (R := 6) (b := 5) rfl (by decide); rw [hz] at h; exact h) ok_X10_in (fitX (Nat.le_of_ble_eq_true rfl)) rfl ml_X10_102 rfl (Nat.le_of_ble_eq_true rfl) dX10_column_29 ?_
    refine P.if_ne_b (tgt := 38) dX10_column_32 (by decide) (fun c_32 => ?_) (fun c_32 => ?_)
    · exfalso; revert c_32; decide
    refine P.bipush (v := -2) dX10_column_35 rfl ?_
    exact P.iretX rfl dX10_column_37 ⟨rfl, hM, hKN, hCF⟩
  · exfalso; omega

set_option maxRecDepth 20000 in
theorem q_column_d {G : GG} {f : Nat → Nat → Nat} {l : Nat → Nat → Int64} {D : DB} {W : LB} {U : QB} {T : TB} {N : Nat} (hM : MV f l D W U T N) (hBW : BW D W U T) (hKN : KN f D W) {t : Nat} (ht : t < 4) (h0 : T.1 t ≠ 0) {k : Nat} (hk : k < 6) {y : Int32} (hy : inR y (T.1 t) = false)  : SpX G mX10_column [.ref (ad G 86), .int (nI t), .int y, .int (nI k)] f l (fun rv f1 l1 => rv = (some (.int (-12))) ∧ MJ f l f1 l1 D W U T (N + 1)) := by
  obtain ⟨hD, hLW, hUW, hTW⟩ := id hBW
  have hR := hD.1
  have hW1 := hLW.1
  have hU1 := hUW.1
  have hJ1 := hUW.2.1
  have htc := hTW.1 t ht
  have hln := hTW.2 t ht
  refine SpX.of ok_X10_column.1 (Nat.le_of_ble_eq_true rfl) ?_
  show Pm G RX10 cX10_column 6 (KX G mX10_column (fun rv f1 l1 => rv = (some (.int (-12))) ∧ MJ f l f1 l1 D W U T (N + 1))) 0 [some (.ref (ad G 86)), some (.int (nI t)), some (.int y), some (.int (nI k)), none, none] [] f l
  refine P.aload_n dX10_column_0 rfl rfl ?_
  refine P.iconst dX10_column_1 ic_0 ?_
  refine p_X10_thrown (a := 0) ly_86 (by decide) fl_X10_93 dX10_column_2 rfl ?_
  have hM := mv_free (k := 86) (j := 0) (v := 0) (by decide) hM
  have hKN := hKN.up (k := 86) (j := 0) (v := 0) (by decide)
  have hCF : CF f l (uf f 86 0 0) l := (CF.rf f l).f (by decide)
  generalize uf f 86 0 0 = f0 at hM hKN hCF ⊢
  refine P.aload_n dX10_column_5 rfl rfl ?_
  refine P.iload_n dX10_column_6 rfl rfl ?_
  refine P.callV (As := [.int (nI t)]) (rest := []) (t_lack_ok hM hBW ht h0) ok_X10_lack (fitX (Nat.le_of_ble_eq_true rfl)) rfl ml_X10_116 ly_86 (by decide) (by decide) rfl rfl (Nat.le_of_ble_eq_true rfl) dX10_column_7 ?_
  refine P.if_eq_n (tgt := 23) dX10_column_10 (by decide) (by omega) (fun c_10 => ?_) (fun c_10 => ?_)
  · refine P.iload_n dX10_column_23 rfl rfl ?_
    refine P.i2l dX10_column_24 rfl ?_
    refine P.lconst (v := 0) dX10_column_25 rfl ?_
    refine P.ldc2 dX10_column_26 co_X10_139 ?_
    refine P.callS (As := [.long ((nI k).toInt64), .long 0, .long 5]) (rest := []) (by have h := t_inC (G := G) (f := f0) (l := l) (x := (nI k)) (R := 6) (b := 5) rfl (by decide); rw [inR_n hk (by decide)] at h; exact h) ok_X10_in (fitX (Nat.le_of_ble_eq_true rfl)) rfl ml_X10_102 rfl (Nat.le_of_ble_eq_true rfl) dX10_column_29 ?_
    refine P.if_ne_b (tgt := 38) dX10_column_32 (by decide) (fun c_32 => ?_) (fun c_32 => ?_)
    · refine P.aload_n dX10_column_38 rfl rfl ?_
      refine P.iload_n dX10_column_39 rfl rfl ?_
      refine P.iload_n dX10_column_40 rfl rfl ?_
      refine P.callV (As := [.int (nI t), .int y]) (rest := []) (t_noColumn_f hM hBW ht hy) ok_X10_noColumn (fitX (Nat.le_of_ble_eq_true rfl)) rfl ml_X10_129 ly_86 (by decide) (by decide) rfl rfl (Nat.le_of_ble_eq_true rfl) dX10_column_41 ?_
      refine P.if_eq_b (tgt := 54) dX10_column_44 (by decide) (fun c_44 => ?_) (fun c_44 => ?_)
      · exfalso; revert c_44; decide
      refine P.aload_n dX10_column_47 rfl rfl ?_
      refine P.bipush (v := -12) dX10_column_48 rfl ?_
      refine P.callV (As := [.int (-12)]) (rest := []) (t_finds hM hBW) ok_X10_finds (fitX (Nat.le_of_ble_eq_true rfl)) rfl ml_X10_112 ly_86 (by decide) (by decide) rfl rfl (Nat.le_of_ble_eq_true rfl) dX10_column_50 ?_
      exact P.iretX rfl dX10_column_53 ⟨rfl, (mv_N hM), (KN.up (by omega) hKN), (hCF.f (by decide))⟩
    · exfalso; revert c_32; decide
  · exfalso; omega

set_option maxRecDepth 20000 in
theorem q_column_e {G : GG} {f : Nat → Nat → Nat} {l : Nat → Nat → Int64} {D : DB} {W : LB} {U : QB} {T : TB} {N : Nat} (hM : MV f l D W U T N) (hBW : BW D W U T) (hKN : KN f D W) {t : Nat} (ht : t < 4) (h0 : T.1 t ≠ 0) {k : Nat} (hk : k < 6) {c : Nat} (hc : c < T.1 t) (hne : T.2 t c ≠ k) : SpX G mX10_column [.ref (ad G 86), .int (nI t), .int (nI c), .int (nI k)] f l (fun rv f1 l1 => rv = (some (.int (-13))) ∧ MJ f l f1 l1 D W U T (N + 1)) := by
  obtain ⟨hD, hLW, hUW, hTW⟩ := id hBW
  have hR := hD.1
  have hW1 := hLW.1
  have hU1 := hUW.1
  have hJ1 := hUW.2.1
  have htc := hTW.1 t ht
  have hln := hTW.2 t ht
  refine SpX.of ok_X10_column.1 (Nat.le_of_ble_eq_true rfl) ?_
  show Pm G RX10 cX10_column 6 (KX G mX10_column (fun rv f1 l1 => rv = (some (.int (-13))) ∧ MJ f l f1 l1 D W U T (N + 1))) 0 [some (.ref (ad G 86)), some (.int (nI t)), some (.int (nI c)), some (.int (nI k)), none, none] [] f l
  refine P.aload_n dX10_column_0 rfl rfl ?_
  refine P.iconst dX10_column_1 ic_0 ?_
  refine p_X10_thrown (a := 0) ly_86 (by decide) fl_X10_93 dX10_column_2 rfl ?_
  have hM := mv_free (k := 86) (j := 0) (v := 0) (by decide) hM
  have hKN := hKN.up (k := 86) (j := 0) (v := 0) (by decide)
  have hCF : CF f l (uf f 86 0 0) l := (CF.rf f l).f (by decide)
  generalize uf f 86 0 0 = f0 at hM hKN hCF ⊢
  refine P.aload_n dX10_column_5 rfl rfl ?_
  refine P.iload_n dX10_column_6 rfl rfl ?_
  refine P.callV (As := [.int (nI t)]) (rest := []) (t_lack_ok hM hBW ht h0) ok_X10_lack (fitX (Nat.le_of_ble_eq_true rfl)) rfl ml_X10_116 ly_86 (by decide) (by decide) rfl rfl (Nat.le_of_ble_eq_true rfl) dX10_column_7 ?_
  refine P.if_eq_n (tgt := 23) dX10_column_10 (by decide) (by omega) (fun c_10 => ?_) (fun c_10 => ?_)
  · refine P.iload_n dX10_column_23 rfl rfl ?_
    refine P.i2l dX10_column_24 rfl ?_
    refine P.lconst (v := 0) dX10_column_25 rfl ?_
    refine P.ldc2 dX10_column_26 co_X10_139 ?_
    refine P.callS (As := [.long ((nI k).toInt64), .long 0, .long 5]) (rest := []) (by have h := t_inC (G := G) (f := f0) (l := l) (x := (nI k)) (R := 6) (b := 5) rfl (by decide); rw [inR_n hk (by decide)] at h; exact h) ok_X10_in (fitX (Nat.le_of_ble_eq_true rfl)) rfl ml_X10_102 rfl (Nat.le_of_ble_eq_true rfl) dX10_column_29 ?_
    refine P.if_ne_b (tgt := 38) dX10_column_32 (by decide) (fun c_32 => ?_) (fun c_32 => ?_)
    · refine P.aload_n dX10_column_38 rfl rfl ?_
      refine P.iload_n dX10_column_39 rfl rfl ?_
      refine P.iload_n dX10_column_40 rfl rfl ?_
      refine P.callV (As := [.int (nI t), .int (nI c)]) (rest := []) (t_noColumn_t hM hBW ht hc) ok_X10_noColumn (fitX (Nat.le_of_ble_eq_true rfl)) rfl ml_X10_129 ly_86 (by decide) (by decide) rfl rfl (Nat.le_of_ble_eq_true rfl) dX10_column_41 ?_
      refine P.if_eq_b (tgt := 54) dX10_column_44 (by decide) (fun c_44 => ?_) (fun c_44 => ?_)
      · refine P.aload_n dX10_column_54 rfl rfl ?_
        refine g_X10_laneOf (q := 88) ly_86 (by decide) (by decide) fl_X10_13 dX10_column_55 ?_
        refine P.bipush (v := nI 6) dX10_column_58 rfl ?_
        refine P.iload_n dX10_column_60 rfl rfl ?_
        refine P.imul_n dX10_column_61 (pk_mul _ _) ?_
        refine P.iload_n dX10_column_62 rfl rfl ?_
        refine P.iadd_n dX10_column_63 (nI_add _ _) ?_
        refine a_ia ly_88 (by decide) (by omega) (by decide) dX10_column_64 ?_
        refine Pm.topn (b := T.2 t c) ((hM.lan t (by omega) c (by omega))) ?_
        refine P.iload_n dX10_column_65 rfl rfl ?_
        refine P.icmp_eq_n (tgt := 76) dX10_column_66 (by decide) (Nat.lt_trans (hTW.2 _ (by omega) _) (by decide)) (by omega) (fun c_66 => ?_) (fun c_66 => ?_)
        · exfalso; omega
        refine P.aload_n dX10_column_69 rfl rfl ?_
        refine P.bipush (v := -13) dX10_column_70 rfl ?_
        refine P.callV (As := [.int (-13)]) (rest := []) (t_finds hM hBW) ok_X10_finds (fitX (Nat.le_of_ble_eq_true rfl)) rfl ml_X10_112 ly_86 (by decide) (by decide) rfl rfl (Nat.le_of_ble_eq_true rfl) dX10_column_72 ?_
        exact P.iretX rfl dX10_column_75 ⟨rfl, (mv_N hM), (KN.up (by omega) hKN), (hCF.f (by decide))⟩
      · exfalso; revert c_44; decide
    · exfalso; revert c_32; decide
  · exfalso; omega

set_option maxRecDepth 20000 in
theorem q_column_f {G : GG} {f : Nat → Nat → Nat} {l : Nat → Nat → Int64} {D : DB} {W : LB} {U : QB} {T : TB} {N : Nat} (hM : MV f l D W U T N) (hBW : BW D W U T) (hKN : KN f D W) {t : Nat} (ht : t < 4) (h0 : T.1 t ≠ 0) {k : Nat} (hk : k < 6) {c : Nat} (hc : c < T.1 t) (hne : T.2 t c = k) : SpX G mX10_column [.ref (ad G 86), .int (nI t), .int (nI c), .int (nI k)] f l (fun rv f1 l1 => rv = (some (.int (nI (manyD D t)))) ∧ MJ f l f1 l1 D W U T N) := by
  obtain ⟨hD, hLW, hUW, hTW⟩ := id hBW
  have hR := hD.1
  have hW1 := hLW.1
  have hU1 := hUW.1
  have hJ1 := hUW.2.1
  have htc := hTW.1 t ht
  have hln := hTW.2 t ht
  refine SpX.of ok_X10_column.1 (Nat.le_of_ble_eq_true rfl) ?_
  show Pm G RX10 cX10_column 6 (KX G mX10_column (fun rv f1 l1 => rv = (some (.int (nI (manyD D t)))) ∧ MJ f l f1 l1 D W U T N)) 0 [some (.ref (ad G 86)), some (.int (nI t)), some (.int (nI c)), some (.int (nI k)), none, none] [] f l
  refine P.aload_n dX10_column_0 rfl rfl ?_
  refine P.iconst dX10_column_1 ic_0 ?_
  refine p_X10_thrown (a := 0) ly_86 (by decide) fl_X10_93 dX10_column_2 rfl ?_
  have hM := mv_free (k := 86) (j := 0) (v := 0) (by decide) hM
  have hKN := hKN.up (k := 86) (j := 0) (v := 0) (by decide)
  have hCF : CF f l (uf f 86 0 0) l := (CF.rf f l).f (by decide)
  generalize uf f 86 0 0 = f0 at hM hKN hCF ⊢
  refine P.aload_n dX10_column_5 rfl rfl ?_
  refine P.iload_n dX10_column_6 rfl rfl ?_
  refine P.callV (As := [.int (nI t)]) (rest := []) (t_lack_ok hM hBW ht h0) ok_X10_lack (fitX (Nat.le_of_ble_eq_true rfl)) rfl ml_X10_116 ly_86 (by decide) (by decide) rfl rfl (Nat.le_of_ble_eq_true rfl) dX10_column_7 ?_
  refine P.if_eq_n (tgt := 23) dX10_column_10 (by decide) (by omega) (fun c_10 => ?_) (fun c_10 => ?_)
  · refine P.iload_n dX10_column_23 rfl rfl ?_
    refine P.i2l dX10_column_24 rfl ?_
    refine P.lconst (v := 0) dX10_column_25 rfl ?_
    refine P.ldc2 dX10_column_26 co_X10_139 ?_
    refine P.callS (As := [.long ((nI k).toInt64), .long 0, .long 5]) (rest := []) (by have h := t_inC (G := G) (f := f0) (l := l) (x := (nI k)) (R := 6) (b := 5) rfl (by decide); rw [inR_n hk (by decide)] at h; exact h) ok_X10_in (fitX (Nat.le_of_ble_eq_true rfl)) rfl ml_X10_102 rfl (Nat.le_of_ble_eq_true rfl) dX10_column_29 ?_
    refine P.if_ne_b (tgt := 38) dX10_column_32 (by decide) (fun c_32 => ?_) (fun c_32 => ?_)
    · refine P.aload_n dX10_column_38 rfl rfl ?_
      refine P.iload_n dX10_column_39 rfl rfl ?_
      refine P.iload_n dX10_column_40 rfl rfl ?_
      refine P.callV (As := [.int (nI t), .int (nI c)]) (rest := []) (t_noColumn_t hM hBW ht hc) ok_X10_noColumn (fitX (Nat.le_of_ble_eq_true rfl)) rfl ml_X10_129 ly_86 (by decide) (by decide) rfl rfl (Nat.le_of_ble_eq_true rfl) dX10_column_41 ?_
      refine P.if_eq_b (tgt := 54) dX10_column_44 (by decide) (fun c_44 => ?_) (fun c_44 => ?_)
      · refine P.aload_n dX10_column_54 rfl rfl ?_
        refine g_X10_laneOf (q := 88) ly_86 (by decide) (by decide) fl_X10_13 dX10_column_55 ?_
        refine P.bipush (v := nI 6) dX10_column_58 rfl ?_
        refine P.iload_n dX10_column_60 rfl rfl ?_
        refine P.imul_n dX10_column_61 (pk_mul _ _) ?_
        refine P.iload_n dX10_column_62 rfl rfl ?_
        refine P.iadd_n dX10_column_63 (nI_add _ _) ?_
        refine a_ia ly_88 (by decide) (by omega) (by decide) dX10_column_64 ?_
        refine Pm.topn (b := T.2 t c) ((hM.lan t (by omega) c (by omega))) ?_
        refine P.iload_n dX10_column_65 rfl rfl ?_
        refine P.icmp_eq_n (tgt := 76) dX10_column_66 (by decide) (Nat.lt_trans (hTW.2 _ (by omega) _) (by decide)) (by omega) (fun c_66 => ?_) (fun c_66 => ?_)
        · refine P.iconst dX10_column_76 ic_0 ?_
          refine P.istore dX10_column_77 (by decide) ?_
          refine P.iconst dX10_column_79 ic_0 ?_
          refine P.istore dX10_column_80 (by decide) ?_
          show Pm G _ _ _ _ 82 [some (.ref (ad G 86)), some (.int (nI t)), some (.int (nI c)), some (.int (nI k)), some (.int (nI 0)), some (.int (nI 0))] [] f0 l
          refine P.to (ls := [some (.ref (ad G 86)), some (.int (nI t)), some (.int (nI c)), some (.int (nI k)), some (.int (nI (cntN (fun r => D.2.1 r 2 == t) 0))), some (.int (nI 0))]) ?_ (by simp [lle, cntN, fo])
          refine loop_up (M := fun (i : Nat) => Pm G _ _ _ _ 82 [some (.ref (ad G 86)), some (.int (nI t)), some (.int (nI c)), some (.int (nI k)), some (.int (nI (cntN (fun r => D.2.1 r 2 == t) i))), some (.int (nI i))] [] f0 l) (lo := 0) (N := D.1) (by first | exact Nat.zero_le _ | omega) (fun i hi0 hi1 ihi => ?_) ?_
          · show Pm G _ _ _ _ 82 [some (.ref (ad G 86)), some (.int (nI t)), some (.int (nI c)), some (.int (nI k)), some (.int (nI (cntN (fun r => D.2.1 r 2 == t) i))), some (.int (nI i))] [] f0 l
            refine P.iload dX10_column_82 rfl ?_
            refine P.aload_n dX10_column_84 rfl rfl ?_
            refine g_X10_rows ly_86 (by decide) fl_X10_106 dX10_column_85 ?_
            refine Pm.topn (b := D.1) (hM.R) ?_
            refine P.icmp_ge_n (tgt := 118) dX10_column_88 (by decide) (by omega) (by omega) (fun c_88 => ?_) (fun c_88 => ?_)
            · exfalso; omega
            refine P.iload dX10_column_91 rfl ?_
            refine P.aload_n dX10_column_93 rfl rfl ?_
            refine g_X10_tableOf (q := 89) ly_86 (by decide) (by decide) fl_X10_16 dX10_column_94 ?_
            refine P.iload dX10_column_97 rfl ?_
            refine a_ia ly_89 (by decide) (by omega) (by decide) dX10_column_99 ?_
            refine Pm.topn (b := D.2.1 i 2) ((hM.tab i (by omega))) ?_
            refine P.iload_n dX10_column_100 rfl rfl ?_
            refine P.icmp_ne_n (tgt := 108) dX10_column_101 (by decide) (hD.2.1 _ _) (by omega) (fun c_101 => ?_) (fun c_101 => ?_)
            · refine P.iconst dX10_column_108 ic_0 ?_
              refine P.iadd_n dX10_column_109 (nI_add _ _) ?_
              refine P.istore dX10_column_110 (by decide) ?_
              refine P.iinc dX10_column_112 rfl (inc1 _) (by decide) ?_
              refine P.goto (tgt := 82) dX10_column_115 (by decide) ?_
              show Pm G _ _ _ _ 82 [some (.ref (ad G 86)), some (.int (nI t)), some (.int (nI c)), some (.int (nI k)), some (.int (nI ((cntN (fun r => D.2.1 r 2 == t) i) + 0))), some (.int (nI (i + 1)))] [] f0 l
              exact Pm.to (ihi) (by rw [cntN_s, show (D.2.1 i 2 == t) = false from beq_false_of_ne c_101]; simp [lle, bN_t, bN_f]) rfl rfl rfl
            refine P.iconst dX10_column_104 ic_1 ?_
            refine P.goto (tgt := 109) dX10_column_105 (by decide) ?_
            refine P.iadd_n dX10_column_109 (nI_add _ _) ?_
            refine P.istore dX10_column_110 (by decide) ?_
            refine P.iinc dX10_column_112 rfl (inc1 _) (by decide) ?_
            refine P.goto (tgt := 82) dX10_column_115 (by decide) ?_
            show Pm G _ _ _ _ 82 [some (.ref (ad G 86)), some (.int (nI t)), some (.int (nI c)), some (.int (nI k)), some (.int (nI ((cntN (fun r => D.2.1 r 2 == t) i) + 1))), some (.int (nI (i + 1)))] [] f0 l
            exact Pm.to (ihi) (by rw [cntN_s, show (D.2.1 i 2 == t) = true from beq_iff_eq.mpr c_101]; simp [lle, bN_t, bN_f]) rfl rfl rfl
          · show Pm G _ _ _ _ 82 [some (.ref (ad G 86)), some (.int (nI t)), some (.int (nI c)), some (.int (nI k)), some (.int (nI (cntN (fun r => D.2.1 r 2 == t) D.1))), some (.int (nI D.1))] [] f0 l
            refine P.iload dX10_column_82 rfl ?_
            refine P.aload_n dX10_column_84 rfl rfl ?_
            refine g_X10_rows ly_86 (by decide) fl_X10_106 dX10_column_85 ?_
            refine Pm.topn (b := D.1) (hM.R) ?_
            refine P.icmp_ge_n (tgt := 118) dX10_column_88 (by decide) (by omega) (by omega) (fun c_88 => ?_) (fun c_88 => ?_)
            · refine P.iload dX10_column_118 rfl ?_
              exact P.iretX rfl dX10_column_120 ⟨rfl, hM, hKN, hCF⟩
            · exfalso; omega
        · exfalso; omega
      · exfalso; revert c_44; decide
    · exfalso; revert c_32; decide
  · exfalso; omega

set_option maxRecDepth 20000 in
theorem q_trust_a {G : GG} {f : Nat → Nat → Nat} {l : Nat → Nat → Int64} {D : DB} {W : LB} {U : QB} {T : TB} {N : Nat} (hM : MV f l D W U T N) (hBW : BW D W U T) (hKN : KN f D W) {x : Int32} (hx : inR x D.1 = false) {y : Int32} : SpX G mX10_trust [.ref (ad G 86), .int x, .int y] f l (fun rv f1 l1 => rv = (some (.int (-1))) ∧ MJ f l f1 l1 D W U T N) := by
  obtain ⟨hD, hLW, hUW, hTW⟩ := id hBW
  have hR := hD.1
  have hW1 := hLW.1
  have hU1 := hUW.1
  have hJ1 := hUW.2.1
  refine SpX.of ok_X10_trust.1 (Nat.le_of_ble_eq_true rfl) ?_
  show Pm G RX10 cX10_trust 4 (KX G mX10_trust (fun rv f1 l1 => rv = (some (.int (-1))) ∧ MJ f l f1 l1 D W U T N)) 0 [some (.ref (ad G 86)), some (.int x), some (.int y), none] [] f l
  refine P.aload_n dX10_trust_0 rfl rfl ?_
  refine P.iconst dX10_trust_1 ic_0 ?_
  refine p_X10_thrown (a := 0) ly_86 (by decide) fl_X10_93 dX10_trust_2 rfl ?_
  have hM := mv_free (k := 86) (j := 0) (v := 0) (by decide) hM
  have hKN := hKN.up (k := 86) (j := 0) (v := 0) (by decide)
  have hCF : CF f l (uf f 86 0 0) l := (CF.rf f l).f (by decide)
  generalize uf f 86 0 0 = f0 at hM hKN hCF ⊢
  refine P.aload_n dX10_trust_5 rfl rfl ?_
  refine P.iload_n dX10_trust_6 rfl rfl ?_
  refine P.callV (As := [.int x]) (rest := []) (t_noRow_f hM hBW hx) ok_X10_noRow (fitX (Nat.le_of_ble_eq_true rfl)) rfl ml_X10_125 ly_86 (by decide) (by decide) rfl rfl (Nat.le_of_ble_eq_true rfl) dX10_trust_7 ?_
  refine P.if_eq_b (tgt := 15) dX10_trust_10 (by decide) (fun c_10 => ?_) (fun c_10 => ?_)
  · exfalso; revert c_10; decide
  refine P.iconst (v := -1) dX10_trust_13 rfl ?_
  exact P.iretX rfl dX10_trust_14 ⟨rfl, hM, hKN, hCF⟩

set_option maxRecDepth 20000 in
theorem q_trust_b {G : GG} {f : Nat → Nat → Nat} {l : Nat → Nat → Int64} {D : DB} {W : LB} {U : QB} {T : TB} {N : Nat} (hM : MV f l D W U T N) (hBW : BW D W U T) (hKN : KN f D W) {r : Nat} (hr : r < D.1) {y : Int32} (hy : trOK y = false) : SpX G mX10_trust [.ref (ad G 86), .int (nI r), .int y] f l (fun rv f1 l1 => rv = (some (.int (-2))) ∧ MJ f l f1 l1 D W U T N) := by
  obtain ⟨hD, hLW, hUW, hTW⟩ := id hBW
  have hR := hD.1
  have hW1 := hLW.1
  have hU1 := hUW.1
  have hJ1 := hUW.2.1
  refine SpX.of ok_X10_trust.1 (Nat.le_of_ble_eq_true rfl) ?_
  show Pm G RX10 cX10_trust 4 (KX G mX10_trust (fun rv f1 l1 => rv = (some (.int (-2))) ∧ MJ f l f1 l1 D W U T N)) 0 [some (.ref (ad G 86)), some (.int (nI r)), some (.int y), none] [] f l
  refine P.aload_n dX10_trust_0 rfl rfl ?_
  refine P.iconst dX10_trust_1 ic_0 ?_
  refine p_X10_thrown (a := 0) ly_86 (by decide) fl_X10_93 dX10_trust_2 rfl ?_
  have hM := mv_free (k := 86) (j := 0) (v := 0) (by decide) hM
  have hKN := hKN.up (k := 86) (j := 0) (v := 0) (by decide)
  have hCF : CF f l (uf f 86 0 0) l := (CF.rf f l).f (by decide)
  generalize uf f 86 0 0 = f0 at hM hKN hCF ⊢
  refine P.aload_n dX10_trust_5 rfl rfl ?_
  refine P.iload_n dX10_trust_6 rfl rfl ?_
  refine P.callV (As := [.int (nI r)]) (rest := []) (t_noRow_t hM hBW hr) ok_X10_noRow (fitX (Nat.le_of_ble_eq_true rfl)) rfl ml_X10_125 ly_86 (by decide) (by decide) rfl rfl (Nat.le_of_ble_eq_true rfl) dX10_trust_7 ?_
  refine P.if_eq_b (tgt := 15) dX10_trust_10 (by decide) (fun c_10 => ?_) (fun c_10 => ?_)
  · refine P.iload_n dX10_trust_15 rfl rfl ?_
    refine P.i2l dX10_trust_16 rfl ?_
    refine P.lconst (v := 1) dX10_trust_17 rfl ?_
    refine P.ldc2 dX10_trust_18 co_X10_119 ?_
    refine P.callS (As := [.long ((y).toInt64), .long 1, .long 100]) (rest := []) (by have h := t_in (G := G) (f := f0) (l := l) (v := y.toInt64) (a := 1) (b := 100); rw [trL, hy] at h; exact h) ok_X10_in (fitX (Nat.le_of_ble_eq_true rfl)) rfl ml_X10_102 rfl (Nat.le_of_ble_eq_true rfl) dX10_trust_21 ?_
    refine P.if_ne_b (tgt := 30) dX10_trust_24 (by decide) (fun c_24 => ?_) (fun c_24 => ?_)
    · exfalso; revert c_24; decide
    refine P.bipush (v := -2) dX10_trust_27 rfl ?_
    exact P.iretX rfl dX10_trust_29 ⟨rfl, hM, hKN, hCF⟩
  · exfalso; revert c_10; decide

set_option maxRecDepth 20000 in
theorem q_trust_c {G : GG} {f : Nat → Nat → Nat} {l : Nat → Nat → Int64} {D : DB} {W : LB} {U : QB} {T : TB} {N : Nat} (hM : MV f l D W U T N) (hBW : BW D W U T) (hKN : KN f D W) {r : Nat} (hr : r < D.1) {a : Nat} (ha1 : 1 ≤ a) (ha2 : a ≤ 100) (h4 : C4 W)  : SpX G mX10_trust [.ref (ad G 86), .int (nI r), .int (nI a)] f l (fun rv f1 l1 => rv = (some (.int (nI (D.2.1 r 3)))) ∧ MJ f l f1 l1 (trD D r a) W U T N) := by
  obtain ⟨hD, hLW, hUW, hTW⟩ := id hBW
  have hR := hD.1
  have hW1 := hLW.1
  have hU1 := hUW.1
  have hJ1 := hUW.2.1
  refine SpX.of ok_X10_trust.1 (Nat.le_of_ble_eq_true rfl) ?_
  show Pm G RX10 cX10_trust 4 (KX G mX10_trust (fun rv f1 l1 => rv = (some (.int (nI (D.2.1 r 3)))) ∧ MJ f l f1 l1 (trD D r a) W U T N)) 0 [some (.ref (ad G 86)), some (.int (nI r)), some (.int (nI a)), none] [] f l
  refine P.aload_n dX10_trust_0 rfl rfl ?_
  refine P.iconst dX10_trust_1 ic_0 ?_
  refine p_X10_thrown (a := 0) ly_86 (by decide) fl_X10_93 dX10_trust_2 rfl ?_
  have hM := mv_free (k := 86) (j := 0) (v := 0) (by decide) hM
  have hKN := hKN.up (k := 86) (j := 0) (v := 0) (by decide)
  have hCF : CF f l (uf f 86 0 0) l := (CF.rf f l).f (by decide)
  generalize uf f 86 0 0 = f0 at hM hKN hCF ⊢
  refine P.aload_n dX10_trust_5 rfl rfl ?_
  refine P.iload_n dX10_trust_6 rfl rfl ?_
  refine P.callV (As := [.int (nI r)]) (rest := []) (t_noRow_t hM hBW hr) ok_X10_noRow (fitX (Nat.le_of_ble_eq_true rfl)) rfl ml_X10_125 ly_86 (by decide) (by decide) rfl rfl (Nat.le_of_ble_eq_true rfl) dX10_trust_7 ?_
  refine P.if_eq_b (tgt := 15) dX10_trust_10 (by decide) (fun c_10 => ?_) (fun c_10 => ?_)
  · refine P.iload_n dX10_trust_15 rfl rfl ?_
    refine P.i2l dX10_trust_16 rfl ?_
    refine P.lconst (v := 1) dX10_trust_17 rfl ?_
    refine P.ldc2 dX10_trust_18 co_X10_119 ?_
    refine P.callS (As := [.long ((nI a).toInt64), .long 1, .long 100]) (rest := []) (by have h := t_in (G := G) (f := f0) (l := l) (v := (nI a).toInt64) (a := 1) (b := 100); rw [trL, trOK_n ha1 ha2] at h; exact h) ok_X10_in (fitX (Nat.le_of_ble_eq_true rfl)) rfl ml_X10_102 rfl (Nat.le_of_ble_eq_true rfl) dX10_trust_21 ?_
    refine P.if_ne_b (tgt := 30) dX10_trust_24 (by decide) (fun c_24 => ?_) (fun c_24 => ?_)
    · refine P.aload_n dX10_trust_30 rfl rfl ?_
      refine g_X10_trustOf (q := 90) ly_86 (by decide) (by decide) fl_X10_19 dX10_trust_31 ?_
      refine P.iload_n dX10_trust_34 rfl rfl ?_
      refine a_ia ly_90 (by decide) (by omega) (by decide) dX10_trust_35 ?_
      refine Pm.topn (b := D.2.1 r 3) ((hM.tru r (by omega))) ?_
      refine P.istore_n dX10_trust_36 rfl (by decide) ?_
      refine P.aload_n dX10_trust_37 rfl rfl ?_
      refine g_X10_trustOf (q := 90) ly_86 (by decide) (by decide) fl_X10_19 dX10_trust_38 ?_
      refine P.iload_n dX10_trust_41 rfl rfl ?_
      refine P.iload_n dX10_trust_42 rfl rfl ?_
      refine s_ia (a := a) ly_90 (by decide) (by omega) (by decide) dX10_trust_43 rfl ?_
      refine P.iload_n dX10_trust_44 rfl rfl ?_
      exact P.iretX rfl dX10_trust_45 ⟨rfl, (mv_tru hM), ((KN.up (by omega) hKN).D (MLs_tr hLW h4 r a)), (hCF.f (by decide))⟩
    · exfalso; revert c_24; decide
  · exfalso; revert c_10; decide

set_option maxRecDepth 20000 in
theorem q_keep_a {G : GG} {f : Nat → Nat → Nat} {l : Nat → Nat → Int64} {D : DB} {W : LB} {U : QB} {T : TB} {N : Nat} (hM : MV f l D W U T N) (hBW : BW D W U T) (hKN : KN f D W) {x : Int32} (hx : inR x D.1 = false) {b : Nat} (hb : b < 2)  : SpX G mX10_keep [.ref (ad G 86), .int x, .int (nI b)] f l (fun rv f1 l1 => rv = (some (.int (-1))) ∧ MJ f l f1 l1 D W U T N) := by
  obtain ⟨hD, hLW, hUW, hTW⟩ := id hBW
  have hR := hD.1
  have hW1 := hLW.1
  have hU1 := hUW.1
  have hJ1 := hUW.2.1
  refine SpX.of ok_X10_keep.1 (Nat.le_of_ble_eq_true rfl) ?_
  show Pm G RX10 cX10_keep 4 (KX G mX10_keep (fun rv f1 l1 => rv = (some (.int (-1))) ∧ MJ f l f1 l1 D W U T N)) 0 [some (.ref (ad G 86)), some (.int x), some (.int (nI b)), none] [] f l
  refine P.aload_n dX10_keep_0 rfl rfl ?_
  refine P.iconst dX10_keep_1 ic_0 ?_
  refine p_X10_thrown (a := 0) ly_86 (by decide) fl_X10_93 dX10_keep_2 rfl ?_
  have hM := mv_free (k := 86) (j := 0) (v := 0) (by decide) hM
  have hKN := hKN.up (k := 86) (j := 0) (v := 0) (by decide)
  have hCF : CF f l (uf f 86 0 0) l := (CF.rf f l).f (by decide)
  generalize uf f 86 0 0 = f0 at hM hKN hCF ⊢
  refine P.aload_n dX10_keep_5 rfl rfl ?_
  refine P.iload_n dX10_keep_6 rfl rfl ?_
  refine P.callV (As := [.int x]) (rest := []) (t_noRow_f hM hBW hx) ok_X10_noRow (fitX (Nat.le_of_ble_eq_true rfl)) rfl ml_X10_125 ly_86 (by decide) (by decide) rfl rfl (Nat.le_of_ble_eq_true rfl) dX10_keep_7 ?_
  refine P.if_eq_b (tgt := 15) dX10_keep_10 (by decide) (fun c_10 => ?_) (fun c_10 => ?_)
  · exfalso; revert c_10; decide
  refine P.iconst (v := -1) dX10_keep_13 rfl ?_
  exact P.iretX rfl dX10_keep_14 ⟨rfl, hM, hKN, hCF⟩

set_option maxRecDepth 20000 in
theorem q_keep_b {G : GG} {f : Nat → Nat → Nat} {l : Nat → Nat → Int64} {D : DB} {W : LB} {U : QB} {T : TB} {N : Nat} (hM : MV f l D W U T N) (hBW : BW D W U T) (hKN : KN f D W) {r : Nat} (hr : r < D.1) {b : Nat} (hb : b < 2)  : SpX G mX10_keep [.ref (ad G 86), .int (nI r), .int (nI b)] f l (fun rv f1 l1 => rv = (some (.int (nI (D.2.1 r 4)))) ∧ MJ f l f1 l1 (D.1, uf D.2.1 r 4 b, D.2.2) W U T N) := by
  obtain ⟨hD, hLW, hUW, hTW⟩ := id hBW
  have hR := hD.1
  have hW1 := hLW.1
  have hU1 := hUW.1
  have hJ1 := hUW.2.1
  have hk2 := (hD.2.2.2 r hr).2.2.2.1
  refine SpX.of ok_X10_keep.1 (Nat.le_of_ble_eq_true rfl) ?_
  show Pm G RX10 cX10_keep 4 (KX G mX10_keep (fun rv f1 l1 => rv = (some (.int (nI (D.2.1 r 4)))) ∧ MJ f l f1 l1 (D.1, uf D.2.1 r 4 b, D.2.2) W U T N)) 0 [some (.ref (ad G 86)), some (.int (nI r)), some (.int (nI b)), none] [] f l
  refine P.aload_n dX10_keep_0 rfl rfl ?_
  refine P.iconst dX10_keep_1 ic_0 ?_
  refine p_X10_thrown (a := 0) ly_86 (by decide) fl_X10_93 dX10_keep_2 rfl ?_
  have hM := mv_free (k := 86) (j := 0) (v := 0) (by decide) hM
  have hKN := hKN.up (k := 86) (j := 0) (v := 0) (by decide)
  have hCF : CF f l (uf f 86 0 0) l := (CF.rf f l).f (by decide)
  generalize uf f 86 0 0 = f0 at hM hKN hCF ⊢
  refine P.aload_n dX10_keep_5 rfl rfl ?_
  refine P.iload_n dX10_keep_6 rfl rfl ?_
  refine P.callV (As := [.int (nI r)]) (rest := []) (t_noRow_t hM hBW hr) ok_X10_noRow (fitX (Nat.le_of_ble_eq_true rfl)) rfl ml_X10_125 ly_86 (by decide) (by decide) rfl rfl (Nat.le_of_ble_eq_true rfl) dX10_keep_7 ?_
  refine P.if_eq_b (tgt := 15) dX10_keep_10 (by decide) (fun c_10 => ?_) (fun c_10 => ?_)
  · refine P.aload_n dX10_keep_15 rfl rfl ?_
    refine g_X10_isKept (q := 91) ly_86 (by decide) (by decide) fl_X10_22 dX10_keep_16 ?_
    refine P.iload_n dX10_keep_19 rfl rfl ?_
    refine a_za ly_91 (by decide) (by omega) (by decide) dX10_keep_20 ?_
    refine Pm.topn (b := D.2.1 r 4) ((hM.kep r (by omega))) ?_
    refine P.if_eq_n (tgt := 28) dX10_keep_21 (by decide) (hD.2.1 _ _) (fun c_21 => ?_) (fun c_21 => ?_)
    · refine P.iconst dX10_keep_28 ic_0 ?_
      refine P.istore_n dX10_keep_29 rfl (by decide) ?_
      refine P.aload_n dX10_keep_30 rfl rfl ?_
      refine g_X10_isKept (q := 91) ly_86 (by decide) (by decide) fl_X10_22 dX10_keep_31 ?_
      refine P.iload_n dX10_keep_34 rfl rfl ?_
      refine P.iload_n dX10_keep_35 rfl rfl ?_
      refine s_za (a := b) ly_91 (by decide) (by omega) (by decide) dX10_keep_36 rfl (by omega) ?_
      refine P.aload_n dX10_keep_37 rfl rfl ?_
      refine P.iconst dX10_keep_38 ic_0 ?_
      refine p_X10_isKnown (a := 0) ly_86 (by decide) fl_X10_121 dX10_keep_39 rfl (by omega) ?_
      refine P.iload_n dX10_keep_42 rfl rfl ?_
      exact P.iretX rfl dX10_keep_43 ⟨by rw [show D.2.1 r 4 = 0 by omega], (mv_free (by decide) (mv_kep hM)), (KN.z _ _ _), ((hCF.f (by decide)).f (by decide))⟩
    refine P.iconst dX10_keep_24 ic_1 ?_
    refine P.goto (tgt := 29) dX10_keep_25 (by decide) ?_
    refine P.istore_n dX10_keep_29 rfl (by decide) ?_
    refine P.aload_n dX10_keep_30 rfl rfl ?_
    refine g_X10_isKept (q := 91) ly_86 (by decide) (by decide) fl_X10_22 dX10_keep_31 ?_
    refine P.iload_n dX10_keep_34 rfl rfl ?_
    refine P.iload_n dX10_keep_35 rfl rfl ?_
    refine s_za (a := b) ly_91 (by decide) (by omega) (by decide) dX10_keep_36 rfl (by omega) ?_
    refine P.aload_n dX10_keep_37 rfl rfl ?_
    refine P.iconst dX10_keep_38 ic_0 ?_
    refine p_X10_isKnown (a := 0) ly_86 (by decide) fl_X10_121 dX10_keep_39 rfl (by omega) ?_
    refine P.iload_n dX10_keep_42 rfl rfl ?_
    exact P.iretX rfl dX10_keep_43 ⟨by rw [show D.2.1 r 4 = 1 by omega], (mv_free (by decide) (mv_kep hM)), (KN.z _ _ _), ((hCF.f (by decide)).f (by decide))⟩
  · exfalso; revert c_10; decide

set_option maxRecDepth 20000 in
theorem q_about_a {G : GG} {f : Nat → Nat → Nat} {l : Nat → Nat → Int64} {D : DB} {W : LB} {U : QB} {T : TB} {N : Nat} (hM : MV f l D W U T N) (hBW : BW D W U T) (hKN : KN f D W) {x : Int32} (hx : inR x D.1 = false) {y : Int32} : SpX G mX10_about [.ref (ad G 86), .int x, .int y] f l (fun rv f1 l1 => rv = (some (.int (-1))) ∧ MJ f l f1 l1 D W U T N) := by
  obtain ⟨hD, hLW, hUW, hTW⟩ := id hBW
  have hR := hD.1
  have hW1 := hLW.1
  have hU1 := hUW.1
  have hJ1 := hUW.2.1
  refine SpX.of ok_X10_about.1 (Nat.le_of_ble_eq_true rfl) ?_
  show Pm G RX10 cX10_about 3 (KX G mX10_about (fun rv f1 l1 => rv = (some (.int (-1))) ∧ MJ f l f1 l1 D W U T N)) 0 [some (.ref (ad G 86)), some (.int x), some (.int y)] [] f l
  refine P.aload_n dX10_about_0 rfl rfl ?_
  refine P.iconst dX10_about_1 ic_0 ?_
  refine p_X10_thrown (a := 0) ly_86 (by decide) fl_X10_93 dX10_about_2 rfl ?_
  have hM := mv_free (k := 86) (j := 0) (v := 0) (by decide) hM
  have hKN := hKN.up (k := 86) (j := 0) (v := 0) (by decide)
  have hCF : CF f l (uf f 86 0 0) l := (CF.rf f l).f (by decide)
  generalize uf f 86 0 0 = f0 at hM hKN hCF ⊢
  refine P.aload_n dX10_about_5 rfl rfl ?_
  refine P.iload_n dX10_about_6 rfl rfl ?_
  refine P.callV (As := [.int x]) (rest := []) (t_noRow_f hM hBW hx) ok_X10_noRow (fitX (Nat.le_of_ble_eq_true rfl)) rfl ml_X10_125 ly_86 (by decide) (by decide) rfl rfl (Nat.le_of_ble_eq_true rfl) dX10_about_7 ?_
  refine P.if_eq_b (tgt := 15) dX10_about_10 (by decide) (fun c_10 => ?_) (fun c_10 => ?_)
  · exfalso; revert c_10; decide
  refine P.iconst (v := -1) dX10_about_13 rfl ?_
  exact P.iretX rfl dX10_about_14 ⟨rfl, hM, hKN, hCF⟩

set_option maxRecDepth 20000 in
theorem q_about_b {G : GG} {f : Nat → Nat → Nat} {l : Nat → Nat → Int64} {D : DB} {W : LB} {U : QB} {T : TB} {N : Nat} (hM : MV f l D W U T N) (hBW : BW D W U T) (hKN : KN f D W) {r : Nat} (hr : r < D.1) {y : Int32} (hy : inR y 3 = false) : SpX G mX10_about [.ref (ad G 86), .int (nI r), .int y] f l (fun rv f1 l1 => rv = (some (.int (-2))) ∧ MJ f l f1 l1 D W U T N) := by
  obtain ⟨hD, hLW, hUW, hTW⟩ := id hBW
  have hR := hD.1
  have hW1 := hLW.1
  have hU1 := hUW.1
  have hJ1 := hUW.2.1
  have hy2 := inR_f.mp hy
  refine SpX.of ok_X10_about.1 (Nat.le_of_ble_eq_true rfl) ?_
  show Pm G RX10 cX10_about 3 (KX G mX10_about (fun rv f1 l1 => rv = (some (.int (-2))) ∧ MJ f l f1 l1 D W U T N)) 0 [some (.ref (ad G 86)), some (.int (nI r)), some (.int y)] [] f l
  refine P.aload_n dX10_about_0 rfl rfl ?_
  refine P.iconst dX10_about_1 ic_0 ?_
  refine p_X10_thrown (a := 0) ly_86 (by decide) fl_X10_93 dX10_about_2 rfl ?_
  have hM := mv_free (k := 86) (j := 0) (v := 0) (by decide) hM
  have hKN := hKN.up (k := 86) (j := 0) (v := 0) (by decide)
  have hCF : CF f l (uf f 86 0 0) l := (CF.rf f l).f (by decide)
  generalize uf f 86 0 0 = f0 at hM hKN hCF ⊢
  refine P.aload_n dX10_about_5 rfl rfl ?_
  refine P.iload_n dX10_about_6 rfl rfl ?_
  refine P.callV (As := [.int (nI r)]) (rest := []) (t_noRow_t hM hBW hr) ok_X10_noRow (fitX (Nat.le_of_ble_eq_true rfl)) rfl ml_X10_125 ly_86 (by decide) (by decide) rfl rfl (Nat.le_of_ble_eq_true rfl) dX10_about_7 ?_
  refine P.if_eq_b (tgt := 15) dX10_about_10 (by decide) (fun c_10 => ?_) (fun c_10 => ?_)
  · refine P.iload_n dX10_about_15 rfl rfl ?_
    refine P.if_ne_z (tgt := 28) dX10_about_16 (by decide) rfl (fun c_16 => ?_) (fun c_16 => ?_)
    · refine P.iload_n dX10_about_28 rfl rfl ?_
      refine P.iconst dX10_about_29 ic_1 ?_
      refine P.icmp_ne_z (tgt := 42) dX10_about_30 (by decide) rfl (zN (by omega)) (fun c_30 => ?_) (fun c_30 => ?_)
      · refine P.iload_n dX10_about_42 rfl rfl ?_
        refine P.iconst dX10_about_43 ic_2 ?_
        refine P.icmp_ne_z (tgt := 64) dX10_about_44 (by decide) rfl (zN (by omega)) (fun c_44 => ?_) (fun c_44 => ?_)
        · refine P.bipush (v := -2) dX10_about_64 rfl ?_
          exact P.iretX rfl dX10_about_66 ⟨rfl, hM, hKN, hCF⟩
        · exfalso; omega
      · exfalso; omega
    · exfalso; omega
  · exfalso; revert c_10; decide

set_option maxRecDepth 20000 in
theorem q_about_0 {G : GG} {f : Nat → Nat → Nat} {l : Nat → Nat → Int64} {D : DB} {W : LB} {U : QB} {T : TB} {N : Nat} (hM : MV f l D W U T N) (hBW : BW D W U T) (hKN : KN f D W) {r : Nat} (hr : r < D.1)  : SpX G mX10_about [.ref (ad G 86), .int (nI r), .int (nI 0)] f l (fun rv f1 l1 => rv = (some (.int (nI (D.2.1 r 2)))) ∧ MJ f l f1 l1 D W U T N) := by
  obtain ⟨hD, hLW, hUW, hTW⟩ := id hBW
  have hR := hD.1
  have hW1 := hLW.1
  have hU1 := hUW.1
  have hJ1 := hUW.2.1
  refine SpX.of ok_X10_about.1 (Nat.le_of_ble_eq_true rfl) ?_
  show Pm G RX10 cX10_about 3 (KX G mX10_about (fun rv f1 l1 => rv = (some (.int (nI (D.2.1 r 2)))) ∧ MJ f l f1 l1 D W U T N)) 0 [some (.ref (ad G 86)), some (.int (nI r)), some (.int (nI 0))] [] f l
  refine P.aload_n dX10_about_0 rfl rfl ?_
  refine P.iconst dX10_about_1 ic_0 ?_
  refine p_X10_thrown (a := 0) ly_86 (by decide) fl_X10_93 dX10_about_2 rfl ?_
  have hM := mv_free (k := 86) (j := 0) (v := 0) (by decide) hM
  have hKN := hKN.up (k := 86) (j := 0) (v := 0) (by decide)
  have hCF : CF f l (uf f 86 0 0) l := (CF.rf f l).f (by decide)
  generalize uf f 86 0 0 = f0 at hM hKN hCF ⊢
  refine P.aload_n dX10_about_5 rfl rfl ?_
  refine P.iload_n dX10_about_6 rfl rfl ?_
  refine P.callV (As := [.int (nI r)]) (rest := []) (t_noRow_t hM hBW hr) ok_X10_noRow (fitX (Nat.le_of_ble_eq_true rfl)) rfl ml_X10_125 ly_86 (by decide) (by decide) rfl rfl (Nat.le_of_ble_eq_true rfl) dX10_about_7 ?_
  refine P.if_eq_b (tgt := 15) dX10_about_10 (by decide) (fun c_10 => ?_) (fun c_10 => ?_)
  · refine P.iload_n dX10_about_15 rfl rfl ?_
    refine P.if_ne_n (tgt := 28) dX10_about_16 (by decide) (by omega) (fun c_16 => ?_) (fun c_16 => ?_)
    · exfalso; omega
    refine P.aload_n dX10_about_19 rfl rfl ?_
    refine g_X10_tableOf (q := 89) ly_86 (by decide) (by decide) fl_X10_16 dX10_about_20 ?_
    refine P.iload_n dX10_about_23 rfl rfl ?_
    refine a_ia ly_89 (by decide) (by omega) (by decide) dX10_about_24 ?_
    refine Pm.topn (b := D.2.1 r 2) ((hM.tab r (by omega))) ?_
    refine P.goto (tgt := 66) dX10_about_25 (by decide) ?_
    exact P.iretX rfl dX10_about_66 ⟨rfl, hM, hKN, hCF⟩
  · exfalso; revert c_10; decide

set_option maxRecDepth 20000 in
theorem q_about_1 {G : GG} {f : Nat → Nat → Nat} {l : Nat → Nat → Int64} {D : DB} {W : LB} {U : QB} {T : TB} {N : Nat} (hM : MV f l D W U T N) (hBW : BW D W U T) (hKN : KN f D W) {r : Nat} (hr : r < D.1)  : SpX G mX10_about [.ref (ad G 86), .int (nI r), .int (nI 1)] f l (fun rv f1 l1 => rv = (some (.int (nI (D.2.1 r 3)))) ∧ MJ f l f1 l1 D W U T N) := by
  obtain ⟨hD, hLW, hUW, hTW⟩ := id hBW
  have hR := hD.1
  have hW1 := hLW.1
  have hU1 := hUW.1
  have hJ1 := hUW.2.1
  refine SpX.of ok_X10_about.1 (Nat.le_of_ble_eq_true rfl) ?_
  show Pm G RX10 cX10_about 3 (KX G mX10_about (fun rv f1 l1 => rv = (some (.int (nI (D.2.1 r 3)))) ∧ MJ f l f1 l1 D W U T N)) 0 [some (.ref (ad G 86)), some (.int (nI r)), some (.int (nI 1))] [] f l
  refine P.aload_n dX10_about_0 rfl rfl ?_
  refine P.iconst dX10_about_1 ic_0 ?_
  refine p_X10_thrown (a := 0) ly_86 (by decide) fl_X10_93 dX10_about_2 rfl ?_
  have hM := mv_free (k := 86) (j := 0) (v := 0) (by decide) hM
  have hKN := hKN.up (k := 86) (j := 0) (v := 0) (by decide)
  have hCF : CF f l (uf f 86 0 0) l := (CF.rf f l).f (by decide)
  generalize uf f 86 0 0 = f0 at hM hKN hCF ⊢
  refine P.aload_n dX10_about_5 rfl rfl ?_
  refine P.iload_n dX10_about_6 rfl rfl ?_
  refine P.callV (As := [.int (nI r)]) (rest := []) (t_noRow_t hM hBW hr) ok_X10_noRow (fitX (Nat.le_of_ble_eq_true rfl)) rfl ml_X10_125 ly_86 (by decide) (by decide) rfl rfl (Nat.le_of_ble_eq_true rfl) dX10_about_7 ?_
  refine P.if_eq_b (tgt := 15) dX10_about_10 (by decide) (fun c_10 => ?_) (fun c_10 => ?_)
  · refine P.iload_n dX10_about_15 rfl rfl ?_
    refine P.if_ne_n (tgt := 28) dX10_about_16 (by decide) (by omega) (fun c_16 => ?_) (fun c_16 => ?_)
    · refine P.iload_n dX10_about_28 rfl rfl ?_
      refine P.iconst dX10_about_29 ic_1 ?_
      refine P.icmp_ne_n (tgt := 42) dX10_about_30 (by decide) (by omega) (by omega) (fun c_30 => ?_) (fun c_30 => ?_)
      · exfalso; omega
      refine P.aload_n dX10_about_33 rfl rfl ?_
      refine g_X10_trustOf (q := 90) ly_86 (by decide) (by decide) fl_X10_19 dX10_about_34 ?_
      refine P.iload_n dX10_about_37 rfl rfl ?_
      refine a_ia ly_90 (by decide) (by omega) (by decide) dX10_about_38 ?_
      refine Pm.topn (b := D.2.1 r 3) ((hM.tru r (by omega))) ?_
      refine P.goto (tgt := 66) dX10_about_39 (by decide) ?_
      exact P.iretX rfl dX10_about_66 ⟨rfl, hM, hKN, hCF⟩
    · exfalso; omega
  · exfalso; revert c_10; decide

set_option maxRecDepth 20000 in
theorem q_about_2 {G : GG} {f : Nat → Nat → Nat} {l : Nat → Nat → Int64} {D : DB} {W : LB} {U : QB} {T : TB} {N : Nat} (hM : MV f l D W U T N) (hBW : BW D W U T) (hKN : KN f D W) {r : Nat} (hr : r < D.1)  : SpX G mX10_about [.ref (ad G 86), .int (nI r), .int (nI 2)] f l (fun rv f1 l1 => rv = (some (.int (nI (D.2.1 r 4)))) ∧ MJ f l f1 l1 D W U T N) := by
  obtain ⟨hD, hLW, hUW, hTW⟩ := id hBW
  have hR := hD.1
  have hW1 := hLW.1
  have hU1 := hUW.1
  have hJ1 := hUW.2.1
  have hk2 := (hD.2.2.2 r hr).2.2.2.1
  refine SpX.of ok_X10_about.1 (Nat.le_of_ble_eq_true rfl) ?_
  show Pm G RX10 cX10_about 3 (KX G mX10_about (fun rv f1 l1 => rv = (some (.int (nI (D.2.1 r 4)))) ∧ MJ f l f1 l1 D W U T N)) 0 [some (.ref (ad G 86)), some (.int (nI r)), some (.int (nI 2))] [] f l
  refine P.aload_n dX10_about_0 rfl rfl ?_
  refine P.iconst dX10_about_1 ic_0 ?_
  refine p_X10_thrown (a := 0) ly_86 (by decide) fl_X10_93 dX10_about_2 rfl ?_
  have hM := mv_free (k := 86) (j := 0) (v := 0) (by decide) hM
  have hKN := hKN.up (k := 86) (j := 0) (v := 0) (by decide)
  have hCF : CF f l (uf f 86 0 0) l := (CF.rf f l).f (by decide)
  generalize uf f 86 0 0 = f0 at hM hKN hCF ⊢
  refine P.aload_n dX10_about_5 rfl rfl ?_
  refine P.iload_n dX10_about_6 rfl rfl ?_
  refine P.callV (As := [.int (nI r)]) (rest := []) (t_noRow_t hM hBW hr) ok_X10_noRow (fitX (Nat.le_of_ble_eq_true rfl)) rfl ml_X10_125 ly_86 (by decide) (by decide) rfl rfl (Nat.le_of_ble_eq_true rfl) dX10_about_7 ?_
  refine P.if_eq_b (tgt := 15) dX10_about_10 (by decide) (fun c_10 => ?_) (fun c_10 => ?_)
  · refine P.iload_n dX10_about_15 rfl rfl ?_
    refine P.if_ne_n (tgt := 28) dX10_about_16 (by decide) (by omega) (fun c_16 => ?_) (fun c_16 => ?_)
    · refine P.iload_n dX10_about_28 rfl rfl ?_
      refine P.iconst dX10_about_29 ic_1 ?_
      refine P.icmp_ne_n (tgt := 42) dX10_about_30 (by decide) (by omega) (by omega) (fun c_30 => ?_) (fun c_30 => ?_)
      · refine P.iload_n dX10_about_42 rfl rfl ?_
        refine P.iconst dX10_about_43 ic_2 ?_
        refine P.icmp_ne_n (tgt := 64) dX10_about_44 (by decide) (by omega) (by omega) (fun c_44 => ?_) (fun c_44 => ?_)
        · exfalso; omega
        refine P.aload_n dX10_about_47 rfl rfl ?_
        refine g_X10_isKept (q := 91) ly_86 (by decide) (by decide) fl_X10_22 dX10_about_48 ?_
        refine P.iload_n dX10_about_51 rfl rfl ?_
        refine a_za ly_91 (by decide) (by omega) (by decide) dX10_about_52 ?_
        refine Pm.topn (b := D.2.1 r 4) ((hM.kep r (by omega))) ?_
        refine P.if_eq_n (tgt := 60) dX10_about_53 (by decide) (hD.2.1 _ _) (fun c_53 => ?_) (fun c_53 => ?_)
        · refine P.iconst dX10_about_60 ic_0 ?_
          refine P.goto (tgt := 66) dX10_about_61 (by decide) ?_
          exact P.iretX rfl dX10_about_66 ⟨by rw [show D.2.1 r 4 = 0 by omega], hM, hKN, hCF⟩
        refine P.iconst dX10_about_56 ic_1 ?_
        refine P.goto (tgt := 66) dX10_about_57 (by decide) ?_
        exact P.iretX rfl dX10_about_66 ⟨by rw [show D.2.1 r 4 = 1 by omega], hM, hKN, hCF⟩
      · exfalso; omega
    · exfalso; omega
  · exfalso; revert c_10; decide


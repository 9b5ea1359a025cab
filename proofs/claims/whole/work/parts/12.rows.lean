-- small static methods; Rows: by program (wip/whole/spec12.py)
set_option maxRecDepth 20000 in
theorem s_oneIf {G : GG} {f : Nat → Nat → Nat} {l : Nat → Nat → Int64} {a : Nat} (ha : a < 2) : Spec G mX9_oneIf [.int (nI a)] 114 (f, l, refT) (some (.int (nI a))) 114 (f, l, refT) := by
  refine Spec.of ok_X9_oneIf.1 ⟨Nat.le_refl _, Nat.le_refl _⟩ (Nat.le_of_ble_eq_true rfl) ?_
  show Pm G RX9 cX9_oneIf 1 (KM G mX9_oneIf 114 114 (some (.int (nI a))) (f, l, refT)) 0 [some (.int (nI a))] [] f l
  refine P.iload_n dX9_oneIf_0 rfl rfl ?_
  refine P.if_eq_n (tgt := 8) dX9_oneIf_1 (by decide) (by omega) (fun c_1 => ?_) (fun c_1 => ?_)
  · refine P.iconst dX9_oneIf_8 ic_0 ?_
    exact P.iret rfl dX9_oneIf_9 (by first | (rw [c_1]; done) | (congr 1; omega)) rfl
  refine P.iconst dX9_oneIf_4 ic_1 ?_
  refine P.goto (tgt := 9) dX9_oneIf_5 (by decide) ?_
  exact P.iret rfl dX9_oneIf_9 (by first | (rw [c_1]; done) | (congr 1; omega)) rfl

set_option maxRecDepth 20000 in
theorem s_oneIfb {G : GG} {f : Nat → Nat → Nat} {l : Nat → Nat → Int64} {b : Bool} : Spec G mX9_oneIf [.int (bI b)] 114 (f, l, refT) (some (.int (bI b))) 114 (f, l, refT) := by
  refine Spec.of ok_X9_oneIf.1 ⟨Nat.le_refl _, Nat.le_refl _⟩ (Nat.le_of_ble_eq_true rfl) ?_
  show Pm G RX9 cX9_oneIf 1 (KM G mX9_oneIf 114 114 (some (.int (bI b))) (f, l, refT)) 0 [some (.int (bI b))] [] f l
  refine P.iload_n dX9_oneIf_0 rfl rfl ?_
  refine P.if_eq_b (tgt := 8) dX9_oneIf_1 (by decide) (fun c_1 => ?_) (fun c_1 => ?_)
  · refine P.iconst dX9_oneIf_8 ic_0 ?_
    exact P.iret rfl dX9_oneIf_9 (by rw [c_1]; rfl) rfl
  refine P.iconst dX9_oneIf_4 ic_1 ?_
  refine P.goto (tgt := 9) dX9_oneIf_5 (by decide) ?_
  exact P.iret rfl dX9_oneIf_9 (by rw [c_1]; rfl) rfl

set_option maxRecDepth 20000 in
theorem s_isIn {G : GG} {f : Nat → Nat → Nat} {l : Nat → Nat → Int64} {s r : Nat} (hs : s < 2147483648) (hr : r < 31) : Spec G mX9_isIn [.int (nI s), .int (nI r)] 114 (f, l, refT) (some (.int (bI (s.testBit r)))) 114 (f, l, refT) := by
  refine Spec.of ok_X9_isIn.1 ⟨Nat.le_refl _, Nat.le_refl _⟩ (Nat.le_of_ble_eq_true rfl) ?_
  show Pm G RX9 cX9_isIn 2 (KM G mX9_isIn 114 114 (some (.int (bI (s.testBit r)))) (f, l, refT)) 0 [some (.int (nI s)), some (.int (nI r))] [] f l
  refine P.iload_n dX9_isIn_0 rfl rfl ?_
  refine P.iload_n dX9_isIn_1 rfl rfl ?_
  refine P.ishr dX9_isIn_2 (n_shr (by omega) (by omega)) ?_
  refine P.iconst dX9_isIn_3 ic_1 ?_
  refine P.iand_n (v := nI (bt s r)) dX9_isIn_4 (n_and1 _) ?_
  refine P.if_eq_n (tgt := 12) dX9_isIn_5 (by decide) (Nat.lt_trans (bt_lt _ _) (by decide)) (fun c_5 => ?_) (fun c_5 => ?_)
  · refine P.iconst dX9_isIn_12 ic_0 ?_
    exact P.bret rfl dX9_isIn_13 (by rw [tb_f c_5]; rfl) rfl
  refine P.iconst dX9_isIn_8 ic_1 ?_
  refine P.goto (tgt := 13) dX9_isIn_9 (by decide) ?_
  exact P.bret rfl dX9_isIn_13 (by rw [tb_t c_5]; rfl) rfl

set_option maxRecDepth 20000 in
/-- kept(): the set of the rows that are kept -/
theorem s_kept {G : GG} {f : Nat → Nat → Nat} {l : Nat → Nat → Int64} {D : DB} (hV : RV f l D) (hD : DW D)  : Spec G mX7_kept [.ref (ad G 2)] 114 (f, l, refT) (some (.int (nI (keptD D)))) 114 (f, l, refT) := by
  have hR := hD.1
  refine Spec.of ok_X7_kept.1 ⟨Nat.le_refl _, Nat.le_refl _⟩ (Nat.le_of_ble_eq_true rfl) ?_
  show Pm G RX7 cX7_kept 3 (KM G mX7_kept 114 114 (some (.int (nI (keptD D)))) (f, l, refT)) 0 [some (.ref (ad G 2)), none, none] [] f l
  refine P.iconst dX7_kept_0 ic_0 ?_
  refine P.istore_n dX7_kept_1 rfl (by decide) ?_
  refine P.iconst dX7_kept_2 ic_0 ?_
  refine P.istore_n dX7_kept_3 rfl (by decide) ?_
  refine loop_up (M := fun (i : Nat) => Pm G _ _ _ _ 4 [some (.ref (ad G 2)), some (.int (nI (setN (fun r => D.2.1 r 4 != 0) i))), some (.int (nI i))] [] f l) (lo := 0) (N := D.1) (by first | exact Nat.zero_le _ | omega) (fun i hi0 hi1 ihi => ?_) ?_
  · show Pm G _ _ _ _ 4 [some (.ref (ad G 2)), some (.int (nI (setN (fun r => D.2.1 r 4 != 0) i))), some (.int (nI i))] [] f l
    refine P.iload_n dX7_kept_4 rfl rfl ?_
    refine P.aload_n dX7_kept_5 rfl rfl ?_
    refine g_X7_many ly_2 (by decide) fl_X7_18 dX7_kept_6 ?_
    refine Pm.topn (b := D.1) (hV.1) ?_
    refine P.icmp_ge_n (tgt := 36) dX7_kept_9 (by decide) (by omega) (by omega) (fun c_9 => ?_) (fun c_9 => ?_)
    · exfalso; omega
    refine P.aload_n dX7_kept_12 rfl rfl ?_
    refine g_X7_list (q := 3) ly_2 (by decide) (by decide) fl_X7_11 dX7_kept_13 ?_
    refine P.iload_n dX7_kept_16 rfl rfl ?_
    refine a_r6 (q := 4 + 3 * i) ly_3 (by decide) (by omega) (by decide) (rt_row (r := i) (by omega)) dX7_kept_17 ?_
    refine g_X6_kept (ly_row (r := i) (by omega)) (by omega) fl_X7_28 dX7_kept_18 ?_
    refine Pm.topn (b := D.2.1 i 4) ((hV.2.1 i (by omega) 4)) ?_
    refine P.if_eq_n (tgt := 30) dX7_kept_21 (by decide) (hD.2.1 _ _) (fun c_21 => ?_) (fun c_21 => ?_)
    · refine P.iinc dX7_kept_30 rfl (inc1 _) (by decide) ?_
      refine P.goto (tgt := 4) dX7_kept_33 (by decide) ?_
      show Pm G _ _ _ _ 4 [some (.ref (ad G 2)), some (.int (nI (setN (fun r => D.2.1 r 4 != 0) i))), some (.int (nI (i + 1)))] [] f l
      exact Pm.to (ihi) (by simp [lle, setN_s, Int64.not_lt, Int64.not_le, c_9, c_21]) rfl rfl rfl
    refine P.iload_n dX7_kept_24 rfl rfl ?_
    refine P.iconst dX7_kept_25 ic_1 ?_
    refine P.iload_n dX7_kept_26 rfl rfl ?_
    refine P.ishl dX7_kept_27 (n_bit (by omega)) ?_
    refine P.ior_n dX7_kept_28 (n_or _ _) ?_
    refine P.istore_n dX7_kept_29 rfl (by decide) ?_
    refine P.iinc dX7_kept_30 rfl (inc1 _) (by decide) ?_
    refine P.goto (tgt := 4) dX7_kept_33 (by decide) ?_
    show Pm G _ _ _ _ 4 [some (.ref (ad G 2)), some (.int (nI ((setN (fun r => D.2.1 r 4 != 0) i) ||| (2 ^ i)))), some (.int (nI (i + 1)))] [] f l
    exact Pm.to (ihi) (by simp [lle, setN_s, Int64.not_lt, Int64.not_le, c_9, c_21]) rfl rfl rfl
  · show Pm G _ _ _ _ 4 [some (.ref (ad G 2)), some (.int (nI (setN (fun r => D.2.1 r 4 != 0) D.1))), some (.int (nI D.1))] [] f l
    refine P.iload_n dX7_kept_4 rfl rfl ?_
    refine P.aload_n dX7_kept_5 rfl rfl ?_
    refine g_X7_many ly_2 (by decide) fl_X7_18 dX7_kept_6 ?_
    refine Pm.topn (b := D.1) (hV.1) ?_
    refine P.icmp_ge_n (tgt := 36) dX7_kept_9 (by decide) (by omega) (by omega) (fun c_9 => ?_) (fun c_9 => ?_)
    · refine P.iload_n dX7_kept_36 rfl rfl ?_
      exact P.iret rfl dX7_kept_37 rfl rfl
    · exfalso; omega

set_option maxRecDepth 20000 in
theorem s_withCell {G : GG} {f : Nat → Nat → Nat} {l : Nat → Nat → Int64} {D : DB} (hV : RV f l D) (hD : DW D)  {t c S : Nat} (ht : t < 4) (hc : c < 6) (hs : S < 4096) : Spec G mX7_withCell [.ref (ad G 2), .int (nI t), .int (nI c), .int (nI S)] 114 (f, l, refT) (some (.int (nI (withC D t c S)))) 114 (f, l, refT) := by
  have hR := hD.1
  refine Spec.of ok_X7_withCell.1 ⟨Nat.le_refl _, Nat.le_refl _⟩ (Nat.le_of_ble_eq_true rfl) ?_
  show Pm G RX7 cX7_withCell 6 (KM G mX7_withCell 114 114 (some (.int (nI (withC D t c S)))) (f, l, refT)) 0 [some (.ref (ad G 2)), some (.int (nI t)), some (.int (nI c)), some (.int (nI S)), none, none] [] f l
  refine P.iconst dX7_withCell_0 ic_0 ?_
  refine P.istore dX7_withCell_1 (by decide) ?_
  refine P.iconst dX7_withCell_3 ic_0 ?_
  refine P.istore dX7_withCell_4 (by decide) ?_
  refine loop_up (M := fun (i : Nat) => Pm G _ _ _ _ 6 [some (.ref (ad G 2)), some (.int (nI t)), some (.int (nI c)), some (.int (nI S)), some (.int (nI (setN (fun r => S.testBit r && D.2.1 r 2 == t && D.2.2.1 r c != 0) i))), some (.int (nI i))] [] f l) (lo := 0) (N := D.1) (by first | exact Nat.zero_le _ | omega) (fun i hi0 hi1 ihi => ?_) ?_
  · show Pm G _ _ _ _ 6 [some (.ref (ad G 2)), some (.int (nI t)), some (.int (nI c)), some (.int (nI S)), some (.int (nI (setN (fun r => S.testBit r && D.2.1 r 2 == t && D.2.2.1 r c != 0) i))), some (.int (nI i))] [] f l
    refine P.iload dX7_withCell_6 rfl ?_
    refine P.aload_n dX7_withCell_8 rfl rfl ?_
    refine g_X7_many ly_2 (by decide) fl_X7_18 dX7_withCell_9 ?_
    refine Pm.topn (b := D.1) (hV.1) ?_
    refine P.icmp_ge_n (tgt := 68) dX7_withCell_12 (by decide) (by omega) (by omega) (fun c_12 => ?_) (fun c_12 => ?_)
    · exfalso; omega
    refine P.iload_n dX7_withCell_15 rfl rfl ?_
    refine P.iload dX7_withCell_16 rfl ?_
    refine P.callSN (As := [.int (nI S), .int (nI i)]) (rest := []) (s_isIn (s := S) (r := i) (by omega) (by omega)) ok_X9_isIn ⟨Nat.le_of_ble_eq_true rfl, Nat.le_of_ble_eq_true rfl, Nat.le_refl _, Nat.le_refl _⟩ rfl mn_X7_32 rfl (Nat.le_of_ble_eq_true rfl) dX7_withCell_18 ?_
    refine P.if_eq_b (tgt := 62) dX7_withCell_21 (by decide) (fun c_21 => ?_) (fun c_21 => ?_)
    · refine P.iinc dX7_withCell_62 rfl (inc1 _) (by decide) ?_
      refine P.goto (tgt := 6) dX7_withCell_65 (by decide) ?_
      show Pm G _ _ _ _ 6 [some (.ref (ad G 2)), some (.int (nI t)), some (.int (nI c)), some (.int (nI S)), some (.int (nI (setN (fun r => S.testBit r && D.2.1 r 2 == t && D.2.2.1 r c != 0) i))), some (.int (nI (i + 1)))] [] f l
      exact Pm.to (ihi) (by simp [lle, setN_s, Int64.not_lt, Int64.not_le, c_12, c_21]) rfl rfl rfl
    refine P.aload_n dX7_withCell_24 rfl rfl ?_
    refine g_X7_list (q := 3) ly_2 (by decide) (by decide) fl_X7_11 dX7_withCell_25 ?_
    refine P.iload dX7_withCell_28 rfl ?_
    refine a_r6 (q := 4 + 3 * i) ly_3 (by decide) (by omega) (by decide) (rt_row (r := i) (by omega)) dX7_withCell_30 ?_
    refine g_X6_table (ly_row (r := i) (by omega)) (by omega) fl_X7_22 dX7_withCell_31 ?_
    refine Pm.topn (b := D.2.1 i 2) ((hV.2.1 i (by omega) 2)) ?_
    refine P.iload_n dX7_withCell_34 rfl rfl ?_
    refine P.icmp_ne_n (tgt := 62) dX7_withCell_35 (by decide) (hD.2.1 _ _) (by omega) (fun c_35 => ?_) (fun c_35 => ?_)
    · refine P.iinc dX7_withCell_62 rfl (inc1 _) (by decide) ?_
      refine P.goto (tgt := 6) dX7_withCell_65 (by decide) ?_
      show Pm G _ _ _ _ 6 [some (.ref (ad G 2)), some (.int (nI t)), some (.int (nI c)), some (.int (nI S)), some (.int (nI (setN (fun r => S.testBit r && D.2.1 r 2 == t && D.2.2.1 r c != 0) i))), some (.int (nI (i + 1)))] [] f l
      exact Pm.to (ihi) (by simp [lle, setN_s, Int64.not_lt, Int64.not_le, c_12, c_21, c_35]) rfl rfl rfl
    refine P.aload_n dX7_withCell_38 rfl rfl ?_
    refine g_X7_list (q := 3) ly_2 (by decide) (by decide) fl_X7_11 dX7_withCell_39 ?_
    refine P.iload dX7_withCell_42 rfl ?_
    refine a_r6 (q := 4 + 3 * i) ly_3 (by decide) (by omega) (by decide) (rt_row (r := i) (by omega)) dX7_withCell_44 ?_
    refine g_X6_there (q := 6 + 3 * i) (ly_row (r := i) (by omega)) (by omega) (rt_the (r := i) (by omega)) fl_X7_40 dX7_withCell_45 ?_
    refine P.iload_n dX7_withCell_48 rfl rfl ?_
    refine a_za (ly_the (r := i) (by omega)) (by omega) (by omega) (by decide) dX7_withCell_49 ?_
    refine Pm.topn (b := D.2.2.1 i c) ((hV.2.2.1 i (by omega) c)) ?_
    refine P.if_eq_n (tgt := 62) dX7_withCell_50 (by decide) (hD.2.2.1 _ _) (fun c_50 => ?_) (fun c_50 => ?_)
    · refine P.iinc dX7_withCell_62 rfl (inc1 _) (by decide) ?_
      refine P.goto (tgt := 6) dX7_withCell_65 (by decide) ?_
      show Pm G _ _ _ _ 6 [some (.ref (ad G 2)), some (.int (nI t)), some (.int (nI c)), some (.int (nI S)), some (.int (nI (setN (fun r => S.testBit r && D.2.1 r 2 == t && D.2.2.1 r c != 0) i))), some (.int (nI (i + 1)))] [] f l
      exact Pm.to (ihi) (by simp [lle, setN_s, Int64.not_lt, Int64.not_le, c_12, c_21, c_35, c_50]) rfl rfl rfl
    refine P.iload dX7_withCell_53 rfl ?_
    refine P.iconst dX7_withCell_55 ic_1 ?_
    refine P.iload dX7_withCell_56 rfl ?_
    refine P.ishl dX7_withCell_58 (n_bit (by omega)) ?_
    refine P.ior_n dX7_withCell_59 (n_or _ _) ?_
    refine P.istore dX7_withCell_60 (by decide) ?_
    refine P.iinc dX7_withCell_62 rfl (inc1 _) (by decide) ?_
    refine P.goto (tgt := 6) dX7_withCell_65 (by decide) ?_
    show Pm G _ _ _ _ 6 [some (.ref (ad G 2)), some (.int (nI t)), some (.int (nI c)), some (.int (nI S)), some (.int (nI ((setN (fun r => S.testBit r && D.2.1 r 2 == t && D.2.2.1 r c != 0) i) ||| (2 ^ i)))), some (.int (nI (i + 1)))] [] f l
    exact Pm.to (ihi) (by simp [lle, setN_s, Int64.not_lt, Int64.not_le, c_12, c_21, c_35, c_50]) rfl rfl rfl
  · show Pm G _ _ _ _ 6 [some (.ref (ad G 2)), some (.int (nI t)), some (.int (nI c)), some (.int (nI S)), some (.int (nI (setN (fun r => S.testBit r && D.2.1 r 2 == t && D.2.2.1 r c != 0) D.1))), some (.int (nI D.1))] [] f l
    refine P.iload dX7_withCell_6 rfl ?_
    refine P.aload_n dX7_withCell_8 rfl rfl ?_
    refine g_X7_many ly_2 (by decide) fl_X7_18 dX7_withCell_9 ?_
    refine Pm.topn (b := D.1) (hV.1) ?_
    refine P.icmp_ge_n (tgt := 68) dX7_withCell_12 (by decide) (by omega) (by omega) (fun c_12 => ?_) (fun c_12 => ?_)
    · refine P.iload dX7_withCell_68 rfl ?_
      exact P.iret rfl dX7_withCell_70 rfl rfl
    · exfalso; omega

set_option maxRecDepth 20000 in
theorem s_withNumber {G : GG} {f : Nat → Nat → Nat} {l : Nat → Nat → Int64} {D : DB} (hV : RV f l D) (hD : DW D)  {t c S : Nat} {v : Int64} (ht : t < 4) (hc : c < 6) (hs : S < 4096) : Spec G mX7_withNumber [.ref (ad G 2), .int (nI t), .int (nI c), .long v, .int (nI S)] 114 (f, l, refT) (some (.int (nI (withN D t c v S)))) 114 (f, l, refT) := by
  have hR := hD.1
  refine Spec.of ok_X7_withNumber.1 ⟨Nat.le_refl _, Nat.le_refl _⟩ (Nat.le_of_ble_eq_true rfl) ?_
  show Pm G RX7 cX7_withNumber 9 (KM G mX7_withNumber 114 114 (some (.int (nI (withN D t c v S)))) (f, l, refT)) 0 [some (.ref (ad G 2)), some (.int (nI t)), some (.int (nI c)), some (.long v), none, some (.int (nI S)), none, none, none] [] f l
  refine P.iconst dX7_withNumber_0 ic_0 ?_
  refine P.istore dX7_withNumber_1 (by decide) ?_
  refine P.iconst dX7_withNumber_3 ic_0 ?_
  refine P.istore dX7_withNumber_4 (by decide) ?_
  refine loop_up (M := fun (i : Nat) => Pm G _ _ _ _ 6 [some (.ref (ad G 2)), some (.int (nI t)), some (.int (nI c)), some (.long v), none, some (.int (nI S)), some (.int (nI (setN (fun r => S.testBit r && D.2.1 r 2 == t && D.2.2.1 r c != 0 && D.2.2.2 r c == v) i))), some (.int (nI i)), none] [] f l) (lo := 0) (N := D.1) (by first | exact Nat.zero_le _ | omega) (fun i hi0 hi1 ihi => ?_) ?_
  · show Pm G _ _ _ _ 6 [some (.ref (ad G 2)), some (.int (nI t)), some (.int (nI c)), some (.long v), none, some (.int (nI S)), some (.int (nI (setN (fun r => S.testBit r && D.2.1 r 2 == t && D.2.2.1 r c != 0 && D.2.2.2 r c == v) i))), some (.int (nI i)), none] [] f l
    refine P.iload dX7_withNumber_6 rfl ?_
    refine P.aload_n dX7_withNumber_8 rfl rfl ?_
    refine g_X7_many ly_2 (by decide) fl_X7_18 dX7_withNumber_9 ?_
    refine Pm.topn (b := D.1) (hV.1) ?_
    refine P.icmp_ge_n (tgt := 80) dX7_withNumber_12 (by decide) (by omega) (by omega) (fun c_12 => ?_) (fun c_12 => ?_)
    · exfalso; omega
    refine P.aload_n dX7_withNumber_15 rfl rfl ?_
    refine g_X7_list (q := 3) ly_2 (by decide) (by decide) fl_X7_11 dX7_withNumber_16 ?_
    refine P.iload dX7_withNumber_19 rfl ?_
    refine a_r6 (q := 4 + 3 * i) ly_3 (by decide) (by omega) (by decide) (rt_row (r := i) (by omega)) dX7_withNumber_21 ?_
    refine P.astore dX7_withNumber_22 (by decide) ?_
    refine P.iload dX7_withNumber_24 rfl ?_
    refine P.iload dX7_withNumber_26 rfl ?_
    refine P.callSN (As := [.int (nI S), .int (nI i)]) (rest := []) (s_isIn (s := S) (r := i) (by omega) (by omega)) ok_X9_isIn ⟨Nat.le_of_ble_eq_true rfl, Nat.le_of_ble_eq_true rfl, Nat.le_refl _, Nat.le_refl _⟩ rfl mn_X7_32 rfl (Nat.le_of_ble_eq_true rfl) dX7_withNumber_28 ?_
    refine P.if_eq_b (tgt := 74) dX7_withNumber_31 (by decide) (fun c_31 => ?_) (fun c_31 => ?_)
    · refine P.iinc dX7_withNumber_74 rfl (inc1 _) (by decide) ?_
      refine P.goto (tgt := 6) dX7_withNumber_77 (by decide) ?_
      show Pm G _ _ _ _ 6 [some (.ref (ad G 2)), some (.int (nI t)), some (.int (nI c)), some (.long v), none, some (.int (nI S)), some (.int (nI (setN (fun r => S.testBit r && D.2.1 r 2 == t && D.2.2.1 r c != 0 && D.2.2.2 r c == v) i))), some (.int (nI (i + 1))), some (.ref (ad G (4 + 3 * i)))] [] f l
      exact Pm.to (ihi) (by simp [lle, setN_s, Int64.not_lt, Int64.not_le, c_12, c_31]) rfl rfl rfl
    refine P.aload dX7_withNumber_34 rfl ?_
    refine g_X6_table (ly_row (r := i) (by omega)) (by omega) fl_X7_22 dX7_withNumber_36 ?_
    refine Pm.topn (b := D.2.1 i 2) ((hV.2.1 i (by omega) 2)) ?_
    refine P.iload_n dX7_withNumber_39 rfl rfl ?_
    refine P.icmp_ne_n (tgt := 74) dX7_withNumber_40 (by decide) (hD.2.1 _ _) (by omega) (fun c_40 => ?_) (fun c_40 => ?_)
    · refine P.iinc dX7_withNumber_74 rfl (inc1 _) (by decide) ?_
      refine P.goto (tgt := 6) dX7_withNumber_77 (by decide) ?_
      show Pm G _ _ _ _ 6 [some (.ref (ad G 2)), some (.int (nI t)), some (.int (nI c)), some (.long v), none, some (.int (nI S)), some (.int (nI (setN (fun r => S.testBit r && D.2.1 r 2 == t && D.2.2.1 r c != 0 && D.2.2.2 r c == v) i))), some (.int (nI (i + 1))), some (.ref (ad G (4 + 3 * i)))] [] f l
      exact Pm.to (ihi) (by simp [lle, setN_s, Int64.not_lt, Int64.not_le, c_12, c_31, c_40]) rfl rfl rfl
    refine P.aload dX7_withNumber_43 rfl ?_
    refine g_X6_there (q := 6 + 3 * i) (ly_row (r := i) (by omega)) (by omega) (rt_the (r := i) (by omega)) fl_X7_40 dX7_withNumber_45 ?_
    refine P.iload_n dX7_withNumber_48 rfl rfl ?_
    refine a_za (ly_the (r := i) (by omega)) (by omega) (by omega) (by decide) dX7_withNumber_49 ?_
    refine Pm.topn (b := D.2.2.1 i c) ((hV.2.2.1 i (by omega) c)) ?_
    refine P.if_eq_n (tgt := 74) dX7_withNumber_50 (by decide) (hD.2.2.1 _ _) (fun c_50 => ?_) (fun c_50 => ?_)
    · refine P.iinc dX7_withNumber_74 rfl (inc1 _) (by decide) ?_
      refine P.goto (tgt := 6) dX7_withNumber_77 (by decide) ?_
      show Pm G _ _ _ _ 6 [some (.ref (ad G 2)), some (.int (nI t)), some (.int (nI c)), some (.long v), none, some (.int (nI S)), some (.int (nI (setN (fun r => S.testBit r && D.2.1 r 2 == t && D.2.2.1 r c != 0 && D.2.2.2 r c == v) i))), some (.int (nI (i + 1))), some (.ref (ad G (4 + 3 * i)))] [] f l
      exact Pm.to (ihi) (by simp [lle, setN_s, Int64.not_lt, Int64.not_le, c_12, c_31, c_40, c_50]) rfl rfl rfl
    refine P.aload dX7_withNumber_53 rfl ?_
    refine g_X6_numbers (q := 5 + 3 * i) (ly_row (r := i) (by omega)) (by omega) (rt_num (r := i) (by omega)) fl_X7_44 dX7_withNumber_55 ?_
    refine P.iload_n dX7_withNumber_58 rfl rfl ?_
    refine a_la (ly_num (r := i) (by omega)) (by omega) (by omega) (by decide) dX7_withNumber_59 ?_
    refine Pm.topl (b := D.2.2.2 i c) ((hV.2.2.2 i (by omega) c)) ?_
    refine P.lload_n dX7_withNumber_60 rfl rfl ?_
    refine P.lc_ne (tgt := 74) dX7_withNumber_61 dX7_withNumber_62 (by decide) (fun c_61 => ?_) (fun c_61 => ?_)
    · refine P.iinc dX7_withNumber_74 rfl (inc1 _) (by decide) ?_
      refine P.goto (tgt := 6) dX7_withNumber_77 (by decide) ?_
      show Pm G _ _ _ _ 6 [some (.ref (ad G 2)), some (.int (nI t)), some (.int (nI c)), some (.long v), none, some (.int (nI S)), some (.int (nI (setN (fun r => S.testBit r && D.2.1 r 2 == t && D.2.2.1 r c != 0 && D.2.2.2 r c == v) i))), some (.int (nI (i + 1))), some (.ref (ad G (4 + 3 * i)))] [] f l
      exact Pm.to (ihi) (by simp [lle, setN_s, Int64.not_lt, Int64.not_le, c_12, c_31, c_40, c_50, c_61]) rfl rfl rfl
    refine P.iload dX7_withNumber_65 rfl ?_
    refine P.iconst dX7_withNumber_67 ic_1 ?_
    refine P.iload dX7_withNumber_68 rfl ?_
    refine P.ishl dX7_withNumber_70 (n_bit (by omega)) ?_
    refine P.ior_n dX7_withNumber_71 (n_or _ _) ?_
    refine P.istore dX7_withNumber_72 (by decide) ?_
    refine P.iinc dX7_withNumber_74 rfl (inc1 _) (by decide) ?_
    refine P.goto (tgt := 6) dX7_withNumber_77 (by decide) ?_
    show Pm G _ _ _ _ 6 [some (.ref (ad G 2)), some (.int (nI t)), some (.int (nI c)), some (.long v), none, some (.int (nI S)), some (.int (nI ((setN (fun r => S.testBit r && D.2.1 r 2 == t && D.2.2.1 r c != 0 && D.2.2.2 r c == v) i) ||| (2 ^ i)))), some (.int (nI (i + 1))), some (.ref (ad G (4 + 3 * i)))] [] f l
    exact Pm.to (ihi) (by simp [lle, setN_s, Int64.not_lt, Int64.not_le, c_12, c_31, c_40, c_50, c_61]) rfl rfl rfl
  · show Pm G _ _ _ _ 6 [some (.ref (ad G 2)), some (.int (nI t)), some (.int (nI c)), some (.long v), none, some (.int (nI S)), some (.int (nI (setN (fun r => S.testBit r && D.2.1 r 2 == t && D.2.2.1 r c != 0 && D.2.2.2 r c == v) D.1))), some (.int (nI D.1)), none] [] f l
    refine P.iload dX7_withNumber_6 rfl ?_
    refine P.aload_n dX7_withNumber_8 rfl rfl ?_
    refine g_X7_many ly_2 (by decide) fl_X7_18 dX7_withNumber_9 ?_
    refine Pm.topn (b := D.1) (hV.1) ?_
    refine P.icmp_ge_n (tgt := 80) dX7_withNumber_12 (by decide) (by omega) (by omega) (fun c_12 => ?_) (fun c_12 => ?_)
    · refine P.iload dX7_withNumber_80 rfl ?_
      exact P.iret rfl dX7_withNumber_82 rfl rfl
    · exfalso; omega

set_option maxRecDepth 20000 in
theorem s_aboveZero {G : GG} {f : Nat → Nat → Nat} {l : Nat → Nat → Int64} {D : DB} (hV : RV f l D) (hD : DW D)  {c S : Nat} (hc : c < 6) (hs : S < 4096) : Spec G mX7_aboveZero [.ref (ad G 2), .int (nI c), .int (nI S)] 114 (f, l, refT) (some (.int (nI (abvZ D c S)))) 114 (f, l, refT) := by
  have hR := hD.1
  refine Spec.of ok_X7_aboveZero.1 ⟨Nat.le_refl _, Nat.le_refl _⟩ (Nat.le_of_ble_eq_true rfl) ?_
  show Pm G RX7 cX7_aboveZero 5 (KM G mX7_aboveZero 114 114 (some (.int (nI (abvZ D c S)))) (f, l, refT)) 0 [some (.ref (ad G 2)), some (.int (nI c)), some (.int (nI S)), none, none] [] f l
  refine P.iconst dX7_aboveZero_0 ic_0 ?_
  refine P.istore_n dX7_aboveZero_1 rfl (by decide) ?_
  refine P.iconst dX7_aboveZero_2 ic_0 ?_
  refine P.istore dX7_aboveZero_3 (by decide) ?_
  refine loop_up (M := fun (i : Nat) => Pm G _ _ _ _ 5 [some (.ref (ad G 2)), some (.int (nI c)), some (.int (nI S)), some (.int (nI (setN (fun r => S.testBit r && decide (0 < D.2.2.2 r c)) i))), some (.int (nI i))] [] f l) (lo := 0) (N := D.1) (by first | exact Nat.zero_le _ | omega) (fun i hi0 hi1 ihi => ?_) ?_
  · show Pm G _ _ _ _ 5 [some (.ref (ad G 2)), some (.int (nI c)), some (.int (nI S)), some (.int (nI (setN (fun r => S.testBit r && decide (0 < D.2.2.2 r c)) i))), some (.int (nI i))] [] f l
    refine P.iload dX7_aboveZero_5 rfl ?_
    refine P.aload_n dX7_aboveZero_7 rfl rfl ?_
    refine g_X7_many ly_2 (by decide) fl_X7_18 dX7_aboveZero_8 ?_
    refine Pm.topn (b := D.1) (hV.1) ?_
    refine P.icmp_ge_n (tgt := 53) dX7_aboveZero_11 (by decide) (by omega) (by omega) (fun c_11 => ?_) (fun c_11 => ?_)
    · exfalso; omega
    refine P.iload_n dX7_aboveZero_14 rfl rfl ?_
    refine P.iload dX7_aboveZero_15 rfl ?_
    refine P.callSN (As := [.int (nI S), .int (nI i)]) (rest := []) (s_isIn (s := S) (r := i) (by omega) (by omega)) ok_X9_isIn ⟨Nat.le_of_ble_eq_true rfl, Nat.le_of_ble_eq_true rfl, Nat.le_refl _, Nat.le_refl _⟩ rfl mn_X7_32 rfl (Nat.le_of_ble_eq_true rfl) dX7_aboveZero_17 ?_
    refine P.if_eq_b (tgt := 47) dX7_aboveZero_20 (by decide) (fun c_20 => ?_) (fun c_20 => ?_)
    · refine P.iinc dX7_aboveZero_47 rfl (inc1 _) (by decide) ?_
      refine P.goto (tgt := 5) dX7_aboveZero_50 (by decide) ?_
      show Pm G _ _ _ _ 5 [some (.ref (ad G 2)), some (.int (nI c)), some (.int (nI S)), some (.int (nI (setN (fun r => S.testBit r && decide (0 < D.2.2.2 r c)) i))), some (.int (nI (i + 1)))] [] f l
      exact Pm.to (ihi) (by simp [lle, setN_s, Int64.not_lt, Int64.not_le, c_11, c_20]) rfl rfl rfl
    refine P.aload_n dX7_aboveZero_23 rfl rfl ?_
    refine g_X7_list (q := 3) ly_2 (by decide) (by decide) fl_X7_11 dX7_aboveZero_24 ?_
    refine P.iload dX7_aboveZero_27 rfl ?_
    refine a_r6 (q := 4 + 3 * i) ly_3 (by decide) (by omega) (by decide) (rt_row (r := i) (by omega)) dX7_aboveZero_29 ?_
    refine g_X6_numbers (q := 5 + 3 * i) (ly_row (r := i) (by omega)) (by omega) (rt_num (r := i) (by omega)) fl_X7_44 dX7_aboveZero_30 ?_
    refine P.iload_n dX7_aboveZero_33 rfl rfl ?_
    refine a_la (ly_num (r := i) (by omega)) (by omega) (by omega) (by decide) dX7_aboveZero_34 ?_
    refine Pm.topl (b := D.2.2.2 i c) ((hV.2.2.2 i (by omega) c)) ?_
    refine P.lconst (v := 0) dX7_aboveZero_35 rfl ?_
    refine P.lc_le (tgt := 47) dX7_aboveZero_36 dX7_aboveZero_37 (by decide) (fun c_36 => ?_) (fun c_36 => ?_)
    · refine P.iinc dX7_aboveZero_47 rfl (inc1 _) (by decide) ?_
      refine P.goto (tgt := 5) dX7_aboveZero_50 (by decide) ?_
      show Pm G _ _ _ _ 5 [some (.ref (ad G 2)), some (.int (nI c)), some (.int (nI S)), some (.int (nI (setN (fun r => S.testBit r && decide (0 < D.2.2.2 r c)) i))), some (.int (nI (i + 1)))] [] f l
      exact Pm.to (ihi) (by simp [lle, setN_s, Int64.not_lt, Int64.not_le, c_11, c_20, c_36, (Int64.not_lt.mpr c_36)]) rfl rfl rfl
    refine P.iload_n dX7_aboveZero_40 rfl rfl ?_
    refine P.iconst dX7_aboveZero_41 ic_1 ?_
    refine P.iload dX7_aboveZero_42 rfl ?_
    refine P.ishl dX7_aboveZero_44 (n_bit (by omega)) ?_
    refine P.ior_n dX7_aboveZero_45 (n_or _ _) ?_
    refine P.istore_n dX7_aboveZero_46 rfl (by decide) ?_
    refine P.iinc dX7_aboveZero_47 rfl (inc1 _) (by decide) ?_
    refine P.goto (tgt := 5) dX7_aboveZero_50 (by decide) ?_
    show Pm G _ _ _ _ 5 [some (.ref (ad G 2)), some (.int (nI c)), some (.int (nI S)), some (.int (nI ((setN (fun r => S.testBit r && decide (0 < D.2.2.2 r c)) i) ||| (2 ^ i)))), some (.int (nI (i + 1)))] [] f l
    exact Pm.to (ihi) (by simp [lle, setN_s, Int64.not_lt, Int64.not_le, c_11, c_20, c_36, (Int64.not_le.mpr c_36)]) rfl rfl rfl
  · show Pm G _ _ _ _ 5 [some (.ref (ad G 2)), some (.int (nI c)), some (.int (nI S)), some (.int (nI (setN (fun r => S.testBit r && decide (0 < D.2.2.2 r c)) D.1))), some (.int (nI D.1))] [] f l
    refine P.iload dX7_aboveZero_5 rfl ?_
    refine P.aload_n dX7_aboveZero_7 rfl rfl ?_
    refine g_X7_many ly_2 (by decide) fl_X7_18 dX7_aboveZero_8 ?_
    refine Pm.topn (b := D.1) (hV.1) ?_
    refine P.icmp_ge_n (tgt := 53) dX7_aboveZero_11 (by decide) (by omega) (by omega) (fun c_11 => ?_) (fun c_11 => ?_)
    · refine P.iload_n dX7_aboveZero_53 rfl rfl ?_
      exact P.iret rfl dX7_aboveZero_54 rfl rfl
    · exfalso; omega

set_option maxRecDepth 20000 in
theorem s_manyOf {G : GG} {f : Nat → Nat → Nat} {l : Nat → Nat → Int64} {D : DB} (hV : RV f l D) (hD : DW D)  {t : Nat} (ht : t < 4) : Spec G mX7_manyOf [.ref (ad G 2), .int (nI t)] 114 (f, l, refT) (some (.int (nI (manyD D t)))) 114 (f, l, refT) := by
  have hR := hD.1
  refine Spec.of ok_X7_manyOf.1 ⟨Nat.le_refl _, Nat.le_refl _⟩ (Nat.le_of_ble_eq_true rfl) ?_
  show Pm G RX7 cX7_manyOf 4 (KM G mX7_manyOf 114 114 (some (.int (nI (manyD D t)))) (f, l, refT)) 0 [some (.ref (ad G 2)), some (.int (nI t)), none, none] [] f l
  refine P.iconst dX7_manyOf_0 ic_0 ?_
  refine P.istore_n dX7_manyOf_1 rfl (by decide) ?_
  refine P.iconst dX7_manyOf_2 ic_0 ?_
  refine P.istore_n dX7_manyOf_3 rfl (by decide) ?_
  refine loop_up (M := fun (i : Nat) => Pm G _ _ _ _ 4 [some (.ref (ad G 2)), some (.int (nI t)), some (.int (nI (cntN (fun r => D.2.1 r 2 == t) i))), some (.int (nI i))] [] f l) (lo := 0) (N := D.1) (by first | exact Nat.zero_le _ | omega) (fun i hi0 hi1 ihi => ?_) ?_
  · show Pm G _ _ _ _ 4 [some (.ref (ad G 2)), some (.int (nI t)), some (.int (nI (cntN (fun r => D.2.1 r 2 == t) i))), some (.int (nI i))] [] f l
    refine P.iload_n dX7_manyOf_4 rfl rfl ?_
    refine P.aload_n dX7_manyOf_5 rfl rfl ?_
    refine g_X7_many ly_2 (by decide) fl_X7_18 dX7_manyOf_6 ?_
    refine Pm.topn (b := D.1) (hV.1) ?_
    refine P.icmp_ge_n (tgt := 42) dX7_manyOf_9 (by decide) (by omega) (by omega) (fun c_9 => ?_) (fun c_9 => ?_)
    · exfalso; omega
    refine P.iload_n dX7_manyOf_12 rfl rfl ?_
    refine P.aload_n dX7_manyOf_13 rfl rfl ?_
    refine g_X7_list (q := 3) ly_2 (by decide) (by decide) fl_X7_11 dX7_manyOf_14 ?_
    refine P.iload_n dX7_manyOf_17 rfl rfl ?_
    refine a_r6 (q := 4 + 3 * i) ly_3 (by decide) (by omega) (by decide) (rt_row (r := i) (by omega)) dX7_manyOf_18 ?_
    refine g_X6_table (ly_row (r := i) (by omega)) (by omega) fl_X7_22 dX7_manyOf_19 ?_
    refine Pm.topn (b := D.2.1 i 2) ((hV.2.1 i (by omega) 2)) ?_
    refine P.iload_n dX7_manyOf_22 rfl rfl ?_
    refine P.icmp_ne_n (tgt := 30) dX7_manyOf_23 (by decide) (hD.2.1 _ _) (by omega) (fun c_23 => ?_) (fun c_23 => ?_)
    · refine P.iconst dX7_manyOf_30 ic_0 ?_
      refine P.callSN (As := [.int (nI 0)]) (rest := [.int (nI (cntN (fun r => D.2.1 r 2 == t) i))]) (s_oneIf (by decide)) ok_X9_oneIf ⟨Nat.le_of_ble_eq_true rfl, Nat.le_of_ble_eq_true rfl, Nat.le_refl _, Nat.le_refl _⟩ rfl mn_X7_36 rfl (Nat.le_of_ble_eq_true rfl) dX7_manyOf_31 ?_
      refine P.iadd_n dX7_manyOf_34 (nI_add _ _) ?_
      refine P.istore_n dX7_manyOf_35 rfl (by decide) ?_
      refine P.iinc dX7_manyOf_36 rfl (inc1 _) (by decide) ?_
      refine P.goto (tgt := 4) dX7_manyOf_39 (by decide) ?_
      show Pm G _ _ _ _ 4 [some (.ref (ad G 2)), some (.int (nI t)), some (.int (nI ((cntN (fun r => D.2.1 r 2 == t) i) + 0))), some (.int (nI (i + 1)))] [] f l
      exact Pm.to (ihi) (by simp [lle, cntN_s, bN, Int64.not_lt, Int64.not_le, c_9, c_23]) rfl rfl rfl
    refine P.iconst dX7_manyOf_26 ic_1 ?_
    refine P.goto (tgt := 31) dX7_manyOf_27 (by decide) ?_
    refine P.callSN (As := [.int (nI 1)]) (rest := [.int (nI (cntN (fun r => D.2.1 r 2 == t) i))]) (s_oneIf (by decide)) ok_X9_oneIf ⟨Nat.le_of_ble_eq_true rfl, Nat.le_of_ble_eq_true rfl, Nat.le_refl _, Nat.le_refl _⟩ rfl mn_X7_36 rfl (Nat.le_of_ble_eq_true rfl) dX7_manyOf_31 ?_
    refine P.iadd_n dX7_manyOf_34 (nI_add _ _) ?_
    refine P.istore_n dX7_manyOf_35 rfl (by decide) ?_
    refine P.iinc dX7_manyOf_36 rfl (inc1 _) (by decide) ?_
    refine P.goto (tgt := 4) dX7_manyOf_39 (by decide) ?_
    show Pm G _ _ _ _ 4 [some (.ref (ad G 2)), some (.int (nI t)), some (.int (nI ((cntN (fun r => D.2.1 r 2 == t) i) + 1))), some (.int (nI (i + 1)))] [] f l
    exact Pm.to (ihi) (by simp [lle, cntN_s, bN, Int64.not_lt, Int64.not_le, c_9, c_23]) rfl rfl rfl
  · show Pm G _ _ _ _ 4 [some (.ref (ad G 2)), some (.int (nI t)), some (.int (nI (cntN (fun r => D.2.1 r 2 == t) D.1))), some (.int (nI D.1))] [] f l
    refine P.iload_n dX7_manyOf_4 rfl rfl ?_
    refine P.aload_n dX7_manyOf_5 rfl rfl ?_
    refine g_X7_many ly_2 (by decide) fl_X7_18 dX7_manyOf_6 ?_
    refine Pm.topn (b := D.1) (hV.1) ?_
    refine P.icmp_ge_n (tgt := 42) dX7_manyOf_9 (by decide) (by omega) (by omega) (fun c_9 => ?_) (fun c_9 => ?_)
    · refine P.iload_n dX7_manyOf_42 rfl rfl ?_
      exact P.iret rfl dX7_manyOf_43 rfl rfl
    · exfalso; omega

set_option maxRecDepth 20000 in
theorem s_trustOf {G : GG} {f : Nat → Nat → Nat} {l : Nat → Nat → Int64} {D : DB} (hV : RV f l D) (hD : DW D)  {S : Nat} (hs : S < 4096) : Spec G mX7_trustOf [.ref (ad G 2), .int (nI S)] 114 (f, l, refT) (some (.int (nI (trustD D S)))) 114 (f, l, refT) := by
  have hR := hD.1
  refine Spec.of ok_X7_trustOf.1 ⟨Nat.le_refl _, Nat.le_refl _⟩ (Nat.le_of_ble_eq_true rfl) ?_
  show Pm G RX7 cX7_trustOf 4 (KM G mX7_trustOf 114 114 (some (.int (nI (trustD D S)))) (f, l, refT)) 0 [some (.ref (ad G 2)), some (.int (nI S)), none, none] [] f l
  refine P.iconst dX7_trustOf_0 ic_0 ?_
  refine P.istore_n dX7_trustOf_1 rfl (by decide) ?_
  refine P.iconst dX7_trustOf_2 ic_0 ?_
  refine P.istore_n dX7_trustOf_3 rfl (by decide) ?_
  refine loop_up (M := fun (i : Nat) => Pm G _ _ _ _ 4 [some (.ref (ad G 2)), some (.int (nI S)), some (.int (nI (sumN (fun r => S.testBit r) (fun r => D.2.1 r 3) i))), some (.int (nI i))] [] f l) (lo := 0) (N := D.1) (by first | exact Nat.zero_le _ | omega) (fun i hi0 hi1 ihi => ?_) ?_
  · show Pm G _ _ _ _ 4 [some (.ref (ad G 2)), some (.int (nI S)), some (.int (nI (sumN (fun r => S.testBit r) (fun r => D.2.1 r 3) i))), some (.int (nI i))] [] f l
    refine P.iload_n dX7_trustOf_4 rfl rfl ?_
    refine P.aload_n dX7_trustOf_5 rfl rfl ?_
    refine g_X7_many ly_2 (by decide) fl_X7_18 dX7_trustOf_6 ?_
    refine Pm.topn (b := D.1) (hV.1) ?_
    refine P.icmp_ge_n (tgt := 38) dX7_trustOf_9 (by decide) (by omega) (by omega) (fun c_9 => ?_) (fun c_9 => ?_)
    · exfalso; omega
    refine P.iload_n dX7_trustOf_12 rfl rfl ?_
    refine P.iload_n dX7_trustOf_13 rfl rfl ?_
    refine P.callSN (As := [.int (nI S), .int (nI i)]) (rest := []) (s_isIn (s := S) (r := i) (by omega) (by omega)) ok_X9_isIn ⟨Nat.le_of_ble_eq_true rfl, Nat.le_of_ble_eq_true rfl, Nat.le_refl _, Nat.le_refl _⟩ rfl mn_X7_32 rfl (Nat.le_of_ble_eq_true rfl) dX7_trustOf_14 ?_
    refine P.if_eq_b (tgt := 32) dX7_trustOf_17 (by decide) (fun c_17 => ?_) (fun c_17 => ?_)
    · refine P.iinc dX7_trustOf_32 rfl (inc1 _) (by decide) ?_
      refine P.goto (tgt := 4) dX7_trustOf_35 (by decide) ?_
      show Pm G _ _ _ _ 4 [some (.ref (ad G 2)), some (.int (nI S)), some (.int (nI (sumN (fun r => S.testBit r) (fun r => D.2.1 r 3) i))), some (.int (nI (i + 1)))] [] f l
      exact Pm.to (ihi) (by simp [lle, sumN_s, Int64.not_lt, Int64.not_le, c_9, c_17]) rfl rfl rfl
    refine P.iload_n dX7_trustOf_20 rfl rfl ?_
    refine P.aload_n dX7_trustOf_21 rfl rfl ?_
    refine g_X7_list (q := 3) ly_2 (by decide) (by decide) fl_X7_11 dX7_trustOf_22 ?_
    refine P.iload_n dX7_trustOf_25 rfl rfl ?_
    refine a_r6 (q := 4 + 3 * i) ly_3 (by decide) (by omega) (by decide) (rt_row (r := i) (by omega)) dX7_trustOf_26 ?_
    refine g_X6_trust (ly_row (r := i) (by omega)) (by omega) fl_X7_25 dX7_trustOf_27 ?_
    refine Pm.topn (b := D.2.1 i 3) ((hV.2.1 i (by omega) 3)) ?_
    refine P.iadd_n dX7_trustOf_30 (nI_add _ _) ?_
    refine P.istore_n dX7_trustOf_31 rfl (by decide) ?_
    refine P.iinc dX7_trustOf_32 rfl (inc1 _) (by decide) ?_
    refine P.goto (tgt := 4) dX7_trustOf_35 (by decide) ?_
    show Pm G _ _ _ _ 4 [some (.ref (ad G 2)), some (.int (nI S)), some (.int (nI ((sumN (fun r => S.testBit r) (fun r => D.2.1 r 3) i) + (D.2.1 i 3)))), some (.int (nI (i + 1)))] [] f l
    exact Pm.to (ihi) (by simp [lle, sumN_s, Int64.not_lt, Int64.not_le, c_9, c_17]) rfl rfl rfl
  · show Pm G _ _ _ _ 4 [some (.ref (ad G 2)), some (.int (nI S)), some (.int (nI (sumN (fun r => S.testBit r) (fun r => D.2.1 r 3) D.1))), some (.int (nI D.1))] [] f l
    refine P.iload_n dX7_trustOf_4 rfl rfl ?_
    refine P.aload_n dX7_trustOf_5 rfl rfl ?_
    refine g_X7_many ly_2 (by decide) fl_X7_18 dX7_trustOf_6 ?_
    refine Pm.topn (b := D.1) (hV.1) ?_
    refine P.icmp_ge_n (tgt := 38) dX7_trustOf_9 (by decide) (by omega) (by omega) (fun c_9 => ?_) (fun c_9 => ?_)
    · refine P.iload_n dX7_trustOf_38 rfl rfl ?_
      exact P.iret rfl dX7_trustOf_39 rfl rfl
    · exfalso; omega

set_option maxRecDepth 20000 in
theorem s_added {G : GG} {f : Nat → Nat → Nat} {l : Nat → Nat → Int64} {D : DB} (hV : RV f l D) (hD : DW D)  {t c S : Nat} (ht : t < 4) (hc : c < 6) (hs : S < 4096) : Spec G mX7_added [.ref (ad G 2), .int (nI t), .int (nI c), .int (nI S)] 114 (f, l, refT) (some (.long (addD D t c S))) 114 (f, l, refT) := by
  have hR := hD.1
  have hw := withC_lt hD t c S
  refine Spec.of ok_X7_added.1 ⟨Nat.le_refl _, Nat.le_refl _⟩ (Nat.le_of_ble_eq_true rfl) ?_
  show Pm G RX7 cX7_added 8 (KM G mX7_added 114 114 (some (.long (addD D t c S))) (f, l, refT)) 0 [some (.ref (ad G 2)), some (.int (nI t)), some (.int (nI c)), some (.int (nI S)), none, none, none, none] [] f l
  refine P.aload_n dX7_added_0 rfl rfl ?_
  refine P.iload_n dX7_added_1 rfl rfl ?_
  refine P.iload_n dX7_added_2 rfl rfl ?_
  refine P.iload_n dX7_added_3 rfl rfl ?_
  refine P.callV (As := [.int (nI t), .int (nI c), .int (nI S)]) (rest := []) (s_withCell hV hD (by omega) (by omega) (by omega)) ok_X7_withCell ⟨Nat.le_of_ble_eq_true rfl, Nat.le_of_ble_eq_true rfl, Nat.le_refl _, Nat.le_refl _⟩ rfl ml_X7_48 ly_2 (by decide) (by decide) rfl rfl (Nat.le_of_ble_eq_true rfl) dX7_added_4 ?_
  refine P.istore dX7_added_7 (by decide) ?_
  refine P.lconst (v := 0) dX7_added_9 rfl ?_
  refine P.lstore dX7_added_10 (by decide) (Nat.le_of_ble_eq_true rfl) ?_
  refine P.iconst dX7_added_12 ic_0 ?_
  refine P.istore dX7_added_13 (by decide) ?_
  refine loop_up (M := fun (i : Nat) => Pm G _ _ _ _ 15 [some (.ref (ad G 2)), some (.int (nI t)), some (.int (nI c)), some (.int (nI S)), some (.int (nI (withC D t c S))), some (.long (sumL (fun r => (withC D t c S).testBit r) (fun r => D.2.2.2 r c) i)), none, some (.int (nI i))] [] f l) (lo := 0) (N := D.1) (by first | exact Nat.zero_le _ | omega) (fun i hi0 hi1 ihi => ?_) ?_
  · show Pm G _ _ _ _ 15 [some (.ref (ad G 2)), some (.int (nI t)), some (.int (nI c)), some (.int (nI S)), some (.int (nI (withC D t c S))), some (.long (sumL (fun r => (withC D t c S).testBit r) (fun r => D.2.2.2 r c) i)), none, some (.int (nI i))] [] f l
    refine P.iload dX7_added_15 rfl ?_
    refine P.aload_n dX7_added_17 rfl rfl ?_
    refine g_X7_many ly_2 (by decide) fl_X7_18 dX7_added_18 ?_
    refine Pm.topn (b := D.1) (hV.1) ?_
    refine P.icmp_ge_n (tgt := 57) dX7_added_21 (by decide) (by omega) (by omega) (fun c_21 => ?_) (fun c_21 => ?_)
    · exfalso; omega
    refine P.iload dX7_added_24 rfl ?_
    refine P.iload dX7_added_26 rfl ?_
    refine P.callSN (As := [.int (nI (withC D t c S)), .int (nI i)]) (rest := []) (s_isIn (s := (withC D t c S)) (r := i) (by omega) (by omega)) ok_X9_isIn ⟨Nat.le_of_ble_eq_true rfl, Nat.le_of_ble_eq_true rfl, Nat.le_refl _, Nat.le_refl _⟩ rfl mn_X7_32 rfl (Nat.le_of_ble_eq_true rfl) dX7_added_28 ?_
    refine P.if_eq_b (tgt := 51) dX7_added_31 (by decide) (fun c_31 => ?_) (fun c_31 => ?_)
    · refine P.iinc dX7_added_51 rfl (inc1 _) (by decide) ?_
      refine P.goto (tgt := 15) dX7_added_54 (by decide) ?_
      show Pm G _ _ _ _ 15 [some (.ref (ad G 2)), some (.int (nI t)), some (.int (nI c)), some (.int (nI S)), some (.int (nI (withC D t c S))), some (.long (sumL (fun r => (withC D t c S).testBit r) (fun r => D.2.2.2 r c) i)), none, some (.int (nI (i + 1)))] [] f l
      exact Pm.to (ihi) (by simp [lle, sumL_s, Int64.not_lt, Int64.not_le, c_21, c_31]) rfl rfl rfl
    refine P.lload dX7_added_34 rfl ?_
    refine P.aload_n dX7_added_36 rfl rfl ?_
    refine g_X7_list (q := 3) ly_2 (by decide) (by decide) fl_X7_11 dX7_added_37 ?_
    refine P.iload dX7_added_40 rfl ?_
    refine a_r6 (q := 4 + 3 * i) ly_3 (by decide) (by omega) (by decide) (rt_row (r := i) (by omega)) dX7_added_42 ?_
    refine g_X6_numbers (q := 5 + 3 * i) (ly_row (r := i) (by omega)) (by omega) (rt_num (r := i) (by omega)) fl_X7_44 dX7_added_43 ?_
    refine P.iload_n dX7_added_46 rfl rfl ?_
    refine a_la (ly_num (r := i) (by omega)) (by omega) (by omega) (by decide) dX7_added_47 ?_
    refine Pm.topl (b := D.2.2.2 i c) ((hV.2.2.2 i (by omega) c)) ?_
    refine P.ladd dX7_added_48 ?_
    refine P.lstore dX7_added_49 (by decide) (Nat.le_of_ble_eq_true rfl) ?_
    refine P.iinc dX7_added_51 rfl (inc1 _) (by decide) ?_
    refine P.goto (tgt := 15) dX7_added_54 (by decide) ?_
    show Pm G _ _ _ _ 15 [some (.ref (ad G 2)), some (.int (nI t)), some (.int (nI c)), some (.int (nI S)), some (.int (nI (withC D t c S))), some (.long ((sumL (fun r => (withC D t c S).testBit r) (fun r => D.2.2.2 r c) i) + (D.2.2.2 i c))), none, some (.int (nI (i + 1)))] [] f l
    exact Pm.to (ihi) (by simp [lle, sumL_s, Int64.not_lt, Int64.not_le, c_21, c_31]) rfl rfl rfl
  · show Pm G _ _ _ _ 15 [some (.ref (ad G 2)), some (.int (nI t)), some (.int (nI c)), some (.int (nI S)), some (.int (nI (withC D t c S))), some (.long (sumL (fun r => (withC D t c S).testBit r) (fun r => D.2.2.2 r c) D.1)), none, some (.int (nI D.1))] [] f l
    refine P.iload dX7_added_15 rfl ?_
    refine P.aload_n dX7_added_17 rfl rfl ?_
    refine g_X7_many ly_2 (by decide) fl_X7_18 dX7_added_18 ?_
    refine Pm.topn (b := D.1) (hV.1) ?_
    refine P.icmp_ge_n (tgt := 57) dX7_added_21 (by decide) (by omega) (by omega) (fun c_21 => ?_) (fun c_21 => ?_)
    · refine P.lload dX7_added_57 rfl ?_
      exact P.lret rfl dX7_added_59 rfl rfl
    · exfalso; omega

set_option maxRecDepth 20000 in
theorem s_rowAdd {G : GG} {f : Nat → Nat → Nat} {l : Nat → Nat → Int64} {D : DB} (hV : RV f l D) (hD : DW D) {t a : Nat} (h12 : D.1 < 12) (ht : t < 4) (ha : a < 101) : Spec G mX7_add [.ref (ad G 2), .int (nI t), .int (nI a)] 114 (f, l, refT) (some (.int (nI D.1))) 114 (uf (uf (uf (uf f (4 + 3 * D.1) 2 t) (4 + 3 * D.1) 3 a) (4 + 3 * D.1) 4 1) 2 1 (D.1 + 1), l, refT) := by
  refine Spec.of ok_X7_add.1 ⟨Nat.le_refl _, Nat.le_refl _⟩ (Nat.le_of_ble_eq_true rfl) ?_
  show Pm G RX7 cX7_add 3 (KM G mX7_add 114 114 (some (.int (nI D.1))) (uf (uf (uf (uf f (4 + 3 * D.1) 2 t) (4 + 3 * D.1) 3 a) (4 + 3 * D.1) 4 1) 2 1 (D.1 + 1), l, refT)) 0 [some (.ref (ad G 2)), some (.int (nI t)), some (.int (nI a))] [] f l
  refine P.aload_n dX7_add_0 rfl rfl ?_
  refine g_X7_list (q := 3) ly_2 (by decide) (by decide) fl_X7_11 dX7_add_1 ?_
  refine P.aload_n dX7_add_4 rfl rfl ?_
  refine g_X7_many ly_2 (by decide) fl_X7_18 dX7_add_5 ?_
  refine Pm.topn (b := D.1) (hV.1) ?_
  refine a_r6 (q := 4 + 3 * D.1) ly_3 (by decide) (by omega) (by decide) (rt_row (r := D.1) (by omega)) dX7_add_8 ?_
  refine P.iload_n dX7_add_9 rfl rfl ?_
  refine p_X6_table (a := t) (ly_row (r := D.1) (by omega)) (by omega) fl_X7_22 dX7_add_10 rfl ?_
  refine P.aload_n dX7_add_13 rfl rfl ?_
  refine g_X7_list (q := 3) ly_2 (by decide) (by decide) fl_X7_11 dX7_add_14 ?_
  refine P.aload_n dX7_add_17 rfl rfl ?_
  refine g_X7_many ly_2 (by decide) fl_X7_18 dX7_add_18 ?_
  refine Pm.topn (b := D.1) ((uf_ne _ _ (Or.inr (by decide))).trans (hV.1)) ?_
  refine a_r6 (q := 4 + 3 * D.1) ly_3 (by decide) (by omega) (by decide) (rt_row (r := D.1) (by omega)) dX7_add_21 ?_
  refine P.iload_n dX7_add_22 rfl rfl ?_
  refine p_X6_trust (a := a) (ly_row (r := D.1) (by omega)) (by omega) fl_X7_25 dX7_add_23 rfl ?_
  refine P.aload_n dX7_add_26 rfl rfl ?_
  refine g_X7_list (q := 3) ly_2 (by decide) (by decide) fl_X7_11 dX7_add_27 ?_
  refine P.aload_n dX7_add_30 rfl rfl ?_
  refine g_X7_many ly_2 (by decide) fl_X7_18 dX7_add_31 ?_
  refine Pm.topn (b := D.1) ((uf_ne _ _ (Or.inr (by decide))).trans ((uf_ne _ _ (Or.inr (by decide))).trans (hV.1))) ?_
  refine a_r6 (q := 4 + 3 * D.1) ly_3 (by decide) (by omega) (by decide) (rt_row (r := D.1) (by omega)) dX7_add_34 ?_
  refine P.iconst dX7_add_35 ic_1 ?_
  refine p_X6_kept (a := 1) (ly_row (r := D.1) (by omega)) (by omega) fl_X7_28 dX7_add_36 rfl (by omega) ?_
  refine P.aload_n dX7_add_39 rfl rfl ?_
  refine P.dup dX7_add_40 rfl ?_
  refine g_X7_many ly_2 (by decide) fl_X7_18 dX7_add_41 ?_
  refine Pm.topn (b := D.1) ((uf_ne _ _ (Or.inr (by decide))).trans ((uf_ne _ _ (Or.inr (by decide))).trans ((uf_ne _ _ (Or.inr (by decide))).trans (hV.1)))) ?_
  refine P.iconst dX7_add_44 ic_1 ?_
  refine P.iadd_n dX7_add_45 (nI_add _ _) ?_
  refine p_X7_many (a := (D.1 + 1)) ly_2 (by decide) fl_X7_18 dX7_add_46 rfl ?_
  refine P.aload_n dX7_add_49 rfl rfl ?_
  refine g_X7_many ly_2 (by decide) fl_X7_18 dX7_add_50 ?_
  refine Pm.topn (b := (D.1 + 1)) (uf_self _ _ _ _) ?_
  refine P.iconst dX7_add_53 ic_1 ?_
  refine P.isub_n dX7_add_54 (pk_sub (by omega)) ?_
  exact P.iret rfl dX7_add_55 rfl rfl


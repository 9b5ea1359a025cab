-- Question, on; Table; the bench's small methods: by program (wip/whole/spec22.py)
set_option maxRecDepth 20000 in
theorem s_standsIn {G : GG} {f : Nat → Nat → Nat} {l : Nat → Nat → Int64} {D : DB} (hV : RV f l D) (hD : DW D) {U : QB} (hU : UV f l U) (hUW : UW U) {S : Nat} (hS : S < 4096) : SpX G mX5_standsIn [.ref (ad G 57), .int (nI S)] f l (fun r f1 l1 => r = some (.int (bI (standsB D U S))) ∧ Fra f f1 ∧ l = l1) := by
  have hp3 := hUW.1
  have hp12 := p12 hUW.1
  refine SpX.of ok_X5_standsIn.1 (Nat.le_of_ble_eq_true rfl) ?_
  show Pm G RX5 cX5_standsIn 4 (KX G mX5_standsIn (fun r f1 l1 => r = some (.int (bI (standsB D U S))) ∧ Fra f f1 ∧ l = l1)) 0 [some (.ref (ad G 57)), some (.int (nI S)), none, none] [] f l
  refine P.aload_n dX5_standsIn_0 rfl rfl ?_
  refine P.iload_n dX5_standsIn_1 rfl rfl ?_
  refine P.callVX (As := [.int (nI S)]) (rest := []) (s_findFitting hV hD hU hUW hS) ok_X5_findFitting (fitX (Nat.le_of_ble_eq_true rfl)) rfl ml_X5_65 ly_57 (by decide) (by decide) rfl rfl (Nat.le_of_ble_eq_true rfl) dX5_standsIn_2 (fun r f1 l1 hp => ?_)
  obtain ⟨rfl, e60, hfit, e⟩ := hp
  subst e
  refine P.aload_n dX5_standsIn_5 rfl rfl ?_
  refine P.callV (As := []) (rest := []) (s_manyTries ((e60.fra (Or.inl rfl)).UV hU) hUW) ok_X5_manyTries (fitX (Nat.le_of_ble_eq_true rfl)) rfl ml_X5_69 ly_57 (by decide) (by decide) rfl rfl (Nat.le_of_ble_eq_true rfl) dX5_standsIn_6 ?_
  refine P.istore_n dX5_standsIn_9 rfl (by decide) ?_
  refine P.iconst dX5_standsIn_10 ic_0 ?_
  refine P.istore_n dX5_standsIn_11 rfl (by decide) ?_
  refine loop_up (M := fun (n : Nat) => ∀ g : Nat → Nat → Nat, (Fra f g ∧ (∀ p, p < U.1 → g 60 p = fitD D U S p) ∧ ∀ m, m < n → stoodB D U (fitD D U S) m = false) → Pm G _ _ _ _ 12 [some (.ref (ad G 57)), some (.int (nI S)), some (.int (nI (12 ^ U.1))), some (.int (nI n))] [] g l) (lo := 0) (N := (12 ^ U.1)) (by first | exact Nat.zero_le _ | omega) (fun n hn0 hn1 ihn => ?_) ?_ _ ?_
  · intro g hg
    have hVg := hg.1.RV hV
    have hUg := hg.1.UV hU
    have hg60 := hg.2.1
    show Pm G _ _ _ _ 12 [some (.ref (ad G 57)), some (.int (nI S)), some (.int (nI (12 ^ U.1))), some (.int (nI n))] [] g l
    refine P.iload_n dX5_standsIn_12 rfl rfl ?_
    refine P.iload_n dX5_standsIn_13 rfl rfl ?_
    refine P.icmp_ge_n (tgt := 33) dX5_standsIn_14 (by decide) (by omega) (by omega) (fun c_14 => ?_) (fun c_14 => ?_)
    · exfalso; omega
    refine P.aload_n dX5_standsIn_17 rfl rfl ?_
    refine P.iload_n dX5_standsIn_18 rfl rfl ?_
    refine P.callVX (As := [.int (nI n)]) (rest := []) (s_stood hVg hD hUg hUW hg60 (fun p => fitD_lt hD U S p) (by omega)) ok_X5_stood (fitX (Nat.le_of_ble_eq_true rfl)) rfl ml_X5_73 ly_57 (by decide) (by decide) rfl rfl (Nat.le_of_ble_eq_true rfl) dX5_standsIn_19 (fun r f2 l2 hp => ?_)
    obtain ⟨rfl, e61, htr, e⟩ := hp
    subst e
    refine P.if_eq_b (tgt := 27) dX5_standsIn_22 (by decide) (fun c_22 => ?_) (fun c_22 => ?_)
    · refine P.iinc dX5_standsIn_27 rfl (inc1 _) (by decide) ?_
      refine P.goto (tgt := 12) dX5_standsIn_30 (by decide) ?_
      show Pm G _ _ _ _ 12 [some (.ref (ad G 57)), some (.int (nI S)), some (.int (nI (12 ^ U.1))), some (.int (nI (n + 1)))] [] f2 l
      exact Pm.to (ihn _ (⟨hg.1.tr (e61.fra (Or.inr rfl)), fun p hp => (e61 60 p (by decide)).trans (hg.2.1 p hp), lt_snoc hg.2.2 c_22⟩)) (by simp [lle]) rfl rfl rfl
    refine P.iconst dX5_standsIn_25 ic_1 ?_
    exact P.bretX rfl dX5_standsIn_26 ⟨⟨rfl_of (anyN_t.mpr ⟨n, hn1, c_22⟩), hg.1.tr (e61.fra (Or.inr rfl)), rfl⟩, true, rfl⟩
  · intro g hg
    have hVg := hg.1.RV hV
    have hUg := hg.1.UV hU
    have hg60 := hg.2.1
    show Pm G _ _ _ _ 12 [some (.ref (ad G 57)), some (.int (nI S)), some (.int (nI (12 ^ U.1))), some (.int (nI (12 ^ U.1)))] [] g l
    refine P.iload_n dX5_standsIn_12 rfl rfl ?_
    refine P.iload_n dX5_standsIn_13 rfl rfl ?_
    refine P.icmp_ge_n (tgt := 33) dX5_standsIn_14 (by decide) (by omega) (by omega) (fun c_14 => ?_) (fun c_14 => ?_)
    · refine P.iconst dX5_standsIn_33 ic_0 ?_
      exact P.bretX rfl dX5_standsIn_34 ⟨⟨rfl_of (anyN_f.mpr hg.2.2), hg.1, rfl⟩, false, rfl⟩
    · exfalso; omega
  · exact ⟨e60.fra (Or.inl rfl), hfit, fun m hm => absurd hm (by omega)⟩

set_option maxRecDepth 20000 in
theorem s_findStanding {G : GG} {f : Nat → Nat → Nat} {l : Nat → Nat → Int64} {D : DB} (hV : RV f l D) (hD : DW D) {U : QB} (hU : UV f l U) (hUW : UW U) (hSB : SB f) {S : Nat} (hS : S < 4096) : SpX G mX5_findStanding [.ref (ad G 57), .int (nI S)] f l (fun r f1 l1 => r = none ∧ Fra f f1 ∧ (∀ b, b < 2 ^ D.1 → (f1 62 b ≠ 0 ↔ STD D U S b)) ∧ Q3 f f1 ∧ l = l1) := by
  have hp3 := hUW.1
  have hp12 := p12 hUW.1
  have hR := hD.1
  have hFu : Fra f (unm f 62 (2 ^ D.1)) := Fra.unm62 f _
  have hV0 := hFu.RV hV
  have hU0 := hFu.UV hU
  refine SpX.of ok_X5_findStanding.1 (Nat.le_of_ble_eq_true rfl) ?_
  show Pm G RX5 cX5_findStanding 4 (KX G mX5_findStanding (fun r f1 l1 => r = none ∧ Fra f f1 ∧ (∀ b, b < 2 ^ D.1 → (f1 62 b ≠ 0 ↔ STD D U S b)) ∧ Q3 f f1 ∧ l = l1)) 0 [some (.ref (ad G 57)), some (.int (nI S)), none, none] [] f l
  refine P.aload_n dX5_findStanding_0 rfl rfl ?_
  refine g_X5_standing (q := 62) ly_57 (by decide) (by decide) fl_X5_30 dX5_findStanding_1 ?_
  refine P.aload_n dX5_findStanding_4 rfl rfl ?_
  refine g_X5_rows (q := 2) ly_57 (by decide) (by decide) fl_X5_34 dX5_findStanding_5 ?_
  refine g_X7_many ly_2 (by decide) fl_X5_77 dX5_findStanding_8 ?_
  refine Pm.topn (b := D.1) (hV.1) ?_
  refine P.callSN (As := [.ref (ad G 62), .int (nI D.1)]) (rest := []) (s_unmark ly_62 (by decide) hR) ok_X9_unmark (fitX (Nat.le_of_ble_eq_true rfl)) rfl mn_X5_82 rfl (Nat.le_of_ble_eq_true rfl) dX5_findStanding_11 ?_
  refine P.aload_n dX5_findStanding_14 rfl rfl ?_
  refine P.iload_n dX5_findStanding_15 rfl rfl ?_
  refine P.callVX (As := [.int (nI S)]) (rest := []) (s_findFitting hV0 hD hU0 hUW hS) ok_X5_findFitting (fitX (Nat.le_of_ble_eq_true rfl)) rfl ml_X5_65 ly_57 (by decide) (by decide) rfl rfl (Nat.le_of_ble_eq_true rfl) dX5_findStanding_16 (fun r f1 l1 hp => ?_)
  obtain ⟨rfl, e60, hfit, e⟩ := hp
  subst e
  refine P.aload_n dX5_findStanding_19 rfl rfl ?_
  refine P.callV (As := []) (rest := []) (s_manyTries ((e60.fra (Or.inl rfl)).UV hU0) hUW) ok_X5_manyTries (fitX (Nat.le_of_ble_eq_true rfl)) rfl ml_X5_69 ly_57 (by decide) (by decide) rfl rfl (Nat.le_of_ble_eq_true rfl) dX5_findStanding_20 ?_
  refine P.istore_n dX5_findStanding_23 rfl (by decide) ?_
  refine P.iconst dX5_findStanding_24 ic_0 ?_
  refine P.istore_n dX5_findStanding_25 rfl (by decide) ?_
  refine loop_up (M := fun (n : Nat) => ∀ g : Nat → Nat → Nat, IVq f D U S n g → Pm G _ _ _ _ 26 [some (.ref (ad G 57)), some (.int (nI S)), some (.int (nI (12 ^ U.1))), some (.int (nI n))] [] g l) (lo := 0) (N := (12 ^ U.1)) (by first | exact Nat.zero_le _ | omega) (fun n hn0 hn1 ihn => ?_) ?_ _ ?_
  · intro g hg
    have hVg := hg.1.RV hV
    have hUg := hg.1.UV hU
    have hg60 := hg.2.1
    show Pm G _ _ _ _ 26 [some (.ref (ad G 57)), some (.int (nI S)), some (.int (nI (12 ^ U.1))), some (.int (nI n))] [] g l
    refine P.iload_n dX5_findStanding_26 rfl rfl ?_
    refine P.iload_n dX5_findStanding_27 rfl rfl ?_
    refine P.icmp_ge_n (tgt := 55) dX5_findStanding_28 (by decide) (by omega) (by omega) (fun c_28 => ?_) (fun c_28 => ?_)
    · exfalso; omega
    refine P.aload_n dX5_findStanding_31 rfl rfl ?_
    refine P.iload_n dX5_findStanding_32 rfl rfl ?_
    refine P.callVX (As := [.int (nI n)]) (rest := []) (s_stood hVg hD hUg hUW hg60 (fun p => fitD_lt hD U S p) (by omega)) ok_X5_stood (fitX (Nat.le_of_ble_eq_true rfl)) rfl ml_X5_73 ly_57 (by decide) (by decide) rfl rfl (Nat.le_of_ble_eq_true rfl) dX5_findStanding_33 (fun r f2 l2 hp => ?_)
    obtain ⟨rfl, e61, htr, e⟩ := hp
    subst e
    refine P.if_eq_b (tgt := 49) dX5_findStanding_36 (by decide) (fun c_36 => ?_) (fun c_36 => ?_)
    · refine P.iinc dX5_findStanding_49 rfl (inc1 _) (by decide) ?_
      refine P.goto (tgt := 26) dX5_findStanding_52 (by decide) ?_
      show Pm G _ _ _ _ 26 [some (.ref (ad G 57)), some (.int (nI S)), some (.int (nI (12 ^ U.1))), some (.int (nI (n + 1)))] [] f2 l
      exact Pm.to (ihn _ (IVq_no hg e61 c_36)) (by simp [lle]) rfl rfl rfl
    refine P.aload_n dX5_findStanding_39 rfl rfl ?_
    refine g_X5_standing (q := 62) ly_57 (by decide) (by decide) fl_X5_30 dX5_findStanding_40 ?_
    refine P.aload_n dX5_findStanding_43 rfl rfl ?_
    refine P.callV (As := []) (rest := [.ref (ad G 62)]) (s_triedRows ((e61.fra (Or.inr rfl)).UV hUg) hUW (htr c_36) (dig_lt n)) ok_X5_triedRows (fitX (Nat.le_of_ble_eq_true rfl)) rfl ml_X5_86 ly_57 (by decide) (by decide) rfl rfl (Nat.le_of_ble_eq_true rfl) dX5_findStanding_44 ?_
    refine P.iconst dX5_findStanding_47 ic_1 ?_
    refine s_za (a := 1) ly_62 (by decide) (setR_lt (dig_lt n) _) (by decide) dX5_findStanding_48 rfl (by omega) ?_
    refine P.iinc dX5_findStanding_49 rfl (inc1 _) (by decide) ?_
    refine P.goto (tgt := 26) dX5_findStanding_52 (by decide) ?_
    show Pm G _ _ _ _ 26 [some (.ref (ad G 57)), some (.int (nI S)), some (.int (nI (12 ^ U.1))), some (.int (nI (n + 1)))] [] (uf f2 62 (setR (dig n) U.1) 1) l
    exact Pm.to (ihn _ (IVq_yes hg e61 c_36)) (by simp [lle]) rfl rfl rfl
  · intro g hg
    have hVg := hg.1.RV hV
    have hUg := hg.1.UV hU
    have hg60 := hg.2.1
    show Pm G _ _ _ _ 26 [some (.ref (ad G 57)), some (.int (nI S)), some (.int (nI (12 ^ U.1))), some (.int (nI (12 ^ U.1)))] [] g l
    refine P.iload_n dX5_findStanding_26 rfl rfl ?_
    refine P.iload_n dX5_findStanding_27 rfl rfl ?_
    refine P.icmp_ge_n (tgt := 55) dX5_findStanding_28 (by decide) (by omega) (by omega) (fun c_28 => ?_) (fun c_28 => ?_)
    · refine P.aload_n dX5_findStanding_55 rfl rfl ?_
      refine g_X5_standing (q := 62) ly_57 (by decide) (by decide) fl_X5_30 dX5_findStanding_56 ?_
      refine P.aload_n dX5_findStanding_59 rfl rfl ?_
      refine g_X5_rows (q := 2) ly_57 (by decide) (by decide) fl_X5_34 dX5_findStanding_60 ?_
      refine g_X7_many ly_2 (by decide) fl_X5_77 dX5_findStanding_63 ?_
      refine Pm.topn (b := D.1) (hVg.1) ?_
      refine P.callSN (As := [.ref (ad G 62), .int (nI D.1)]) (rest := []) (s_markWholes ly_62 (by decide) hR (fun b => (hg.1.2 hSB b).2.2)) ok_X9_markWholes (fitX (Nat.le_of_ble_eq_true rfl)) rfl mn_X5_89 rfl (Nat.le_of_ble_eq_true rfl) dX5_findStanding_66 ?_
      exact P.vretX rfl dX5_findStanding_69 ⟨rfl, (IVq_end hSB hg).1, (IVq_end hSB hg).2.1, (IVq_end hSB hg).2.2, rfl⟩
    · exfalso; omega
  · exact IVq_0 e60 hfit

set_option maxRecDepth 20000 in
theorem s_make {G : GG} {f : Nat → Nat → Nat} {l : Nat → Nat → Int64} {t k L : Nat} (ht : t < 4) (hk : k ≤ 6) (hL : L < 2147483648) : Spec G mX8_make [.ref (ad G (78 + 2 * t)), .int (nI k), .int (nI L)] 114 (f, l, refT) none 114 (mkl (uf f (78 + 2 * t) 1 k) t L k, l, refT) := by
  refine Spec.of ok_X8_make.1 ⟨Nat.le_refl _, Nat.le_refl _⟩ (Nat.le_of_ble_eq_true rfl) ?_
  show Pm G RX8 cX8_make 5 (KM G mX8_make 114 114 none (mkl (uf f (78 + 2 * t) 1 k) t L k, l, refT)) 0 [some (.ref (ad G (78 + 2 * t))), some (.int (nI k)), some (.int (nI L)), none, none] [] f l
  refine P.aload_n dX8_make_0 rfl rfl ?_
  refine P.iload_n dX8_make_1 rfl rfl ?_
  refine p_X8_columns (a := k) (ly_tab (r := t) (by omega)) (by omega) fl_X8_15 dX8_make_2 rfl ?_
  refine P.iload_n dX8_make_5 rfl rfl ?_
  refine P.istore_n dX8_make_6 rfl (by decide) ?_
  refine P.iconst dX8_make_7 ic_0 ?_
  refine P.istore dX8_make_8 (by decide) ?_
  show Pm G _ _ _ _ 10 [some (.ref (ad G (78 + 2 * t))), some (.int (nI k)), some (.int (nI L)), some (.int (nI L)), some (.int (nI 0))] [] (uf f (78 + 2 * t) 1 k) l
  refine P.to (ls := [some (.ref (ad G (78 + 2 * t))), some (.int (nI k)), some (.int (nI L)), some (.int (nI (L / 10 ^ 0))), some (.int (nI 0))]) ?_ (by simp [lle])
  refine loop_up (M := fun (i : Nat) => Pm G _ _ _ _ 10 [some (.ref (ad G (78 + 2 * t))), some (.int (nI k)), some (.int (nI L)), some (.int (nI (L / 10 ^ i))), some (.int (nI i))] [] (mkl (uf f (78 + 2 * t) 1 k) t L i) l) (lo := 0) (N := k) (by first | exact Nat.zero_le _ | omega) (fun i hi0 hi1 ihi => ?_) ?_
  · have hdl := Nat.div_le_self L (10 ^ i)
    show Pm G _ _ _ _ 10 [some (.ref (ad G (78 + 2 * t))), some (.int (nI k)), some (.int (nI L)), some (.int (nI (L / 10 ^ i))), some (.int (nI i))] [] (mkl (uf f (78 + 2 * t) 1 k) t L i) l
    refine P.iload dX8_make_10 rfl ?_
    refine P.iload_n dX8_make_12 rfl rfl ?_
    refine P.icmp_ge_n (tgt := 38) dX8_make_13 (by decide) (by omega) (by omega) (fun c_13 => ?_) (fun c_13 => ?_)
    · exfalso; omega
    refine P.aload_n dX8_make_16 rfl rfl ?_
    refine g_X8_lanes (q := 79 + 2 * t) (ly_tab (r := t) (by omega)) (by omega) (rt_lan (r := t) (by omega)) fl_X8_9 dX8_make_17 ?_
    refine P.iload dX8_make_20 rfl ?_
    refine P.iload_n dX8_make_22 rfl rfl ?_
    refine P.bipush (v := nI 10) dX8_make_23 rfl ?_
    refine P.irem_n dX8_make_25 (v := nI (L / 10 ^ i % 10)) (nI_ne0 (by omega) (by omega)) (pk_rem (by omega) (by omega) (by omega)) ?_
    refine s_ia (a := (L / 10 ^ i % 10)) (ly_lan (r := t) (by omega)) (by omega) (by omega) (by decide) dX8_make_26 rfl ?_
    refine P.iload_n dX8_make_27 rfl rfl ?_
    refine P.bipush (v := nI 10) dX8_make_28 rfl ?_
    refine P.idiv_n dX8_make_30 (v := nI (L / 10 ^ (i + 1))) (nI_ne0 (by omega) (by omega)) ((pk_div (by omega) (by omega) (by omega)).trans (by rw [ten_s])) ?_
    refine P.istore_n dX8_make_31 rfl (by decide) ?_
    refine P.iinc dX8_make_32 rfl (inc1 _) (by decide) ?_
    refine P.goto (tgt := 10) dX8_make_35 (by decide) ?_
    show Pm G _ _ _ _ 10 [some (.ref (ad G (78 + 2 * t))), some (.int (nI k)), some (.int (nI L)), some (.int (nI (L / 10 ^ (i + 1)))), some (.int (nI (i + 1)))] [] (uf (mkl (uf f (78 + 2 * t) 1 k) t L i) (79 + 2 * t) i (L / 10 ^ i % 10)) l
    exact Pm.to (ihi) (by simp [lle]) rfl (by rfl) rfl
  · show Pm G _ _ _ _ 10 [some (.ref (ad G (78 + 2 * t))), some (.int (nI k)), some (.int (nI L)), some (.int (nI (L / 10 ^ k))), some (.int (nI k))] [] (mkl (uf f (78 + 2 * t) 1 k) t L k) l
    refine P.iload dX8_make_10 rfl ?_
    refine P.iload_n dX8_make_12 rfl rfl ?_
    refine P.icmp_ge_n (tgt := 38) dX8_make_13 (by decide) (by omega) (by omega) (fun c_13 => ?_) (fun c_13 => ?_)
    · exact P.vret rfl dX8_make_38 rfl
    · exfalso; omega


-- the model's know: by program (wip/whole/spec49.py)
set_option maxRecDepth 20000 in
theorem t_know_0 {G : GG} {f : Nat → Nat → Nat} {l : Nat → Nat → Int64} {D : DB} {W : LB} {U : QB} {T : TB} {N : Nat} (hM : MV f l D W U T N) (hBW : BW D W U T) (h0 : f 86 28 ≠ 0) (h2 : f 86 28 < 2) : SpX G mX10_know [.ref (ad G 86)] f l (fun rv f1 l1 => rv = none ∧ f1 = f ∧ l = l1) := by
  obtain ⟨hD, hLW, hUW, hTW⟩ := id hBW
  have hR := hD.1
  have hW1 := hLW.1
  have hU1 := hUW.1
  have hJ1 := hUW.2.1
  refine SpX.of ok_X10_know.1 (Nat.le_of_ble_eq_true rfl) ?_
  show Pm G RX10 cX10_know 5 (KX G mX10_know (fun rv f1 l1 => rv = none ∧ f1 = f ∧ l = l1)) 0 [some (.ref (ad G 86)), none, none, none, none] [] f l
  refine P.aload_n dX10_know_0 rfl rfl ?_
  refine g_X10_isKnown ly_86 (by decide) fl_X10_121 dX10_know_1 ?_
  refine P.if_eq_n (tgt := 8) dX10_know_4 (by decide) (by omega) (fun c_4 => ?_) (fun c_4 => ?_)
  · exfalso; omega
  exact P.vretX rfl dX10_know_7 ⟨rfl, rfl, rfl⟩

set_option maxRecDepth 20000 in
theorem t_know_1 {G : GG} {f : Nat → Nat → Nat} {l : Nat → Nat → Int64} {D : DB} {W : LB} {U : QB} {T : TB} {N : Nat} (hM : MV f l D W U T N) (hBW : BW D W U T) (h0 : f 86 28 = 0) (hE : kL D W (2 ^ D.1) = MLs D W) : SpX G mX10_know [.ref (ad G 86)] f l (fun rv f1 l1 => rv = none ∧ KD f D W f1 ∧ l = l1) := by
  obtain ⟨hD, hLW, hUW, hTW⟩ := id hBW
  have hR := hD.1
  have hW1 := hLW.1
  have hU1 := hUW.1
  have hJ1 := hUW.2.1
  have hK4 := keptD_lt hD
  have hp12 := pow12 hR
  refine SpX.of ok_X10_know.1 (Nat.le_of_ble_eq_true rfl) ?_
  show Pm G RX10 cX10_know 5 (KX G mX10_know (fun rv f1 l1 => rv = none ∧ KD f D W f1 ∧ l = l1)) 0 [some (.ref (ad G 86)), none, none, none, none] [] f l
  refine P.aload_n dX10_know_0 rfl rfl ?_
  refine g_X10_isKnown ly_86 (by decide) fl_X10_121 dX10_know_1 ?_
  refine P.if_eq_n (tgt := 8) dX10_know_4 (by decide) (by omega) (fun c_4 => ?_) (fun c_4 => ?_)
  · refine P.aload_n dX10_know_8 rfl rfl ?_
    refine P.iconst dX10_know_9 ic_1 ?_
    refine p_X10_isKnown (a := 1) ly_86 (by decide) fl_X10_121 dX10_know_10 rfl (by omega) ?_
    refine P.aload_n dX10_know_13 rfl rfl ?_
    refine P.callV (As := []) (rest := []) (t_keptSet (hM.of (fun k j a b c => uf_ne f 1 (by omega))) hBW) ok_X10_keptSet (fitX (Nat.le_of_ble_eq_true rfl)) rfl ml_X10_170 ly_86 (by decide) (by decide) rfl rfl (Nat.le_of_ble_eq_true rfl) dX10_know_14 ?_
    refine P.istore_n dX10_know_17 rfl (by decide) ?_
    refine P.aload_n dX10_know_18 rfl rfl ?_
    refine P.iconst dX10_know_19 ic_0 ?_
    refine p_X10_many (a := 0) ly_86 (by decide) fl_X10_193 dX10_know_20 rfl ?_
    refine P.iconst dX10_know_23 ic_0 ?_
    refine P.istore_n dX10_know_24 rfl (by decide) ?_
    refine Pm.cf (wrK_0 f D W) ?_
    refine loop_up (M := fun (i : Nat) => Pm G _ _ _ _ 25 [some (.ref (ad G 86)), some (.int (nI (keptD D))), some (.int (nI i)), none, none] [] (wrK f D W i i) l) (lo := 0) (N := (2 ^ D.1)) (Nat.zero_le _) (fun i hi0 hi1 ihi => ?_) ?_
    · have hMa := hM.wrK (i + 1) i
      have hM := hM.wrK i i
      show Pm G _ _ _ _ 25 [some (.ref (ad G 86)), some (.int (nI (keptD D))), some (.int (nI i)), none, none] [] (wrK f D W i i) l
      refine P.iload_n dX10_know_25 rfl rfl ?_
      refine P.iconst dX10_know_26 ic_1 ?_
      refine P.aload_n dX10_know_27 rfl rfl ?_
      refine g_X10_rows ly_86 (by decide) fl_X10_106 dX10_know_28 ?_
      refine Pm.topn (b := D.1) (hM.R) ?_
      refine P.ishl dX10_know_31 (n_bit (by omega)) ?_
      refine P.icmp_ge_n (tgt := 157) dX10_know_32 (by decide) (by omega) (by omega) (fun c_32 => ?_) (fun c_32 => ?_)
      · exfalso; omega
      have hm67 : Pm G RX10 cX10_know 5 (KX G mX10_know (fun rv f1 l1 => rv = none ∧ KD f D W f1 ∧ l = l1)) 67 [some (.ref (ad G 86)), some (.int (nI (keptD D))), some (.int (nI i)), none, none] [.int (nI (bN (mdB D W i))), .int (nI i), .ref (ad G 110)] (wrK f D W i i) l := by
        refine s_za (a := (bN (mdB D W i))) ly_110 (by decide) (by omega) (by decide) dX10_know_67 rfl (bN_lt _) ?_
        refine Pm.cf (wrK_i f D W i i) ?_
        have hM := hMa
        refine P.aload_n dX10_know_68 rfl rfl ?_
        refine g_X10_mendsBy (q := 110) ly_86 (by decide) (by decide) fl_X10_81 dX10_know_69 ?_
        refine P.iload_n dX10_know_72 rfl rfl ?_
        refine a_za ly_110 (by decide) (by omega) (by decide) dX10_know_73 ?_
        refine Pm.topn (b := bN (mdB D W i)) ((wrK_mk (by omega))) ?_
        refine P.istore_n dX10_know_74 rfl (by decide) ?_
        refine P.iload_n dX10_know_75 rfl rfl ?_
        refine P.iconst dX10_know_76 ic_1 ?_
        refine P.isub_n dX10_know_77 rfl ?_
        refine P.iload_n dX10_know_78 rfl rfl ?_
        refine P.iand_n dX10_know_79 (pmk_eq (by omega)) ?_
        refine P.istore dX10_know_80 (by decide) ?_
        have hm127 : Pm G RX10 cX10_know 5 (KX G mX10_know (fun rv f1 l1 => rv = none ∧ KD f D W f1 ∧ l = l1)) 127 [some (.ref (ad G 86)), some (.int (nI (keptD D))), some (.int (nI i)), some (.int (nI (bN (kB D W i)))), none] [] (wrK f D W (i + 1) i) l := by
          refine P.iload_n dX10_know_127 rfl rfl ?_
          refine P.if_eq_n (tgt := 151) dX10_know_128 (by decide) (Nat.lt_trans (bN_lt _) (by decide)) (fun c_128 => ?_) (fun c_128 => ?_)
          · refine P.iinc dX10_know_151 rfl (inc1 _) (by decide) ?_
            refine P.goto (tgt := 25) dX10_know_154 (by decide) ?_
            show Pm G _ _ _ _ 25 [some (.ref (ad G 86)), some (.int (nI (keptD D))), some (.int (nI (i + 1))), some (.int (nI (bN (kB D W i)))), none] [] (wrK f D W (i + 1) i) l
            exact Pm.to (ihi) (by simp [lle]) rfl (by exact (wrK_f (bN_z.mp c_128)).symm) rfl
          refine P.aload_n dX10_know_131 rfl rfl ?_
          refine g_X10_leastOf (q := 109) ly_86 (by decide) (by decide) fl_X10_78 dX10_know_132 ?_
          refine P.aload_n dX10_know_135 rfl rfl ?_
          refine g_X10_many ly_86 (by decide) fl_X10_193 dX10_know_136 ?_
          refine Pm.topn (b := (kL D W i).length) ((wrK_len _ _ _ _ _)) ?_
          refine P.iload_n dX10_know_139 rfl rfl ?_
          refine s_ia (a := i) ly_109 (by decide) (by have := kL_len D W i; omega) (by decide) dX10_know_140 rfl ?_
          refine P.aload_n dX10_know_141 rfl rfl ?_
          refine P.dup dX10_know_142 rfl ?_
          refine g_X10_many ly_86 (by decide) fl_X10_193 dX10_know_143 ?_
          refine Pm.topn (b := (kL D W i).length) ((uf_ne _ _ (Or.inl (by omega))).trans ((wrK_len _ _ _ _ _))) ?_
          refine P.iconst dX10_know_146 ic_1 ?_
          refine P.iadd_n dX10_know_147 (nI_add _ _) ?_
          refine p_X10_many (a := (((kL D W i).length) + 1)) ly_86 (by decide) fl_X10_193 dX10_know_148 rfl ?_
          refine P.iinc dX10_know_151 rfl (inc1 _) (by decide) ?_
          refine P.goto (tgt := 25) dX10_know_154 (by decide) ?_
          show Pm G _ _ _ _ 25 [some (.ref (ad G 86)), some (.int (nI (keptD D))), some (.int (nI (i + 1))), some (.int (nI (bN (kB D W i)))), none] [] (uf (uf (wrK f D W (i + 1) i) 109 ((kL D W i).length) i) 86 29 (((kL D W i).length) + 1)) l
          exact Pm.to (ihi) (by simp [lle]) rfl (by exact (wrK_t (bN_nz.mp c_128)).symm) rfl
        have hdn : ∀ p, (p < i ∨ (p = 0 ∧ i = 0)) → subN p i → Pm G RX10 cX10_know 5 (KX G mX10_know (fun rv f1 l1 => rv = none ∧ KD f D W f1 ∧ l = l1)) 82 [some (.ref (ad G 86)), some (.int (nI (keptD D))), some (.int (nI i)), some (.int (nI (bN (kb D W i p)))), some (.int (nI p))] [] (wrK f D W (i + 1) i) l := by
          intro p
          induction p using Nat.strongRecOn with | ind p ihp => ?_
          intro hp1 hp2
          show Pm G _ _ _ _ 82 [some (.ref (ad G 86)), some (.int (nI (keptD D))), some (.int (nI i)), some (.int (nI (bN (kb D W i p)))), some (.int (nI p))] [] (wrK f D W (i + 1) i) l
          refine P.iload_n dX10_know_82 rfl rfl ?_
          refine P.if_eq_n (tgt := 127) dX10_know_83 (by decide) (Nat.lt_trans (bN_lt _) (by decide)) (fun c_83 => ?_) (fun c_83 => ?_)
          · show Pm G _ _ _ _ 127 [some (.ref (ad G 86)), some (.int (nI (keptD D))), some (.int (nI i)), some (.int (nI (bN (kb D W i p)))), some (.int (nI p))] [] (wrK f D W (i + 1) i) l
            exact Pm.to hm127 (by rw [kb_false (bN_z.mp c_83), bN_z.mp c_83]; simp [lle]) rfl rfl rfl
          refine P.iload dX10_know_86 rfl ?_
          refine P.iload_n dX10_know_88 rfl rfl ?_
          refine P.icmp_eq_n (tgt := 127) dX10_know_89 (by decide) (by omega) (by omega) (fun c_89 => ?_) (fun c_89 => ?_)
          · show Pm G _ _ _ _ 127 [some (.ref (ad G 86)), some (.int (nI (keptD D))), some (.int (nI i)), some (.int (nI (bN (kb D W i p)))), some (.int (nI p))] [] (wrK f D W (i + 1) i) l
            exact Pm.to hm127 (by rw [show i = 0 by omega, kb_i0]; simp [lle]) rfl rfl rfl
          refine P.aload_n dX10_know_92 rfl rfl ?_
          refine g_X10_mendsBy (q := 110) ly_86 (by decide) (by decide) fl_X10_81 dX10_know_93 ?_
          refine P.iload dX10_know_96 rfl ?_
          refine a_za ly_110 (by decide) (by omega) (by decide) dX10_know_98 ?_
          refine Pm.topn (b := bN (mdB D W p)) ((wrK_mk (by omega))) ?_
          refine P.if_ne_n (tgt := 106) dX10_know_99 (by decide) (Nat.lt_trans (bN_lt _) (by decide)) (fun c_99 => ?_) (fun c_99 => ?_)
          · refine P.iconst dX10_know_106 ic_0 ?_
            refine P.istore_n dX10_know_107 rfl (by decide) ?_
            refine P.iload dX10_know_108 rfl ?_
            refine P.if_ne_n (tgt := 116) dX10_know_110 (by decide) (by omega) (fun c_110 => ?_) (fun c_110 => ?_)
            · refine P.iload dX10_know_116 rfl ?_
              refine P.iconst dX10_know_118 ic_1 ?_
              refine P.isub_n dX10_know_119 rfl ?_
              refine P.iload_n dX10_know_120 rfl rfl ?_
              refine P.iand_n dX10_know_121 (pmk_eq (Or.inl c_110)) ?_
              refine P.istore dX10_know_122 (by decide) ?_
              refine P.goto (tgt := 82) dX10_know_124 (by decide) ?_
              show Pm G _ _ _ _ 82 [some (.ref (ad G 86)), some (.int (nI (keptD D))), some (.int (nI i)), some (.int (nI 0)), some (.int (nI (pmk p i)))] [] (wrK f D W (i + 1) i) l
              exact Pm.to (ihp (pmk p i) (pmk_lt c_110) (Or.inl (by have := pmk_lt (s := i) c_110; omega)) (pmk_sub p i)) (by rw [kb_step hp2 (by omega) c_110 (bN_nz.mp c_83)]; simp [lle, bN_nz.mp c_99, bN_f]) rfl rfl rfl
            refine P.goto (tgt := 127) dX10_know_113 (by decide) ?_
            show Pm G _ _ _ _ 127 [some (.ref (ad G 86)), some (.int (nI (keptD D))), some (.int (nI i)), some (.int (nI 0)), some (.int (nI p))] [] (wrK f D W (i + 1) i) l
            exact Pm.to hm127 (by rw [kb_zero (by omega) (by have := bN_nz.mp c_83; rwa [c_110] at this), show mdB D W 0 = true by have := bN_nz.mp c_99; rwa [c_110] at this]; simp [lle, bN_t, bN_f]) rfl rfl rfl
          refine P.iconst dX10_know_102 ic_1 ?_
          refine P.goto (tgt := 107) dX10_know_103 (by decide) ?_
          refine P.istore_n dX10_know_107 rfl (by decide) ?_
          refine P.iload dX10_know_108 rfl ?_
          refine P.if_ne_n (tgt := 116) dX10_know_110 (by decide) (by omega) (fun c_110 => ?_) (fun c_110 => ?_)
          · refine P.iload dX10_know_116 rfl ?_
            refine P.iconst dX10_know_118 ic_1 ?_
            refine P.isub_n dX10_know_119 rfl ?_
            refine P.iload_n dX10_know_120 rfl rfl ?_
            refine P.iand_n dX10_know_121 (pmk_eq (Or.inl c_110)) ?_
            refine P.istore dX10_know_122 (by decide) ?_
            refine P.goto (tgt := 82) dX10_know_124 (by decide) ?_
            show Pm G _ _ _ _ 82 [some (.ref (ad G 86)), some (.int (nI (keptD D))), some (.int (nI i)), some (.int (nI 1)), some (.int (nI (pmk p i)))] [] (wrK f D W (i + 1) i) l
            exact Pm.to (ihp (pmk p i) (pmk_lt c_110) (Or.inl (by have := pmk_lt (s := i) c_110; omega)) (pmk_sub p i)) (by rw [kb_step hp2 (by omega) c_110 (bN_nz.mp c_83)]; simp [lle, bN_z.mp c_99, bN_t]) rfl rfl rfl
          refine P.goto (tgt := 127) dX10_know_113 (by decide) ?_
          show Pm G _ _ _ _ 127 [some (.ref (ad G 86)), some (.int (nI (keptD D))), some (.int (nI i)), some (.int (nI 1)), some (.int (nI p))] [] (wrK f D W (i + 1) i) l
          exact Pm.to hm127 (by rw [kb_zero (by omega) (by have := bN_nz.mp c_83; rwa [c_110] at this), show mdB D W 0 = false by have := bN_z.mp c_99; rwa [c_110] at this]; simp [lle, bN_t, bN_f]) rfl rfl rfl
        show Pm G _ _ _ _ 82 [some (.ref (ad G 86)), some (.int (nI (keptD D))), some (.int (nI i)), some (.int (nI (bN (mdB D W i)))), some (.int (nI (pmk i i)))] [] (wrK f D W (i + 1) i) l
        exact Pm.to (hdn (pmk i i) (by by_cases h : i = 0; exact Or.inr ⟨by subst h; rfl, h⟩; exact Or.inl (pmk_lt h)) (pmk_sub i i)) (by rw [kb_start]; simp [lle]) rfl rfl rfl
      refine P.aload_n dX10_know_35 rfl rfl ?_
      refine g_X10_mendsBy (q := 110) ly_86 (by decide) (by decide) fl_X10_81 dX10_know_36 ?_
      refine P.iload_n dX10_know_39 rfl rfl ?_
      refine P.iload_n dX10_know_40 rfl rfl ?_
      refine P.iload_n dX10_know_41 rfl rfl ?_
      refine P.iconst (v := -1) dX10_know_42 rfl ?_
      refine P.ixor dX10_know_43 ?_
      refine P.iand_n dX10_know_44 (n_not _ _) ?_
      refine P.if_ne_n (tgt := 66) dX10_know_45 (by decide) (by have := sd_le i (keptD D); omega) (fun c_45 => ?_) (fun c_45 => ?_)
      · refine P.iconst dX10_know_66 ic_0 ?_
        show Pm G _ _ _ _ 67 [some (.ref (ad G 86)), some (.int (nI (keptD D))), some (.int (nI i)), none, none] [.int (nI 0), .int (nI i), .ref (ad G 110)] (wrK f D W i i) l
        exact Pm.to hm67 (by simp [lle]) (by rw [mdB, beq_false_of_ne c_45]; rfl) rfl rfl
      refine P.aload_n dX10_know_48 rfl rfl ?_
      refine P.iload_n dX10_know_49 rfl rfl ?_
      refine P.iload_n dX10_know_50 rfl rfl ?_
      refine P.iconst (v := -1) dX10_know_51 rfl ?_
      refine P.ixor dX10_know_52 ?_
      refine P.iand_n dX10_know_53 (n_not _ _) ?_
      refine P.callV (As := [.int (nI (sd (keptD D) i))]) (rest := [.int (nI i), .ref (ad G 110)]) (t_firstBroken (S := sd (keptD D) i) hM hBW (by have := sd_le (keptD D) i; omega)) ok_X10_firstBroken (fitX (Nat.le_of_ble_eq_true rfl)) rfl ml_X10_190 ly_86 (by decide) (by decide) rfl rfl (Nat.le_of_ble_eq_true rfl) dX10_know_54 ?_
      refine P.bipush (v := -9) dX10_know_57 rfl ?_
      refine P.icmp_ne_z (tgt := 66) dX10_know_59 (by decide) rfl (show (-9 : Int32).toInt = -9 from rfl) (fun c_59 => ?_) (fun c_59 => ?_)
      · refine P.iconst dX10_know_66 ic_0 ?_
        show Pm G _ _ _ _ 67 [some (.ref (ad G 86)), some (.int (nI (keptD D))), some (.int (nI i)), none, none] [.int (nI 0), .int (nI i), .ref (ad G 110)] (wrK f D W i i) l
        exact Pm.to hm67 (by simp [lle]) (by rw [mdB, Bool.eq_false_iff.mpr (fun z => c_59 ((fb_none hW1).mpr z)), Bool.and_false]; rfl) rfl rfl
      refine P.iconst dX10_know_62 ic_1 ?_
      refine P.goto (tgt := 67) dX10_know_63 (by decide) ?_
      show Pm G _ _ _ _ 67 [some (.ref (ad G 86)), some (.int (nI (keptD D))), some (.int (nI i)), none, none] [.int (nI 1), .int (nI i), .ref (ad G 110)] (wrK f D W i i) l
      exact Pm.to hm67 (by simp [lle]) (by rw [mdB, c_45, (fb_none hW1).mp c_59]; rfl) rfl rfl
    · show Pm G _ _ _ _ 25 [some (.ref (ad G 86)), some (.int (nI (keptD D))), some (.int (nI (2 ^ D.1))), none, none] [] (wrK f D W (2 ^ D.1) (2 ^ D.1)) l
      refine P.iload_n dX10_know_25 rfl rfl ?_
      refine P.iconst dX10_know_26 ic_1 ?_
      refine P.aload_n dX10_know_27 rfl rfl ?_
      refine g_X10_rows ly_86 (by decide) fl_X10_106 dX10_know_28 ?_
      refine Pm.topn (b := D.1) (hM.R) ?_
      refine P.ishl dX10_know_31 (n_bit (by omega)) ?_
      refine P.icmp_ge_n (tgt := 157) dX10_know_32 (by decide) (by omega) (by omega) (fun c_32 => ?_) (fun c_32 => ?_)
      · exact P.vretX rfl dX10_know_157 ⟨rfl, KD.new f hE _, rfl⟩
      · exfalso; omega
  · exfalso; omega

theorem t_know {G : GG} {f : Nat → Nat → Nat} {l : Nat → Nat → Int64} {D : DB} {W : LB} {U : QB} {T : TB} {N : Nat} (hM : MV f l D W U T N) (hBW : BW D W U T) (hN : KN f D W) (hE : kL D W (2 ^ D.1) = MLs D W) : SpX G mX10_know [.ref (ad G 86)] f l (fun rv f1 l1 => rv = none ∧ KD f D W f1 ∧ l = l1) := by
  by_cases h0 : f 86 28 = 0
  · exact t_know_1 hM hBW h0 hE
  · exact (t_know_0 hM hBW h0 hN.1).mono (fun r f' l' h => ⟨h.1, by rw [h.2.1]; exact KD.of hN h0, h.2.2⟩)


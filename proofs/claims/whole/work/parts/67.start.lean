-- the law's loop; the world at its start; the walk of the law's body: by program (wip/whole/gen67.py)
theorem sub9 {L : Nat} (hL : L ≤ 4608) : (Int32.ofNat L - nI 9).toInt = (L : Int) - 9 := by
  show (nI L - nI 9).toInt = (L : Int) - 9
  by_cases h : 9 ≤ L
  · rw [pk_sub h, zN (by omega)]
    omega
  · have key : ∀ L, L < 9 → (nI L - nI 9).toInt = (L : Int) - 9 := by decide +kernel
    exact key L (by omega)
theorem add9 (i : Nat) : nI i + Int32.ofInt 9 = nI (i + 9) := nI_add i 9
theorem law_loop {G : GG} {b L : Nat} {xs : Nat → Int32} (hL : L ≤ 4608) : ∀ (k i : Nat), L ≤ i + k → i ≤ L + 9 → ∀ (f : Nat → Nat → Nat) (l : Nat → Nat → Int64), JJ f l → Pm G RL cL_law 4 (KLw G b L xs) 18 [some (.ref b), some (.ref (ad G 0)), some (.ref (ad G 86)), some (.int (nI i))] [] f l := by
  intro k
  induction k with
  | zero =>
    intro i h1 h2 f l hJ
    refine P.iload_n dL_law_18 rfl rfl ?_
    refine P.aload_n dL_law_19 rfl rfl ?_
    refine P.slen dL_law_20 ?_
    refine P.bipush (v := nI 9) dL_law_21 rfl ?_
    refine P.isub dL_law_23 ?_
    refine P.icmp_gt_z (tgt := 1376) dL_law_24 (by decide) (zN (by omega)) (sub9 hL) (fun hc => ?_) (fun hc => ?_)
    · refine P.iconst dL_law_1376 ic_1 ?_
      exact P.lwret dL_law_1377
    · exfalso; omega
  | succ k ih =>
    intro i h1 h2 f l hJ
    refine P.iload_n dL_law_18 rfl rfl ?_
    refine P.aload_n dL_law_19 rfl rfl ?_
    refine P.slen dL_law_20 ?_
    refine P.bipush (v := nI 9) dL_law_21 rfl ?_
    refine P.isub dL_law_23 ?_
    refine P.icmp_gt_z (tgt := 1376) dL_law_24 (by decide) (zN (by omega)) (sub9 hL) (fun hc => ?_) (fun hc => ?_)
    · refine P.iconst dL_law_1376 ic_1 ?_
      exact P.lwret dL_law_1377
    have hi : i + 9 ≤ L := by omega
    have hcont : ∀ (f : Nat → Nat → Nat) (l : Nat → Nat → Int64), JJ f l → Pm G RL cL_law 4 (KLw G b L xs) 1370 [some (.ref b), some (.ref (ad G 0)), some (.ref (ad G 86)), some (.int (nI i))] [] f l := by
      intro f l hJ
      refine P.iinc (v := nI (i + 9)) dL_law_1370 rfl (add9 i) (by decide) ?_
      refine P.goto (tgt := 18) dL_law_1373 (by decide) ?_
      exact ih (i + 9) (by omega) (by omega) f l hJ
    refine P.aload_n dL_law_27 rfl rfl ?_
    refine P.iload_n dL_law_28 rfl rfl ?_
    refine P.sld (i := i) (by omega) hL dL_law_29 ?_
    refine P.bipush (v := nI 63) dL_law_30 rfl ?_
    refine P.iand dL_law_32 ?_
    show Pm G RL cL_law 4 (KLw G b L xs) 33 [some (.ref b), some (.ref (ad G 0)), some (.ref (ad G 86)), some (.int (nI i))] [.int (xs i &&& nI 63)] f l
    rcases inR_cases (xs i &&& nI 63) 35 with hx | ⟨j, hj, e⟩
    · have hx2 := inR_f.mp hx
      exact P.tableOut (tgt := 1370) dL_law_33 (by omega) (by decide) (hcont f l hJ)
    rw [e]
    rcases (show j = 0 ∨ j = 1 ∨ j = 2 ∨ j = 3 ∨ j = 4 ∨ j = 5 ∨ j = 6 ∨ j = 7 ∨ j = 8 ∨ j = 9 ∨ j = 10 ∨ j = 11 ∨ j = 12 ∨ j = 13 ∨ j = 14 ∨ j = 15 ∨ j = 16 ∨ j = 17 ∨ j = 18 ∨ j = 19 ∨ j = 20 ∨ j = 21 ∨ j = 22 ∨ j = 23 ∨ j = 24 ∨ j = 25 ∨ j = 26 ∨ j = 27 ∨ j = 28 ∨ j = 29 ∨ j = 30 ∨ j = 31 ∨ j = 32 ∨ j = 33 ∨ j = 34 by omega) with rfl | rfl | rfl | rfl | rfl | rfl | rfl | rfl | rfl | rfl | rfl | rfl | rfl | rfl | rfl | rfl | rfl | rfl | rfl | rfl | rfl | rfl | rfl | rfl | rfl | rfl | rfl | rfl | rfl | rfl | rfl | rfl | rfl | rfl | rfl
    · exact P.tableIn (off := 155) (tgt := 188) dL_law_33 (by decide) (by decide) rfl (by decide) (lc_0 hL hi hJ hcont)
    · exact P.tableIn (off := 198) (tgt := 231) dL_law_33 (by decide) (by decide) rfl (by decide) (lc_1 hL hi hJ hcont)
    · exact P.tableIn (off := 231) (tgt := 264) dL_law_33 (by decide) (by decide) rfl (by decide) (lc_2 hL hi hJ hcont)
    · exact P.tableIn (off := 304) (tgt := 337) dL_law_33 (by decide) (by decide) rfl (by decide) (lc_3 hL hi hJ hcont)
    · exact P.tableIn (off := 337) (tgt := 370) dL_law_33 (by decide) (by decide) rfl (by decide) (lc_4 hL hi hJ hcont)
    · exact P.tableIn (off := 370) (tgt := 403) dL_law_33 (by decide) (by decide) rfl (by decide) (lc_5 hL hi hJ hcont)
    · exact P.tableIn (off := 404) (tgt := 437) dL_law_33 (by decide) (by decide) rfl (by decide) (lc_6 hL hi hJ hcont)
    · exact P.tableIn (off := 447) (tgt := 480) dL_law_33 (by decide) (by decide) rfl (by decide) (lc_7 hL hi hJ hcont)
    · exact P.tableIn (off := 480) (tgt := 513) dL_law_33 (by decide) (by decide) rfl (by decide) (lc_8 hL hi hJ hcont)
    · exact P.tableIn (off := 529) (tgt := 562) dL_law_33 (by decide) (by decide) rfl (by decide) (lc_9 hL hi hJ hcont)
    · exact P.tableIn (off := 562) (tgt := 595) dL_law_33 (by decide) (by decide) rfl (by decide) (lc_10 hL hi hJ hcont)
    · exact P.tableIn (off := 701) (tgt := 734) dL_law_33 (by decide) (by decide) rfl (by decide) (lc_11 hL hi hJ hcont)
    · exact P.tableIn (off := 754) (tgt := 787) dL_law_33 (by decide) (by decide) rfl (by decide) (lc_12 hL hi hJ hcont)
    · exact P.tableIn (off := 803) (tgt := 836) dL_law_33 (by decide) (by decide) rfl (by decide) (lc_13 hL hi hJ hcont)
    · exact P.tableIn (off := 827) (tgt := 860) dL_law_33 (by decide) (by decide) rfl (by decide) (lc_14 hL hi hJ hcont)
    · exact P.tableIn (off := 850) (tgt := 883) dL_law_33 (by decide) (by decide) rfl (by decide) (lc_15 hL hi hJ hcont)
    · exact P.tableIn (off := 883) (tgt := 916) dL_law_33 (by decide) (by decide) rfl (by decide) (lc_16 hL hi hJ hcont)
    · exact P.tableIn (off := 896) (tgt := 929) dL_law_33 (by decide) (by decide) rfl (by decide) (lc_17 hL hi hJ hcont)
    · exact P.tableIn (off := 919) (tgt := 952) dL_law_33 (by decide) (by decide) rfl (by decide) (lc_18 hL hi hJ hcont)
    · exact P.tableIn (off := 932) (tgt := 965) dL_law_33 (by decide) (by decide) rfl (by decide) (lc_19 hL hi hJ hcont)
    · exact P.tableIn (off := 955) (tgt := 988) dL_law_33 (by decide) (by decide) rfl (by decide) (lc_20 hL hi hJ hcont)
    · exact P.tableIn (off := 968) (tgt := 1001) dL_law_33 (by decide) (by decide) rfl (by decide) (lc_21 hL hi hJ hcont)
    · exact P.tableIn (off := 981) (tgt := 1014) dL_law_33 (by decide) (by decide) rfl (by decide) (lc_22 hL hi hJ hcont)
    · exact P.tableIn (off := 1004) (tgt := 1037) dL_law_33 (by decide) (by decide) rfl (by decide) (lc_23 hL hi hJ hcont)
    · exact P.tableIn (off := 1064) (tgt := 1097) dL_law_33 (by decide) (by decide) rfl (by decide) (lc_24 hL hi hJ hcont)
    · exact P.tableIn (off := 1077) (tgt := 1110) dL_law_33 (by decide) (by decide) rfl (by decide) (lc_25 hL hi hJ hcont)
    · exact P.tableIn (off := 1100) (tgt := 1133) dL_law_33 (by decide) (by decide) rfl (by decide) (lc_26 hL hi hJ hcont)
    · exact P.tableIn (off := 1113) (tgt := 1146) dL_law_33 (by decide) (by decide) rfl (by decide) (lc_27 hL hi hJ hcont)
    · exact P.tableIn (off := 1136) (tgt := 1169) dL_law_33 (by decide) (by decide) rfl (by decide) (lc_28 hL hi hJ hcont)
    · exact P.tableIn (off := 1209) (tgt := 1242) dL_law_33 (by decide) (by decide) rfl (by decide) (lc_29 hL hi hJ hcont)
    · exact P.tableIn (off := 1262) (tgt := 1295) dL_law_33 (by decide) (by decide) rfl (by decide) (lc_30 hL hi hJ hcont)
    · exact P.tableIn (off := 1275) (tgt := 1308) dL_law_33 (by decide) (by decide) rfl (by decide) (lc_31 hL hi hJ hcont)
    · exact P.tableIn (off := 1288) (tgt := 1321) dL_law_33 (by decide) (by decide) rfl (by decide) (lc_32 hL hi hJ hcont)
    · exact P.tableIn (off := 1301) (tgt := 1334) dL_law_33 (by decide) (by decide) rfl (by decide) (lc_33 hL hi hJ hcont)
    · exact P.tableIn (off := 1314) (tgt := 1347) dL_law_33 (by decide) (by decide) rfl (by decide) (lc_34 hL hi hJ hcont)
-- references behind the constructors
theorem rX10_far : ∀ k j, 40 ≤ j → rX10 k j = none := by
  intro k j h
  unfold rX10 rX9 rX5 rX3 rX2 rX7
  repeat (first | rfl | rw [uf_ne _ _ (Or.inr (by omega))])
theorem refC_len : ∀ k, k < 114 → ((refC.lookup k).getD []).length ≤ 40 := by decide +kernel
theorem refT_far {k j : Nat} (hk : k < 114) (h : 40 ≤ j) : refT k j = none := by
  unfold refT
  repeat (first | (rw [if_neg (by omega)]; done) | (split; · first | rfl | (rw [if_neg (by omega)]) ))
  have := refC_len k hk
  cases hl : refC.lookup k with
  | none => rfl
  | some l =>
    rw [hl] at this
    have h2 : l.length ≤ 40 := this
    show l.getD j none = none
    simp [List.getD_eq_getElem?_getD, List.getElem?_eq_none (show l.length ≤ j by omega)]
theorem rX10_eq {k : Nat} (hk : k < 114) : rX10 k = refT k := by
  funext j
  by_cases h : j < 40
  · exact rX10_all k hk j h
  · rw [rX10_far k j (by omega), refT_far hk (by omega)]
theorem P.refs {G : GG} {own : String} {cc : ByteArray} {nL : Nat} {K : KK} {pc : Nat} {ls : List (Option Value)} {st : List Value} {f : Nat → Nat → Nat} {l : Nat → Nat → Int64} (h : Pm G own cc nL K pc ls st f l) : P G own cc nL K pc ls st 114 (f, l, rX10) := by
  intro p e s m args below meth c hM hX H locs lsA hH hS hl h1 h2
  refine h p e s m args below meth c hM hX H locs lsA ⟨hH.1, ?_⟩ hS hl h1 h2
  have e : wsl G 114 (f, l, refT) = wsl G 114 (f, l, rX10) := by
    unfold wsl
    apply List.map_congr_left
    intro k hk
    rw [cellOf_row (σ := (f, l, rX10)) (σ' := (f, l, refT)) (k := k) rfl rfl (rX10_eq (List.mem_range.mp hk)).symm]
  rw [e]
  exact hH.2
theorem JJ_0 : JJ z0 z0l :=
  ⟨(0, z0, z0, z0l), (0, z0, z0l), (0, fun _ => 0, z0, z0l, 0, z0), (fun _ => 0, z0), 0,
   ⟨⟨rfl, fun _ _ _ => rfl, fun _ _ _ => rfl, fun _ _ _ => rfl⟩, ⟨rfl, fun _ _ _ => rfl, fun _ _ _ => rfl⟩, ⟨rfl, fun _ _ => rfl, fun _ _ _ => rfl, fun _ _ _ => rfl, rfl, fun _ _ _ => rfl⟩, ⟨fun _ _ => rfl, fun _ _ _ => rfl⟩, rfl, fun _ => ⟨by show 0 < 2; decide, by show 0 < 2; decide, by show 0 < 2; decide⟩⟩,
   ⟨rfl, fun _ _ => rfl, fun _ _ => rfl, fun _ _ => rfl, fun _ _ _ _ => rfl, fun _ _ _ _ => rfl, rfl, fun _ _ => rfl, fun _ _ => rfl, fun _ _ => rfl, fun _ _ _ _ => rfl, fun _ _ _ => rfl, fun _ _ _ => rfl, fun _ _ _ => rfl, fun _ _ => rfl, rfl, rfl, fun _ _ => rfl, fun _ _ _ _ => rfl, fun _ _ _ _ => rfl, rfl, fun _ _ => rfl, fun _ _ => rfl, fun _ _ => rfl, fun _ _ => rfl, fun _ _ => rfl, fun _ _ _ _ => rfl⟩,
   ⟨by decide, fun h => absurd rfl h⟩,
   ⟨⟨⟨Nat.zero_le _, fun _ _ => by show 0 < 2147483648; decide, fun _ _ => by show 0 < 2147483648; decide, fun r hr => absurd hr (Nat.not_lt_zero _)⟩, ⟨Nat.zero_le _, fun w hw => absurd hw (Nat.not_lt_zero _)⟩, ⟨Nat.zero_le _, Nat.zero_le _, fun p hp => absurd hp (Nat.not_lt_zero _), fun j hj => absurd hj (Nat.not_lt_zero _)⟩, ⟨fun _ _ => by show 0 ≤ 6; decide, fun _ _ _ => by show 0 < 6; decide⟩⟩,
    fun w hw => absurd hw (Nat.not_lt_zero _), fun _ _ _ _ => rfl, fun _ _ _ => rfl, fun _ _ => rfl, fun _ _ => by show 0 < 2; decide⟩⟩
theorem kn_all {s : State} {args : Array Value} (hts : ∀ w ∈ lw_tbl, w.before args s = true) : ∀ k : Nat, ∃ (cC : ClassId) (iS : Nat → Nat), ∀ q : vw_C, vwCl[k]? = some q → u_Kn s q.1 q.2.1 q.2.2 cC iS := by
  intro k
  match k with
  | 0 =>
    obtain ⟨a, b, h⟩ := u_known (C := RX0) (T := TX0) (N := 4) (n := 4) hts inX0 (hts _ in_X0)
    exact ⟨a, b, fun q hq => by cases hq; exact h⟩
  | 1 =>
    obtain ⟨a, b, h⟩ := u_known (C := RX1) (T := TX1) (N := 8) (n := 8) hts inX1 (hts _ in_X1)
    exact ⟨a, b, fun q hq => by cases hq; exact h⟩
  | 2 =>
    obtain ⟨a, b, h⟩ := u_known (C := RX2) (T := TX2) (N := 5) (n := 5) hts inX2 (hts _ in_X2)
    exact ⟨a, b, fun q hq => by cases hq; exact h⟩
  | 3 =>
    obtain ⟨a, b, h⟩ := u_known (C := RX3) (T := TX3) (N := 7) (n := 7) hts inX3 (hts _ in_X3)
    exact ⟨a, b, fun q hq => by cases hq; exact h⟩
  | 4 =>
    obtain ⟨a, b, h⟩ := u_known (C := RX4) (T := TX4) (N := 3) (n := 3) hts inX4 (hts _ in_X4)
    exact ⟨a, b, fun q hq => by cases hq; exact h⟩
  | 5 =>
    obtain ⟨a, b, h⟩ := u_known (C := RX5) (T := TX5) (N := 8) (n := 8) hts inX5 (hts _ in_X5)
    exact ⟨a, b, fun q hq => by cases hq; exact h⟩
  | 6 =>
    obtain ⟨a, b, h⟩ := u_known (C := RX6) (T := TX6) (N := 5) (n := 5) hts inX6 (hts _ in_X6)
    exact ⟨a, b, fun q hq => by cases hq; exact h⟩
  | 7 =>
    obtain ⟨a, b, h⟩ := u_known (C := RX7) (T := TX7) (N := 2) (n := 2) hts inX7 (hts _ in_X7)
    exact ⟨a, b, fun q hq => by cases hq; exact h⟩
  | 8 =>
    obtain ⟨a, b, h⟩ := u_known (C := RX8) (T := TX8) (N := 2) (n := 2) hts inX8 (hts _ in_X8)
    exact ⟨a, b, fun q hq => by cases hq; exact h⟩
  | 9 =>
    obtain ⟨a, b, h⟩ := u_known (C := RX9) (T := TX9) (N := 6) (n := 6) hts inX9 (hts _ in_X9)
    exact ⟨a, b, fun q hq => by cases hq; exact h⟩
  | 10 =>
    obtain ⟨a, b, h⟩ := u_known (C := RX10) (T := TX10) (N := 36) (n := 36) hts inX10 (hts _ in_X10)
    exact ⟨a, b, fun q hq => by cases hq; exact h⟩
  | k + 11 => exact ⟨0, fun _ => 0, fun q hq => by simp [vwCl] at hq⟩
theorem ar_p {s : State} {args : Array Value} {ty : FieldType} (hn : ∀ C, ty ≠ .object C) (h : (Cond.arrayClass ty).before args s = true) : ∃ c : ClassId, ArrOfT s c ty ∧ va_RA s c ty := by
  obtain ⟨c, k, comp, h1, h2, h3⟩ := Cond.arrayClass_spec h
  refine ⟨c, fun n z => ⟨fun k h => (by cases h), k, h2, comp, h3⟩, ?_⟩
  cases ty with
  | object C => exact absurd rfl (hn C)
  | _ => exact h1
theorem ar_o {s : State} {args : Array Value} {C : String} (h : (Cond.arrayOver (.object C)).before args s = true) : ∃ c : ClassId, ArrOfT s c (.object C) ∧ va_RA s c (.object C) := by
  obtain ⟨comp, c, k, h1, h2, h3, h4, h5⟩ := Cond.arrayOver_spec h
  exact ⟨c, fun n z => ⟨fun k h => (by cases h), k, h3, comp, h4⟩, k, comp, h3, h4, h1, h5⟩
theorem nest_ok {w : Cond} (h : isNest w = true) : w.onTables = true := by
  cases w <;> first | rfl | (simp [isNest] at h; done)
theorem start_Kl {s : State} {args : Array Value} (l : Launch) (hts : ∀ w ∈ lw_tbl, w.before args s = true) : ∃ G : GG, G.1 = l ∧ G.2.2.2 = s.heap.size ∧ Kl G s := by
  have hk := kn_all hts
  obtain ⟨c0, a0⟩ := ar_p (ty := .int) (fun C h => by cases h) (hts _ ac_int)
  obtain ⟨c1, a1⟩ := ar_p (ty := .long) (fun C h => by cases h) (hts _ ac_long)
  obtain ⟨c2, a2⟩ := ar_p (ty := .boolean) (fun C h => by cases h) (hts _ ac_boolean)
  obtain ⟨c20, a20⟩ := ar_o (hts _ ao_X0)
  obtain ⟨c21, a21⟩ := ar_o (hts _ ao_X1)
  obtain ⟨c24, a24⟩ := ar_o (hts _ ao_X4)
  obtain ⟨c26, a26⟩ := ar_o (hts _ ao_X6)
  obtain ⟨c28, a28⟩ := ar_o (hts _ ao_X8)
  refine ⟨(l, (fun k => Classical.choose (hk k), fun k => Classical.choose (Classical.choose_spec (hk k))), (fun k => if k = 0 then c0 else if k = 1 then c1 else if k = 2 then c2 else if k = 20 then c20 else if k = 21 then c21 else if k = 24 then c24 else if k = 26 then c26 else c28), s.heap.size), rfl, rfl, ⟨fun k q hq => Classical.choose_spec (Classical.choose_spec (hk k)) q hq, fun k q hq => ?_⟩, fun w hw => ?_, fun C hC => ?_⟩
  · match k, hq with
    | 0, hq => cases hq; exact a0
    | 1, hq => cases hq; exact a1
    | 2, hq => cases hq; exact a2
    | 3, hq => cases hq; exact a20
    | 4, hq => cases hq; exact a21
    | 5, hq => cases hq; exact a24
    | 6, hq => cases hq; exact a26
    | 7, hq => cases hq; exact a28
    | k + 8, hq => simp [tysl] at hq
  · have h2 := List.mem_filter.mp hw
    exact va_Nw.of (nest_ok h2.2) (hts w h2.1)
  · simp only [overs, List.mem_cons, List.not_mem_nil, or_false] at hC
    rcases hC with rfl | rfl | rfl | rfl | rfl
    · exact va_AO.of (hts _ ao_X0)
    · exact va_AO.of (hts _ ao_X1)
    · exact va_AO.of (hts _ ao_X4)
    · exact va_AO.of (hts _ ao_X6)
    · exact va_AO.of (hts _ ao_X8)
set_option maxRecDepth 20000 in
theorem law_all {G : GG} {b L : Nat} {xs : Nat → Int32} (hL : L ≤ 4608) : P G RL cL_law 4 (KLw G b L xs) 0 [some (.ref b), none, none, none] [] 0 (z0, z0l, r0) := by
  refine P.new (ci := 9) (N := 6) (T := TX9) tyX9 tyX9_ok rfl inX9 (by decide +kernel) (by decide) (fun j hj => by rcases (show j = 0 ∨ j = 1 ∨ j = 2 ∨ j = 3 ∨ j = 4 ∨ j = 5 by omega) with rfl | rfl | rfl | rfl | rfl | rfl <;> rfl) cl_L_7 in_X9 ini_X9 (roo_lw (by decide)) dL_law_0 ?_
  refine P.dup dL_law_3 rfl ?_
  show P G RL cL_law 4 (KLw G b L xs) 4 [some (.ref b), none, none, none] [.ref (ad G 0), .ref (ad G 0)] 1 (z0, z0l, r0)
  refine P.callI (As := []) (rest := [.ref (ad G 0)]) i_X9 ok_X9_init (fit_lw (by decide) (by decide)) rfl ml_L_9 rfl (Nat.le_of_ble_eq_true rfl) dL_law_4 ?_
  refine P.astore_n dL_law_7 rfl (by decide) ?_
  show P G RL cL_law 4 (KLw G b L xs) 8 [some (.ref b), some (.ref (ad G 0)), none, none] [] 86 (z0, z0l, rX9)
  refine P.new (ci := 10) (N := 36) (T := TX10) tyX10 tyX10_ok rfl inX10 (by decide +kernel) (by decide) (fun j hj => by rcases (show j = 0 ∨ j = 1 ∨ j = 2 ∨ j = 3 ∨ j = 4 ∨ j = 5 ∨ j = 6 ∨ j = 7 ∨ j = 8 ∨ j = 9 ∨ j = 10 ∨ j = 11 ∨ j = 12 ∨ j = 13 ∨ j = 14 ∨ j = 15 ∨ j = 16 ∨ j = 17 ∨ j = 18 ∨ j = 19 ∨ j = 20 ∨ j = 21 ∨ j = 22 ∨ j = 23 ∨ j = 24 ∨ j = 25 ∨ j = 26 ∨ j = 27 ∨ j = 28 ∨ j = 29 ∨ j = 30 ∨ j = 31 ∨ j = 32 ∨ j = 33 ∨ j = 34 ∨ j = 35 by omega) with rfl | rfl | rfl | rfl | rfl | rfl | rfl | rfl | rfl | rfl | rfl | rfl | rfl | rfl | rfl | rfl | rfl | rfl | rfl | rfl | rfl | rfl | rfl | rfl | rfl | rfl | rfl | rfl | rfl | rfl | rfl | rfl | rfl | rfl | rfl | rfl <;> rfl) cl_L_10 in_X10 ini_X10 (roo_lw (by decide)) dL_law_8 ?_
  refine P.dup dL_law_11 rfl ?_
  show P G RL cL_law 4 (KLw G b L xs) 12 [some (.ref b), some (.ref (ad G 0)), none, none] [.ref (ad G 86), .ref (ad G 86)] 87 (z0, z0l, rX9)
  refine P.callI (As := []) (rest := [.ref (ad G 86)]) i_X10 ok_X10_init (fit_lw (by decide) (by decide)) rfl ml_L_12 rfl (Nat.le_of_ble_eq_true rfl) dL_law_12 ?_
  refine P.astore_n dL_law_15 rfl (by decide) ?_
  refine P.iconst dL_law_16 ic_0 ?_
  refine P.istore_n dL_law_17 rfl (by decide) ?_
  show P G RL cL_law 4 (KLw G b L xs) 18 [some (.ref b), some (.ref (ad G 0)), some (.ref (ad G 86)), some (.int (nI 0))] [] 114 (z0, z0l, rX10)
  exact P.refs (law_loop hL L 0 (by omega) (by omega) z0 z0l JJ_0)

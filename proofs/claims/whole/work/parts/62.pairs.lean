-- pairs of calls: by program (wip/whole/gen62.py)
theorem pr_table {G : GG} (x y z : Int32) : Pr G mX9_table mX10_table [.int x, .int y, .int z] isI := by
  rintro f l ⟨D, W, U, T, N, hC, hM, hKN, hH⟩
  have hBW := hH.1
  have hE := kL_eq (D := D) hH.1.2.1 hH.2.1
  obtain ⟨hD, hLW, hUW, hTW⟩ := id hBW
  have hR := hD.1
  rcases inR_cases x 4 with hx | ⟨t, ht, rfl⟩
  · exact pr_fi hC hM hKN hH ⟨_, rfl⟩ (k_table_a hC hBW hx) (fun f1 l1 hM hKN => q_table_a hM hBW hKN hx)
  by_cases hy : y.toInt < 0
  · exact pr_fi hC hM hKN hH ⟨_, rfl⟩ (k_table_b hC hBW ht hy) (fun f1 l1 hM hKN => q_table_b hM hBW hKN ht hy)
  by_cases hy6 : 6 < y.toInt
  · exact pr_no hC hM hKN hH ⟨_, rfl⟩ (k_table_c hC hBW ht hy6) (fun f1 l1 hM hKN => q_table_c hM hBW hKN ht hy6)
  obtain ⟨k, hk, rfl⟩ := nI_ofZ (n := 7) (x := y) (by omega) (by omega)
  by_cases hk0 : k = 0
  · subst hk0
    exact pr_no hC hM hKN hH ⟨_, rfl⟩ (k_table_c0 hC hBW ht) (fun f1 l1 hM hKN => q_table_c0 hM hBW hKN ht)
  have hk1 : 1 ≤ k := by omega
  have hk6 : k ≤ 6 := by omega
  by_cases hz : z.toInt < 0
  · exact pr_no hC hM hKN hH ⟨_, rfl⟩ (k_table_d hC hBW ht hk1 hk6 hz) (fun f1 l1 hM hKN => q_table_d hM hBW hKN ht hk1 hk6 hz)
  obtain ⟨m, hm, rfl⟩ := nI_ofZ (n := 2147483648) (x := z) (by omega) (by have := Int32.toInt_lt z; omega)
  cases hlb : lanesB k m
  · exact pr_no hC hM hKN hH ⟨_, rfl⟩ (k_table_e hC hBW ht hk1 hk6 hm hlb) (fun f1 l1 hM hKN => q_table_e hM hBW hKN ht hk1 hk6 hm hlb)
  by_cases h0 : T.1 t = 0
  · exact pr_ex D W U (tabT T t k m) hM hKN ⟨_, rfl⟩ (HH_tab ht hk6 hlb hH) (ci_lns ht m (ci_tab ht hC) k) (fun q hq => ⟨fun j => (mkl_ne _ _ _ _ (Or.inl (by omega))).trans (uf_ne _ _ (Or.inl (by omega))), fun _ => rfl⟩) (k_table_g hC hBW ht h0 hk1 hk6 hm hlb) (fun f1 l1 hM hKN => q_table_g hM hBW hKN ht h0 hk1 hk6 hm hlb)
  · exact pr_no hC hM hKN hH ⟨_, rfl⟩ (k_table_f hC hBW ht h0 hk1 hk6 hm hlb) (fun f1 l1 hM hKN => q_table_f hM hBW hKN ht h0 hk1 hk6 hm hlb)
theorem pr_row {G : GG} (x y : Int32) : Pr G mX9_row mX10_row [.int x, .int y] isI := by
  rintro f l ⟨D, W, U, T, N, hC, hM, hKN, hH⟩
  have hBW := hH.1
  have hE := kL_eq (D := D) hH.1.2.1 hH.2.1
  obtain ⟨hD, hLW, hUW, hTW⟩ := id hBW
  have hR := hD.1
  rcases inR_cases x 4 with hx | ⟨t, ht, rfl⟩
  · exact pr_fi hC hM hKN hH ⟨_, rfl⟩ (k_row_a hC hBW hx) (fun f1 l1 hM hKN => q_row_a hM hBW hKN hx)
  by_cases h0 : T.1 t = 0
  · exact pr_fi hC hM hKN hH ⟨_, rfl⟩ (k_row_b hC hBW ht h0) (fun f1 l1 hM hKN => q_row_b hM hBW hKN ht h0)
  rcases trOK_cases y with hy | ⟨a, ha1, ha2, rfl⟩
  · exact pr_no hC hM hKN hH ⟨_, rfl⟩ (k_row_c hC hBW ht h0 hy) (fun f1 l1 hM hKN => q_row_c hM hBW hKN ht h0 hy)
  by_cases h12 : D.1 = 12
  · exact pr_no hC hM hKN hH ⟨_, rfl⟩ (k_row_d hC hBW ht h0 ha1 ha2 h12) (fun f1 l1 hM hKN => q_row_d hM hBW hKN ht h0 ha1 ha2 h12)
  have h12 : D.1 < 12 := by omega
  exact pr_ex (D.1 + 1, uf (uf (uf D.2.1 D.1 2 t) D.1 3 a) D.1 4 1, D.2.2) W U T hM hKN ⟨_, rfl⟩ (HH_row ht ha1 ha2 h12 hH) (ci_R (ci_row h12 (ci_row h12 (ci_row h12 hC)))) (((((MF.rf _ _).f (by omega)).f (by omega)).f (by omega)).f (by omega)) (k_row_e hC hBW ht h0 ha1 ha2 h12) (fun f1 l1 hM hKN => q_row_e hM hBW hKN ht h0 ha1 ha2 h12)
theorem pr_put {G : GG} (x y : Int32) (v : Int64) : Pr G mX9_put mX10_put [.int x, .int y, .long v] isI := by
  rintro f l ⟨D, W, U, T, N, hC, hM, hKN, hH⟩
  have hBW := hH.1
  have hE := kL_eq (D := D) hH.1.2.1 hH.2.1
  obtain ⟨hD, hLW, hUW, hTW⟩ := id hBW
  have hR := hD.1
  rcases inR_cases x D.1 with hx | ⟨r, hr, rfl⟩
  · exact pr_no hC hM hKN hH ⟨_, rfl⟩ (k_put_a hC hBW hx) (fun f1 l1 hM hKN => q_put_a hM hBW hKN hx)
  rcases inR_cases y (T.1 (D.2.1 r 2)) with hy | ⟨c, hc, rfl⟩
  · exact pr_fi hC hM hKN hH ⟨_, rfl⟩ (k_put_b hC hBW hr hy) (fun f1 l1 hM hKN => q_put_b hM hBW hKN hr hy)
  have hr12 : r < 12 := by omega
  exact pr_ex (D.1, D.2.1, uf D.2.2.1 r c 1, uf D.2.2.2 r c (asLane (T.2 (D.2.1 r 2) c) v)) W U T hM hKN ⟨_, rfl⟩ (HH_cell hr (by decide) (fun h => absurd h (by decide)) hH) (ci_num hr12 (ci_the hr12 hC)) (((MF.rf _ _).f (by omega)).l (by omega)) (k_put_c hC hBW hr hc) (fun f1 l1 hM hKN => q_put_c hM hBW hKN hr hc)
theorem pr_miss {G : GG} (x y : Int32) : Pr G mX9_miss mX10_miss [.int x, .int y] isI := by
  rintro f l ⟨D, W, U, T, N, hC, hM, hKN, hH⟩
  have hBW := hH.1
  have hE := kL_eq (D := D) hH.1.2.1 hH.2.1
  obtain ⟨hD, hLW, hUW, hTW⟩ := id hBW
  have hR := hD.1
  rcases inR_cases x D.1 with hx | ⟨r, hr, rfl⟩
  · exact pr_no hC hM hKN hH ⟨_, rfl⟩ (k_miss_a hC hBW hx) (fun f1 l1 hM hKN => q_miss_a hM hBW hKN hx)
  rcases inR_cases y (T.1 (D.2.1 r 2)) with hy | ⟨c, hc, rfl⟩
  · exact pr_fi hC hM hKN hH ⟨_, rfl⟩ (k_miss_b hC hBW hr hy) (fun f1 l1 hM hKN => q_miss_b hM hBW hKN hr hy)
  have hr12 : r < 12 := by omega
  exact pr_ex (D.1, D.2.1, uf D.2.2.1 r c 0, uf D.2.2.2 r c 0) W U T hM hKN ⟨_, rfl⟩ (HH_cell hr (by decide) (fun _ => rfl) hH) (ci_num hr12 (ci_the hr12 hC)) (((MF.rf _ _).f (by omega)).l (by omega)) (k_miss_c hC hBW hr hc) (fun f1 l1 hM hKN => q_miss_c hM hBW hKN hr hc)
theorem pr_has {G : GG} (x y : Int32) : Pr G mX9_has mX10_has [.int x, .int y] isI := by
  rintro f l ⟨D, W, U, T, N, hC, hM, hKN, hH⟩
  have hBW := hH.1
  have hE := kL_eq (D := D) hH.1.2.1 hH.2.1
  obtain ⟨hD, hLW, hUW, hTW⟩ := id hBW
  have hR := hD.1
  rcases inR_cases x D.1 with hx | ⟨r, hr, rfl⟩
  · exact pr_no hC hM hKN hH ⟨_, rfl⟩ (k_has_a hC hBW hx) (fun f1 l1 hM hKN => q_has_a hM hBW hKN hx)
  rcases inR_cases y (T.1 (D.2.1 r 2)) with hy | ⟨c, hc, rfl⟩
  · exact pr_fi hC hM hKN hH ⟨_, rfl⟩ (k_has_b hC hBW hr hy) (fun f1 l1 hM hKN => q_has_b hM hBW hKN hr hy)
  exact pr_no hC hM hKN hH ⟨_, rfl⟩ (k_has_c hC hBW hr hc) (fun f1 l1 hM hKN => q_has_c hM hBW hKN hr hc)
theorem pr_cell {G : GG} (x y : Int32) : Pr G mX9_cell mX10_cell [.int x, .int y] isL := by
  rintro f l ⟨D, W, U, T, N, hC, hM, hKN, hH⟩
  have hBW := hH.1
  have hE := kL_eq (D := D) hH.1.2.1 hH.2.1
  obtain ⟨hD, hLW, hUW, hTW⟩ := id hBW
  have hR := hD.1
  rcases inR_cases x D.1 with hx | ⟨r, hr, rfl⟩
  · exact pr_no hC hM hKN hH ⟨_, rfl⟩ (k_cell_a hC hBW hx) (fun f1 l1 hM hKN => q_cell_a hM hBW hKN hx)
  rcases inR_cases y (T.1 (D.2.1 r 2)) with hy | ⟨c, hc, rfl⟩
  · exact pr_fi hC hM hKN hH ⟨_, rfl⟩ (k_cell_b hC hBW hr hy) (fun f1 l1 hM hKN => q_cell_b hM hBW hKN hr hy)
  exact pr_no hC hM hKN hH ⟨_, rfl⟩ (k_cell_c hC hBW hr hc) (fun f1 l1 hM hKN => q_cell_c hM hBW hKN hr hc hH.2.2.1)
theorem pr_column {G : GG} (x y z : Int32) : Pr G mX9_column mX10_column [.int x, .int y, .int z] isI := by
  rintro f l ⟨D, W, U, T, N, hC, hM, hKN, hH⟩
  have hBW := hH.1
  have hE := kL_eq (D := D) hH.1.2.1 hH.2.1
  obtain ⟨hD, hLW, hUW, hTW⟩ := id hBW
  have hR := hD.1
  rcases inR_cases x 4 with hx | ⟨t, ht, rfl⟩
  · exact pr_fi hC hM hKN hH ⟨_, rfl⟩ (k_column_a hC hBW hx) (fun f1 l1 hM hKN => q_column_a hM hBW hKN hx)
  by_cases h0 : T.1 t = 0
  · exact pr_fi hC hM hKN hH ⟨_, rfl⟩ (k_column_b hC hBW ht h0) (fun f1 l1 hM hKN => q_column_b hM hBW hKN ht h0)
  rcases inR_cases z 6 with hz | ⟨k, hk, rfl⟩
  · exact pr_no hC hM hKN hH ⟨_, rfl⟩ (k_column_c hC hBW ht h0 hz) (fun f1 l1 hM hKN => q_column_c hM hBW hKN ht h0 hz)
  rcases inR_cases y (T.1 t) with hy | ⟨c, hc, rfl⟩
  · exact pr_fi hC hM hKN hH ⟨_, rfl⟩ (k_column_d hC hBW ht h0 hk hy) (fun f1 l1 hM hKN => q_column_d hM hBW hKN ht h0 hk hy)
  by_cases hne : T.2 t c = k
  · exact pr_no hC hM hKN hH ⟨_, rfl⟩ (k_column_f hC hBW ht h0 hk hc hne) (fun f1 l1 hM hKN => q_column_f hM hBW hKN ht h0 hk hc hne)
  · exact pr_fi hC hM hKN hH ⟨_, rfl⟩ (k_column_e hC hBW ht h0 hk hc hne) (fun f1 l1 hM hKN => q_column_e hM hBW hKN ht h0 hk hc hne)
theorem pr_trust {G : GG} (x y : Int32) : Pr G mX9_trust mX10_trust [.int x, .int y] isI := by
  rintro f l ⟨D, W, U, T, N, hC, hM, hKN, hH⟩
  have hBW := hH.1
  have hE := kL_eq (D := D) hH.1.2.1 hH.2.1
  obtain ⟨hD, hLW, hUW, hTW⟩ := id hBW
  have hR := hD.1
  rcases inR_cases x D.1 with hx | ⟨r, hr, rfl⟩
  · exact pr_no hC hM hKN hH ⟨_, rfl⟩ (k_trust_a hC hBW hx) (fun f1 l1 hM hKN => q_trust_a hM hBW hKN hx)
  rcases trOK_cases y with hy | ⟨a, ha1, ha2, rfl⟩
  · exact pr_no hC hM hKN hH ⟨_, rfl⟩ (k_trust_b hC hBW hr hy) (fun f1 l1 hM hKN => q_trust_b hM hBW hKN hr hy)
  exact pr_ex (trD D r a) W U T hM hKN ⟨_, rfl⟩ (HH_tru ha1 ha2 hH) (ci_row (by omega) hC) ((MF.rf _ _).f (by omega)) (k_trust_c hC hBW hr ha1 ha2) (fun f1 l1 hM hKN => q_trust_c hM hBW hKN hr ha1 ha2 hH.2.1)
theorem pr_keep {G : GG} (x : Int32) {b : Nat} (hb : b < 2) : Pr G mX9_keep mX10_keep [.int x, .int (nI b)] isI := by
  rintro f l ⟨D, W, U, T, N, hC, hM, hKN, hH⟩
  have hBW := hH.1
  have hE := kL_eq (D := D) hH.1.2.1 hH.2.1
  obtain ⟨hD, hLW, hUW, hTW⟩ := id hBW
  have hR := hD.1
  rcases inR_cases x D.1 with hx | ⟨r, hr, rfl⟩
  · exact pr_no hC hM hKN hH ⟨_, rfl⟩ (k_keep_a hC hBW hx hb) (fun f1 l1 hM hKN => q_keep_a hM hBW hKN hx hb)
  exact pr_ex (D.1, uf D.2.1 r 4 b, D.2.2) W U T hM hKN ⟨_, rfl⟩ (HH_kep hb hH) (ci_row (by omega) hC) ((MF.rf _ _).f (by omega)) (k_keep_b hC hBW hr hb) (fun f1 l1 hM hKN => q_keep_b hM hBW hKN hr hb)
theorem pr_about {G : GG} (x y : Int32) : Pr G mX9_about mX10_about [.int x, .int y] isI := by
  rintro f l ⟨D, W, U, T, N, hC, hM, hKN, hH⟩
  have hBW := hH.1
  have hE := kL_eq (D := D) hH.1.2.1 hH.2.1
  obtain ⟨hD, hLW, hUW, hTW⟩ := id hBW
  have hR := hD.1
  rcases inR_cases x D.1 with hx | ⟨r, hr, rfl⟩
  · exact pr_no hC hM hKN hH ⟨_, rfl⟩ (k_about_a hC hBW hx) (fun f1 l1 hM hKN => q_about_a hM hBW hKN hx)
  rcases inR_cases y 3 with hy | ⟨c, hc, rfl⟩
  · exact pr_no hC hM hKN hH ⟨_, rfl⟩ (k_about_b hC hBW hr hy) (fun f1 l1 hM hKN => q_about_b hM hBW hKN hr hy)
  rcases (show c = 0 ∨ c = 1 ∨ c = 2 by omega) with rfl | rfl | rfl
  · exact pr_no hC hM hKN hH ⟨_, rfl⟩ (k_about_0 hC hBW hr) (fun f1 l1 hM hKN => q_about_0 hM hBW hKN hr)
  · exact pr_no hC hM hKN hH ⟨_, rfl⟩ (k_about_1 hC hBW hr) (fun f1 l1 hM hKN => q_about_1 hM hBW hKN hr)
  · exact pr_no hC hM hKN hH ⟨_, rfl⟩ (k_about_2 hC hBW hr) (fun f1 l1 hM hKN => q_about_2 hM hBW hKN hr)
theorem pr_law {G : GG} (x y z u : Int32) (c d : Int64) : Pr G mX9_law mX10_law [.int x, .int y, .int z, .int u, .long c, .long d] isI := by
  rintro f l ⟨D, W, U, T, N, hC, hM, hKN, hH⟩
  have hBW := hH.1
  have hE := kL_eq (D := D) hH.1.2.1 hH.2.1
  obtain ⟨hD, hLW, hUW, hTW⟩ := id hBW
  have hR := hD.1
  rcases inR_cases x 5 with hx | ⟨k, hk, rfl⟩
  · exact pr_no hC hM hKN hH ⟨_, rfl⟩ (k_law_a hC hBW hx) (fun f1 l1 hM hKN => q_law_a hM hBW hKN hx)
  by_cases hcb : k = 4 ∧ c < 0
  · obtain ⟨rfl, hc0⟩ := hcb
    exact pr_no hC hM hKN hH ⟨_, rfl⟩ (k_law_b hC hBW hc0) (fun f1 l1 hM hKN => q_law_b hM hBW hKN hc0)
  have hk4 : k = 4 → 0 ≤ c := fun h => Int64.not_lt.mp (fun h2 => hcb ⟨h, h2⟩)
  by_cases h10 : W.1 = 10
  · exact pr_no hC hM hKN hH ⟨_, rfl⟩ (k_law_c hC hBW hk hk4 h10) (fun f1 l1 hM hKN => q_law_c hM hBW hKN hk hk4 h10)
  have hW1 := hLW.1
  have h10 : W.1 < 10 := by omega
  rcases inR_cases y 4 with hx | ⟨t, ht, rfl⟩
  · exact pr_fi hC hM hKN hH ⟨_, rfl⟩ (k_law_d hC hBW hk hk4 h10 hx) (fun f1 l1 hM hKN => q_law_d hM hBW hKN hk hk4 h10 hx)
  by_cases h0 : T.1 t = 0
  · exact pr_fi hC hM hKN hH ⟨_, rfl⟩ (k_law_e hC hBW hk hk4 h10 ht h0) (fun f1 l1 hM hKN => q_law_e hM hBW hKN hk hk4 h10 ht h0)
  rcases inR_cases z (T.1 t) with hy | ⟨a, ha, rfl⟩
  · exact pr_fi hC hM hKN hH ⟨_, rfl⟩ (k_law_f hC hBW hk hk4 h10 ht h0 hy) (fun f1 l1 hM hKN => q_law_f hM hBW hKN hk hk4 h10 ht h0 hy)
  have htc := hTW.1 t ht
  cases h2 : two k
  · obtain ⟨b, rfl⟩ : ∃ b : Nat, u = nI b := ⟨_, i32_nat u⟩
    exact pr_ex D (W.1 + 1, (uf (uf (uf (uf (uf W.2.1 W.1 0 k) W.1 1 t) W.1 7 1) W.1 2 a) W.1 3 a), uf (uf W.2.2 W.1 5 c) W.1 6 d) U T hM hKN ⟨_, rfl⟩ (HH_law hk hk4 h10 ht (by omega) (by omega) hH) (ci_w7 (hC := hC) h10) (((((((((MF.rf _ _).f (by omega)).f (by omega)).f (by omega)).f (by omega)).f (by omega)).f (by omega)).l (by omega)).l (by omega)) (k_law_i hC hBW hk hk4 h10 ht h0 ha h2) (fun f1 l1 hM hKN => q_law_i hM hBW hKN hk hk4 h10 ht h0 ha h2)
  rcases inR_cases u (T.1 t) with hz | ⟨b, hb, rfl⟩
  · exact pr_fi hC hM hKN hH ⟨_, rfl⟩ (k_law_g hC hBW hk hk4 h10 ht h0 ha h2 hz) (fun f1 l1 hM hKN => q_law_g hM hBW hKN hk hk4 h10 ht h0 ha h2 hz)
  exact pr_ex D (W.1 + 1, (uf (uf (uf (uf (uf W.2.1 W.1 0 k) W.1 1 t) W.1 7 1) W.1 2 a) W.1 3 b), uf (uf W.2.2 W.1 5 c) W.1 6 d) U T hM hKN ⟨_, rfl⟩ (HH_law hk hk4 h10 ht (by omega) (by omega) hH) (ci_w7 (hC := hC) h10) (((((((((MF.rf _ _).f (by omega)).f (by omega)).f (by omega)).f (by omega)).f (by omega)).f (by omega)).l (by omega)).l (by omega)) (k_law_h hC hBW hk hk4 h10 ht h0 ha h2 hb) (fun f1 l1 hM hKN => q_law_h hM hBW hKN hk hk4 h10 ht h0 ha h2 hb)
theorem pr_among {G : GG} (x y z u : Int32) : Pr G mX9_among mX10_among [.int x, .int y, .int z, .int u] isI := by
  rintro f l ⟨D, W, U, T, N, hC, hM, hKN, hH⟩
  have hBW := hH.1
  have hE := kL_eq (D := D) hH.1.2.1 hH.2.1
  obtain ⟨hD, hLW, hUW, hTW⟩ := id hBW
  have hR := hD.1
  by_cases h10 : W.1 = 10
  · exact pr_no hC hM hKN hH ⟨_, rfl⟩ (k_among_a hC hBW h10) (fun f1 l1 hM hKN => q_among_a hM hBW hKN h10)
  have hW1 := hLW.1
  have h10 : W.1 < 10 := by omega
  rcases inR_cases x 4 with hx | ⟨t, ht, rfl⟩
  · exact pr_fi hC hM hKN hH ⟨_, rfl⟩ (k_among_b hC hBW h10 hx) (fun f1 l1 hM hKN => q_among_b hM hBW hKN h10 hx)
  by_cases h0 : T.1 t = 0
  · exact pr_fi hC hM hKN hH ⟨_, rfl⟩ (k_among_c hC hBW h10 ht h0) (fun f1 l1 hM hKN => q_among_c hM hBW hKN h10 ht h0)
  rcases inR_cases y (T.1 t) with hy | ⟨c, hc, rfl⟩
  · exact pr_fi hC hM hKN hH ⟨_, rfl⟩ (k_among_d hC hBW h10 ht h0 hy) (fun f1 l1 hM hKN => q_among_d hM hBW hKN h10 ht h0 hy)
  rcases inR_cases z 4 with hx | ⟨v, hu, rfl⟩
  · exact pr_fi hC hM hKN hH ⟨_, rfl⟩ (k_among_e hC hBW h10 ht h0 hc hx) (fun f1 l1 hM hKN => q_among_e hM hBW hKN h10 ht h0 hc hx)
  by_cases hu0 : T.1 v = 0
  · exact pr_fi hC hM hKN hH ⟨_, rfl⟩ (k_among_f hC hBW h10 ht h0 hc hu hu0) (fun f1 l1 hM hKN => q_among_f hM hBW hKN h10 ht h0 hc hu hu0)
  rcases inR_cases u (T.1 v) with hy | ⟨d, hd, rfl⟩
  · exact pr_fi hC hM hKN hH ⟨_, rfl⟩ (k_among_g hC hBW h10 ht h0 hc hu hu0 hy) (fun f1 l1 hM hKN => q_among_g hM hBW hKN h10 ht h0 hc hu hu0 hy)
  have htc := hTW.1 t ht
  have htv := hTW.1 v hu
  exact pr_ex D (W.1 + 1, (uf (uf (uf (uf (uf (uf W.2.1 W.1 0 5) W.1 1 t) W.1 7 1) W.1 2 c) W.1 4 v) W.1 3 d), W.2.2) U T hM hKN ⟨_, rfl⟩ (HH_amo h10 ht (by omega) hu (by omega) hH) (ci_w8 (hC := hC) h10) ((((((((MF.rf _ _).f (by omega)).f (by omega)).f (by omega)).f (by omega)).f (by omega)).f (by omega)).f (by omega)) (k_among_h hC hBW h10 ht h0 hc hu hu0 hd) (fun f1 l1 hM hKN => q_among_h hM hBW hKN h10 ht h0 hc hu hu0 hd)
theorem pr_force {G : GG} (x : Int32) {b : Nat} (hb : b < 2) : Pr G mX9_force mX10_force [.int x, .int (nI b)] isI := by
  rintro f l ⟨D, W, U, T, N, hC, hM, hKN, hH⟩
  have hBW := hH.1
  have hE := kL_eq (D := D) hH.1.2.1 hH.2.1
  obtain ⟨hD, hLW, hUW, hTW⟩ := id hBW
  have hR := hD.1
  have hW1 := hLW.1
  rcases inR_cases x W.1 with hx | ⟨r, hr, rfl⟩
  · exact pr_no hC hM hKN hH ⟨_, rfl⟩ (k_force_a hC hBW hx hb) (fun f1 l1 hM hKN => q_force_a hM hBW hKN hx hb)
  exact pr_ex D (W.1, uf W.2.1 r 7 b, W.2.2) U T hM hKN ⟨_, rfl⟩ (HH_frc hb hH) (ci_law (by omega) hC) ((MF.rf _ _).f (by omega)) (k_force_b hC hBW hr hb) (fun f1 l1 hM hKN => q_force_b hM hBW hKN hr hb)
theorem pr_most {G : GG} (x : Int32) : Pr G mX9_most mX10_most [.int x] isL := by
  rintro f l ⟨D, W, U, T, N, hC, hM, hKN, hH⟩
  have hBW := hH.1
  have hE := kL_eq (D := D) hH.1.2.1 hH.2.1
  obtain ⟨hD, hLW, hUW, hTW⟩ := id hBW
  have hR := hD.1
  rcases inR_cases x W.1 with hx | ⟨r, hr, rfl⟩
  · exact pr_no hC hM hKN hH ⟨_, rfl⟩ (k_most_a hC hBW hx) (fun f1 l1 hM hKN => q_most_a hM hBW hKN hx)
  by_cases hk : W.2.1 r 0 = 4
  · exact pr_no hC hM hKN hH ⟨_, rfl⟩ (k_most_c hC hBW hr hk) (fun f1 l1 hM hKN => q_most_c hM hBW hKN hr hk)
  · exact pr_fi hC hM hKN hH ⟨_, rfl⟩ (k_most_b hC hBW hr hk) (fun f1 l1 hM hKN => q_most_b hM hBW hKN hr hk)
theorem pr_quarrels {G : GG} (x : Int32) : Pr G mX9_quarrels mX10_quarrels [.int x] isI := by
  rintro f l ⟨D, W, U, T, N, hC, hM, hKN, hH⟩
  have hBW := hH.1
  have hE := kL_eq (D := D) hH.1.2.1 hH.2.1
  obtain ⟨hD, hLW, hUW, hTW⟩ := id hBW
  have hR := hD.1
  rcases inR_cases x W.1 with hx | ⟨r, hr, rfl⟩
  · exact pr_no hC hM hKN hH ⟨_, rfl⟩ (k_quarrels_a hC hBW hx) (fun f1 l1 hM hKN => q_quarrels_a hM hBW hKN hx)
  have hQ := mQn_eq (w := r) hD (hH.2.1 r hr) (hLW.2 r hr).1
  exact pr_fr hC hM hKN hH ⟨_, rfl⟩ ((k_quarrels_b hC hBW hr).X.mono (fun _ _ _ h => ⟨h.1, by rw [h.2.1]; exact Fra.wrL _ _, h.2.2.symm⟩)) (fun f1 l1 hM hKN => q_quarrels_b hM hBW hKN hr hQ)
theorem pr_quarrel {G : GG} (x y : Int32) : Pr G mX9_quarrel mX10_quarrel [.int x, .int y] isI := by
  rintro f l ⟨D, W, U, T, N, hC, hM, hKN, hH⟩
  have hBW := hH.1
  have hE := kL_eq (D := D) hH.1.2.1 hH.2.1
  obtain ⟨hD, hLW, hUW, hTW⟩ := id hBW
  have hR := hD.1
  rcases inR_cases x W.1 with hx | ⟨r, hr, rfl⟩
  · exact pr_no hC hM hKN hH ⟨_, rfl⟩ (k_quarrel_a hC hBW hx) (fun f1 l1 hM hKN => q_quarrel_a hM hBW hKN hx)
  have hQ := mQn_eq (w := r) hD (hH.2.1 r hr) (hLW.2 r hr).1
  rcases inR_cases y (cQ D W r (keptD D)).length with hy | ⟨i, hi, rfl⟩
  · exact pr_fr hC hM hKN hH ⟨_, rfl⟩ ((k_quarrel_b hC hBW hr hy).X.mono (fun _ _ _ h => ⟨h.1, by rw [h.2.1]; exact Fra.wrL _ _, h.2.2.symm⟩)) (fun f1 l1 hM hKN => q_quarrel_b hM hBW hKN hr hQ hy)
  exact pr_fr hC hM hKN hH ⟨_, rfl⟩ ((k_quarrel_c hC hBW hr hi).X.mono (fun _ _ _ h => ⟨h.1, by rw [h.2.1]; exact Fra.wrL _ _, h.2.2.symm⟩)) (fun f1 l1 hM hKN => q_quarrel_c hM hBW hKN hr hQ hi)
theorem pr_clean {G : GG} : Pr G mX9_clean mX10_clean [] isI := by
  rintro f l ⟨D, W, U, T, N, hC, hM, hKN, hH⟩
  have hBW := hH.1
  have hE := kL_eq (D := D) hH.1.2.1 hH.2.1
  obtain ⟨hD, hLW, hUW, hTW⟩ := id hBW
  have hR := hD.1
  have hf := fB_cBrk (D := D) hLW hH.2.1 (keptD D)
  cases hq : fstP (cBrk D W (keptD D)) W.1 with
  | none => exact pr_fr hC hM hKN hH (rv := some (.int (nI 1))) ⟨_, rfl⟩ (k_clean_a hC hBW hq) (fun f1 l1 hM hKN => (q_clean hM hBW hKN).mono (fun _ _ _ h => ⟨by rw [h.1, ← hf, hq]; rfl, h.2⟩))
  | some i => exact pr_fr hC hM hKN hH (rv := some (.int (nI 0))) ⟨_, rfl⟩ (k_clean_b hC hBW hq (fstP_lt hq)) (fun f1 l1 hM hKN => (q_clean hM hBW hKN).mono (fun _ _ _ h => ⟨by rw [h.1, ← hf, hq]; rfl, h.2⟩))
theorem pr_breaks {G : GG} (x : Int32) : Pr G mX9_breaks mX10_breaks [.int x] isI := by
  rintro f l ⟨D, W, U, T, N, hC, hM, hKN, hH⟩
  have hBW := hH.1
  have hE := kL_eq (D := D) hH.1.2.1 hH.2.1
  obtain ⟨hD, hLW, hUW, hTW⟩ := id hBW
  have hR := hD.1
  rcases breaks_cases x (keptD D) with hx | ⟨S, hS, rfl⟩
  · exact pr_no hC hM hKN hH ⟨_, rfl⟩ (k_breaks_a hC hBW hx) (fun f1 l1 hM hKN => q_breaks_a hM hBW hKN hx)
  exact pr_fr hC hM hKN hH ⟨_, rfl⟩ (k_breaks_b hC hBW hS) (fun f1 l1 hM hKN => (q_breaks_b hM hBW hKN hS).mono (fun _ _ _ h => ⟨by rw [h.1, fB_cBrk hLW hH.2.1 S], h.2⟩))
theorem pr_mends {G : GG} : Pr G mX9_mends mX10_mends [] isI := by
  rintro f l ⟨D, W, U, T, N, hC, hM, hKN, hH⟩
  have hBW := hH.1
  have hE := kL_eq (D := D) hH.1.2.1 hH.2.1
  obtain ⟨hD, hLW, hUW, hTW⟩ := id hBW
  have hR := hD.1
  exact pr_fr hC hM hKN hH ⟨_, rfl⟩ (k_mends hC hBW ) (fun f1 l1 hM hKN => q_mends hM hBW hKN hE)
theorem pr_price {G : GG} : Pr G mX9_price mX10_price [] isI := by
  rintro f l ⟨D, W, U, T, N, hC, hM, hKN, hH⟩
  have hBW := hH.1
  have hE := kL_eq (D := D) hH.1.2.1 hH.2.1
  obtain ⟨hD, hLW, hUW, hTW⟩ := id hBW
  have hR := hD.1
  exact pr_fr hC hM hKN hH ⟨_, rfl⟩ (k_price hC hBW ) (fun f1 l1 hM hKN => q_price hM hBW hKN hE)
theorem pr_best {G : GG} : Pr G mX9_best mX10_best [] isI := by
  rintro f l ⟨D, W, U, T, N, hC, hM, hKN, hH⟩
  have hBW := hH.1
  have hE := kL_eq (D := D) hH.1.2.1 hH.2.1
  obtain ⟨hD, hLW, hUW, hTW⟩ := id hBW
  have hR := hD.1
  exact pr_fr hC hM hKN hH ⟨_, rfl⟩ (k_best hC hBW ) (fun f1 l1 hM hKN => q_best hM hBW hKN hE)
theorem pr_often {G : GG} : Pr G mX9_often mX10_often [] isI := by
  rintro f l ⟨D, W, U, T, N, hC, hM, hKN, hH⟩
  have hBW := hH.1
  have hE := kL_eq (D := D) hH.1.2.1 hH.2.1
  obtain ⟨hD, hLW, hUW, hTW⟩ := id hBW
  have hR := hD.1
  exact pr_fr hC hM hKN hH ⟨_, rfl⟩ (k_often hC hBW ) (fun f1 l1 hM hKN => q_often hM hBW hKN hE)
theorem pr_sure {G : GG} : Pr G mX9_sure mX10_sure [] isI := by
  rintro f l ⟨D, W, U, T, N, hC, hM, hKN, hH⟩
  have hBW := hH.1
  have hE := kL_eq (D := D) hH.1.2.1 hH.2.1
  obtain ⟨hD, hLW, hUW, hTW⟩ := id hBW
  have hR := hD.1
  exact pr_fr hC hM hKN hH ⟨_, rfl⟩ (k_sure hC hBW ) (fun f1 l1 hM hKN => q_sure hM hBW hKN hE)
theorem pr_against {G : GG} : Pr G mX9_against mX10_against [] isI := by
  rintro f l ⟨D, W, U, T, N, hC, hM, hKN, hH⟩
  have hBW := hH.1
  have hE := kL_eq (D := D) hH.1.2.1 hH.2.1
  obtain ⟨hD, hLW, hUW, hTW⟩ := id hBW
  have hR := hD.1
  exact pr_fr hC hM hKN hH ⟨_, rfl⟩ (k_against hC hBW ) (fun f1 l1 hM hKN => q_against hM hBW hKN hE)
theorem pr_mending {G : GG} (y : Int32) : Pr G mX9_mending mX10_mending [.int y] isI := by
  rintro f l ⟨D, W, U, T, N, hC, hM, hKN, hH⟩
  have hBW := hH.1
  have hE := kL_eq (D := D) hH.1.2.1 hH.2.1
  obtain ⟨hD, hLW, hUW, hTW⟩ := id hBW
  have hR := hD.1
  rcases inR_cases y (MLs D W).length with hy | ⟨i, hi, rfl⟩
  · exact pr_fr hC hM hKN hH ⟨_, rfl⟩ (k_mending_a hC hBW hy) (fun f1 l1 hM hKN => q_mending_a hM hBW hKN hE hy)
  exact pr_fr hC hM hKN hH ⟨_, rfl⟩ (k_mending_b hC hBW hi) (fun f1 l1 hM hKN => q_mending_b hM hBW hKN hE hi)
theorem pr_blame {G : GG} (x : Int32) : Pr G mX9_blame mX10_blame [.int x] isI := by
  rintro f l ⟨D, W, U, T, N, hC, hM, hKN, hH⟩
  have hBW := hH.1
  have hE := kL_eq (D := D) hH.1.2.1 hH.2.1
  obtain ⟨hD, hLW, hUW, hTW⟩ := id hBW
  have hR := hD.1
  rcases inR_cases x D.1 with hx | ⟨r, hr, rfl⟩
  · exact pr_no hC hM hKN hH ⟨_, rfl⟩ (k_blame_a hC hBW hx) (fun f1 l1 hM hKN => q_blame_a hM hBW hKN hx)
  exact pr_fr hC hM hKN hH ⟨_, rfl⟩ (k_blame_b hC hBW hr) (fun f1 l1 hM hKN => q_blame_b hM hBW hKN hr hE)
theorem pr_sum {G : GG} (x y : Int32) {g : Nat} (hg2 : g < 2) : Pr G mX9_sum mX10_sum [.int x, .int y, .int (nI g)] isL := by
  rintro f l ⟨D, W, U, T, N, hC, hM, hKN, hH⟩
  have hBW := hH.1
  have hE := kL_eq (D := D) hH.1.2.1 hH.2.1
  obtain ⟨hD, hLW, hUW, hTW⟩ := id hBW
  have hR := hD.1
  rcases inR_cases x 4 with hx | ⟨t, ht, rfl⟩
  · exact pr_fi hC hM hKN hH ⟨_, rfl⟩ (k_sum_a hC hBW hx hg2) (fun f1 l1 hM hKN => q_sum_a hM hBW hKN hx hg2)
  by_cases h0 : T.1 t = 0
  · exact pr_fi hC hM hKN hH ⟨_, rfl⟩ (k_sum_b hC hBW ht h0 hg2) (fun f1 l1 hM hKN => q_sum_b hM hBW hKN ht h0 hg2)
  rcases inR_cases y (T.1 t) with hy | ⟨c, hc, rfl⟩
  · exact pr_fi hC hM hKN hH ⟨_, rfl⟩ (k_sum_c hC hBW ht h0 hy hg2) (fun f1 l1 hM hKN => q_sum_c hM hBW hKN ht h0 hy hg2)
  exact pr_fr hC hM hKN hH ⟨_, rfl⟩ (k_sum_d hC hBW ht h0 hc hg2) (fun f1 l1 hM hKN => q_sum_d hM hBW hKN ht h0 hc hg2 hE)
theorem pr_mend {G : GG} : Pr G mX9_mend mX10_mend [] isI := by
  rintro f l ⟨D, W, U, T, N, hC, hM, hKN, hH⟩
  have hBW := hH.1
  have hE := kL_eq (D := D) hH.1.2.1 hH.2.1
  obtain ⟨hD, hLW, hUW, hTW⟩ := id hBW
  have hR := hD.1
  exact pr_mk (drD D (best D W)) W U T N hM hKN ⟨_, rfl⟩ (HH_dr hH) ((k_mend hC hBW).mono (fun _ _ _ h => ⟨h.1, by obtain ⟨g, hg, e⟩ := h.2.1; rw [e, ← h.2.2]; exact ci_dr hD (hC.fra hg.1), by obtain ⟨g, hg, e⟩ := h.2.1; rw [e, ← h.2.2]; exact (MF.fra hg.1).tr (mf_dr hD g l _)⟩)) (fun f1 l1 hM hKN => q_mend hM hBW hKN hE)
theorem pr_settle {G : GG} (x : Int32) : Pr G mX9_settle mX10_settle [.int x] isI := by
  rintro f l ⟨D, W, U, T, N, hC, hM, hKN, hH⟩
  have hBW := hH.1
  have hE := kL_eq (D := D) hH.1.2.1 hH.2.1
  obtain ⟨hD, hLW, hUW, hTW⟩ := id hBW
  have hR := hD.1
  rcases inR_cases x W.1 with hx | ⟨r, hr, rfl⟩
  · exact pr_no hC hM hKN hH ⟨_, rfl⟩ (k_settle_a hC hBW hx) (fun f1 l1 hM hKN => q_settle_a hM hBW hKN hx)
  by_cases hk : W.2.1 r 0 = 0
  case neg => exact pr_fi hC hM hKN hH ⟨_, rfl⟩ (k_settle_b hC hBW hr hk) (fun f1 l1 hM hKN => q_settle_b hM hBW hKN hr hk)
  by_cases hne : W.2.1 r 2 = W.2.1 r 3
  · exact pr_no hC hM hKN hH ⟨_, rfl⟩ (k_settle_c hC hBW hr hk hne) (fun f1 l1 hM hKN => q_settle_c hM hBW hKN hr hk hne)
  exact pr_ex (setlD D (W.2.1 r 1) (W.2.1 r 2) (W.2.1 r 3)) W U T hM hKN ⟨_, rfl⟩ (HH_stl hH) (ci_stl hD _ _ _ hC) (mf_stl hD _ _ _ f l) (k_settle_d hC hBW hr hk hne) (fun f1 l1 hM hKN => q_settle_d hM hBW hKN hr hk hne)
theorem pr_ask {G : GG} : Pr G mX9_ask mX10_ask [] isI := by
  rintro f l ⟨D, W, U, T, N, hC, hM, hKN, hH⟩
  have hBW := hH.1
  have hE := kL_eq (D := D) hH.1.2.1 hH.2.1
  obtain ⟨hD, hLW, hUW, hTW⟩ := id hBW
  have hR := hD.1
  exact pr_ex D W (0, U.2.1, U.2.2.1, U.2.2.2.1, 0, U.2.2.2.2.2) T hM hKN ⟨_, rfl⟩ (HH_ask hH) (ci_nj (ci_np hC)) (((MF.rf _ _).f (by omega)).f (by omega)) (k_ask hC hBW ) (fun f1 l1 hM hKN => q_ask hM hBW hKN )
theorem pr_part {G : GG} (x : Int32) : Pr G mX9_part mX10_part [.int x] isI := by
  rintro f l ⟨D, W, U, T, N, hC, hM, hKN, hH⟩
  have hBW := hH.1
  have hE := kL_eq (D := D) hH.1.2.1 hH.2.1
  obtain ⟨hD, hLW, hUW, hTW⟩ := id hBW
  have hR := hD.1
  have hU1 := hUW.1
  rcases inR_cases x 4 with hx | ⟨t, ht, rfl⟩
  · exact pr_fi hC hM hKN hH ⟨_, rfl⟩ (k_part_a hC hBW hx) (fun f1 l1 hM hKN => q_part_a hM hBW hKN hx)
  by_cases h0 : T.1 t = 0
  · exact pr_fi hC hM hKN hH ⟨_, rfl⟩ (k_part_b hC hBW ht h0) (fun f1 l1 hM hKN => q_part_b hM hBW hKN ht h0)
  by_cases hp : U.1 = 3
  · exact pr_no hC hM hKN hH ⟨_, rfl⟩ (k_part_c hC hBW ht h0 hp) (fun f1 l1 hM hKN => q_part_c hM hBW hKN ht h0 hp)
  have hp : U.1 < 3 := by omega
  exact pr_ex D W (prtU U t) T hM hKN ⟨_, rfl⟩ (HH_prt ht hp hH) (ci_prt hp hC) (mf_prt hp f l t) (k_part_d hC hBW ht h0 hp) (fun f1 l1 hM hKN => q_part_d hM hBW hKN ht h0 hp)
theorem pr_tell {G : GG} (x y : Int32) (v : Int64) : Pr G mX9_tell mX10_tell [.int x, .int y, .long v] isI := by
  rintro f l ⟨D, W, U, T, N, hC, hM, hKN, hH⟩
  have hBW := hH.1
  have hE := kL_eq (D := D) hH.1.2.1 hH.2.1
  obtain ⟨hD, hLW, hUW, hTW⟩ := id hBW
  have hR := hD.1
  have hU1 := hUW.1
  rcases inR_cases x U.1 with hx | ⟨r, hr, rfl⟩
  · exact pr_no hC hM hKN hH ⟨_, rfl⟩ (k_tell_a hC hBW hx) (fun f1 l1 hM hKN => q_tell_a hM hBW hKN hx)
  rcases inR_cases y (T.1 (U.2.1 r)) with hy | ⟨c, hc, rfl⟩
  · exact pr_fi hC hM hKN hH ⟨_, rfl⟩ (k_tell_b hC hBW hr hy) (fun f1 l1 hM hKN => q_tell_b hM hBW hKN hr hy)
  have hr3 : r < 3 := by omega
  exact pr_ex D W (U.1, U.2.1, uf U.2.2.1 r c 1, uf U.2.2.2.1 r c v, U.2.2.2.2) T hM hKN ⟨_, rfl⟩ (HH_tel hH) (ci_pnu hr3 (ci_pto hr3 hC)) (((MF.rf _ _).f (by omega)).l (by omega)) (k_tell_c hC hBW hr hc) (fun f1 l1 hM hKN => q_tell_c hM hBW hKN hr hc)
theorem pr_join {G : GG} (x y z u : Int32) : Pr G mX9_join mX10_join [.int x, .int y, .int z, .int u] isI := by
  rintro f l ⟨D, W, U, T, N, hC, hM, hKN, hH⟩
  have hBW := hH.1
  have hE := kL_eq (D := D) hH.1.2.1 hH.2.1
  obtain ⟨hD, hLW, hUW, hTW⟩ := id hBW
  have hR := hD.1
  have hU1 := hUW.1
  have hJ1 := hUW.2.1
  rcases inR_cases x U.1 with hx | ⟨p, hp, rfl⟩
  · exact pr_no hC hM hKN hH ⟨_, rfl⟩ (k_join_a hC hBW hx) (fun f1 l1 hM hKN => q_join_a hM hBW hKN hx)
  rcases inR_cases z U.1 with hx | ⟨q, hq, rfl⟩
  · exact pr_no hC hM hKN hH ⟨_, rfl⟩ (k_join_b hC hBW hp hx) (fun f1 l1 hM hKN => q_join_b hM hBW hKN hp hx)
  have htp := hTW.1 _ (hUW.2.2.1 p hp).1
  have htq := hTW.1 _ (hUW.2.2.1 q hq).1
  rcases inR_cases y (T.1 (U.2.1 p)) with hy | ⟨c, hc, rfl⟩
  · exact pr_fi hC hM hKN hH ⟨_, rfl⟩ (k_join_c hC hBW hp hq hy) (fun f1 l1 hM hKN => q_join_c hM hBW hKN hp hq hy)
  rcases inR_cases u (T.1 (U.2.1 q)) with hy | ⟨d, hd, rfl⟩
  · exact pr_fi hC hM hKN hH ⟨_, rfl⟩ (k_join_d hC hBW hp hq hc hy) (fun f1 l1 hM hKN => q_join_d hM hBW hKN hp hq hc hy)
  by_cases hj : U.2.2.2.2.1 = 6
  · exact pr_no hC hM hKN hH ⟨_, rfl⟩ (k_join_e hC hBW hp hq hc hd hj) (fun f1 l1 hM hKN => q_join_e hM hBW hKN hp hq hc hd hj)
  have hj : U.2.2.2.2.1 < 6 := by omega
  exact pr_ex D W (U.1, U.2.1, U.2.2.1, U.2.2.2.1, U.2.2.2.2.1 + 1, uf (uf (uf (uf U.2.2.2.2.2 U.2.2.2.2.1 0 p) U.2.2.2.2.1 1 c) U.2.2.2.2.1 2 q) U.2.2.2.2.1 3 d) T hM hKN ⟨_, rfl⟩ (HH_joi hp hq (by omega) (by omega) hj hH) (ci_nj (ci_joi hj (ci_joi hj (ci_joi hj (ci_joi hj hC))))) ((((((MF.rf _ _).f (by omega)).f (by omega)).f (by omega)).f (by omega)).f (by omega)) (k_join_f hC hBW hp hq hc hd hj) (fun f1 l1 hM hKN => q_join_f hM hBW hKN hp hq hc hd hj)
theorem pr_stands {G : GG} : Pr G mX9_stands mX10_stands [] isI := by
  rintro f l ⟨D, W, U, T, N, hC, hM, hKN, hH⟩
  have hBW := hH.1
  have hE := kL_eq (D := D) hH.1.2.1 hH.2.1
  obtain ⟨hD, hLW, hUW, hTW⟩ := id hBW
  have hR := hD.1
  exact pr_fr hC hM hKN hH ⟨_, rfl⟩ (k_stands hC hBW ) (fun f1 l1 hM hKN => q_stands hM hBW hKN )
theorem pr_count {G : GG} (x : Int32) : Pr G mX9_count mX10_count [.int x] isI := by
  rintro f l ⟨D, W, U, T, N, hC, hM, hKN, hH⟩
  have hBW := hH.1
  have hE := kL_eq (D := D) hH.1.2.1 hH.2.1
  obtain ⟨hD, hLW, hUW, hTW⟩ := id hBW
  have hR := hD.1
  rcases inR_cases x 7 with hx | ⟨c, hc, rfl⟩
  · exact pr_no hC hM hKN hH ⟨_, rfl⟩ (k_count_x hC hBW hx) (fun f1 l1 hM hKN => q_count_x hM hBW hKN hx)
  rcases (show c = 0 ∨ c = 1 ∨ c = 2 ∨ c = 3 ∨ c = 4 ∨ c = 5 ∨ c = 6 by omega) with rfl | rfl | rfl | rfl | rfl | rfl | rfl
  · exact pr_no hC hM hKN hH ⟨_, rfl⟩ (k_count_0 hC hBW ) (fun f1 l1 hM hKN => q_count_0 hM hBW hKN )
  · exact pr_no hC hM hKN hH ⟨_, rfl⟩ (k_count_1 hC hBW ) (fun f1 l1 hM hKN => q_count_1 hM hBW hKN )
  · exact pr_no hC hM hKN hH ⟨_, rfl⟩ (k_count_2 hC hBW ) (fun f1 l1 hM hKN => q_count_2 hM hBW hKN )
  · exact pr_no hC hM hKN hH ⟨_, rfl⟩ (k_count_3 hC hBW ) (fun f1 l1 hM hKN => q_count_3 hM hBW hKN )
  · exact pr_no hC hM hKN hH ⟨_, rfl⟩ (k_count_4 hC hBW ) (fun f1 l1 hM hKN => q_count_4 hM hBW hKN )
  · exact pr_no hC hM hKN hH ⟨_, rfl⟩ (k_count_5 hC hBW ) (fun f1 l1 hM hKN => q_count_5 hM hBW hKN )
  · exact pr_no hC hM hKN hH ⟨_, rfl⟩ (k_count_6 hC hBW ) (fun f1 l1 hM hKN => q_count_6 hM hBW hKN )

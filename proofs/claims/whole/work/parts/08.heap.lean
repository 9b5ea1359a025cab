-- the rows of P that touch the world: fields, arrays, new cells, calls, the end
theorem Hp_at {G : GG} {n : Nat} {σ : SS} {H : Heap} (h : Hp G n σ H) {k : Nat} (hk : k < n) : (wsl G n σ)[k]? = some (ad G k, cellOf G σ k) := wsl_get hk
theorem cell_obj {G : GG} {σ : SS} {k ci N : Nat} (hl : lay k = (ci, N)) (hci : ci < 11) : cellOf G σ k = .inr (ci, (List.range N).map (fun j => fv G σ k (fty ci j) j)) := by
  simp only [cellOf, hl, cellAt, if_pos hci]
theorem cell_int {G : GG} {σ : SS} {k N : Nat} (hl : lay k = (11, N)) : cellOf G σ k = .inl (G.2.2.1 0, N, .inl fun j => nI (σ.1 k j)) := by
  simp [cellOf, hl, cellAt]
theorem cell_long {G : GG} {σ : SS} {k N : Nat} (hl : lay k = (12, N)) : cellOf G σ k = .inl (G.2.2.1 1, N, .inr (.inl (σ.2.1 k))) := by
  simp [cellOf, hl, cellAt]
theorem cell_bool {G : GG} {σ : SS} {k N : Nat} (hl : lay k = (13, N)) : cellOf G σ k = .inl (G.2.2.1 2, N, .inl fun j => nI (σ.1 k j)) := by
  simp [cellOf, hl, cellAt]
theorem cell_refs {G : GG} {σ : SS} {k kd N : Nat} (hl : lay k = (kd, N)) (hk : 14 ≤ kd) : cellOf G σ k = .inl (G.2.2.1 kd, N, .inr (.inr (.inr (.inr (fun j => (σ.2.2 k j).map (fun q => ad G q)))))) := by
  simp only [cellOf, hl, cellAt]
  rw [if_neg (by omega), if_neg (by omega), if_neg (by omega), if_neg (by omega)]
theorem fs_get {G : GG} {σ : SS} {k ci N j : Nat} (hj : j < N) : ((List.range N).map (fun j => fv G σ k (fty ci j) j))[j]? = some (fv G σ k (fty ci j) j) := by
  simp [hj]
theorem upd_nI (f : Nat → Nat) (i a : Nat) : upd (fun j => nI (f j)) i (nI a) = fun j => nI (if j = i then a else f j) := by
  funext j
  simp only [upd]
  split <;> rfl
theorem fv_at {G : GG} {σ : SS} {k ci N j t : Nat} {v : Value} (hl : lay k = (ci, N)) (hci : ci < 11) (hj : j < N) (hty : fty ci j = t) (hv : fv G σ k t j = v) : ∃ fs, cellOf G σ k = .inr (ci, fs) ∧ fs[j]? = some v := by
  refine ⟨_, cell_obj hl hci, ?_⟩
  rw [fs_get hj, hty, hv]
section PHEAP
variable {G : GG} {own : String} {cc : ByteArray} {nL : Nat} {K : KK} {pc : Nat} {ls : List (Option Value)} {st : List Value} {n : Nat} {σ : SS}
theorem P.getf {ci N j k idx t : Nat} {C : String} {T : u_T} {v : Value} (hc : vwCl[ci]? = some (C, T, N)) (hin : ∀ w ∈ u_ws C T N, w ∈ lw_tbl) (hlay : lay k = (ci, N)) (hci : ci < 11) (hk : k < n) (hj : j < N) (hty : fty ci j = t) (hv : fv G σ k t j = v)
    (hlink : Cond.fieldLink own idx (T j).1 (T j).2.1 (T j).2.2.1 ∈ lw_tbl) (hd : decode cc pc = .ok (.getfield idx, 3)) (kk : P G own cc nL K (pc + 3) ls (v :: st) n σ) : P G own cc nL K pc ls (.ref (ad G k) :: st) n σ := by
  intro p e s m args below meth c hM hX H locs lsA hH hS hl h1 h2
  obtain ⟨fs, e1, e2⟩ := fv_at (G := G) (σ := σ) hlay hci hj hty hv
  refine va_get hM.1 hM.2.1 hM.2.2.2.2.1 (fun w hw => tog (hin w hw) (lays_good w hw)) hM.2.2.2.1 hM.2.2.2.2.2.1.1 hH.2 k (fs := fs) ?_ hc j hj (hM.2.2.2.2.1 _ (tog hlink rfl)) (fun _ h => h) e2 hd (kk p e s m args below meth c hM hX H locs lsA hH hS hl h1 h2)
  rw [wsl_get hk, e1]
theorem P.geti {ci N j k idx : Nat} {C : String} {T : u_T} (hc : vwCl[ci]? = some (C, T, N)) (hin : ∀ w ∈ u_ws C T N, w ∈ lw_tbl) (hlay : lay k = (ci, N)) (hci : ci < 11) (hk : k < n) (hj : j < N) (hty : fty ci j = 0)
    (hlink : Cond.fieldLink own idx (T j).1 (T j).2.1 (T j).2.2.1 ∈ lw_tbl) (hd : decode cc pc = .ok (.getfield idx, 3)) (kk : P G own cc nL K (pc + 3) ls (.int (nI (σ.1 k j)) :: st) n σ) : P G own cc nL K pc ls (.ref (ad G k) :: st) n σ :=
  P.getf hc hin hlay hci hk hj hty rfl hlink hd kk
theorem P.getl {ci N j k idx : Nat} {C : String} {T : u_T} (hc : vwCl[ci]? = some (C, T, N)) (hin : ∀ w ∈ u_ws C T N, w ∈ lw_tbl) (hlay : lay k = (ci, N)) (hci : ci < 11) (hk : k < n) (hj : j < N) (hty : fty ci j = 1)
    (hlink : Cond.fieldLink own idx (T j).1 (T j).2.1 (T j).2.2.1 ∈ lw_tbl) (hd : decode cc pc = .ok (.getfield idx, 3)) (kk : P G own cc nL K (pc + 3) ls (.long (σ.2.1 k j) :: st) n σ) : P G own cc nL K pc ls (.ref (ad G k) :: st) n σ :=
  P.getf hc hin hlay hci hk hj hty rfl hlink hd kk
theorem P.getr {ci N j k idx q : Nat} {C : String} {T : u_T} (hc : vwCl[ci]? = some (C, T, N)) (hin : ∀ w ∈ u_ws C T N, w ∈ lw_tbl) (hlay : lay k = (ci, N)) (hci : ci < 11) (hk : k < n) (hj : j < N) (hty : fty ci j = 2) (hr : σ.2.2 k j = some q)
    (hlink : Cond.fieldLink own idx (T j).1 (T j).2.1 (T j).2.2.1 ∈ lw_tbl) (hd : decode cc pc = .ok (.getfield idx, 3)) (kk : P G own cc nL K (pc + 3) ls (.ref (ad G q) :: st) n σ) : P G own cc nL K pc ls (.ref (ad G k) :: st) n σ :=
  P.getf hc hin hlay hci hk hj hty (by simp [fv, hr, va_rf]) hlink hd kk
theorem Hp.store {σ' : SS} {H H1 : Heap} {k : Nat} (hH : Hp G n σ H) (hk : k < n) (z : H1.size = H.size) (oq : ∀ q : Nat, q ≠ ad G k → H1[q]? = H[q]?) (he : va_at G.2.1 vwCl (ad G k, cellOf G σ' k) H1) (hrow : ∀ q, q ≠ k → cellOf G σ' q = cellOf G σ q) : Hp G n σ' H1 := by
  refine ⟨z.trans hH.1, ?_⟩
  have h1 := hH.2.set (wsl_D G n σ) (wsl_get hk) he oq
  rwa [wsl_set (σ' := σ') rfl hrow] at h1
theorem aA0 (G : GG) (k : Nat) : A0 G (ad G k) := Nat.le_add_right _ _
/-- a field written: what the new world is, any way -/
theorem P.putf {ci N j k idx : Nat} {C : String} {T : u_T} {ty : FieldType} {v : Value} {σ' : SS} (ty0 : Nat → FieldType) (hty0 : ∀ k, k < N → parseFieldDescriptor (T k).2.2.1 = some (ty0 k)) (hnm : ∀ a, a < N → ∀ b, b < N → a ≠ b → (T a).2.1 ≠ (T b).2.1)
    (hc : vwCl[ci]? = some (C, T, N)) (hin : ∀ w ∈ u_ws C T N, w ∈ lw_tbl) (hlay : lay k = (ci, N)) (hci : ci < 11) (hk : k < n) (hj : j < N) (hfin : (T j).2.2.2 = false ∨ ((T j).2.2.2 = true ∧ (∀ s args meth, K.2.2.1 s args meth → meth.name = "<init>") ∧ (T j).1 = own)) (hpd : parseFieldDescriptor (T j).2.2.1 = some ty) (hn : narrow ty v = v) (hfit : fits ty v = true)
    (hnew : fv G σ' k (fty ci j) j = v) (hrow : ∀ q, q ≠ k → cellOf G σ' q = cellOf G σ q) (hoth : ∀ i, i ≠ j → fv G σ' k (fty ci i) i = fv G σ k (fty ci i) i)
    (hlink : Cond.fieldLink own idx (T j).1 (T j).2.1 (T j).2.2.1 ∈ lw_tbl) (hd : decode cc pc = .ok (.putfield idx, 3)) (kk : P G own cc nL K (pc + 3) ls st n σ') : P G own cc nL K pc ls (v :: .ref (ad G k) :: st) n σ := by
  intro p e s m args below meth c hM hX H locs lsA hH hS hl h1 h2
  obtain ⟨hx, hb, -, hown, hts, ⟨hK, -⟩, -, -⟩ := id hM
  have hin' : ∀ w ∈ u_ws C T N, w ∈ gtbl := fun w hw => tog (hin w hw) (lays_good w hw)
  have hlink' := hts _ (tog hlink rfl)
  have hap := va_apart (own := own) hts hin' ty0 hty0 hnm hK hc
  have hg := wsl_get (G := G) (σ := σ) hk
  rw [cell_obj hlay hci] at hg
  obtain ⟨r, hr1, cell, q1, q2, q3, q4⟩ := hH.2 k _ hg
  have hr : r = (C, T, N) := Option.some.inj (hr1.symm.trans hc)
  subst hr
  dsimp only at q1 q2 q3 q4
  obtain ⟨hSl, hfc, kC, hkC, hkind⟩ := hK.1 ci _ hc
  obtain ⟨cf, kf, fi, f, hi, hsl⟩ := hSl j hj
  have hst := (u_facts hfc hkC (u_lays hts hin' hj) hi).1
  have hlay' := hts _ (hin' _ (u_in_lay hj))
  unfold u_lay at hlay'
  have fin : ∀ H' : Heap, H'[ad G k]? = some (cell.setSlot f.slot v) → H'.size = H.size → (∀ q, q ≠ ad G k → H'[q]? = H[q]?) → W p G.1 e K.1 s m args below meth c H' (locs ++ [⟨ad G k, f.slot⟩]) (n - K.2.1) (szs n - szs K.2.1) (K.2.2.2 s args below) (F0 m (pc + 3) lsA st) := by
    intro H' e1 e2 e3
    rw [hsl] at e1
    refine kk p e s m args below meth c hM hX H' _ lsA (hH.store hk e2 e3 ?_ hrow) (hS.put e2 e3 (aA0 G k)) hl h1 h2
    rw [cell_obj hlay hci]
    refine ⟨_, hc, t_OB.to (V := updV (vp_V ((List.range N).map (fun j => fv G σ k (fty ci j) j))) j v) ⟨_, e1, q2, q3, t_set q4 hap hj v⟩ (fun i hi => ?_)⟩
    rw [vp_updV_set (by simpa using hj)]
    simp only [vp_V]
    by_cases hij : i = j
    · subst hij
      simp only [List.getD_eq_getElem?_getD]
      rw [List.getElem?_set_self (by simpa using hj), fs_get hj, hnew]
    · simp only [List.getD_eq_getElem?_getD]
      rw [List.getElem?_set_ne (Ne.symm hij), fs_get hi, fs_get hi, hoth i hij]
  rcases hfin with hfin | ⟨hfin, hin2, hdecl⟩
  · rw [if_neg (by rw [hfin]; decide)] at hlay'
    have h6 := u_store hfc hkC hkind hlay' hi hpd hn hfit
    exact W.putK hx hb (f := f) ⟨hown, hlink', ⟨_, _, _, hi⟩, hst⟩ (by rw [q2]; exact h6) q1 q3 (by rw [hsl]; exact k2_hasslot (q4 j hj)) rfl rfl hd fin
  · rw [if_pos hfin] at hlay'
    have hcf : m.cls = cf := by
      obtain ⟨_, _, c', _, _, _, -, -, hf', -, -, -, hown2, -⟩ := Cond.laysFinal_spec hlay'
      have e1 : c' = cf := by have := hi.symm.trans hf'; simp at this; exact this.1.symm
      rw [hdecl] at hown2
      rw [← e1]; exact Option.some.inj (hown.symm.trans hown2)
    have h6 := u_fits hfc hkC hkind (Or.inr hlay') hi hpd hn hfit
    exact W.putFinK hx hb hown hlink' hi hst hcf (hin2 _ _ _ hX) (by rw [q2]; exact h6) q1 q3 (by rw [hsl]; exact k2_hasslot (q4 j hj)) rfl rfl hd fin
theorem fv_i {σ' : SS} {k t i : Nat} (h1 : σ'.1 k i = σ.1 k i) (h2 : σ'.2.1 k i = σ.2.1 k i) (h3 : σ'.2.2 k i = σ.2.2 k i) : fv G σ' k t i = fv G σ k t i := by
  simp only [fv, h1, h2, h3]
theorem row_i {f : Nat → Nat → Nat} {l : Nat → Nat → Int64} {r : Nat → Nat → Option Nat} {k j a : Nat} : ∀ q, q ≠ k → cellOf G (uf f k j a, l, r) q = cellOf G (f, l, r) q := fun q hq => cellOf_row (uf_row f a hq) rfl rfl
theorem row_l {f : Nat → Nat → Nat} {l : Nat → Nat → Int64} {r : Nat → Nat → Option Nat} {k j : Nat} {a : Int64} : ∀ q, q ≠ k → cellOf G (f, uf l k j a, r) q = cellOf G (f, l, r) q := fun q hq => cellOf_row rfl (uf_row l a hq) rfl
theorem row_r {f : Nat → Nat → Nat} {l : Nat → Nat → Int64} {r : Nat → Nat → Option Nat} {k j : Nat} {a : Option Nat} : ∀ q, q ≠ k → cellOf G (f, l, uf r k j a) q = cellOf G (f, l, r) q := fun q hq => cellOf_row rfl rfl (uf_row r a hq)
/-- an int field (boolean: 0 or 1) -/
theorem P.puti {ci N j k idx a : Nat} {C : String} {T : u_T} {ty : FieldType} {x : Int32} {f : Nat → Nat → Nat} {l : Nat → Nat → Int64} {r : Nat → Nat → Option Nat} (ty0 : Nat → FieldType) (hty0 : ∀ k, k < N → parseFieldDescriptor (T k).2.2.1 = some (ty0 k)) (hnm : ∀ a, a < N → ∀ b, b < N → a ≠ b → (T a).2.1 ≠ (T b).2.1)
    (hc : vwCl[ci]? = some (C, T, N)) (hin : ∀ w ∈ u_ws C T N, w ∈ lw_tbl) (hlay : lay k = (ci, N)) (hci : ci < 11) (hk : k < n) (hj : j < N) (hfin : (T j).2.2.2 = false) (hpd : parseFieldDescriptor (T j).2.2.1 = some ty) (hty : fty ci j = 0)
    (hlink : Cond.fieldLink own idx (T j).1 (T j).2.1 (T j).2.2.1 ∈ lw_tbl) (hd : decode cc pc = .ok (.putfield idx, 3)) (hx : x = nI a) (hti : ty = .int ∨ (ty = .boolean ∧ a < 2)) (kk : P G own cc nL K (pc + 3) ls st n (uf f k j a, l, r)) : P G own cc nL K pc ls (.int x :: .ref (ad G k) :: st) n (f, l, r) := by
  subst hx
  refine P.putf ty0 hty0 hnm hc hin hlay hci hk hj (Or.inl hfin) hpd ?_ ?_ (by simp [fv, hty, uf_self]) row_i (fun i hi => fv_i (uf_ne f a (Or.inr hi)) rfl rfl) hlink hd kk
  · rcases hti with rfl | ⟨rfl, h⟩
    · rfl
    · rcases (show a = 0 ∨ a = 1 by omega) with rfl | rfl <;> rfl
  · rcases hti with rfl | ⟨rfl, h⟩
    · rfl
    · rcases (show a = 0 ∨ a = 1 by omega) with rfl | rfl <;> rfl
theorem P.putl {ci N j k idx : Nat} {C : String} {T : u_T} {x : Int64} {f : Nat → Nat → Nat} {l : Nat → Nat → Int64} {r : Nat → Nat → Option Nat} (ty0 : Nat → FieldType) (hty0 : ∀ k, k < N → parseFieldDescriptor (T k).2.2.1 = some (ty0 k)) (hnm : ∀ a, a < N → ∀ b, b < N → a ≠ b → (T a).2.1 ≠ (T b).2.1)
    (hc : vwCl[ci]? = some (C, T, N)) (hin : ∀ w ∈ u_ws C T N, w ∈ lw_tbl) (hlay : lay k = (ci, N)) (hci : ci < 11) (hk : k < n) (hj : j < N) (hfin : (T j).2.2.2 = false) (hpd : parseFieldDescriptor (T j).2.2.1 = some .long) (hty : fty ci j = 1)
    (hlink : Cond.fieldLink own idx (T j).1 (T j).2.1 (T j).2.2.1 ∈ lw_tbl) (hd : decode cc pc = .ok (.putfield idx, 3)) (kk : P G own cc nL K (pc + 3) ls st n (f, uf l k j x, r)) : P G own cc nL K pc ls (.long x :: .ref (ad G k) :: st) n (f, l, r) :=
  P.putf ty0 hty0 hnm hc hin hlay hci hk hj (Or.inl hfin) hpd rfl rfl (by simp [fv, hty, uf_self]) row_l (fun i hi => fv_i rfl (uf_ne l x (Or.inr hi)) rfl) hlink hd kk
/-- a final reference field, in a constructor -/
theorem P.putr {ci N j k idx q : Nat} {C : String} {T : u_T} {ty : FieldType} {f : Nat → Nat → Nat} {l : Nat → Nat → Int64} {r : Nat → Nat → Option Nat} (ty0 : Nat → FieldType) (hty0 : ∀ k, k < N → parseFieldDescriptor (T k).2.2.1 = some (ty0 k)) (hnm : ∀ a, a < N → ∀ b, b < N → a ≠ b → (T a).2.1 ≠ (T b).2.1)
    (hc : vwCl[ci]? = some (C, T, N)) (hin : ∀ w ∈ u_ws C T N, w ∈ lw_tbl) (hlay : lay k = (ci, N)) (hci : ci < 11) (hk : k < n) (hj : j < N) (hfin : (T j).2.2.2 = true) (hin2 : ∀ s args meth, K.2.2.1 s args meth → meth.name = "<init>") (hdecl : (T j).1 = own) (hpd : parseFieldDescriptor (T j).2.2.1 = some ty) (hty : fty ci j = 2) (hrt : ∀ q : Nat, narrow ty (.ref q) = .ref q ∧ fits ty (.ref q) = true)
    (hlink : Cond.fieldLink own idx (T j).1 (T j).2.1 (T j).2.2.1 ∈ lw_tbl) (hd : decode cc pc = .ok (.putfield idx, 3)) (kk : P G own cc nL K (pc + 3) ls st n (f, l, uf r k j (some q))) : P G own cc nL K pc ls (.ref (ad G q) :: .ref (ad G k) :: st) n (f, l, r) :=
  P.putf ty0 hty0 hnm hc hin hlay hci hk hj (Or.inr ⟨hfin, hin2, hdecl⟩) hpd (hrt _).1 (hrt _).2 (by simp [fv, hty, uf_self, va_rf]) row_r (fun i hi => fv_i rfl rfl (uf_ne r _ (Or.inr hi))) hlink hd kk
-- arrays
theorem in_nI {i N : Nat} (h : i < N) (hN : N < 2147483648) : vp_in (nI i) N := vp_in_nI h hN
theorem cl_nI {i : Nat} (h : i < 2147483648) : (nI i).toNatClampNeg = i := nI_clamp h
theorem P.iald {k N i : Nat} (hlay : lay k = (11, N)) (hk : k < n) (hi : i < N) (hN : N < 2147483648) (hd : decode cc pc = .ok (.iaload, 1)) (kk : P G own cc nL K (pc + 1) ls (.int (nI (σ.1 k i)) :: st) n σ) : P G own cc nL K pc ls (.int (nI i) :: .ref (ad G k) :: st) n σ := by
  intro p e s m args below meth c hM hX H locs lsA hH hS hl h1 h2
  have k2 := kk p e s m args below meth c hM hX H locs lsA hH hS hl h1 h2
  refine va_iald hM.1 hM.2.1 hM.2.2.2.2.2.1.1 hH.2 k 0 (cA := G.2.2.1 0) (n := N) (f := fun j => nI (σ.1 k j)) (by rw [wsl_get hk, cell_int hlay]) rfl (in_nI hi hN) hd ?_
  rw [cl_nI (by omega)]
  exact k2
theorem P.zald {k N i : Nat} (hlay : lay k = (13, N)) (hk : k < n) (hi : i < N) (hN : N < 2147483648) (hd : decode cc pc = .ok (.baload, 1)) (kk : P G own cc nL K (pc + 1) ls (.int (nI (σ.1 k i)) :: st) n σ) : P G own cc nL K pc ls (.int (nI i) :: .ref (ad G k) :: st) n σ := by
  intro p e s m args below meth c hM hX H locs lsA hH hS hl h1 h2
  have k2 := kk p e s m args below meth c hM hX H locs lsA hH hS hl h1 h2
  refine va_zald hM.1 hM.2.1 hM.2.2.2.2.2.1.1 hH.2 k 2 (cA := G.2.2.1 2) (n := N) (f := fun j => nI (σ.1 k j)) (by rw [wsl_get hk, cell_bool hlay]) rfl (in_nI hi hN) hd ?_
  rw [cl_nI (by omega)]
  exact k2
theorem P.lald {k N i : Nat} (hlay : lay k = (12, N)) (hk : k < n) (hi : i < N) (hN : N < 2147483648) (hd : decode cc pc = .ok (.laload, 1)) (kk : P G own cc nL K (pc + 1) ls (.long (σ.2.1 k i) :: st) n σ) : P G own cc nL K pc ls (.int (nI i) :: .ref (ad G k) :: st) n σ := by
  intro p e s m args below meth c hM hX H locs lsA hH hS hl h1 h2
  have k2 := kk p e s m args below meth c hM hX H locs lsA hH hS hl h1 h2
  refine va_lald hM.1 hM.2.1 hM.2.2.2.2.2.1.1 hH.2 k 1 (cA := G.2.2.1 1) (n := N) (f := σ.2.1 k) (by rw [wsl_get hk, cell_long hlay]) rfl (in_nI hi hN) hd ?_
  rw [cl_nI (by omega)]
  exact k2
theorem P.aald {k kd N i q t0 : Nat} {C : String} (hlay : lay k = (kd, N)) (hkd : 14 ≤ kd) (ht : (tysl G)[t0]? = some (G.2.2.1 kd, .object C)) (hk : k < n) (hi : i < N) (hN : N < 2147483648) (hr : σ.2.2 k i = some q) (hd : decode cc pc = .ok (.aaload, 1)) (kk : P G own cc nL K (pc + 1) ls (.ref (ad G q) :: st) n σ) : P G own cc nL K pc ls (.int (nI i) :: .ref (ad G k) :: st) n σ := by
  intro p e s m args below meth c hM hX H locs lsA hH hS hl h1 h2
  have k2 := kk p e s m args below meth c hM hX H locs lsA hH hS hl h1 h2
  refine va_aldq hM.1 hM.2.1 hM.2.2.2.2.2.1.1 hH.2 k t0 (cA := G.2.2.1 kd) (C := C) (n := N) (f := fun j => (σ.2.2 k j).map (fun q => ad G q)) (by rw [wsl_get hk, cell_refs hlay hkd]) ht (in_nI hi hN) hd ?_
  rw [cl_nI (by omega), hr]
  exact k2
theorem P.iast {k N i a : Nat} {x : Int32} {f : Nat → Nat → Nat} {l : Nat → Nat → Int64} {r : Nat → Nat → Option Nat} (hlay : lay k = (11, N)) (hk : k < n) (hi : i < N) (hN : N < 2147483648) (hx : x = nI a) (hd : decode cc pc = .ok (.iastore, 1)) (kk : P G own cc nL K (pc + 1) ls st n (uf f k i a, l, r)) : P G own cc nL K pc ls (.int x :: .int (nI i) :: .ref (ad G k) :: st) n (f, l, r) := by
  intro p e s m args below meth c hM hX H locs lsA hH hS hl h1 h2
  have hg := hH.2 k _ (wsl_get (G := G) hk)
  rw [cell_int hlay] at hg
  refine W.iast hM.1 hM.2.1 hg ((hM.2.2.2.2.2.1.1.2 0 _ rfl).1 N (fun j => .int (nI (f k j)))) (fun q => by cases q) (by show ¬ (_ < 0 ∨ (arrV _ _ _).slots.size ≤ _); rw [arrV_size]; exact in_nI hi hN) rfl rfl hd fun H1 e1 z oq => ?_
  refine kk p e s m args below meth c hM hX H1 _ lsA (hH.store hk z oq ?_ row_i) (hS.put z oq (aA0 G k)) hl h1 h2
  rw [cell_int hlay]
  show H1[ad G k]? = some (vp_cell _ _)
  rw [e1, vp_cell_i, vp_cell_i, arrV_store, cl_nI (by omega), hx]
  congr 2
  funext q
  by_cases hq : q = i
  · subst hq
    simp [updV, uf]
  · simp [updV, uf, hq]
theorem P.zast {k N i a : Nat} {x : Int32} {f : Nat → Nat → Nat} {l : Nat → Nat → Int64} {r : Nat → Nat → Option Nat} (hlay : lay k = (13, N)) (hk : k < n) (hi : i < N) (hN : N < 2147483648) (hx : x = nI a) (ha : a < 2) (hd : decode cc pc = .ok (.bastore, 1)) (kk : P G own cc nL K (pc + 1) ls st n (uf f k i a, l, r)) : P G own cc nL K pc ls (.int x :: .int (nI i) :: .ref (ad G k) :: st) n (f, l, r) := by
  intro p e s m args below meth c hM hX H locs lsA hH hS hl h1 h2
  have hg := hH.2 k _ (wsl_get (G := G) hk)
  rw [cell_bool hlay] at hg
  refine W.zast hM.1 hM.2.1 hg ((hM.2.2.2.2.2.1.1.2 2 _ rfl).1 N (fun j => .int (nI (f k j)))) (fun q => by cases q) (by show ¬ (_ < 0 ∨ (arrV _ _ _).slots.size ≤ _); rw [arrV_size]; exact in_nI hi hN) rfl rfl hd fun H1 e1 z oq => ?_
  refine kk p e s m args below meth c hM hX H1 _ lsA (hH.store hk z oq ?_ row_i) (hS.put z oq (aA0 G k)) hl h1 h2
  rw [cell_bool hlay]
  show H1[ad G k]? = some (vp_cell _ _)
  have hna : narrow .boolean (.int x) = .int (nI a) := by
    subst hx
    rcases (show a = 0 ∨ a = 1 by omega) with rfl | rfl <;> rfl
  rw [e1, vp_cell_i, vp_cell_i, arrV_store, cl_nI (by omega), hna]
  congr 2
  funext q
  by_cases hq : q = i
  · subst hq
    simp [updV, uf]
  · simp [updV, uf, hq]
theorem P.last {k N i : Nat} {x : Int64} {f : Nat → Nat → Nat} {l : Nat → Nat → Int64} {r : Nat → Nat → Option Nat} (hlay : lay k = (12, N)) (hk : k < n) (hi : i < N) (hN : N < 2147483648) (hd : decode cc pc = .ok (.lastore, 1)) (kk : P G own cc nL K (pc + 1) ls st n (f, uf l k i x, r)) : P G own cc nL K pc ls (.long x :: .int (nI i) :: .ref (ad G k) :: st) n (f, l, r) := by
  intro p e s m args below meth c hM hX H locs lsA hH hS hl h1 h2
  have hg := hH.2 k _ (wsl_get (G := G) hk)
  rw [cell_long hlay] at hg
  refine W.last hM.1 hM.2.1 hg ((hM.2.2.2.2.2.1.1.2 1 _ rfl).1 N (fun j => .long (l k j))) (fun q => by cases q) (by show ¬ (_ < 0 ∨ (arrV _ _ _).slots.size ≤ _); rw [arrV_size]; exact in_nI hi hN) rfl rfl hd fun H1 e1 z oq => ?_
  refine kk p e s m args below meth c hM hX H1 _ lsA (hH.store hk z oq ?_ row_l) (hS.put z oq (aA0 G k)) hl h1 h2
  rw [cell_long hlay]
  show H1[ad G k]? = some (vp_cell _ _)
  rw [e1, vp_cell_l, vp_cell_l, arrV_store, cl_nI (by omega)]
  congr 2
  funext q
  by_cases hq : q = i
  · subst hq
    simp [updV, uf]
  · simp [updV, uf, hq]
end PHEAP

-- the rows of P that make cells
theorem szs_s (n : Nat) : szs (n + 1) = szs n + (lay n).2 := rfl
theorem Hp.grow {G : GG} {n : Nat} {σ : SS} {H H1 : Heap} (hH : Hp G n σ H) (z : H1.size = H.size + 1) (o1 : ∀ q : Nat, q < H.size → H1[q]? = H[q]?) (he : va_at G.2.1 vwCl (ad G n, cellOf G σ n) H1) : Hp G (n + 1) σ H1 := by
  refine ⟨by rw [z, hH.1]; rfl, ?_⟩
  have hk : ∀ (k : Nat) (x : Nat × va_E), (wsl G n σ)[k]? = some x → H1[x.1]? = H[x.1]? := fun k x hx => o1 x.1 ((hH.2 k x hx).lt)
  rw [← wsl_push G n σ σ rfl (fun _ _ => rfl)]
  refine (hH.2.kept hk).app (fun k x hx => ?_)
  have hz : k < 1 := (List.getElem?_eq_some_iff.mp hx).1
  rw [show k = 0 by omega] at hx
  cases hx
  exact he
theorem S.grow {G : GG} {H0 H H1 : Heap} {locs : List Loc} (hS : va_S (A0 G) H0 H locs) (z : H1.size = H.size + 1) (o1 : ∀ q : Nat, q < H.size → H1[q]? = H[q]?) : va_S (A0 G) H0 H1 locs :=
  ⟨Nat.le_trans hS.1 (by omega), fun x h1 h2 => (o1 x (Nat.lt_of_lt_of_le h1 hS.1)).trans (hS.2.1 x h1 h2), hS.2.2⟩
section PNEW
variable {G : GG} {own : String} {cc : ByteArray} {nL : Nat} {K : KK} {pc : Nat} {ls : List (Option Value)} {st : List Value} {n : Nat} {σ : SS}
/-- room for one more cell -/
def Roo (K : KK) (n : Nat) : Prop := n + 1 - K.2.1 ≤ K.1.cells ∧ szs (n + 1) - szs K.2.1 ≤ K.1.slots
theorem roo_c (h : Roo K n) (h1 : K.2.1 ≤ n) : n - K.2.1 + 1 ≤ K.1.cells := by have := h.1; omega
theorem roo_s (h : Roo K n) (h2 : szs K.2.1 ≤ szs n) : szs n - szs K.2.1 + (lay n).2 ≤ K.1.slots := by have := h.2; rw [szs_s] at this; omega
theorem P.new {ci N idx : Nat} {C : String} {T : u_T} (ty0 : Nat → FieldType) (hty0 : ∀ k, k < N → parseFieldDescriptor (T k).2.2.1 = some (ty0 k)) (hc : vwCl[ci]? = some (C, T, N)) (hin : ∀ w ∈ u_ws C T N, w ∈ lw_tbl) (hlay : lay n = (ci, N)) (hci : ci < 11)
    (hz : ∀ j, j < N → defaultValue (ty0 j) = fv G σ n (fty ci j) j) (hcl : Cond.classLink own idx C ∈ lw_tbl) (hinst : Cond.instantiable C N ∈ lw_tbl) (hini : Cond.initialized C ∈ lw_tbl) (hroo : Roo K n) (hd : decode cc pc = .ok (.new idx, 3))
    (kk : P G own cc nL K (pc + 3) ls (.ref (ad G n) :: st) (n + 1) σ) : P G own cc nL K pc ls st n σ := by
  intro p e s m args below meth c hM hX H locs lsA hH hS hl h1 h2
  obtain ⟨hx, hb, -, hown, hts, hKl, -, -⟩ := id hM
  have hin' : ∀ w ∈ u_ws C T N, w ∈ gtbl := fun w hw => tog (hin w hw) (lays_good w hw)
  have hKn := hKl.1.1 ci _ hc
  have e2 : (lay n).2 = N := by rw [hlay]
  refine W.newcK hx hb hown (hts _ (tog hcl rfl)) (hts _ (tog hinst rfl)) (hts _ (tog hini rfl)) rfl hd (roo_c hroo h1) (by have := roo_s hroo h2; rw [e2] at this; exact this) hKn.2.1 hH.1 fun H1 kC hkC e1 z1 o1 => ?_
  have o2 : ∀ q : Nat, q < H.size → H1[q]? = H[q]? := fun q hq => o1 q (by rw [← hH.1]; exact hq)
  have z2 : H1.size = H.size + 1 := by rw [z1, hH.1]
  have k2 := kk p e s m args below meth c hM hX H1 locs lsA (hH.grow z2 o2 ?_) (S.grow hS z2 o2) hl (by omega) (by rw [szs_s]; omega)
  · rw [show n + 1 - K.2.1 = n - K.2.1 + 1 by omega, szs_s, e2, show szs n + N - szs K.2.1 = szs n - szs K.2.1 + N by omega] at k2
    exact k2
  · rw [cell_obj hlay hci]
    refine ⟨_, hc, (u_born ty0 hts hin' hKn hkC e1 hty0).to (fun j hj => ?_)⟩
    rw [hz j hj]
    simp only [vp_V, List.getD_eq_getElem?_getD]
    rw [fs_get hj]
    rfl
theorem nI_ok {N : Nat} (h : N < 2147483648) : ¬ nI N < 0 := by
  rw [Int32.lt_iff_toInt_lt, zN h]
  show ¬ ((N : Int) < 0)
  omega
/-- a new array of numbers -/
theorem P.newI {N : Nat} (hlay : lay n = (11, N)) (hN : N ≤ 4096) (hz : ∀ j, σ.1 n j = 0) (hroo : Roo K n) (hd : decode cc pc = .ok (.newarray .int, 2))
    (kk : P G own cc nL K (pc + 2) ls (.ref (ad G n) :: st) (n + 1) σ) : P G own cc nL K pc ls (.int (nI N) :: st) n σ := by
  intro p e s m args below meth c hM hX H locs lsA hH hS hl h1 h2
  obtain ⟨hx, hb, -, hown, hts, hKl, -, -⟩ := id hM
  have e2 : (lay n).2 = N := by rw [hlay]
  refine va_newaK (atype := .int) (N := N) hx hb (hts _ (tog ac_int rfl)) rfl hd rfl (nI_ok (by omega)) (cl_nI (by omega)) (Nat.le_trans (Nat.mul_le_mul_right 4 hN) (Nat.le_of_ble_eq_true rfl)) (roo_c hroo h1) (by have := roo_s hroo h2; rw [e2] at this; exact this) hH.1 fun H1 cA e1 z1 o1 hAr hNm => ?_
  have hcA : cA = G.2.2.1 0 := Option.some.inj (hNm.symm.trans (hKl.1.2 0 _ rfl).2)
  subst hcA
  have o2 : ∀ q : Nat, q < H.size → H1[q]? = H[q]? := fun q hq => o1 q (by rw [← hH.1]; exact hq)
  have z2 : H1.size = H.size + 1 := by rw [z1, hH.1]
  have k2 := kk p e s m args below meth c hM hX H1 locs lsA (hH.grow z2 o2 ?_) (S.grow hS z2 o2) hl (by omega) (by rw [szs_s]; omega)
  · rw [show n + 1 - K.2.1 = n - K.2.1 + 1 by omega, szs_s, e2, show szs n + N - szs K.2.1 = szs n - szs K.2.1 + N by omega] at k2
    exact k2
  · rw [cell_int hlay]
    show H1[ad G n]? = some (vp_cell _ _)
    rw [e1, vp_cell_i]
    congr 2
    funext j
    rw [hz j]
    rfl
theorem P.newL {N : Nat} (hlay : lay n = (12, N)) (hN : N ≤ 4096) (hz : ∀ j, σ.2.1 n j = 0) (hroo : Roo K n) (hd : decode cc pc = .ok (.newarray .long, 2))
    (kk : P G own cc nL K (pc + 2) ls (.ref (ad G n) :: st) (n + 1) σ) : P G own cc nL K pc ls (.int (nI N) :: st) n σ := by
  intro p e s m args below meth c hM hX H locs lsA hH hS hl h1 h2
  obtain ⟨hx, hb, -, hown, hts, hKl, -, -⟩ := id hM
  have e2 : (lay n).2 = N := by rw [hlay]
  refine va_newaK (atype := .long) (N := N) hx hb (hts _ (tog ac_long rfl)) rfl hd rfl (nI_ok (by omega)) (cl_nI (by omega)) (Nat.le_trans (Nat.mul_le_mul_right 8 hN) (Nat.le_of_ble_eq_true rfl)) (roo_c hroo h1) (by have := roo_s hroo h2; rw [e2] at this; exact this) hH.1 fun H1 cA e1 z1 o1 hAr hNm => ?_
  have hcA : cA = G.2.2.1 1 := Option.some.inj (hNm.symm.trans (hKl.1.2 1 _ rfl).2)
  subst hcA
  have o2 : ∀ q : Nat, q < H.size → H1[q]? = H[q]? := fun q hq => o1 q (by rw [← hH.1]; exact hq)
  have z2 : H1.size = H.size + 1 := by rw [z1, hH.1]
  have k2 := kk p e s m args below meth c hM hX H1 locs lsA (hH.grow z2 o2 ?_) (S.grow hS z2 o2) hl (by omega) (by rw [szs_s]; omega)
  · rw [show n + 1 - K.2.1 = n - K.2.1 + 1 by omega, szs_s, e2, show szs n + N - szs K.2.1 = szs n - szs K.2.1 + N by omega] at k2
    exact k2
  · rw [cell_long hlay]
    show H1[ad G n]? = some (vp_cell _ _)
    rw [e1, vp_cell_l]
    congr 2
    funext j
    rw [hz j]
    rfl
theorem P.newZ {N : Nat} (hlay : lay n = (13, N)) (hN : N ≤ 4096) (hz : ∀ j, σ.1 n j = 0) (hroo : Roo K n) (hd : decode cc pc = .ok (.newarray .boolean, 2))
    (kk : P G own cc nL K (pc + 2) ls (.ref (ad G n) :: st) (n + 1) σ) : P G own cc nL K pc ls (.int (nI N) :: st) n σ := by
  intro p e s m args below meth c hM hX H locs lsA hH hS hl h1 h2
  obtain ⟨hx, hb, -, hown, hts, hKl, -, -⟩ := id hM
  have e2 : (lay n).2 = N := by rw [hlay]
  refine va_newaK (atype := .boolean) (N := N) hx hb (hts _ (tog ac_boolean rfl)) rfl hd rfl (nI_ok (by omega)) (cl_nI (by omega)) (Nat.le_trans (Nat.mul_le_mul_right 1 hN) (Nat.le_of_ble_eq_true rfl)) (roo_c hroo h1) (by have := roo_s hroo h2; rw [e2] at this; exact this) hH.1 fun H1 cA e1 z1 o1 hAr hNm => ?_
  have hcA : cA = G.2.2.1 2 := Option.some.inj (hNm.symm.trans (hKl.1.2 2 _ rfl).2)
  subst hcA
  have o2 : ∀ q : Nat, q < H.size → H1[q]? = H[q]? := fun q hq => o1 q (by rw [← hH.1]; exact hq)
  have z2 : H1.size = H.size + 1 := by rw [z1, hH.1]
  have k2 := kk p e s m args below meth c hM hX H1 locs lsA (hH.grow z2 o2 ?_) (S.grow hS z2 o2) hl (by omega) (by rw [szs_s]; omega)
  · rw [show n + 1 - K.2.1 = n - K.2.1 + 1 by omega, szs_s, e2, show szs n + N - szs K.2.1 = szs n - szs K.2.1 + N by omega] at k2
    exact k2
  · rw [cell_bool hlay]
    show H1[ad G n]? = some (vp_cell _ _)
    rw [e1, vp_cell_i]
    congr 2
    funext j
    rw [hz j]
    rfl
/-- a new array of references -/
theorem P.newR {kd N idx t0 : Nat} {C : String} (hlay : lay n = (kd, N)) (hkd : 14 ≤ kd) (ht : (tysl G)[t0]? = some (G.2.2.1 kd, .object C)) (hN : N ≤ 4096) (hz : ∀ j, σ.2.2 n j = none) (hC : C ∈ overs) (hcl : Cond.classLink own idx C ∈ lw_tbl) (hroo : Roo K n) (hd : decode cc pc = .ok (.anewarray idx, 3))
    (kk : P G own cc nL K (pc + 3) ls (.ref (ad G n) :: st) (n + 1) σ) : P G own cc nL K pc ls (.int (nI N) :: st) n σ := by
  intro p e s m args below meth c hM hX H locs lsA hH hS hl h1 h2
  obtain ⟨hx, hb, -, hown, hts, hKl, -, -⟩ := id hM
  have e2 : (lay n).2 = N := by rw [hlay]
  have e3 : (nI N).toNatClampNeg = N := cl_nI (by omega)
  refine W.anew hx hb hown (hts _ (tog hcl rfl)) (va_AO.use (hKl.2.2 C hC)) rfl hd rfl (nI_ok (by omega)) (by rw [e3]; exact Nat.le_trans (Nat.mul_le_mul_right 4 hN) (Nat.le_of_ble_eq_true rfl)) (roo_c hroo h1) (by rw [e3]; have := roo_s hroo h2; rw [e2] at this; exact this) fun cA kA comp f1 f2 f3 f4 => ?_
  obtain ⟨kA', comp', g1, g2, g3, g4⟩ := (hKl.1.2 t0 _ ht).2
  have hcA : cA = G.2.2.1 kd := Option.some.inj (f1.symm.trans g4)
  subst hcA
  rw [e3]
  generalize hH1 : H.push ({ cls := G.2.2.1 kd, slots := Array.replicate N .null, vm := .none } : Cell) = H1
  have z2 : H1.size = H.size + 1 := by rw [← hH1, Array.size_push]
  have e1 : H1[H.size]? = some (arrV (G.2.2.1 kd) N (fun _ => .null)) := by rw [← hH1, Array.getElem?_push_size, ← arrV_new]
  have o2 : ∀ q : Nat, q < H.size → H1[q]? = H[q]? := fun q hq => by rw [← hH1, Array.getElem?_push, if_neg (Nat.ne_of_lt hq)]
  have k2 := kk p e s m args below meth c hM hX H1 locs lsA (hH.grow z2 o2 ?_) (S.grow hS z2 o2) hl (by omega) (by rw [szs_s]; omega)
  · rw [show n + 1 - K.2.1 = n - K.2.1 + 1 by omega, szs_s, e2, show szs n + N - szs K.2.1 = szs n - szs K.2.1 + N by omega] at k2
    rw [hH.1]
    exact k2
  · rw [cell_refs hlay hkd]
    show H1[ad G n]? = some (vp_cell _ _)
    rw [← hH.1, e1, vp_cell_q]
    congr 2
    funext j
    rw [hz j]
    rfl
/-- a reference into an array -/
theorem P.astr {k kd N i q ci M t0 : Nat} {C : String} {T : u_T} {f : Nat → Nat → Nat} {l : Nat → Nat → Int64} {r : Nat → Nat → Option Nat} (hlay : lay k = (kd, N)) (hkd : 14 ≤ kd) (ht : (tysl G)[t0]? = some (G.2.2.1 kd, .object C)) (hk : k < n) (hi : i < N) (hN : N ≤ 4096)
    (hq : q < n) (hlq : lay q = (ci, M)) (hci : ci < 11) (hc : vwCl[ci]? = some (C, T, M)) (hd : decode cc pc = .ok (.aastore, 1))
    (kk : P G own cc nL K (pc + 1) ls st n (f, l, uf r k i (some q))) : P G own cc nL K pc ls (.ref (ad G q) :: .int (nI i) :: .ref (ad G k) :: st) n (f, l, r) := by
  intro p e s m args below meth c hM hX H locs lsA hH hS hl h1 h2
  obtain ⟨hx, hb, -, hown, hts, hKl, -, -⟩ := id hM
  have e3 : (nI i).toNatClampNeg = i := cl_nI (by omega)
  have hin := in_nI hi (show N < 2147483648 by omega)
  obtain ⟨r', hr', cellV, g1, g2, g3, -⟩ := hH.2 q _ (by rw [wsl_get hq, cell_obj hlq hci])
  have hcls := (hKl.1.1 ci _ hc).2
  obtain ⟨kA, comp, k1, k2, k3, -⟩ := (hKl.1.2 t0 _ ht).2
  have hcomp : comp = G.2.1.1 ci := Option.some.inj (k3.symm.trans hcls.1)
  subst hcomp
  obtain ⟨kC, hkC, -⟩ := hcls.2
  have hg := hH.2 k _ (wsl_get (G := G) hk)
  rw [cell_refs hlay hkd] at hg
  refine W.aast hx hb hg (fun q h => by cases h) (fun h => by cases h) k1 k2 rfl hkC ⟨fun h => hin (Or.inl h), by show _ < (arrV _ _ _).slots.size; rw [arrV_size, e3]; exact hi⟩ g1 (fun q h => by rw [g3] at h; cases h) (by rw [g2]; exact hkC) (by rw [g2]; exact va_assign hcls) rfl rfl hd fun H1 e1 z oq => ?_
  refine kk p e s m args below meth c hM hX H1 _ lsA (hH.store hk z oq ?_ row_r) (hS.put z oq (aA0 G k)) hl h1 h2
  rw [cell_refs hlay hkd]
  show H1[ad G k]? = some (vp_cell _ _)
  rw [e1, vp_cell_q, vp_cell_q, arrV_store, e3]
  congr 2
  funext x
  by_cases hx2 : x = i
  · subst hx2
    simp [updV, uf, va_rf]
  · simp [updV, uf, hx2]
end PNEW

-- the judgement P over one world: all cells of both objects, cell k at the address b0 + k; what they hold is a value of SS
abbrev SS : Type := (Nat → Nat → Nat) × (Nat → Nat → Int64) × (Nat → Nat → Option Nat)
abbrev GG : Type := Launch × va_G × (Nat → ClassId) × Nat
def ad (G : GG) (k : Nat) : Nat := G.2.2.2 + k
/-- what the cells are, in the order in which they are made: kind (0..10 an object of that class of vwCl; 11 int[], 12 long[], 13 boolean[]; 20 + c an array of objects of class c), how many slots -/
def layL : List (Nat × Nat) := [(9, 6), (28, 4), (7, 2), (26, 12)] ++ [(6, 5), (12, 6), (13, 6)] ++ [(6, 5), (12, 6), (13, 6)] ++ [(6, 5), (12, 6), (13, 6)] ++ [(6, 5), (12, 6), (13, 6)] ++ [(6, 5), (12, 6), (13, 6)] ++ [(6, 5), (12, 6), (13, 6)] ++ [(6, 5), (12, 6), (13, 6)] ++ [(6, 5), (12, 6), (13, 6)] ++ [(6, 5), (12, 6), (13, 6)] ++ [(6, 5), (12, 6), (13, 6)] ++ [(6, 5), (12, 6), (13, 6)] ++ [(6, 5), (12, 6), (13, 6)] ++
  [(2, 5), (21, 10), (11, 4096)] ++ List.replicate 10 (1, 8) ++ [(3, 7), (11, 4096), (13, 4096), (13, 4096)] ++ [(5, 8), (24, 3), (20, 6), (11, 3), (11, 3), (13, 4096)] ++ [(4, 3), (13, 6), (12, 6)] ++ [(4, 3), (13, 6), (12, 6)] ++ [(4, 3), (13, 6), (12, 6)] ++ List.replicate 6 (0, 4) ++ [(8, 2), (11, 6)] ++ [(8, 2), (11, 6)] ++ [(8, 2), (11, 6)] ++ [(8, 2), (11, 6)] ++
  [(10, 36), (11, 4), (11, 24), (11, 12), (11, 12), (13, 12), (13, 72), (12, 72), (11, 10), (11, 10), (11, 10), (11, 10), (11, 10), (12, 10), (12, 10), (13, 10), (11, 3), (13, 18), (12, 18), (11, 6), (11, 6), (11, 6), (11, 6), (11, 4096), (13, 4096), (11, 4096), (12, 12), (11, 3)]
def lay (k : Nat) : Nat × Nat := layL.getD k (99, 0)
/-- the fields' types: 0 an int or a boolean, 1 a long, 2 a reference -/
def ftyL : List (List Nat) := [[0, 0, 0, 0], [0, 0, 0, 0, 0, 1, 1, 0], [2, 2, 0, 2, 0], [2, 2, 2, 0, 0, 2, 2], [2, 2, 0], [2, 2, 0, 2, 0, 2, 2, 2], [2, 2, 0, 0, 0], [2, 0], [2, 0], [2, 2, 2, 2, 2, 0],
  [0, 2, 2, 0, 2, 2, 2, 2, 2, 0, 2, 2, 2, 2, 2, 2, 2, 2, 0, 0, 2, 2, 2, 0, 2, 2, 2, 2, 0, 0, 2, 2, 0, 2, 2, 2]]
def fty (c j : Nat) : Nat := (ftyL.getD c []).getD j 3
def szs : Nat → Nat
  | 0 => 0
  | n + 1 => szs n + (lay n).2
def fv (G : GG) (σ : SS) (k t j : Nat) : Value := if t = 0 then .int (nI (σ.1 k j)) else if t = 1 then .long (σ.2.1 k j) else va_rf ((σ.2.2 k j).map (fun q => ad G q))
def cellAt (G : GG) (σ : SS) (k kd n : Nat) : va_E :=
  if kd < 11 then .inr (kd, (List.range n).map (fun j => fv G σ k (fty kd j) j))
  else if kd = 11 then .inl (G.2.2.1 0, n, .inl fun j => nI (σ.1 k j))
  else if kd = 12 then .inl (G.2.2.1 1, n, .inr (.inl (σ.2.1 k)))
  else if kd = 13 then .inl (G.2.2.1 2, n, .inl fun j => nI (σ.1 k j))
  else .inl (G.2.2.1 kd, n, .inr (.inr (.inr (.inr (fun j => (σ.2.2 k j).map (fun q => ad G q))))))
def cellOf (G : GG) (σ : SS) (k : Nat) : va_E := cellAt G σ k (lay k).1 (lay k).2
def wsl (G : GG) (n : Nat) (σ : SS) : va_W := (List.range n).map fun k => (ad G k, cellOf G σ k)
def tysl (G : GG) : List (ClassId × FieldType) := [(G.2.2.1 0, .int), (G.2.2.1 1, .long), (G.2.2.1 2, .boolean), (G.2.2.1 20, .object RX0), (G.2.2.1 21, .object RX1), (G.2.2.1 24, .object RX4), (G.2.2.1 26, .object RX6), (G.2.2.1 28, .object RX8)]
def A0 (G : GG) : Nat → Prop := fun q => G.2.2.2 ≤ q
theorem wsl_get {G : GG} {n : Nat} {σ : SS} {k : Nat} (h : k < n) : (wsl G n σ)[k]? = some (ad G k, cellOf G σ k) := by
  simp [wsl, h]
theorem wsl_inv {G : GG} {n : Nat} {σ : SS} {k : Nat} {q : Nat × va_E} (h : (wsl G n σ)[k]? = some q) : k < n ∧ q = (ad G k, cellOf G σ k) := by
  have hk : k < n := by
    have := (List.getElem?_eq_some_iff.mp h).1
    simpa [wsl] using this
  rw [wsl_get hk] at h
  exact ⟨hk, (Option.some.inj h).symm⟩
theorem wsl_D (G : GG) (n : Nat) (σ : SS) : va_D (A0 G) (wsl G n σ) := by
  refine ⟨fun i j p q hi hj hpq => ?_, fun k q hk => ?_⟩
  · obtain ⟨-, rfl⟩ := wsl_inv hi
    obtain ⟨-, rfl⟩ := wsl_inv hj
    simp only [ad] at hpq
    omega
  · obtain ⟨-, rfl⟩ := wsl_inv hk
    simp only [A0, ad]
    omega
theorem wsl_set {G : GG} {n : Nat} {σ σ' : SS} {k : Nat} {e : va_E} (he : cellOf G σ' k = e) (ho : ∀ q, q ≠ k → cellOf G σ' q = cellOf G σ q) : (wsl G n σ).set k (ad G k, e) = wsl G n σ' := by
  apply List.ext_getElem?
  intro i
  by_cases hi : i < n
  · by_cases hik : i = k
    · subst hik
      rw [List.getElem?_set_self (by simpa [wsl] using hi), wsl_get hi, he]
    · rw [List.getElem?_set_ne (Ne.symm hik), wsl_get hi, wsl_get hi, ho i hik]
  · rw [List.getElem?_eq_none (by simp [wsl]; omega), List.getElem?_eq_none (by simp [wsl]; omega)]
theorem wsl_push (G : GG) (n : Nat) (σ σ' : SS) {e : va_E} (he : cellOf G σ' n = e) (ho : ∀ q, q < n → cellOf G σ' q = cellOf G σ q) : wsl G n σ ++ [(ad G n, e)] = wsl G (n + 1) σ' := by
  simp only [wsl, List.range_succ, List.map_append, List.map_cons, List.map_nil, he]
  congr 1
  apply List.map_congr_left
  intro q hq
  rw [ho q (List.mem_range.mp hq)]
theorem cellAt_row {G : GG} {σ σ' : SS} {k kd n : Nat} (h1 : σ'.1 k = σ.1 k) (h2 : σ'.2.1 k = σ.2.1 k) (h3 : σ'.2.2 k = σ.2.2 k) : cellAt G σ' k kd n = cellAt G σ k kd n := by
  simp only [cellAt, fv, h1, h2, h3]
theorem cellOf_row {G : GG} {σ σ' : SS} {k : Nat} (h1 : σ'.1 k = σ.1 k) (h2 : σ'.2.1 k = σ.2.1 k) (h3 : σ'.2.2 k = σ.2.2 k) : cellOf G σ' k = cellOf G σ k := cellAt_row h1 h2 h3
/-- one slot written -/
def uf {α : Type} (f : Nat → Nat → α) (k j : Nat) (v : α) : Nat → Nat → α := fun a b => if a = k ∧ b = j then v else f a b
theorem uf_self {α : Type} (f : Nat → Nat → α) (k j : Nat) (v : α) : uf f k j v k j = v := by simp [uf]
theorem uf_ne {α : Type} (f : Nat → Nat → α) {k j a b : Nat} (v : α) (h : a ≠ k ∨ b ≠ j) : uf f k j v a b = f a b := by
  simp only [uf]
  rw [if_neg]
  rintro ⟨rfl, rfl⟩
  rcases h with h | h <;> exact h rfl
theorem uf_row {α : Type} (f : Nat → Nat → α) {k j a : Nat} (v : α) (h : a ≠ k) : uf f k j v a = f a := by
  funext b
  exact uf_ne f v (Or.inl h)
-- the words of the tables: those that stay as they are, and the nest mates' and arrays' words
def gtbl : List Cond := lw_tbl.filter goodWord
def isNest : Cond → Bool
  | .methodLinkNest .. => true
  | _ => false
def nstW : List Cond := lw_tbl.filter isNest
def overs : List String := [RX0, RX1, RX4, RX6, RX8]
theorem tog {w : Cond} (h : w ∈ lw_tbl) (hg : goodWord w = true) : w ∈ gtbl := List.mem_filter.mpr ⟨h, hg⟩
theorem gtbl_good : ∀ w ∈ gtbl, goodWord w = true := fun _ h => (List.mem_filter.mp h).2
theorem lays_good {C : String} {T : u_T} {N : Nat} : ∀ w ∈ u_ws C T N, goodWord w = true := by
  intro w h
  obtain ⟨k, -, rfl⟩ := List.mem_map.mp h
  unfold u_lay
  split <;> rfl
-- the judgement
/-- a method: its name, bytes, locals, answer, frames -/
abbrev MI : Type := MethodName × ByteArray × Nat × Option FieldType × Nat
def mws (mi : MI) : List Cond := Cond.code mi.1 mi.2.1 mi.2.2.1 mi.2.2.2.1 :: gtbl
def mrm (mi : MI) (mc ms : Nat) : Room := { frames := mi.2.2.2.2, cells := mc, slots := ms, locals := 40 * mi.2.2.2.2 }
/-- what holds of the classes in every state -/
def Kl (G : GG) (U : State) : Prop := va_K G.2.1 vwCl (tysl G) U ∧ (∀ w ∈ nstW, va_Nw w U) ∧ ∀ C ∈ overs, va_AO C U
def Hp (G : GG) (n : Nat) (σ : SS) (H : Heap) : Prop := H.size = ad G n ∧ va_P G.2.1 vwCl (wsl G n σ) H
def Wd (G : GG) (n : Nat) (σ : SS) (U : State) : Prop := Hp G n σ U.heap ∧ Kl G U
def Qo (G : GG) (r : Option Value) (n : Nat) (σ : SS) : Array Value → State → Outcome → State → Prop := fun _ st o t => o = .returned r ∧ Hp G n σ t.heap ∧ va_F (A0 G) st t
def Spec (G : GG) (mi : MI) (as : List Value) (n0 : Nat) (σ0 : SS) (r : Option Value) (n1 : Nat) (σ1 : SS) : Prop :=
  (n0 ≤ n1 ∧ szs n0 ≤ szs n1) ∧ Met G.1 mi.1 (mws mi) (mrm mi (n1 - n0) (szs n1 - szs n0)) (va_Pc as (Wd G n0 σ0)) (Qo G r n1 σ1) (n1 - n0) (szs n1 - szs n0) (A0 G)
abbrev KK : Type := Room × Nat × (State → Array Value → Method → Prop) × (State → Array Value → List Frame → State → Prop)
def KM (G : GG) (mi : MI) (n0 n1 : Nat) (r : Option Value) (σ1 : SS) : KK :=
  (mrm mi (n1 - n0) (szs n1 - szs n0), n0, fun _ _ meth => meth.sig.returnType = mi.2.2.2.1 ∧ meth.name = mi.1.name, fun s args below => MQ below (Qo G r n1 σ1) args s (n1 - n0) (szs n1 - szs n0) (A0 G))
/-- the machine's words that a method has in every state -/
def MC (G : GG) (own : String) (cc : ByteArray) (nL : Nat) (p : Program) (s : State) (m : MethodId) (args : Array Value) (meth : Method) (c : Code) : Prop :=
  p.tables.exec = Jvm.exec ∧ c.code = cc ∧ c.maxLocals = nL ∧ s.vm.findClass own = some m.cls ∧ (∀ w ∈ gtbl, w.before args s = true) ∧ Kl G s ∧ meth.locks = false ∧ G.2.2.2 ≤ s.heap.size
/-- locals: what is known of each place -/
def lvl : Nat → List (Option Value) → List (Nat × Value)
  | _, [] => []
  | i, none :: r => lvl (i + 1) r
  | i, some v :: r => (i, v) :: lvl (i + 1) r
def lget : List (Option Value) → Nat → Option Value
  | [], _ => none
  | a :: _, 0 => a
  | _ :: r, k + 1 => lget r k
def lst : List (Option Value) → Nat → Option Value → List (Option Value)
  | [], _, _ => []
  | _ :: r, 0, v => v :: r
  | a :: r, k + 1, v => a :: lst r k v
def lcl : Option Value → Option Value
  | some (.long _) => none
  | some (.double _) => none
  | v => v
def lclr (ls : List (Option Value)) : Nat → List (Option Value)
  | 0 => ls
  | k + 1 => lst ls k (lcl (lget ls k))
def lset1 (ls : List (Option Value)) (k : Nat) (v : Value) : List (Option Value) := lst (lclr ls k) k (some v)
def lset2 (ls : List (Option Value)) (k : Nat) (v : Value) : List (Option Value) := lst (lst (lclr ls k) k (some v)) (k + 1) none
def P (G : GG) (own : String) (cc : ByteArray) (nL : Nat) (K : KK) (pc : Nat) (ls : List (Option Value)) (st : List Value) (n : Nat) (σ : SS) : Prop :=
  ∀ (p : Program) (e : Env) (s : State) (m : MethodId) (args : Array Value) (below : List Frame) (meth : Method) (c : Code), MC G own cc nL p s m args meth c → K.2.2.1 s args meth →
  ∀ (H : Heap) (locs : List Loc) (lsA : Array Slot), Hp G n σ H → va_S (A0 G) s.heap H locs → lv_has lsA nL (lvl 0 ls) → K.2.1 ≤ n → szs K.2.1 ≤ szs n →
  W p G.1 e K.1 s m args below meth c H locs (n - K.2.1) (szs n - szs K.2.1) (K.2.2.2 s args below) (F0 m pc lsA st)
theorem lvl_mem : ∀ (ls : List (Option Value)) (i k : Nat) (v : Value), lget ls k = some v → (i + k, v) ∈ lvl i ls
  | [], _, _, _, h => by simp [lget] at h
  | a :: r, i, 0, v, h => by
    simp only [lget] at h
    subst h
    simp [lvl]
  | none :: r, i, k + 1, v, h => by
    have := lvl_mem r (i + 1) k v (by simpa [lget] using h)
    simp only [lvl]
    rwa [show i + (k + 1) = i + 1 + k by omega]
  | some w :: r, i, k + 1, v, h => by
    have := lvl_mem r (i + 1) k v (by simpa [lget] using h)
    simp only [lvl]
    rw [show i + (k + 1) = i + 1 + k by omega]
    exact List.mem_cons_of_mem _ this
theorem lvl_inv : ∀ (ls : List (Option Value)) (i : Nat) (q : Nat × Value), q ∈ lvl i ls → ∃ k, q.1 = i + k ∧ lget ls k = some q.2
  | [], _, _, h => by simp [lvl] at h
  | none :: r, i, q, h => by
    obtain ⟨k, h1, h2⟩ := lvl_inv r (i + 1) q (by simpa [lvl] using h)
    exact ⟨k + 1, by omega, by simpa [lget] using h2⟩
  | some w :: r, i, q, h => by
    simp only [lvl, List.mem_cons] at h
    rcases h with rfl | h
    · exact ⟨0, rfl, rfl⟩
    · obtain ⟨k, h1, h2⟩ := lvl_inv r (i + 1) q h
      exact ⟨k + 1, by omega, by simpa [lget] using h2⟩
theorem lget_lst : ∀ (ls : List (Option Value)) (k j : Nat) (v : Option Value), lget (lst ls k v) j = if j = k ∧ k < ls.length then v else lget ls j
  | [], k, j, v => by simp [lst, lget]
  | a :: r, 0, 0, v => by simp [lst, lget]
  | a :: r, 0, j + 1, v => by simp [lst, lget]
  | a :: r, k + 1, 0, v => by simp [lst, lget]
  | a :: r, k + 1, j + 1, v => by
    simp only [lst, lget, lget_lst r k j v, List.length_cons]
    by_cases h : j = k ∧ k < r.length
    · rw [if_pos h, if_pos (by omega)]
    · rw [if_neg h, if_neg (by omega)]
theorem lv_loc {lsA : Array Slot} {nL k : Nat} {ls : List (Option Value)} {v : Value} (h : lv_has lsA nL (lvl 0 ls)) (hk : lget ls k = some v) : lsA[k]? = some (.val v) := by
  have := lvl_mem ls 0 k v hk
  rw [Nat.zero_add] at this
  exact h.2.2 _ this
theorem lget_lclr {ls : List (Option Value)} {k j : Nat} {v : Value} (h : lget (lclr ls k) j = some v) : lget ls j = some v ∧ ¬ (j + 1 = k ∧ v.category = 2) := by
  cases k with
  | zero => exact ⟨h, fun q => by omega⟩
  | succ k =>
    simp only [lclr, lget_lst] at h
    split at h
    · next hc =>
      obtain ⟨rfl, -⟩ := hc
      cases hg : lget ls j with
      | none => rw [hg] at h; simp [lcl] at h
      | some w =>
        rw [hg] at h
        cases w <;> simp [lcl] at h <;> subst h <;> simp [Value.category]
    · next hc =>
      refine ⟨h, fun q => hc ⟨by omega, ?_⟩⟩
      obtain ⟨q1, -⟩ := q
      have hj : j = k := by omega
      subst hj
      have : ∀ (ls : List (Option Value)) (j : Nat), lget ls j = some v → j < ls.length := by
        intro ls
        induction ls with
        | nil => intro j h; simp [lget] at h
        | cons a r ih =>
          intro j h
          cases j with
          | zero => simp
          | succ j => have := ih j (by simpa [lget] using h); simp only [List.length_cons]; omega
      exact this ls j h
theorem lset1_has {lsA : Array Slot} {nL k : Nat} {ls : List (Option Value)} {v : Value} {l' : List (Nat × Value)} (hf : (k, v) :: (lvl 0 ls).filter (fun q => !(q.1 == k) && !(q.1 + 1 == k && q.2.category == 2)) = l') (h : lv_has lsA nL l') : lv_has lsA nL (lvl 0 (lset1 ls k v)) := by
  refine ⟨h.1, h.2.1, fun q hq => h.2.2 q ?_⟩
  obtain ⟨j, h1, h2⟩ := lvl_inv _ _ _ hq
  rw [Nat.zero_add] at h1
  obtain ⟨q1, q2⟩ := q
  dsimp only at h1 h2
  subst h1
  rw [← hf]
  simp only [lset1, lget_lst] at h2
  split at h2
  · next hc =>
    obtain ⟨rfl, -⟩ := hc
    cases h2
    exact List.mem_cons_self
  · next hc =>
    obtain ⟨h3, h4⟩ := lget_lclr h2
    by_cases hk : q1 = k
    · subst hk
      exfalso
      apply hc
      refine ⟨rfl, ?_⟩
      have : ∀ (ls : List (Option Value)) (j : Nat) (w : Value), lget ls j = some w → j < ls.length := by
        intro ls
        induction ls with
        | nil => intro j w h; simp [lget] at h
        | cons a r ih =>
          intro j w h
          cases j with
          | zero => simp
          | succ j => have := ih j w (by simpa [lget] using h); simp only [List.length_cons]; omega
      exact this _ _ _ h2
    · refine List.mem_cons_of_mem _ (List.mem_filter.mpr ⟨?_, ?_⟩)
      · have := lvl_mem ls 0 q1 q2 h3
        rwa [Nat.zero_add] at this
      · simp only [Bool.and_eq_true, Bool.not_eq_true', beq_eq_false_iff_ne, ne_eq, Bool.and_eq_false_iff]
        refine ⟨hk, ?_⟩
        by_cases z : q1 + 1 = k
        · exact Or.inr fun y => h4 ⟨z, y⟩
        · exact Or.inl z
theorem lset2_has {lsA : Array Slot} {nL k : Nat} {ls : List (Option Value)} {v : Value} {l' : List (Nat × Value)} (hf : (k, v) :: (lvl 0 ls).filter (fun q => !(q.1 == k) && (!(q.1 == k + 1) && !(q.1 + 1 == k && q.2.category == 2))) = l') (h : lv_has lsA nL l') (hn : k + 1 < ls.length) : lv_has lsA nL (lvl 0 (lset2 ls k v)) := by
  have hlen : ∀ (ls : List (Option Value)) (j : Nat) (v : Option Value), (lst ls j v).length = ls.length := by
    intro ls
    induction ls with
    | nil => intro j v; rfl
    | cons a r ih => intro j v; cases j with
      | zero => rfl
      | succ j => simp only [lst, List.length_cons, ih]
  have hl2 : (lclr ls k).length = ls.length := by
    cases k with
    | zero => rfl
    | succ k => exact hlen _ _ _
  refine ⟨h.1, h.2.1, fun q hq => h.2.2 q ?_⟩
  obtain ⟨j, h1, h2⟩ := lvl_inv _ _ _ hq
  rw [Nat.zero_add] at h1
  obtain ⟨q1, q2⟩ := q
  dsimp only at h1 h2
  subst h1
  rw [← hf]
  simp only [lset2, lget_lst] at h2
  split at h2
  · cases h2
  · next hc =>
    split at h2
    · next hc2 =>
      obtain ⟨rfl, -⟩ := hc2
      cases h2
      exact List.mem_cons_self
    · next hc2 =>
      obtain ⟨h3, h4⟩ := lget_lclr h2
      have hk : q1 ≠ k := fun z => hc2 ⟨z, by omega⟩
      have hk1 : q1 ≠ k + 1 := fun z => hc ⟨z, by rw [hlen]; omega⟩
      refine List.mem_cons_of_mem _ (List.mem_filter.mpr ⟨?_, ?_⟩)
      · have := lvl_mem ls 0 q1 q2 h3
        rwa [Nat.zero_add] at this
      · simp only [Bool.and_eq_true, Bool.not_eq_true', beq_eq_false_iff_ne, ne_eq, Bool.and_eq_false_iff]
        refine ⟨hk, hk1, ?_⟩
        by_cases z : q1 + 1 = k
        · exact Or.inr fun y => h4 ⟨z, y⟩
        · exact Or.inl z

/-! THE CLAIM OUT OF ONE WALK OF THE LAW'S BODY. Your part is whole_start (and what it stands on); all else here is the same for every law, but numbers. -/
def R_law : String := "CleaningBenchLaw"
def lw_P (b : Addr) (xs : List Int32) (args : Array Value) (s : State) : Prop := args = #[.ref b] ∧ s.IntsAt b xs ∧ xs.length ≤ 4608 ∧ (Jvm.Cond.and given_1 narrow_1).before args s = true
def lw_Q (_ : Array Value) (s : State) (o : Outcome) (t : State) : Prop := o = .returned (some (.int 1)) ∧ Framed s o t [] 600000 7302250
def lw_Z (below : List Frame) (a : Array Value) (s : State) : State → Prop := fun t => ∃ o, t.status = .running ∧ Ended t below o ∧ lw_Q a s o t
/-- the law's own end, with 1 on the stack, nothing written that was there before, its room as the claim has it -/
theorem lw_ret {p : Program} {l : Launch} {e : Env} {s : State} {m : MethodId} {below : List Frame} {meth : Method} {c : Code} {b : Nat} (hx : p.tables.exec = Jvm.exec) (hb : c.code = code) (hr : meth.sig.returnType = ret) (hlocks : meth.locks = false) {pc : Nat} {H : Heap} {ls : Array Slot} (hdg : decode code pc = .ok (.ireturn, 1)) : W p l e room_1 s m #[Value.ref b] below meth c H [] 600000 7302250 (lw_Z below #[Value.ref b] s) (F0 m pc ls [.int 1]) := by
  intro T hT X
  obtain ⟨fs, hret, hrun, hended, hW, hframe⟩ := X.leave (v := some (.int 1)) (hlocks := hlocks) (fun h => by rw [hr] at h; cases h)
  have hmeth' : T.vm.method? m = some meth := X.method'
  refine ⟨T.setFrames fs, ?_, .returned (some (.int 1)), hrun, hended, rfl, ⟨_, rfl⟩, hW, hframe⟩
  jvm_step X.here [X.here.top, hx, hb, hdg, hmeth', hr, ret, narrow_b1]
  (try refine ⟨rfl, ?_⟩); (try refine ⟨rfl, ?_⟩)
  first | (intro acts; rw [hret _ acts rfl rfl rfl]) | rw [hret _ _ rfl rfl rfl]
  exact Steps.refl _
/-- what holds at the law's entry: the machine, the code, the tables' words (any of lw_tbl by 'hts w (by decide +kernel)'), the script of L ints xs at the cell b, what the Statement gives of the start (any of its parts by flat_of_before) -/
def lw_At (p : Program) (s : State) (m : MethodId) (meth : Method) (c : Code) (b L : Nat) (xs : Nat → Int32) : Prop :=
  p.tables.exec = Jvm.exec ∧ c.code = code ∧ meth.sig.returnType = ret ∧ c.maxLocals = 4 ∧ s.vm.findClass R_law = some m.cls ∧ (∀ w ∈ lw_tbl, w.before #[Value.ref b] s = true) ∧ va_X b L xs s s.heap ∧ b < s.heap.size ∧ meth.locks = false ∧ (Jvm.Cond.and given_1 narrow_1).before #[Value.ref b] s = true

-- the law's frame as a case of P
def KLw (G : GG) (b L : Nat) (xs : Nat → Int32) : KK := (room_1, 0, fun s args meth => args = #[Value.ref b] ∧ va_X b L xs s s.heap ∧ b < s.heap.size ∧ G.2.2.2 = s.heap.size ∧ meth.sig.returnType = ret, fun s _ below => lw_Z below #[Value.ref b] s)
theorem szs_all : szs 114 ≤ 7302250 := by decide +kernel
section PLW
variable {G : GG} {own : String} {cc : ByteArray} {nL : Nat} {b L : Nat} {xs : Nat → Int32} {pc : Nat} {ls : List (Option Value)} {st : List Value} {n : Nat} {σ : SS}
theorem P.sld {i : Nat} (hi : i < L) (hL : L ≤ 4608) (hd : decode cc pc = .ok (.iaload, 1)) (kk : P G own cc nL (KLw G b L xs) (pc + 1) ls (.int (xs i) :: st) n σ) : P G own cc nL (KLw G b L xs) pc ls (.int (nI i) :: .ref b :: st) n σ := by
  intro p e s m args below meth c hM hX H locs lsA hH hS hl h1 h2
  have k2 := kk p e s m args below meth c hM hX H locs lsA hH hS hl h1 h2
  obtain ⟨ha, hXX, hbl, hG, hr⟩ := hX
  have hbA : ¬ A0 G b := by
    unfold A0
    rw [hG]
    exact Nat.not_le.mpr hbl
  refine va_sld hM.1 hM.2.1 hXX hbl hbA hS (in_nI hi (by omega)) hd ?_
  rw [cl_nI (by omega)]
  exact k2
theorem P.slen (hd : decode cc pc = .ok (.arraylength, 1)) (kk : P G own cc nL (KLw G b L xs) (pc + 1) ls (.int (Int32.ofNat L) :: st) n σ) : P G own cc nL (KLw G b L xs) pc ls (.ref b :: st) n σ := by
  intro p e s m args below meth c hM hX H locs lsA hH hS hl h1 h2
  have k2 := kk p e s m args below meth c hM hX H locs lsA hH hS hl h1 h2
  obtain ⟨ha, hXX, hbl, hG, hr⟩ := hX
  have hbA : ¬ A0 G b := by
    unfold A0
    rw [hG]
    exact Nat.not_le.mpr hbl
  exact va_slen hM.1 hM.2.1 hXX hbl hbA hS hd k2
theorem P.lwret (hd : decode code pc = .ok (.ireturn, 1)) : P G own code nL (KLw G b L xs) pc ls [.int (nI 1)] 114 σ := by
  intro p e s m args below meth c hM hX H locs lsA hH hS hl h1 h2
  obtain ⟨ha, hXX, hbl, hG, hr⟩ := hX
  subst ha
  refine va_forget (fun q hq => by rw [← hG]; exact hS.2.2 q hq) ?_
  refine W.widen (k := 600000) (n := 7302250) (Nat.le_trans (Nat.sub_le _ _) (by decide)) (Nat.le_trans (Nat.sub_le _ _) szs_all) ?_
  exact lw_ret hM.1 hM.2.1 hr hM.2.2.2.2.2.2.1 hd
theorem P.aldb {f : Fin 4} {i : Nat} {x : Nat} (hd : decode cc pc = .ok (.aload_n f, 1)) (hi : (f : Nat) = i) (hg : lget ls i = some (.ref x)) (k : P G own cc nL (KLw G b L xs) (pc + 1) ls (.ref x :: st) n σ) : P G own cc nL (KLw G b L xs) pc ls st n σ := P.aload_n hd hi hg k
theorem P.if_eqR {K : KK} {x : Int32} {off : Int} {tgt : Nat} (hd : decode cc pc = .ok (.ifCond .eq off, 3)) (ht : (pc : Int) + off = (tgt : Int)) (kt : x = 0 → P G own cc nL K tgt ls st n σ) (kf : ¬ x = 0 → P G own cc nL K (pc + 3) ls st n σ) : P G own cc nL K pc ls (.int x :: st) n σ := P.if_eq hd ht kt kf
end PLW
theorem fit_lw {G : GG} {b L : Nat} {xs : Nat → Int32} {mi : MI} {n : Nat} (h : mi.2.2.2.2 ≤ 6) (hn : n ≤ 114) : Fits (KLw G b L xs) mi n := by
  refine ⟨?_, ?_, ?_, ?_⟩
  · show mi.2.2.2.2 + 1 ≤ 9
    omega
  · show 8 + (20 + 11) + 40 * mi.2.2.2.2 ≤ 366
    omega
  · show n - 0 ≤ 600000
    omega
  · show szs n - szs 0 ≤ 7302250
    exact Nat.le_trans (Nat.sub_le _ _) (Nat.le_trans (szs_le hn) szs_all)
theorem roo_lw {G : GG} {b L : Nat} {xs : Nat → Int32} {n : Nat} (h : n + 1 ≤ 114) : Roo (KLw G b L xs) n := by
  refine ⟨?_, ?_⟩
  · show n + 1 - 0 ≤ 600000
    omega
  · show szs (n + 1) - szs 0 ≤ 7302250
    exact Nat.le_trans (Nat.sub_le _ _) (Nat.le_trans (szs_le h) szs_all)

-- calls, the end, what a method is
theorem Kl.moved {G : GG} {u U : State} (hW : u.WarmedH U.vm) (h : Kl G u) : Kl G U := by
  refine ⟨va_K.moved hW.alike h.1, fun w hw => ?_, fun C hC => va_AO.moved hW.alike (h.2.2 C hC)⟩
  have hn := (List.mem_filter.mp hw).2
  have h0 := h.2.1 w hw
  cases w <;> first | (simp [isNest] at hn; done) | exact va_Nw.warmM hW h0
theorem Kl.same {G : GG} {u U : State} (hv : u.vm = U.vm) (h : Kl G u) : Kl G U := by
  refine ⟨va_K.moved (by rw [hv]; exact Vm.Alike.refl _) h.1, fun w hw => ?_, fun C hC => va_AO.moved (by rw [hv]; exact Vm.Alike.refl _) (h.2.2 C hC)⟩
  have hn := (List.mem_filter.mp hw).2
  have h0 := h.2.1 w hw
  cases w <;> first | (simp [isNest] at hn; done) | exact va_Nw.same rfl hv h0
theorem Wd.blind {G : GG} {as : List Value} {n : Nat} {σ : SS} : FrameBlind (va_Pc as (Wd G n σ)) := by
  intro a U g mk h
  exact ⟨h.1, h.2.1, Kl.same (u := U) (U := U.calling g mk a) rfl h.2.2⟩
/-- what is decided once of a method -/
def MOK (mi : MI) (k : Nat) : Prop := Cond.code mi.1 mi.2.1 mi.2.2.1 mi.2.2.2.1 ∈ lw_tbl ∧ Cond.initialized mi.1.cls ∈ lw_tbl ∧ (mi.1.cls ≠ "java/lang/invoke/MethodHandle" ∧ mi.1.cls ≠ "java/lang/invoke/VarHandle" ∧ (parseMethodDescriptor mi.1.desc).map (fun d => d.parameters.length) = some k) ∧ mi.2.2.1 ≤ 20 ∧ plainName mi.1.cls = true
def MOV (mi : MI) (k : Nat) : Prop := MOK mi k ∧ Cond.instanceMethod mi.1 ∈ lw_tbl ∧ Cond.selects mi.1.cls mi.1 mi.1 ∈ lw_tbl
def MOS (mi : MI) (k : Nat) : Prop := MOK mi k ∧ Cond.static mi.1 ∈ lw_tbl
def MOI (mi : MI) (k : Nat) : Prop := MOK mi k ∧ mi.1.name = "<init>" ∧ Cond.instanceMethod mi.1 ∈ lw_tbl ∧ mi.2.2.2.1 = none
theorem mws_good (mi : MI) (h : Cond.code mi.1 mi.2.1 mi.2.2.1 mi.2.2.2.1 ∈ lw_tbl) : GoodIn gtbl (mws mi) := by
  intro w hw
  rcases List.mem_cons.mp hw with rfl | hw
  · exact ⟨tog h rfl, good_of_word (w := Cond.code _ _ _ _) rfl⟩
  · exact ⟨hw, good_of_word (gtbl_good w hw)⟩
theorem runW {p : Program} {G : GG} {e : Env} {R : Room} {s : State} {m : MethodId} {args : Array Value} {below : List Frame} {meth : Method} {c : Code} {H H0 : Heap} {locs : List Loc} {cells slots mc ms : Nat} {Q : State → Prop} {pc : Nat} {ls : Array Slot} {rest st0 : List Value} {r : Option Value} {n : Nat} {σ : SS} {a : Array Value}
    (hr : va_Run p G.1 e R s m args below meth c H locs cells slots mc ms (F0 m pc ls st0) rest (Qo G r n σ a) (A0 G)) (hS : va_S (A0 G) H0 H locs)
    (kk : ∀ (H1 : Heap) (locs1 : List Loc), Hp G n σ H1 → va_S (A0 G) H0 H1 locs1 → W p G.1 e R s m args below meth c H1 locs1 (cells + mc) (slots + ms) Q (F0 m (pc + 3) ls (r.toList ++ rest))) : W p G.1 e R s m args below meth c H locs cells slots Q (F0 m pc ls st0) := by
  intro T hT X
  obtain ⟨v, st₀, t, T', L, h0, X', hL, e1, e2, ⟨hv, hH, hF⟩, st⟩ := hr T hT X
  cases hv
  obtain ⟨hz, hk⟩ := hF
  rw [h0] at hz hk
  obtain ⟨t2, a1, b1⟩ := kk T'.heap (locs ++ L) (by rw [e1]; exact hH) ⟨Nat.le_trans hS.1 (by rw [e1]; exact hz), fun q h1 h2 => by rw [e1, hk q (Nat.lt_of_lt_of_le h1 hS.1) h2]; exact hS.2.1 q h1 h2, fun q hq => by
      rcases List.mem_append.mp hq with h | h
      · exact hS.2.2 q h
      · exact hL q h⟩ T' rfl X'
  exact ⟨t2, st t2 a1, b1⟩
section PCALL
variable {G : GG} {own : String} {cc : ByteArray} {nL : Nat} {K : KK} {pc : Nat} {ls : List (Option Value)} {st : List Value} {n : Nat} {σ : SS}
/-- what a call needs of the rooms -/
def Fits (K : KK) (mi : MI) (n1 : Nat) : Prop := mi.2.2.2.2 + 1 ≤ K.1.frames ∧ 8 + (20 + 11) + 40 * mi.2.2.2.2 ≤ K.1.locals ∧ n1 - K.2.1 ≤ K.1.cells ∧ szs n1 - szs K.2.1 ≤ K.1.slots
theorem fit_of {mi : MI} {n1 k : Nat} (h : Fits K mi n1) (hM : MOK mi k) {mc ms : Nat} : (mrm mi mc ms).frames + 1 ≤ K.1.frames ∧ 8 + (mi.2.2.1 + 11) + (mrm mi mc ms).locals ≤ K.1.locals := by
  refine ⟨h.1, ?_⟩
  have h1 := hM.2.2.2.1
  have h2 := h.2.1
  show 8 + (mi.2.2.1 + 11) + 40 * mi.2.2.2.2 ≤ _
  omega
theorem tail_fix {p : Program} {e : Env} {s : State} {m : MethodId} {args : Array Value} {below : List Frame} {meth : Method} {c : Code} {H1 : Heap} {locs1 : List Loc} {g : JFrame} {n1 : Nat} (hh : n ≤ n1 ∧ szs n ≤ szs n1) (h1 : K.2.1 ≤ n) (h2 : szs K.2.1 ≤ szs n) (k : W p G.1 e K.1 s m args below meth c H1 locs1 (n1 - K.2.1) (szs n1 - szs K.2.1) (K.2.2.2 s args below) g) : W p G.1 e K.1 s m args below meth c H1 locs1 (n - K.2.1 + (n1 - n)) (szs n - szs K.2.1 + (szs n1 - szs n)) (K.2.2.2 s args below) g := by
  obtain ⟨ha, hb⟩ := hh
  rw [show n - K.2.1 + (n1 - n) = n1 - K.2.1 by omega, show szs n - szs K.2.1 + (szs n1 - szs n) = szs n1 - szs K.2.1 by omega]
  exact k
theorem room_fix {n1 : Nat} {mi : MI} (hf : Fits K mi n1) (hh : n ≤ n1 ∧ szs n ≤ szs n1) (h1 : K.2.1 ≤ n) (h2 : szs K.2.1 ≤ szs n) : n - K.2.1 + (n1 - n) ≤ K.1.cells ∧ szs n - szs K.2.1 + (szs n1 - szs n) ≤ K.1.slots := by
  obtain ⟨-, -, h3, h4⟩ := hf
  obtain ⟨ha, hb⟩ := hh
  exact ⟨by omega, by omega⟩
theorem P.callV {mi : MI} {k idx b ci N n1 : Nat} {As rest : List Value} {r : Option Value} {σ1 : SS} {T : u_T} (hs : Spec G mi (.ref (ad G b) :: As) n σ r n1 σ1) (hM : MOV mi k) (hf : Fits K mi n1) (hlen : As.length = k) (hlink : Cond.methodLink own idx mi.1 ∈ lw_tbl)
    (hlay : lay b = (ci, N)) (hci : ci < 11) (hb : b < n) (hc : vwCl[ci]? = some (mi.1.cls, T, N)) (hst : st = As.reverse ++ .ref (ad G b) :: rest) (hroom : (rest.map fun v => v.category).sum ≤ 8) (hd : decode cc pc = .ok (.invokevirtual idx, 3))
    (kk : P G own cc nL K (pc + 3) ls (r.toList ++ rest) n1 σ1) : P G own cc nL K pc ls st n σ := by
  intro p e s m args below meth c hMC hX H locs lsA hH hS hl h1 h2
  obtain ⟨⟨hcode, hini, hdd, -, -⟩, hinst, hsel⟩ := id hM
  have hts := hMC.2.2.2.2.1
  have hKl := hMC.2.2.2.2.2.1
  have hT : GoodIn gtbl (wsV own idx mi.1.cls mi.1 (mws mi)) := by
    intro w hw
    rcases List.mem_append.mp hw with hw | hw
    · simp only [List.mem_cons, List.not_mem_nil, or_false] at hw
      rcases hw with rfl | rfl | rfl | rfl
      · exact ⟨tog hlink rfl, Or.inl rfl⟩
      · exact ⟨tog hinst rfl, Or.inl rfl⟩
      · exact ⟨tog hsel rfl, Or.inl rfl⟩
      · exact ⟨tog hini rfl, Or.inl rfl⟩
    · exact mws_good mi hcode w hw
  have hrun := va_runV (meth := meth) (below := below) (locs := locs) (l := G.1) (e := e) (R := K.1) (cells := n - K.2.1) (slots := szs n - szs K.2.1) (As := As) (rest := rest) (g := F0 m pc lsA st) ⟨hMC.1, hMC.2.1, hMC.2.2.1, hMC.2.2.2.1, hts⟩ hs.2 (cwV k hts hT rfl rfl rfl ⟨rfl, hdd.1, hdd.2.1, hdd.2.2⟩ (fit_of hf hM.1))
    ⟨Wd.blind, va_recv hKl.1 hH.2 hc (q0 := b) (fs := (List.range N).map (fun j => fv G σ b (fty ci j) j)) (by rw [wsl_get hb, cell_obj hlay hci]), fun U hU hW => ⟨rfl, by rw [hU]; exact hH, hKl.moved hW⟩⟩ rfl hlen hl.1 hst (lv_room hroom) hd (room_fix hf hs.1 h1 h2)
  refine runW hrun hS (fun H1 locs1 a1 a2 => tail_fix hs.1 h1 h2 ?_)
  exact kk p e s m args below meth c hMC hX H1 locs1 lsA a1 a2 hl (Nat.le_trans h1 hs.1.1) (Nat.le_trans h2 hs.1.2)
theorem P.callS {mi : MI} {k idx n1 : Nat} {As rest : List Value} {r : Option Value} {σ1 : SS} (hs : Spec G mi As n σ r n1 σ1) (hM : MOS mi k) (hf : Fits K mi n1) (hlen : As.length = k) (hlink : Cond.methodLink own idx mi.1 ∈ lw_tbl)
    (hst : st = As.reverse ++ rest) (hroom : (rest.map fun v => v.category).sum ≤ 8) (hd : decode cc pc = .ok (.invokestatic idx, 3))
    (kk : P G own cc nL K (pc + 3) ls (r.toList ++ rest) n1 σ1) : P G own cc nL K pc ls st n σ := by
  intro p e s m args below meth c hMC hX H locs lsA hH hS hl h1 h2
  obtain ⟨⟨hcode, hini, hdd, -, -⟩, hstat⟩ := id hM
  have hts := hMC.2.2.2.2.1
  have hKl := hMC.2.2.2.2.2.1
  have hrun := va_runS (meth := meth) (below := below) (locs := locs) (l := G.1) (e := e) (R := K.1) (cells := n - K.2.1) (slots := szs n - szs K.2.1) (As := As) (rest := rest) (g := F0 m pc lsA st) ⟨hMC.1, hMC.2.1, hMC.2.2.1, hMC.2.2.2.1, hts⟩ hs.2 ⟨callB_of k hts (mws_good mi hcode) rfl rfl rfl (hts _ (tog hini rfl)) (hts _ (tog hlink rfl)) hdd (fit_of hf hM.1), hts _ (tog hstat rfl)⟩
    ⟨Wd.blind, fun U hU hW => ⟨rfl, by rw [hU]; exact hH, hKl.moved hW⟩⟩ rfl hlen hl.1 hst (lv_room hroom) hd (room_fix hf hs.1 h1 h2)
  refine runW hrun hS (fun H1 locs1 a1 a2 => tail_fix hs.1 h1 h2 ?_)
  exact kk p e s m args below meth c hMC hX H1 locs1 lsA a1 a2 hl (Nat.le_trans h1 hs.1.1) (Nat.le_trans h2 hs.1.2)
theorem P.callSN {mi : MI} {k idx n1 : Nat} {As rest : List Value} {r : Option Value} {σ1 : SS} {host : String} (hs : Spec G mi As n σ r n1 σ1) (hM : MOS mi k) (hf : Fits K mi n1) (hlen : As.length = k) (hlink : Cond.methodLinkNest own idx mi.1 host ∈ lw_tbl)
    (hst : st = As.reverse ++ rest) (hroom : (rest.map fun v => v.category).sum ≤ 8) (hd : decode cc pc = .ok (.invokestatic idx, 3))
    (kk : P G own cc nL K (pc + 3) ls (r.toList ++ rest) n1 σ1) : P G own cc nL K pc ls st n σ := by
  intro p e s m args below meth c hMC hX H locs lsA hH hS hl h1 h2
  obtain ⟨⟨hcode, hini, hdd, -, -⟩, hstat⟩ := id hM
  have hts := hMC.2.2.2.2.1
  have hKl := hMC.2.2.2.2.2.1
  have hrun := va_runSN (meth := meth) (below := below) (locs := locs) (l := G.1) (e := e) (R := K.1) (cells := n - K.2.1) (slots := szs n - szs K.2.1) (As := As) (rest := rest) (g := F0 m pc lsA st) ⟨hMC.1, hMC.2.1, hMC.2.2.1, hMC.2.2.2.1, hts⟩ hs.2 ⟨va_cnB k hts (mws_good mi hcode) rfl rfl rfl (hKl.2.1 _ (List.mem_filter.mpr ⟨hlink, rfl⟩)) (hts _ (tog hini rfl)) hdd (fit_of hf hM.1), hts _ (tog hstat rfl), trivial⟩
    ⟨Wd.blind, fun U hU hW => ⟨rfl, by rw [hU]; exact hH, hKl.moved hW⟩⟩ rfl hlen hl.1 hst (lv_room hroom) hd (room_fix hf hs.1 h1 h2)
  refine runW hrun hS (fun H1 locs1 a1 a2 => tail_fix hs.1 h1 h2 ?_)
  exact kk p e s m args below meth c hMC hX H1 locs1 lsA a1 a2 hl (Nat.le_trans h1 hs.1.1) (Nat.le_trans h2 hs.1.2)
theorem P.callI {mi : MI} {k idx b n1 : Nat} {As rest : List Value} {σ1 : SS} (hs : Spec G mi (.ref (ad G b) :: As) n σ none n1 σ1) (hM : MOI mi k) (hf : Fits K mi n1) (hlen : As.length = k) (hlink : Cond.methodLink own idx mi.1 ∈ lw_tbl)
    (hst : st = As.reverse ++ .ref (ad G b) :: rest) (hroom : (rest.map fun v => v.category).sum ≤ 8) (hd : decode cc pc = .ok (.invokespecial idx, 3))
    (kk : P G own cc nL K (pc + 3) ls rest n1 σ1) : P G own cc nL K pc ls st n σ := by
  intro p e s m args below meth c hMC hX H locs lsA hH hS hl h1 h2
  obtain ⟨⟨hcode, hini, hdd, -, -⟩, hnm, hinst, hret⟩ := id hM
  have hts := hMC.2.2.2.2.1
  have hKl := hMC.2.2.2.2.2.1
  have hw : mws mi = Cond.code mi.1 mi.2.1 mi.2.2.1 none :: gtbl := by rw [← hret]; rfl
  have hrun := va_runI (meth := meth) (below := below) (locs := locs) (l := G.1) (e := e) (R := K.1) (cells := n - K.2.1) (slots := szs n - szs K.2.1) (As := As) (rest := rest) (g := F0 m pc lsA st) ⟨hMC.1, hMC.2.1, hMC.2.2.1, hMC.2.2.2.1, hts⟩ hs.2 (cwI k hts (mws_good mi hcode) hw rfl rfl (hts _ (tog hini rfl)) (hts _ (tog hlink rfl)) (hts _ (tog hinst rfl)) hnm hdd (fit_of hf hM.1))
    ⟨Wd.blind, fun U hU hW => ⟨rfl, by rw [hU]; exact hH, hKl.moved hW⟩⟩ rfl hlen hl.1 hst (lv_room hroom) hd (room_fix hf hs.1 h1 h2)
  refine runW hrun hS (fun H1 locs1 a1 a2 => tail_fix hs.1 h1 h2 ?_)
  exact kk p e s m args below meth c hMC hX H1 locs1 lsA a1 a2 hl (Nat.le_trans h1 hs.1.1) (Nat.le_trans h2 hs.1.2)
theorem P.callIN {mi : MI} {k idx b n1 : Nat} {As rest : List Value} {σ1 : SS} {host : String} (hs : Spec G mi (.ref (ad G b) :: As) n σ none n1 σ1) (hM : MOI mi k) (hf : Fits K mi n1) (hlen : As.length = k) (hlink : Cond.methodLinkNest own idx mi.1 host ∈ lw_tbl)
    (hst : st = As.reverse ++ .ref (ad G b) :: rest) (hroom : (rest.map fun v => v.category).sum ≤ 8) (hd : decode cc pc = .ok (.invokespecial idx, 3))
    (kk : P G own cc nL K (pc + 3) ls rest n1 σ1) : P G own cc nL K pc ls st n σ := by
  intro p e s m args below meth c hMC hX H locs lsA hH hS hl h1 h2
  obtain ⟨⟨hcode, hini, hdd, -, -⟩, hnm, hinst, hret⟩ := id hM
  have hts := hMC.2.2.2.2.1
  have hKl := hMC.2.2.2.2.2.1
  have hw : mws mi = Cond.code mi.1 mi.2.1 mi.2.2.1 none :: gtbl := by rw [← hret]; rfl
  have hrun := va_runIN (meth := meth) (below := below) (locs := locs) (l := G.1) (e := e) (R := K.1) (cells := n - K.2.1) (slots := szs n - szs K.2.1) (As := As) (rest := rest) (g := F0 m pc lsA st) ⟨hMC.1, hMC.2.1, hMC.2.2.1, hMC.2.2.2.1, hts⟩ hs.2 ⟨va_cnB k hts (mws_good mi hcode) hw rfl rfl (hKl.2.1 _ (List.mem_filter.mpr ⟨hlink, rfl⟩)) (hts _ (tog hini rfl)) hdd (fit_of hf hM.1), hnm, hts _ (tog hinst rfl)⟩
    ⟨Wd.blind, fun U hU hW => ⟨rfl, by rw [hU]; exact hH, hKl.moved hW⟩⟩ rfl hlen hl.1 hst (lv_room hroom) hd (room_fix hf hs.1 h1 h2)
  refine runW hrun hS (fun H1 locs1 a1 a2 => tail_fix hs.1 h1 h2 ?_)
  exact kk p e s m args below meth c hMC hX H1 locs1 lsA a1 a2 hl (Nat.le_trans h1 hs.1.1) (Nat.le_trans h2 hs.1.2)
theorem P.objInit {idx b : Nat} (hlink : Cond.methodLink own idx Lib.objectInit ∈ lw_tbl) (hf : 1 ≤ K.1.frames ∧ 20 ≤ K.1.locals) (hroom : (st.map fun v => v.category).sum ≤ 8) (hd : decode cc pc = .ok (.invokespecial idx, 3))
    (kk : P G own cc nL K (pc + 3) ls st n σ) : P G own cc nL K pc ls (.ref (ad G b) :: st) n σ := by
  intro p e s m args below meth c hMC hX H locs lsA hH hS hl h1 h2
  have hts := hMC.2.2.2.2.1
  exact W.objInit hMC.1 hMC.2.1 hMC.2.2.2.1 (hts _ (tog hlink rfl)) (hts _ (tog im_Obj rfl)) (hts _ (tog cd_Obj rfl)) rfl (hl.1.trans hMC.2.2.1.symm) rfl hd hf.1 (by
    have h3 := hf.2
    show 2 * 0 + _ + 12 ≤ _
    omega) (kk p e s m args below meth c hMC hX H locs lsA hH hS hl h1 h2)
end PCALL
-- the end of a method
section PRET
variable {G : GG} {own : String} {cc : ByteArray} {nL : Nat} {mi : MI} {n0 : Nat} {pc : Nat} {ls : List (Option Value)} {n : Nat} {σ : SS}
theorem P.zret {x y : Int32} {σ1 : SS} {ty : FieldType} (hr : mi.2.2.2.1 = some ty) (hn : narrow ty (.int x) = .int x) (hd : decode cc pc = .ok (.ireturn, 1)) (hxy : x = y) (hσ : σ = σ1) : P G own cc nL (KM G mi n0 n (some (.int y)) σ1) pc ls [.int x] n σ := by
  subst hxy hσ
  intro p e s m args below meth c hMC hX H locs lsA hH hS hl h1 h2
  exact W.zret (free := A0 G) hMC.1 hMC.2.1 (hX.1.trans hr) hn (fun t ht hW => ⟨rfl, by rw [ht]; exact hH, hS.F ht⟩) hS.2.2 hd hMC.2.2.2.2.2.2.1
theorem P.iret {x y : Int32} {σ1 : SS} (hr : mi.2.2.2.1 = some .int) (hd : decode cc pc = .ok (.ireturn, 1)) (hxy : x = y) (hσ : σ = σ1) : P G own cc nL (KM G mi n0 n (some (.int y)) σ1) pc ls [.int x] n σ := P.zret hr rfl hd hxy hσ
theorem narrow_bI (b : Bool) : narrow .boolean (.int (bI b)) = .int (bI b) := by cases b <;> rfl
theorem P.bret {x : Int32} {b : Bool} {σ1 : SS} (hr : mi.2.2.2.1 = some .boolean) (hd : decode cc pc = .ok (.ireturn, 1)) (hxy : x = bI b) (hσ : σ = σ1) : P G own cc nL (KM G mi n0 n (some (.int (bI b))) σ1) pc ls [.int x] n σ := P.zret hr (by rw [hxy]; exact narrow_bI b) hd hxy hσ
theorem P.lret {x y : Int64} {σ1 : SS} (hr : mi.2.2.2.1 = some .long) (hd : decode cc pc = .ok (.lreturn, 1)) (hxy : x = y) (hσ : σ = σ1) : P G own cc nL (KM G mi n0 n (some (.long y)) σ1) pc ls [.long x] n σ := by
  subst hxy hσ
  intro p e s m args below meth c hMC hX H locs lsA hH hS hl h1 h2
  exact W.lret (free := A0 G) hMC.1 hMC.2.1 (hX.1.trans hr) (fun t ht hW => ⟨rfl, by rw [ht]; exact hH, hS.F ht⟩) hS.2.2 hd hMC.2.2.2.2.2.2.1
theorem P.vret {σ1 : SS} (hr : mi.2.2.2.1 = none) (hd : decode cc pc = .ok (.return_, 1)) (hσ : σ = σ1) : P G own cc nL (KM G mi n0 n none σ1) pc ls [] n σ := by
  subst hσ
  intro p e s m args below meth c hMC hX H locs lsA hH hS hl h1 h2
  exact W.vret (free := A0 G) hMC.1 hMC.2.1 (hX.1.trans hr) (fun t ht hW => ⟨rfl, by rw [ht]; exact hH, hS.F ht⟩) hS.2.2 hd hMC.2.2.2.2.2.2.1
theorem P.aret {a b : Nat} {C : String} {σ1 : SS} (hr : mi.2.2.2.1 = some (.object C)) (hd : decode cc pc = .ok (.areturn, 1)) (hab : a = b) (hσ : σ = σ1) : P G own cc nL (KM G mi n0 n (some (.ref (ad G b))) σ1) pc ls [.ref (ad G a)] n σ := by
  subst hab hσ
  intro p e s m args below meth c hMC hX H locs lsA hH hS hl h1 h2
  exact W.aret (free := A0 G) hMC.1 hMC.2.1 (hX.1.trans hr) (Or.inl ⟨_, rfl⟩) (Or.inr ⟨_, rfl⟩) (fun t ht hW => ⟨rfl, by rw [ht]; exact hH, hS.F ht⟩) hS.2.2 hd hMC.2.2.2.2.2.2.1
end PRET
def ents : Nat → List Value → List (Option Value)
  | nL, [] => List.replicate nL none
  | nL, v :: vs => match v with
    | .long _ => some v :: none :: ents (nL - 2) vs
    | .double _ => some v :: none :: ents (nL - 2) vs
    | _ => some v :: ents (nL - 1) vs
theorem lvl_rep : ∀ (k i : Nat), lvl i (List.replicate k none) = []
  | 0, _ => rfl
  | k + 1, i => by rw [List.replicate_succ]; exact lvl_rep k (i + 1)
theorem ents_args : ∀ (vs : List Value) (nL i : Nat), lvl i (ents nL vs) = lv_args i vs
  | [], nL, i => by simp only [ents, lvl_rep, lv_args]
  | v :: vs, nL, i => by
    cases v <;> simp only [ents, lvl, lv_args, Value.category, ents_args vs] <;> rfl
theorem Spec.of {G : GG} {mi : MI} {k : Nat} {as : List Value} {n0 n1 : Nat} {σ0 σ1 : SS} {r : Option Value} (hM : MOK mi k) (hh : n0 ≤ n1 ∧ szs n0 ≤ szs n1) (hsl : (lg_sl as).length ≤ mi.2.2.1) (h : P G mi.1.cls mi.2.1 mi.2.2.1 (KM G mi n0 n1 r σ1) 0 (ents mi.2.2.1 as) [] n0 σ0) : Spec G mi as n0 σ0 r n1 σ1 := by
  refine ⟨hh, Met.ofW (cc := mi.2.1) (maxL := mi.2.2.1) (ret := mi.2.2.2.1) hM.2.2.2.2 rfl ?_⟩
  intro p e s m args below meth c s₁ B hml hv
  obtain ⟨rfl, hHp, hKl⟩ := hv
  have hts : ∀ w ∈ mws mi, w.before as.toArray s = true := atoms_spec (ws := mws mi) B.pre
  have hown : s.vm.findClass mi.1.cls = some m.cls := findClass_of_methodNamed B.named
  have hin : meth.name = mi.1.name := (name_of_methodNamed B.named B.method).1
  rw [lg_entry_eq]
  have hl := lv_entry as (n := mi.2.2.1) hsl
  generalize (lg_sl as ++ List.replicate (mi.2.2.1 - (lg_sl as).length) Slot.unset).toArray = lsA at hl ⊢
  rw [← ents_args as mi.2.2.1 0] at hl
  have hb0 : G.2.2.2 ≤ s.heap.size := by rw [hHp.1]; exact Nat.le_add_right _ _
  have h0 := h p e s m as.toArray below meth c ⟨B.exec, B.bytes, hml, hown, fun w hw => hts w (List.mem_cons_of_mem _ hw), hKl, B.notSynchronized, hb0⟩ ⟨B.returns, hin⟩ s.heap [] lsA hHp va_S.rf hl (Nat.le_refl _) (Nat.le_refl _)
  have e1 : n0 - (KM G mi n0 n1 r σ1).2.1 = 0 := Nat.sub_self _
  have e2 : szs n0 - szs (KM G mi n0 n1 r σ1).2.1 = 0 := Nat.sub_self _
  rw [e1, e2] at h0
  exact h0

theorem Pm.topn {G : GG} {own : String} {cc : ByteArray} {nL : Nat} {K : KK} {pc : Nat} {ls : List (Option Value)} {st : List Value} {f : Nat → Nat → Nat} {l : Nat → Nat → Int64} {a b : Nat} (e : a = b) (h : Pm G own cc nL K pc ls (.int (nI b) :: st) f l) : Pm G own cc nL K pc ls (.int (nI a) :: st) f l := by
  rw [e]; exact h
theorem Pm.topl {G : GG} {own : String} {cc : ByteArray} {nL : Nat} {K : KK} {pc : Nat} {ls : List (Option Value)} {st : List Value} {f : Nat → Nat → Nat} {l : Nat → Nat → Int64} {a b : Int64} (e : a = b) (h : Pm G own cc nL K pc ls (.long b :: st) f l) : Pm G own cc nL K pc ls (.long a :: st) f l := by
  rw [e]; exact h
-- contracts that say of the end what is needed of it
abbrev PX : Type := Option Value → (Nat → Nat → Nat) → (Nat → Nat → Int64) → Prop
def QX (G : GG) (Po : PX) : Array Value → State → Outcome → State → Prop := fun _ st o t => ∃ r f l, o = .returned r ∧ Po r f l ∧ Hp G 114 (f, l, refT) t.heap ∧ va_F (A0 G) st t
def SpX (G : GG) (mi : MI) (as : List Value) (f : Nat → Nat → Nat) (l : Nat → Nat → Int64) (Po : PX) : Prop :=
  Met G.1 mi.1 (mws mi) (mrm mi 0 0) (va_Pc as (Wd G 114 (f, l, refT))) (QX G Po) 0 0 (A0 G)
def KX (G : GG) (mi : MI) (Po : PX) : KK :=
  (mrm mi 0 0, 114, fun _ _ meth => meth.sig.returnType = mi.2.2.2.1 ∧ meth.name = mi.1.name, fun s args below => MQ below (QX G Po) args s 0 0 (A0 G))
theorem SpX.mono {G : GG} {mi : MI} {as : List Value} {f : Nat → Nat → Nat} {l : Nat → Nat → Int64} {Po Po' : PX} (h : SpX G mi as f l Po) (hp : ∀ r f' l', Po r f' l' → Po' r f' l') : SpX G mi as f l Po' := by
  have hq : ∀ a st o t, QX G Po a st o t → QX G Po' a st o t := by
    rintro a st o t ⟨r, f', l', h1, h2, h3⟩
    exact ⟨r, f', l', h1, hp _ _ _ h2, h3⟩
  intro p e ha hc hk s m args below hf happ hP hK
  obtain ⟨k, o, h1, h2, h3, h4, h5⟩ := h p e ha hc hk s m args below hf happ hP hK
  exact ⟨k, o, h1, h2, h3, hq _ _ _ _ h4, h5⟩
theorem Spec.X {G : GG} {mi : MI} {as : List Value} {f f1 : Nat → Nat → Nat} {l l1 : Nat → Nat → Int64} {r : Option Value} (h : Spec G mi as 114 (f, l, refT) r 114 (f1, l1, refT)) : SpX G mi as f l (fun r' f' l' => r' = r ∧ f' = f1 ∧ l' = l1) := by
  have h2 := h.2
  simp only [Nat.sub_self] at h2
  intro p e ha hc hk s m args below hf happ hP hK
  obtain ⟨k, o, a1, a2, a3, ⟨a4, a5, a6⟩, a7⟩ := h2 p e ha hc hk s m args below hf happ hP hK
  exact ⟨k, o, a1, a2, a3, ⟨r, f1, l1, a4, ⟨rfl, rfl, rfl⟩, a5, a6⟩, a7⟩
theorem runWX {p : Program} {G : GG} {e : Env} {R : Room} {s : State} {m : MethodId} {args : Array Value} {below : List Frame} {meth : Method} {c : Code} {H H0 : Heap} {locs : List Loc} {cells slots : Nat} {Q : State → Prop} {pc : Nat} {ls : Array Slot} {rest st0 : List Value} {Po : PX} {a : Array Value}
    (hr : va_Run p G.1 e R s m args below meth c H locs cells slots 0 0 (F0 m pc ls st0) rest (QX G Po a) (A0 G)) (hS : va_S (A0 G) H0 H locs)
    (kk : ∀ (r : Option Value) (f : Nat → Nat → Nat) (l : Nat → Nat → Int64) (H1 : Heap) (locs1 : List Loc), Po r f l → Hp G 114 (f, l, refT) H1 → va_S (A0 G) H0 H1 locs1 → W p G.1 e R s m args below meth c H1 locs1 cells slots Q (F0 m (pc + 3) ls (r.toList ++ rest))) : W p G.1 e R s m args below meth c H locs cells slots Q (F0 m pc ls st0) := by
  intro T hT X
  obtain ⟨v, st₀, t, T', L, h0, X', hL, e1, e2, ⟨r, f, l, hv, hPo, hH, hF⟩, st⟩ := hr T hT X
  cases hv
  obtain ⟨hz, hk⟩ := hF
  rw [h0] at hz hk
  obtain ⟨t2, a1, b1⟩ := kk v f l T'.heap (locs ++ L) hPo (by rw [e1]; exact hH) ⟨Nat.le_trans hS.1 (by rw [e1]; exact hz), fun q h1 h2 => by rw [e1, hk q (Nat.lt_of_lt_of_le h1 hS.1) h2]; exact hS.2.1 q h1 h2, fun q hq => by
      rcases List.mem_append.mp hq with h | h
      · exact hS.2.2 q h
      · exact hL q h⟩ T' rfl X'
  exact ⟨t2, st t2 a1, b1⟩
section PCX
variable {G : GG} {own : String} {cc : ByteArray} {nL : Nat} {K : KK} {pc : Nat} {ls : List (Option Value)} {st : List Value} {f : Nat → Nat → Nat} {l : Nat → Nat → Int64}
theorem roomX0 {mi : MI} (hf : Fits K mi 114) (h1 : K.2.1 ≤ 114) (h2 : szs K.2.1 ≤ szs 114) : 114 - K.2.1 + 0 ≤ K.1.cells ∧ szs 114 - szs K.2.1 + 0 ≤ K.1.slots := ⟨hf.2.2.1, hf.2.2.2⟩
theorem P.callVX {mi : MI} {k idx b ci N : Nat} {As rest : List Value} {Po : PX} {T : u_T} (hs : SpX G mi (.ref (ad G b) :: As) f l Po) (hM : MOV mi k) (hf : Fits K mi 114) (hlen : As.length = k) (hlink : Cond.methodLink own idx mi.1 ∈ lw_tbl)
    (hlay : lay b = (ci, N)) (hci : ci < 11) (hb : b < 114) (hc : vwCl[ci]? = some (mi.1.cls, T, N)) (hst : st = As.reverse ++ .ref (ad G b) :: rest) (hroom : (rest.map fun v => v.category).sum ≤ 8) (hd : decode cc pc = .ok (.invokevirtual idx, 3))
    (kk : ∀ r f' l', Po r f' l' → Pm G own cc nL K (pc + 3) ls (r.toList ++ rest) f' l') : Pm G own cc nL K pc ls st f l := by
  intro p e s m args below meth c hMC hX H locs lsA hH hS hl h1 h2
  obtain ⟨⟨hcode, hini, hdd, -, -⟩, hinst, hsel⟩ := id hM
  have hts := hMC.2.2.2.2.1
  have hKl := hMC.2.2.2.2.2.1
  have hT : GoodIn gtbl (wsV own idx mi.1.cls mi.1 (mws mi)) := by
    intro w hw
    rcases List.mem_append.mp hw with hw | hw
    · simp only [List.mem_cons, List.not_mem_nil, or_false] at hw
      rcases hw with rfl | rfl | rfl | rfl
      · exact ⟨tog hlink rfl, Or.inl rfl⟩
      · exact ⟨tog hinst rfl, Or.inl rfl⟩
      · exact ⟨tog hsel rfl, Or.inl rfl⟩
      · exact ⟨tog hini rfl, Or.inl rfl⟩
    · exact mws_good mi hcode w hw
  have hrun := va_runV (meth := meth) (below := below) (locs := locs) (l := G.1) (e := e) (R := K.1) (cells := 114 - K.2.1) (slots := szs 114 - szs K.2.1) (As := As) (rest := rest) (g := F0 m pc lsA st) ⟨hMC.1, hMC.2.1, hMC.2.2.1, hMC.2.2.2.1, hts⟩ hs (cwV k hts hT rfl rfl rfl ⟨rfl, hdd.1, hdd.2.1, hdd.2.2⟩ (fit_of hf hM.1))
    ⟨Wd.blind, va_recv hKl.1 hH.2 hc (q0 := b) (fs := (List.range N).map (fun j => fv G (f, l, refT) b (fty ci j) j)) (by rw [wsl_get hb, cell_obj hlay hci]), fun U hU hW => ⟨rfl, by rw [hU]; exact hH, hKl.moved hW⟩⟩ rfl hlen hl.1 hst (lv_room hroom) hd (roomX0 hf h1 h2)
  refine runWX hrun hS (fun r f' l' H1 locs1 hPo a1 a2 => ?_)
  exact kk r f' l' hPo p e s m args below meth c hMC hX H1 locs1 lsA a1 a2 hl h1 h2
theorem P.callSX {mi : MI} {k idx : Nat} {As rest : List Value} {Po : PX} (hs : SpX G mi As f l Po) (hM : MOS mi k) (hf : Fits K mi 114) (hlen : As.length = k) (hlink : Cond.methodLink own idx mi.1 ∈ lw_tbl)
    (hst : st = As.reverse ++ rest) (hroom : (rest.map fun v => v.category).sum ≤ 8) (hd : decode cc pc = .ok (.invokestatic idx, 3))
    (kk : ∀ r f' l', Po r f' l' → Pm G own cc nL K (pc + 3) ls (r.toList ++ rest) f' l') : Pm G own cc nL K pc ls st f l := by
  intro p e s m args below meth c hMC hX H locs lsA hH hS hl h1 h2
  obtain ⟨⟨hcode, hini, hdd, -, -⟩, hstat⟩ := id hM
  have hts := hMC.2.2.2.2.1
  have hKl := hMC.2.2.2.2.2.1
  have hrun := va_runS (meth := meth) (below := below) (locs := locs) (l := G.1) (e := e) (R := K.1) (cells := 114 - K.2.1) (slots := szs 114 - szs K.2.1) (As := As) (rest := rest) (g := F0 m pc lsA st) ⟨hMC.1, hMC.2.1, hMC.2.2.1, hMC.2.2.2.1, hts⟩ hs ⟨callB_of k hts (mws_good mi hcode) rfl rfl rfl (hts _ (tog hini rfl)) (hts _ (tog hlink rfl)) hdd (fit_of hf hM.1), hts _ (tog hstat rfl)⟩
    ⟨Wd.blind, fun U hU hW => ⟨rfl, by rw [hU]; exact hH, hKl.moved hW⟩⟩ rfl hlen hl.1 hst (lv_room hroom) hd (roomX0 hf h1 h2)
  refine runWX hrun hS (fun r f' l' H1 locs1 hPo a1 a2 => ?_)
  exact kk r f' l' hPo p e s m args below meth c hMC hX H1 locs1 lsA a1 a2 hl h1 h2
theorem P.callSNX {mi : MI} {k idx : Nat} {As rest : List Value} {Po : PX} {host : String} (hs : SpX G mi As f l Po) (hM : MOS mi k) (hf : Fits K mi 114) (hlen : As.length = k) (hlink : Cond.methodLinkNest own idx mi.1 host ∈ lw_tbl)
    (hst : st = As.reverse ++ rest) (hroom : (rest.map fun v => v.category).sum ≤ 8) (hd : decode cc pc = .ok (.invokestatic idx, 3))
    (kk : ∀ r f' l', Po r f' l' → Pm G own cc nL K (pc + 3) ls (r.toList ++ rest) f' l') : Pm G own cc nL K pc ls st f l := by
  intro p e s m args below meth c hMC hX H locs lsA hH hS hl h1 h2
  obtain ⟨⟨hcode, hini, hdd, -, -⟩, hstat⟩ := id hM
  have hts := hMC.2.2.2.2.1
  have hKl := hMC.2.2.2.2.2.1
  have hrun := va_runSN (meth := meth) (below := below) (locs := locs) (l := G.1) (e := e) (R := K.1) (cells := 114 - K.2.1) (slots := szs 114 - szs K.2.1) (As := As) (rest := rest) (g := F0 m pc lsA st) ⟨hMC.1, hMC.2.1, hMC.2.2.1, hMC.2.2.2.1, hts⟩ hs ⟨va_cnB k hts (mws_good mi hcode) rfl rfl rfl (hKl.2.1 _ (List.mem_filter.mpr ⟨hlink, rfl⟩)) (hts _ (tog hini rfl)) hdd (fit_of hf hM.1), hts _ (tog hstat rfl), trivial⟩
    ⟨Wd.blind, fun U hU hW => ⟨rfl, by rw [hU]; exact hH, hKl.moved hW⟩⟩ rfl hlen hl.1 hst (lv_room hroom) hd (roomX0 hf h1 h2)
  refine runWX hrun hS (fun r f' l' H1 locs1 hPo a1 a2 => ?_)
  exact kk r f' l' hPo p e s m args below meth c hMC hX H1 locs1 lsA a1 a2 hl h1 h2
end PCX
section PRX
variable {G : GG} {own : String} {cc : ByteArray} {nL : Nat} {mi : MI} {pc : Nat} {ls : List (Option Value)} {f : Nat → Nat → Nat} {l : Nat → Nat → Int64} {Po : PX}
theorem P.zretX {x : Int32} {ty : FieldType} (hr : mi.2.2.2.1 = some ty) (hn : narrow ty (.int x) = .int x) (hd : decode cc pc = .ok (.ireturn, 1)) (hp : Po (some (.int x)) f l) : Pm G own cc nL (KX G mi Po) pc ls [.int x] f l := by
  intro p e s m args below meth c hMC hX H locs lsA hH hS hl h1 h2
  have e1 : 114 - (KX G mi Po).2.1 = 0 := Nat.sub_self _
  have e2 : szs 114 - szs (KX G mi Po).2.1 = 0 := Nat.sub_self _
  rw [e1, e2]
  exact W.zret (free := A0 G) hMC.1 hMC.2.1 (hX.1.trans hr) hn (fun t ht hW => ⟨_, f, l, rfl, hp, by rw [ht]; exact hH, hS.F ht⟩) hS.2.2 hd hMC.2.2.2.2.2.2.1
theorem P.iretX {x : Int32} (hr : mi.2.2.2.1 = some .int) (hd : decode cc pc = .ok (.ireturn, 1)) (hp : Po (some (.int x)) f l) : Pm G own cc nL (KX G mi Po) pc ls [.int x] f l := P.zretX hr rfl hd hp
theorem P.bretX {x : Int32} (hr : mi.2.2.2.1 = some .boolean) (hd : decode cc pc = .ok (.ireturn, 1)) (hp : Po (some (.int x)) f l ∧ ∃ b, x = bI b) : Pm G own cc nL (KX G mi Po) pc ls [.int x] f l := by
  obtain ⟨hp, b, rfl⟩ := hp
  exact P.zretX hr (narrow_bI b) hd hp
theorem P.lretX {x : Int64} (hr : mi.2.2.2.1 = some .long) (hd : decode cc pc = .ok (.lreturn, 1)) (hp : Po (some (.long x)) f l) : Pm G own cc nL (KX G mi Po) pc ls [.long x] f l := by
  intro p e s m args below meth c hMC hX H locs lsA hH hS hl h1 h2
  have e1 : 114 - (KX G mi Po).2.1 = 0 := Nat.sub_self _
  have e2 : szs 114 - szs (KX G mi Po).2.1 = 0 := Nat.sub_self _
  rw [e1, e2]
  exact W.lret (free := A0 G) hMC.1 hMC.2.1 (hX.1.trans hr) (fun t ht hW => ⟨_, f, l, rfl, hp, by rw [ht]; exact hH, hS.F ht⟩) hS.2.2 hd hMC.2.2.2.2.2.2.1
theorem P.vretX (hr : mi.2.2.2.1 = none) (hd : decode cc pc = .ok (.return_, 1)) (hp : Po none f l) : Pm G own cc nL (KX G mi Po) pc ls [] f l := by
  intro p e s m args below meth c hMC hX H locs lsA hH hS hl h1 h2
  have e1 : 114 - (KX G mi Po).2.1 = 0 := Nat.sub_self _
  have e2 : szs 114 - szs (KX G mi Po).2.1 = 0 := Nat.sub_self _
  rw [e1, e2]
  exact W.vret (free := A0 G) hMC.1 hMC.2.1 (hX.1.trans hr) (fun t ht hW => ⟨_, f, l, rfl, hp, by rw [ht]; exact hH, hS.F ht⟩) hS.2.2 hd hMC.2.2.2.2.2.2.1
end PRX
theorem SpX.of {G : GG} {mi : MI} {k : Nat} {as : List Value} {f : Nat → Nat → Nat} {l : Nat → Nat → Int64} {Po : PX} (hM : MOK mi k) (hsl : (lg_sl as).length ≤ mi.2.2.1) (h : Pm G mi.1.cls mi.2.1 mi.2.2.1 (KX G mi Po) 0 (ents mi.2.2.1 as) [] f l) : SpX G mi as f l Po := by
  refine Met.ofW (cc := mi.2.1) (maxL := mi.2.2.1) (ret := mi.2.2.2.1) hM.2.2.2.2 rfl ?_
  intro p e s m args below meth c s₁ B hml hv
  obtain ⟨rfl, hHp, hKl⟩ := hv
  have hts : ∀ w ∈ mws mi, w.before as.toArray s = true := atoms_spec (ws := mws mi) B.pre
  have hown : s.vm.findClass mi.1.cls = some m.cls := findClass_of_methodNamed B.named
  have hin : meth.name = mi.1.name := (name_of_methodNamed B.named B.method).1
  rw [lg_entry_eq]
  have hl := lv_entry as (n := mi.2.2.1) hsl
  generalize (lg_sl as ++ List.replicate (mi.2.2.1 - (lg_sl as).length) Slot.unset).toArray = lsA at hl ⊢
  rw [← ents_args as mi.2.2.1 0] at hl
  have hb0 : G.2.2.2 ≤ s.heap.size := by rw [hHp.1]; exact Nat.le_add_right _ _
  have h0 := h p e s m as.toArray below meth c ⟨B.exec, B.bytes, hml, hown, fun w hw => hts w (List.mem_cons_of_mem _ hw), hKl, B.notSynchronized, hb0⟩ ⟨B.returns, hin⟩ s.heap [] lsA hHp va_S.rf hl (Nat.le_refl _) (Nat.le_refl _)
  have e1 : 114 - (KX G mi Po).2.1 = 0 := Nat.sub_self _
  have e2 : szs 114 - szs (KX G mi Po).2.1 = 0 := Nat.sub_self _
  rw [e1, e2] at h0
  exact h0
theorem fitX {G : GG} {mi mi' : MI} {Po : PX} (h : mi.2.2.2.2 + 1 ≤ mi'.2.2.2.2) : Fits (KX G mi' Po) mi 114 := by
  refine ⟨h, ?_, Nat.le_of_eq (Nat.sub_self _), Nat.le_of_eq (Nat.sub_self _)⟩
  show 8 + (20 + 11) + 40 * mi.2.2.2.2 ≤ 40 * mi'.2.2.2.2
  omega

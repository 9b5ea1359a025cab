-- the model's numbers, and what an update does to them: by program (wip/whole/gen35.py)
def MV (f : Nat → Nat → Nat) (l : Nat → Nat → Int64) (D : DB) (W : LB) (U : QB) (T : TB) (N : Nat) : Prop :=
  (f 86 3 = D.1) ∧
  (∀ r, r < 12 → f 89 r = D.2.1 r 2) ∧
  (∀ r, r < 12 → f 90 r = D.2.1 r 3) ∧
  (∀ r, r < 12 → f 91 r = D.2.1 r 4) ∧
  (∀ r, r < 12 → ∀ c, c < 6 → f 92 (6 * r + c) = D.2.2.1 r c) ∧
  (∀ r, r < 12 → ∀ c, c < 6 → l 93 (6 * r + c) = D.2.2.2 r c) ∧
  (f 86 9 = W.1) ∧
  (∀ r, r < 10 → f 94 r = W.2.1 r 0) ∧
  (∀ r, r < 10 → f 95 r = W.2.1 r 1) ∧
  (∀ r, r < 10 → f 96 r = W.2.1 r 2) ∧
  (∀ r, r < 10 → W.2.1 r 0 ≠ 1 → W.2.1 r 0 ≠ 3 → f 97 r = W.2.1 r 3) ∧
  (∀ r, r < 10 → W.2.1 r 0 = 5 → f 98 r = W.2.1 r 4) ∧
  (∀ r, r < 10 → W.2.1 r 0 ≠ 5 → l 99 r = W.2.2 r 5) ∧
  (∀ r, r < 10 → W.2.1 r 0 ≠ 5 → l 100 r = W.2.2 r 6) ∧
  (∀ r, r < 10 → f 101 r = W.2.1 r 7) ∧
  (f 86 18 = N) ∧
  (f 86 19 = U.1) ∧
  (∀ r, r < 3 → f 102 r = U.2.1 r) ∧
  (∀ r, r < 3 → ∀ c, c < 6 → f 103 (6 * r + c) = U.2.2.1 r c) ∧
  (∀ r, r < 3 → ∀ c, c < 6 → l 104 (6 * r + c) = U.2.2.2.1 r c) ∧
  (f 86 23 = U.2.2.2.2.1) ∧
  (∀ r, r < 6 → f 105 r = U.2.2.2.2.2 r 0) ∧
  (∀ r, r < 6 → f 106 r = U.2.2.2.2.2 r 1) ∧
  (∀ r, r < 6 → f 107 r = U.2.2.2.2.2 r 2) ∧
  (∀ r, r < 6 → f 108 r = U.2.2.2.2.2 r 3) ∧
  (∀ r, r < 4 → f 87 r = T.1 r) ∧
  (∀ r, r < 4 → ∀ c, c < 6 → f 88 (6 * r + c) = T.2 r c)
theorem MV.R {f : Nat → Nat → Nat} {l : Nat → Nat → Int64} {D : DB} {W : LB} {U : QB} {T : TB} {N : Nat} (h : MV f l D W U T N) : f 86 3 = D.1 := h.1
theorem MV.tab {f : Nat → Nat → Nat} {l : Nat → Nat → Int64} {D : DB} {W : LB} {U : QB} {T : TB} {N : Nat} (h : MV f l D W U T N) : ∀ r, r < 12 → f 89 r = D.2.1 r 2 := h.2.1
theorem MV.tru {f : Nat → Nat → Nat} {l : Nat → Nat → Int64} {D : DB} {W : LB} {U : QB} {T : TB} {N : Nat} (h : MV f l D W U T N) : ∀ r, r < 12 → f 90 r = D.2.1 r 3 := h.2.2.1
theorem MV.kep {f : Nat → Nat → Nat} {l : Nat → Nat → Int64} {D : DB} {W : LB} {U : QB} {T : TB} {N : Nat} (h : MV f l D W U T N) : ∀ r, r < 12 → f 91 r = D.2.1 r 4 := h.2.2.2.1
theorem MV.the {f : Nat → Nat → Nat} {l : Nat → Nat → Int64} {D : DB} {W : LB} {U : QB} {T : TB} {N : Nat} (h : MV f l D W U T N) : ∀ r, r < 12 → ∀ c, c < 6 → f 92 (6 * r + c) = D.2.2.1 r c := h.2.2.2.2.1
theorem MV.num {f : Nat → Nat → Nat} {l : Nat → Nat → Int64} {D : DB} {W : LB} {U : QB} {T : TB} {N : Nat} (h : MV f l D W U T N) : ∀ r, r < 12 → ∀ c, c < 6 → l 93 (6 * r + c) = D.2.2.2 r c := h.2.2.2.2.2.1
theorem MV.W {f : Nat → Nat → Nat} {l : Nat → Nat → Int64} {D : DB} {W : LB} {U : QB} {T : TB} {N : Nat} (h : MV f l D W U T N) : f 86 9 = W.1 := h.2.2.2.2.2.2.1
theorem MV.knd {f : Nat → Nat → Nat} {l : Nat → Nat → Int64} {D : DB} {W : LB} {U : QB} {T : TB} {N : Nat} (h : MV f l D W U T N) : ∀ r, r < 10 → f 94 r = W.2.1 r 0 := h.2.2.2.2.2.2.2.1
theorem MV.ltb {f : Nat → Nat → Nat} {l : Nat → Nat → Int64} {D : DB} {W : LB} {U : QB} {T : TB} {N : Nat} (h : MV f l D W U T N) : ∀ r, r < 10 → f 95 r = W.2.1 r 1 := h.2.2.2.2.2.2.2.2.1
theorem MV.fst {f : Nat → Nat → Nat} {l : Nat → Nat → Int64} {D : DB} {W : LB} {U : QB} {T : TB} {N : Nat} (h : MV f l D W U T N) : ∀ r, r < 10 → f 96 r = W.2.1 r 2 := h.2.2.2.2.2.2.2.2.2.1
theorem MV.snd {f : Nat → Nat → Nat} {l : Nat → Nat → Int64} {D : DB} {W : LB} {U : QB} {T : TB} {N : Nat} (h : MV f l D W U T N) : ∀ r, r < 10 → W.2.1 r 0 ≠ 1 → W.2.1 r 0 ≠ 3 → f 97 r = W.2.1 r 3 := h.2.2.2.2.2.2.2.2.2.2.1
theorem MV.oth {f : Nat → Nat → Nat} {l : Nat → Nat → Int64} {D : DB} {W : LB} {U : QB} {T : TB} {N : Nat} (h : MV f l D W U T N) : ∀ r, r < 10 → W.2.1 r 0 = 5 → f 98 r = W.2.1 r 4 := h.2.2.2.2.2.2.2.2.2.2.2.1
theorem MV.lc {f : Nat → Nat → Nat} {l : Nat → Nat → Int64} {D : DB} {W : LB} {U : QB} {T : TB} {N : Nat} (h : MV f l D W U T N) : ∀ r, r < 10 → W.2.1 r 0 ≠ 5 → l 99 r = W.2.2 r 5 := h.2.2.2.2.2.2.2.2.2.2.2.2.1
theorem MV.ld {f : Nat → Nat → Nat} {l : Nat → Nat → Int64} {D : DB} {W : LB} {U : QB} {T : TB} {N : Nat} (h : MV f l D W U T N) : ∀ r, r < 10 → W.2.1 r 0 ≠ 5 → l 100 r = W.2.2 r 6 := h.2.2.2.2.2.2.2.2.2.2.2.2.2.1
theorem MV.frc {f : Nat → Nat → Nat} {l : Nat → Nat → Int64} {D : DB} {W : LB} {U : QB} {T : TB} {N : Nat} (h : MV f l D W U T N) : ∀ r, r < 10 → f 101 r = W.2.1 r 7 := h.2.2.2.2.2.2.2.2.2.2.2.2.2.2.1
theorem MV.N {f : Nat → Nat → Nat} {l : Nat → Nat → Int64} {D : DB} {W : LB} {U : QB} {T : TB} {N : Nat} (h : MV f l D W U T N) : f 86 18 = N := h.2.2.2.2.2.2.2.2.2.2.2.2.2.2.2.1
theorem MV.np {f : Nat → Nat → Nat} {l : Nat → Nat → Int64} {D : DB} {W : LB} {U : QB} {T : TB} {N : Nat} (h : MV f l D W U T N) : f 86 19 = U.1 := h.2.2.2.2.2.2.2.2.2.2.2.2.2.2.2.2.1
theorem MV.pt {f : Nat → Nat → Nat} {l : Nat → Nat → Int64} {D : DB} {W : LB} {U : QB} {T : TB} {N : Nat} (h : MV f l D W U T N) : ∀ r, r < 3 → f 102 r = U.2.1 r := h.2.2.2.2.2.2.2.2.2.2.2.2.2.2.2.2.2.1
theorem MV.tld {f : Nat → Nat → Nat} {l : Nat → Nat → Int64} {D : DB} {W : LB} {U : QB} {T : TB} {N : Nat} (h : MV f l D W U T N) : ∀ r, r < 3 → ∀ c, c < 6 → f 103 (6 * r + c) = U.2.2.1 r c := h.2.2.2.2.2.2.2.2.2.2.2.2.2.2.2.2.2.2.1
theorem MV.tel {f : Nat → Nat → Nat} {l : Nat → Nat → Int64} {D : DB} {W : LB} {U : QB} {T : TB} {N : Nat} (h : MV f l D W U T N) : ∀ r, r < 3 → ∀ c, c < 6 → l 104 (6 * r + c) = U.2.2.2.1 r c := h.2.2.2.2.2.2.2.2.2.2.2.2.2.2.2.2.2.2.2.1
theorem MV.nj {f : Nat → Nat → Nat} {l : Nat → Nat → Int64} {D : DB} {W : LB} {U : QB} {T : TB} {N : Nat} (h : MV f l D W U T N) : f 86 23 = U.2.2.2.2.1 := h.2.2.2.2.2.2.2.2.2.2.2.2.2.2.2.2.2.2.2.2.1
theorem MV.jp {f : Nat → Nat → Nat} {l : Nat → Nat → Int64} {D : DB} {W : LB} {U : QB} {T : TB} {N : Nat} (h : MV f l D W U T N) : ∀ r, r < 6 → f 105 r = U.2.2.2.2.2 r 0 := h.2.2.2.2.2.2.2.2.2.2.2.2.2.2.2.2.2.2.2.2.2.1
theorem MV.jc {f : Nat → Nat → Nat} {l : Nat → Nat → Int64} {D : DB} {W : LB} {U : QB} {T : TB} {N : Nat} (h : MV f l D W U T N) : ∀ r, r < 6 → f 106 r = U.2.2.2.2.2 r 1 := h.2.2.2.2.2.2.2.2.2.2.2.2.2.2.2.2.2.2.2.2.2.2.1
theorem MV.jq {f : Nat → Nat → Nat} {l : Nat → Nat → Int64} {D : DB} {W : LB} {U : QB} {T : TB} {N : Nat} (h : MV f l D W U T N) : ∀ r, r < 6 → f 107 r = U.2.2.2.2.2 r 2 := h.2.2.2.2.2.2.2.2.2.2.2.2.2.2.2.2.2.2.2.2.2.2.2.1
theorem MV.jd {f : Nat → Nat → Nat} {l : Nat → Nat → Int64} {D : DB} {W : LB} {U : QB} {T : TB} {N : Nat} (h : MV f l D W U T N) : ∀ r, r < 6 → f 108 r = U.2.2.2.2.2 r 3 := h.2.2.2.2.2.2.2.2.2.2.2.2.2.2.2.2.2.2.2.2.2.2.2.2.1
theorem MV.col {f : Nat → Nat → Nat} {l : Nat → Nat → Int64} {D : DB} {W : LB} {U : QB} {T : TB} {N : Nat} (h : MV f l D W U T N) : ∀ r, r < 4 → f 87 r = T.1 r := h.2.2.2.2.2.2.2.2.2.2.2.2.2.2.2.2.2.2.2.2.2.2.2.2.2.1
theorem MV.lan {f : Nat → Nat → Nat} {l : Nat → Nat → Int64} {D : DB} {W : LB} {U : QB} {T : TB} {N : Nat} (h : MV f l D W U T N) : ∀ r, r < 4 → ∀ c, c < 6 → f 88 (6 * r + c) = T.2 r c := h.2.2.2.2.2.2.2.2.2.2.2.2.2.2.2.2.2.2.2.2.2.2.2.2.2.2
theorem mv_R {f : Nat → Nat → Nat} {l : Nat → Nat → Int64} {D : DB} {W : LB} {U : QB} {T : TB} {N : Nat} {v : Nat} (h : MV f l D W U T N) : MV (uf f 86 3 v) l (v, D.2) W U T N :=
  ⟨(by simp [uf]),
   (by intro r hr; simpa [uf] using h.tab r hr),
   (by intro r hr; simpa [uf] using h.tru r hr),
   (by intro r hr; simpa [uf] using h.kep r hr),
   (by intro r hr c hc; simpa [uf] using h.the r hr c hc),
   (by intro r hr c hc; simpa [uf] using h.num r hr c hc),
   (by simp [uf, h.W]),
   (by intro r hr; simpa [uf] using h.knd r hr),
   (by intro r hr; simpa [uf] using h.ltb r hr),
   (by intro r hr; simpa [uf] using h.fst r hr),
   (by intro r hr k0 k1; simpa [uf] using h.snd r hr (by simpa [uf] using k0) (by simpa [uf] using k1)),
   (by intro r hr k0; simpa [uf] using h.oth r hr (by simpa [uf] using k0)),
   (by intro r hr k0; simpa [uf] using h.lc r hr (by simpa [uf] using k0)),
   (by intro r hr k0; simpa [uf] using h.ld r hr (by simpa [uf] using k0)),
   (by intro r hr; simpa [uf] using h.frc r hr),
   (by simp [uf, h.N]),
   (by simp [uf, h.np]),
   (by intro r hr; simpa [uf] using h.pt r hr),
   (by intro r hr c hc; simpa [uf] using h.tld r hr c hc),
   (by intro r hr c hc; simpa [uf] using h.tel r hr c hc),
   (by simp [uf, h.nj]),
   (by intro r hr; simpa [uf] using h.jp r hr),
   (by intro r hr; simpa [uf] using h.jc r hr),
   (by intro r hr; simpa [uf] using h.jq r hr),
   (by intro r hr; simpa [uf] using h.jd r hr),
   (by intro r hr; simpa [uf] using h.col r hr),
   (by intro r hr c hc; simpa [uf] using h.lan r hr c hc)⟩
theorem mv_tab {f : Nat → Nat → Nat} {l : Nat → Nat → Int64} {D : DB} {W : LB} {U : QB} {T : TB} {N : Nat} {q v : Nat} (h : MV f l D W U T N) : MV (uf f 89 q v) l (D.1, uf D.2.1 q 2 v, D.2.2) W U T N :=
  ⟨(by simp [uf, h.R]),
   (by
    intro r hr
    by_cases e : r = q
    · subst e; simp [uf] at *
    · simp [uf, e] at *; simp [h.tab r hr]),
   (by intro r hr; simpa [uf] using h.tru r hr),
   (by intro r hr; simpa [uf] using h.kep r hr),
   (by intro r hr c hc; simpa [uf] using h.the r hr c hc),
   (by intro r hr c hc; simpa [uf] using h.num r hr c hc),
   (by simp [uf, h.W]),
   (by intro r hr; simpa [uf] using h.knd r hr),
   (by intro r hr; simpa [uf] using h.ltb r hr),
   (by intro r hr; simpa [uf] using h.fst r hr),
   (by intro r hr k0 k1; simpa [uf] using h.snd r hr (by simpa [uf] using k0) (by simpa [uf] using k1)),
   (by intro r hr k0; simpa [uf] using h.oth r hr (by simpa [uf] using k0)),
   (by intro r hr k0; simpa [uf] using h.lc r hr (by simpa [uf] using k0)),
   (by intro r hr k0; simpa [uf] using h.ld r hr (by simpa [uf] using k0)),
   (by intro r hr; simpa [uf] using h.frc r hr),
   (by simp [uf, h.N]),
   (by simp [uf, h.np]),
   (by intro r hr; simpa [uf] using h.pt r hr),
   (by intro r hr c hc; simpa [uf] using h.tld r hr c hc),
   (by intro r hr c hc; simpa [uf] using h.tel r hr c hc),
   (by simp [uf, h.nj]),
   (by intro r hr; simpa [uf] using h.jp r hr),
   (by intro r hr; simpa [uf] using h.jc r hr),
   (by intro r hr; simpa [uf] using h.jq r hr),
   (by intro r hr; simpa [uf] using h.jd r hr),
   (by intro r hr; simpa [uf] using h.col r hr),
   (by intro r hr c hc; simpa [uf] using h.lan r hr c hc)⟩
theorem mv_tru {f : Nat → Nat → Nat} {l : Nat → Nat → Int64} {D : DB} {W : LB} {U : QB} {T : TB} {N : Nat} {q v : Nat} (h : MV f l D W U T N) : MV (uf f 90 q v) l (D.1, uf D.2.1 q 3 v, D.2.2) W U T N :=
  ⟨(by simp [uf, h.R]),
   (by intro r hr; simpa [uf] using h.tab r hr),
   (by
    intro r hr
    by_cases e : r = q
    · subst e; simp [uf] at *
    · simp [uf, e] at *; simp [h.tru r hr]),
   (by intro r hr; simpa [uf] using h.kep r hr),
   (by intro r hr c hc; simpa [uf] using h.the r hr c hc),
   (by intro r hr c hc; simpa [uf] using h.num r hr c hc),
   (by simp [uf, h.W]),
   (by intro r hr; simpa [uf] using h.knd r hr),
   (by intro r hr; simpa [uf] using h.ltb r hr),
   (by intro r hr; simpa [uf] using h.fst r hr),
   (by intro r hr k0 k1; simpa [uf] using h.snd r hr (by simpa [uf] using k0) (by simpa [uf] using k1)),
   (by intro r hr k0; simpa [uf] using h.oth r hr (by simpa [uf] using k0)),
   (by intro r hr k0; simpa [uf] using h.lc r hr (by simpa [uf] using k0)),
   (by intro r hr k0; simpa [uf] using h.ld r hr (by simpa [uf] using k0)),
   (by intro r hr; simpa [uf] using h.frc r hr),
   (by simp [uf, h.N]),
   (by simp [uf, h.np]),
   (by intro r hr; simpa [uf] using h.pt r hr),
   (by intro r hr c hc; simpa [uf] using h.tld r hr c hc),
   (by intro r hr c hc; simpa [uf] using h.tel r hr c hc),
   (by simp [uf, h.nj]),
   (by intro r hr; simpa [uf] using h.jp r hr),
   (by intro r hr; simpa [uf] using h.jc r hr),
   (by intro r hr; simpa [uf] using h.jq r hr),
   (by intro r hr; simpa [uf] using h.jd r hr),
   (by intro r hr; simpa [uf] using h.col r hr),
   (by intro r hr c hc; simpa [uf] using h.lan r hr c hc)⟩
theorem mv_kep {f : Nat → Nat → Nat} {l : Nat → Nat → Int64} {D : DB} {W : LB} {U : QB} {T : TB} {N : Nat} {q v : Nat} (h : MV f l D W U T N) : MV (uf f 91 q v) l (D.1, uf D.2.1 q 4 v, D.2.2) W U T N :=
  ⟨(by simp [uf, h.R]),
   (by intro r hr; simpa [uf] using h.tab r hr),
   (by intro r hr; simpa [uf] using h.tru r hr),
   (by
    intro r hr
    by_cases e : r = q
    · subst e; simp [uf] at *
    · simp [uf, e] at *; simp [h.kep r hr]),
   (by intro r hr c hc; simpa [uf] using h.the r hr c hc),
   (by intro r hr c hc; simpa [uf] using h.num r hr c hc),
   (by simp [uf, h.W]),
   (by intro r hr; simpa [uf] using h.knd r hr),
   (by intro r hr; simpa [uf] using h.ltb r hr),
   (by intro r hr; simpa [uf] using h.fst r hr),
   (by intro r hr k0 k1; simpa [uf] using h.snd r hr (by simpa [uf] using k0) (by simpa [uf] using k1)),
   (by intro r hr k0; simpa [uf] using h.oth r hr (by simpa [uf] using k0)),
   (by intro r hr k0; simpa [uf] using h.lc r hr (by simpa [uf] using k0)),
   (by intro r hr k0; simpa [uf] using h.ld r hr (by simpa [uf] using k0)),
   (by intro r hr; simpa [uf] using h.frc r hr),
   (by simp [uf, h.N]),
   (by simp [uf, h.np]),
   (by intro r hr; simpa [uf] using h.pt r hr),
   (by intro r hr c hc; simpa [uf] using h.tld r hr c hc),
   (by intro r hr c hc; simpa [uf] using h.tel r hr c hc),
   (by simp [uf, h.nj]),
   (by intro r hr; simpa [uf] using h.jp r hr),
   (by intro r hr; simpa [uf] using h.jc r hr),
   (by intro r hr; simpa [uf] using h.jq r hr),
   (by intro r hr; simpa [uf] using h.jd r hr),
   (by intro r hr; simpa [uf] using h.col r hr),
   (by intro r hr c hc; simpa [uf] using h.lan r hr c hc)⟩
theorem mv_the {f : Nat → Nat → Nat} {l : Nat → Nat → Int64} {D : DB} {W : LB} {U : QB} {T : TB} {N : Nat} {q d v : Nat} (hd : d < 6) (h : MV f l D W U T N) : MV (uf f 92 (6 * q + d) v) l (D.1, D.2.1, uf D.2.2.1 q d v, D.2.2.2) W U T N :=
  ⟨(by simp [uf, h.R]),
   (by intro r hr; simpa [uf] using h.tab r hr),
   (by intro r hr; simpa [uf] using h.tru r hr),
   (by intro r hr; simpa [uf] using h.kep r hr),
   (by
    intro r hr c hc
    by_cases e : r = q ∧ c = d
    · obtain ⟨rfl, rfl⟩ := e; simp [uf]
    · have e1 : ¬ (6 * r + c = 6 * q + d) := by omega
      simp [uf, e, e1, h.the r hr c hc]),
   (by intro r hr c hc; simpa [uf] using h.num r hr c hc),
   (by simp [uf, h.W]),
   (by intro r hr; simpa [uf] using h.knd r hr),
   (by intro r hr; simpa [uf] using h.ltb r hr),
   (by intro r hr; simpa [uf] using h.fst r hr),
   (by intro r hr k0 k1; simpa [uf] using h.snd r hr (by simpa [uf] using k0) (by simpa [uf] using k1)),
   (by intro r hr k0; simpa [uf] using h.oth r hr (by simpa [uf] using k0)),
   (by intro r hr k0; simpa [uf] using h.lc r hr (by simpa [uf] using k0)),
   (by intro r hr k0; simpa [uf] using h.ld r hr (by simpa [uf] using k0)),
   (by intro r hr; simpa [uf] using h.frc r hr),
   (by simp [uf, h.N]),
   (by simp [uf, h.np]),
   (by intro r hr; simpa [uf] using h.pt r hr),
   (by intro r hr c hc; simpa [uf] using h.tld r hr c hc),
   (by intro r hr c hc; simpa [uf] using h.tel r hr c hc),
   (by simp [uf, h.nj]),
   (by intro r hr; simpa [uf] using h.jp r hr),
   (by intro r hr; simpa [uf] using h.jc r hr),
   (by intro r hr; simpa [uf] using h.jq r hr),
   (by intro r hr; simpa [uf] using h.jd r hr),
   (by intro r hr; simpa [uf] using h.col r hr),
   (by intro r hr c hc; simpa [uf] using h.lan r hr c hc)⟩
theorem mv_num {f : Nat → Nat → Nat} {l : Nat → Nat → Int64} {D : DB} {W : LB} {U : QB} {T : TB} {N : Nat} {q d : Nat} {v : Int64} (hd : d < 6) (h : MV f l D W U T N) : MV f (uf l 93 (6 * q + d) v) (D.1, D.2.1, D.2.2.1, uf D.2.2.2 q d v) W U T N :=
  ⟨(by simp [uf, h.R]),
   (by intro r hr; simpa [uf] using h.tab r hr),
   (by intro r hr; simpa [uf] using h.tru r hr),
   (by intro r hr; simpa [uf] using h.kep r hr),
   (by intro r hr c hc; simpa [uf] using h.the r hr c hc),
   (by
    intro r hr c hc
    by_cases e : r = q ∧ c = d
    · obtain ⟨rfl, rfl⟩ := e; simp [uf]
    · have e1 : ¬ (6 * r + c = 6 * q + d) := by omega
      simp [uf, e, e1, h.num r hr c hc]),
   (by simp [uf, h.W]),
   (by intro r hr; simpa [uf] using h.knd r hr),
   (by intro r hr; simpa [uf] using h.ltb r hr),
   (by intro r hr; simpa [uf] using h.fst r hr),
   (by intro r hr k0 k1; simpa [uf] using h.snd r hr (by simpa [uf] using k0) (by simpa [uf] using k1)),
   (by intro r hr k0; simpa [uf] using h.oth r hr (by simpa [uf] using k0)),
   (by intro r hr k0; simpa [uf] using h.lc r hr (by simpa [uf] using k0)),
   (by intro r hr k0; simpa [uf] using h.ld r hr (by simpa [uf] using k0)),
   (by intro r hr; simpa [uf] using h.frc r hr),
   (by simp [uf, h.N]),
   (by simp [uf, h.np]),
   (by intro r hr; simpa [uf] using h.pt r hr),
   (by intro r hr c hc; simpa [uf] using h.tld r hr c hc),
   (by intro r hr c hc; simpa [uf] using h.tel r hr c hc),
   (by simp [uf, h.nj]),
   (by intro r hr; simpa [uf] using h.jp r hr),
   (by intro r hr; simpa [uf] using h.jc r hr),
   (by intro r hr; simpa [uf] using h.jq r hr),
   (by intro r hr; simpa [uf] using h.jd r hr),
   (by intro r hr; simpa [uf] using h.col r hr),
   (by intro r hr c hc; simpa [uf] using h.lan r hr c hc)⟩
theorem mv_frc {f : Nat → Nat → Nat} {l : Nat → Nat → Int64} {D : DB} {W : LB} {U : QB} {T : TB} {N : Nat} {q v : Nat} (h : MV f l D W U T N) : MV (uf f 101 q v) l D (W.1, uf W.2.1 q 7 v, W.2.2) U T N :=
  ⟨(by simp [uf, h.R]),
   (by intro r hr; simpa [uf] using h.tab r hr),
   (by intro r hr; simpa [uf] using h.tru r hr),
   (by intro r hr; simpa [uf] using h.kep r hr),
   (by intro r hr c hc; simpa [uf] using h.the r hr c hc),
   (by intro r hr c hc; simpa [uf] using h.num r hr c hc),
   (by simp [uf, h.W]),
   (by intro r hr; simpa [uf] using h.knd r hr),
   (by intro r hr; simpa [uf] using h.ltb r hr),
   (by intro r hr; simpa [uf] using h.fst r hr),
   (by intro r hr k0 k1; simpa [uf] using h.snd r hr (by simpa [uf] using k0) (by simpa [uf] using k1)),
   (by intro r hr k0; simpa [uf] using h.oth r hr (by simpa [uf] using k0)),
   (by intro r hr k0; simpa [uf] using h.lc r hr (by simpa [uf] using k0)),
   (by intro r hr k0; simpa [uf] using h.ld r hr (by simpa [uf] using k0)),
   (by
    intro r hr
    by_cases e : r = q
    · subst e; simp [uf] at *
    · simp [uf, e] at *; simp [h.frc r hr]),
   (by simp [uf, h.N]),
   (by simp [uf, h.np]),
   (by intro r hr; simpa [uf] using h.pt r hr),
   (by intro r hr c hc; simpa [uf] using h.tld r hr c hc),
   (by intro r hr c hc; simpa [uf] using h.tel r hr c hc),
   (by simp [uf, h.nj]),
   (by intro r hr; simpa [uf] using h.jp r hr),
   (by intro r hr; simpa [uf] using h.jc r hr),
   (by intro r hr; simpa [uf] using h.jq r hr),
   (by intro r hr; simpa [uf] using h.jd r hr),
   (by intro r hr; simpa [uf] using h.col r hr),
   (by intro r hr c hc; simpa [uf] using h.lan r hr c hc)⟩
theorem mv_N {f : Nat → Nat → Nat} {l : Nat → Nat → Int64} {D : DB} {W : LB} {U : QB} {T : TB} {N : Nat} {v : Nat} (h : MV f l D W U T N) : MV (uf f 86 18 v) l D W U T v :=
  ⟨(by simp [uf, h.R]),
   (by intro r hr; simpa [uf] using h.tab r hr),
   (by intro r hr; simpa [uf] using h.tru r hr),
   (by intro r hr; simpa [uf] using h.kep r hr),
   (by intro r hr c hc; simpa [uf] using h.the r hr c hc),
   (by intro r hr c hc; simpa [uf] using h.num r hr c hc),
   (by simp [uf, h.W]),
   (by intro r hr; simpa [uf] using h.knd r hr),
   (by intro r hr; simpa [uf] using h.ltb r hr),
   (by intro r hr; simpa [uf] using h.fst r hr),
   (by intro r hr k0 k1; simpa [uf] using h.snd r hr (by simpa [uf] using k0) (by simpa [uf] using k1)),
   (by intro r hr k0; simpa [uf] using h.oth r hr (by simpa [uf] using k0)),
   (by intro r hr k0; simpa [uf] using h.lc r hr (by simpa [uf] using k0)),
   (by intro r hr k0; simpa [uf] using h.ld r hr (by simpa [uf] using k0)),
   (by intro r hr; simpa [uf] using h.frc r hr),
   (by simp [uf]),
   (by simp [uf, h.np]),
   (by intro r hr; simpa [uf] using h.pt r hr),
   (by intro r hr c hc; simpa [uf] using h.tld r hr c hc),
   (by intro r hr c hc; simpa [uf] using h.tel r hr c hc),
   (by simp [uf, h.nj]),
   (by intro r hr; simpa [uf] using h.jp r hr),
   (by intro r hr; simpa [uf] using h.jc r hr),
   (by intro r hr; simpa [uf] using h.jq r hr),
   (by intro r hr; simpa [uf] using h.jd r hr),
   (by intro r hr; simpa [uf] using h.col r hr),
   (by intro r hr c hc; simpa [uf] using h.lan r hr c hc)⟩
theorem mv_np {f : Nat → Nat → Nat} {l : Nat → Nat → Int64} {D : DB} {W : LB} {U : QB} {T : TB} {N : Nat} {v : Nat} (h : MV f l D W U T N) : MV (uf f 86 19 v) l D W (v, U.2) T N :=
  ⟨(by simp [uf, h.R]),
   (by intro r hr; simpa [uf] using h.tab r hr),
   (by intro r hr; simpa [uf] using h.tru r hr),
   (by intro r hr; simpa [uf] using h.kep r hr),
   (by intro r hr c hc; simpa [uf] using h.the r hr c hc),
   (by intro r hr c hc; simpa [uf] using h.num r hr c hc),
   (by simp [uf, h.W]),
   (by intro r hr; simpa [uf] using h.knd r hr),
   (by intro r hr; simpa [uf] using h.ltb r hr),
   (by intro r hr; simpa [uf] using h.fst r hr),
   (by intro r hr k0 k1; simpa [uf] using h.snd r hr (by simpa [uf] using k0) (by simpa [uf] using k1)),
   (by intro r hr k0; simpa [uf] using h.oth r hr (by simpa [uf] using k0)),
   (by intro r hr k0; simpa [uf] using h.lc r hr (by simpa [uf] using k0)),
   (by intro r hr k0; simpa [uf] using h.ld r hr (by simpa [uf] using k0)),
   (by intro r hr; simpa [uf] using h.frc r hr),
   (by simp [uf, h.N]),
   (by simp [uf]),
   (by intro r hr; simpa [uf] using h.pt r hr),
   (by intro r hr c hc; simpa [uf] using h.tld r hr c hc),
   (by intro r hr c hc; simpa [uf] using h.tel r hr c hc),
   (by simp [uf, h.nj]),
   (by intro r hr; simpa [uf] using h.jp r hr),
   (by intro r hr; simpa [uf] using h.jc r hr),
   (by intro r hr; simpa [uf] using h.jq r hr),
   (by intro r hr; simpa [uf] using h.jd r hr),
   (by intro r hr; simpa [uf] using h.col r hr),
   (by intro r hr c hc; simpa [uf] using h.lan r hr c hc)⟩
theorem mv_nj {f : Nat → Nat → Nat} {l : Nat → Nat → Int64} {D : DB} {W : LB} {U : QB} {T : TB} {N : Nat} {v : Nat} (h : MV f l D W U T N) : MV (uf f 86 23 v) l D W (U.1, U.2.1, U.2.2.1, U.2.2.2.1, v, U.2.2.2.2.2) T N :=
  ⟨(by simp [uf, h.R]),
   (by intro r hr; simpa [uf] using h.tab r hr),
   (by intro r hr; simpa [uf] using h.tru r hr),
   (by intro r hr; simpa [uf] using h.kep r hr),
   (by intro r hr c hc; simpa [uf] using h.the r hr c hc),
   (by intro r hr c hc; simpa [uf] using h.num r hr c hc),
   (by simp [uf, h.W]),
   (by intro r hr; simpa [uf] using h.knd r hr),
   (by intro r hr; simpa [uf] using h.ltb r hr),
   (by intro r hr; simpa [uf] using h.fst r hr),
   (by intro r hr k0 k1; simpa [uf] using h.snd r hr (by simpa [uf] using k0) (by simpa [uf] using k1)),
   (by intro r hr k0; simpa [uf] using h.oth r hr (by simpa [uf] using k0)),
   (by intro r hr k0; simpa [uf] using h.lc r hr (by simpa [uf] using k0)),
   (by intro r hr k0; simpa [uf] using h.ld r hr (by simpa [uf] using k0)),
   (by intro r hr; simpa [uf] using h.frc r hr),
   (by simp [uf, h.N]),
   (by simp [uf, h.np]),
   (by intro r hr; simpa [uf] using h.pt r hr),
   (by intro r hr c hc; simpa [uf] using h.tld r hr c hc),
   (by intro r hr c hc; simpa [uf] using h.tel r hr c hc),
   (by simp [uf]),
   (by intro r hr; simpa [uf] using h.jp r hr),
   (by intro r hr; simpa [uf] using h.jc r hr),
   (by intro r hr; simpa [uf] using h.jq r hr),
   (by intro r hr; simpa [uf] using h.jd r hr),
   (by intro r hr; simpa [uf] using h.col r hr),
   (by intro r hr c hc; simpa [uf] using h.lan r hr c hc)⟩
theorem mv_pt {f : Nat → Nat → Nat} {l : Nat → Nat → Int64} {D : DB} {W : LB} {U : QB} {T : TB} {N : Nat} {q v : Nat} (h : MV f l D W U T N) : MV (uf f 102 q v) l D W (U.1, (fun p => if p = q then v else U.2.1 p), U.2.2) T N :=
  ⟨(by simp [uf, h.R]),
   (by intro r hr; simpa [uf] using h.tab r hr),
   (by intro r hr; simpa [uf] using h.tru r hr),
   (by intro r hr; simpa [uf] using h.kep r hr),
   (by intro r hr c hc; simpa [uf] using h.the r hr c hc),
   (by intro r hr c hc; simpa [uf] using h.num r hr c hc),
   (by simp [uf, h.W]),
   (by intro r hr; simpa [uf] using h.knd r hr),
   (by intro r hr; simpa [uf] using h.ltb r hr),
   (by intro r hr; simpa [uf] using h.fst r hr),
   (by intro r hr k0 k1; simpa [uf] using h.snd r hr (by simpa [uf] using k0) (by simpa [uf] using k1)),
   (by intro r hr k0; simpa [uf] using h.oth r hr (by simpa [uf] using k0)),
   (by intro r hr k0; simpa [uf] using h.lc r hr (by simpa [uf] using k0)),
   (by intro r hr k0; simpa [uf] using h.ld r hr (by simpa [uf] using k0)),
   (by intro r hr; simpa [uf] using h.frc r hr),
   (by simp [uf, h.N]),
   (by simp [uf, h.np]),
   (by
    intro r hr
    by_cases e : r = q
    · subst e; simp [uf] at *
    · simp [uf, e] at *; simp [h.pt r hr]),
   (by intro r hr c hc; simpa [uf] using h.tld r hr c hc),
   (by intro r hr c hc; simpa [uf] using h.tel r hr c hc),
   (by simp [uf, h.nj]),
   (by intro r hr; simpa [uf] using h.jp r hr),
   (by intro r hr; simpa [uf] using h.jc r hr),
   (by intro r hr; simpa [uf] using h.jq r hr),
   (by intro r hr; simpa [uf] using h.jd r hr),
   (by intro r hr; simpa [uf] using h.col r hr),
   (by intro r hr c hc; simpa [uf] using h.lan r hr c hc)⟩
theorem mv_tld {f : Nat → Nat → Nat} {l : Nat → Nat → Int64} {D : DB} {W : LB} {U : QB} {T : TB} {N : Nat} {q d v : Nat} (hd : d < 6) (h : MV f l D W U T N) : MV (uf f 103 (6 * q + d) v) l D W (U.1, U.2.1, uf U.2.2.1 q d v, U.2.2.2) T N :=
  ⟨(by simp [uf, h.R]),
   (by intro r hr; simpa [uf] using h.tab r hr),
   (by intro r hr; simpa [uf] using h.tru r hr),
   (by intro r hr; simpa [uf] using h.kep r hr),
   (by intro r hr c hc; simpa [uf] using h.the r hr c hc),
   (by intro r hr c hc; simpa [uf] using h.num r hr c hc),
   (by simp [uf, h.W]),
   (by intro r hr; simpa [uf] using h.knd r hr),
   (by intro r hr; simpa [uf] using h.ltb r hr),
   (by intro r hr; simpa [uf] using h.fst r hr),
   (by intro r hr k0 k1; simpa [uf] using h.snd r hr (by simpa [uf] using k0) (by simpa [uf] using k1)),
   (by intro r hr k0; simpa [uf] using h.oth r hr (by simpa [uf] using k0)),
   (by intro r hr k0; simpa [uf] using h.lc r hr (by simpa [uf] using k0)),
   (by intro r hr k0; simpa [uf] using h.ld r hr (by simpa [uf] using k0)),
   (by intro r hr; simpa [uf] using h.frc r hr),
   (by simp [uf, h.N]),
   (by simp [uf, h.np]),
   (by intro r hr; simpa [uf] using h.pt r hr),
   (by
    intro r hr c hc
    by_cases e : r = q ∧ c = d
    · obtain ⟨rfl, rfl⟩ := e; simp [uf]
    · have e1 : ¬ (6 * r + c = 6 * q + d) := by omega
      simp [uf, e, e1, h.tld r hr c hc]),
   (by intro r hr c hc; simpa [uf] using h.tel r hr c hc),
   (by simp [uf, h.nj]),
   (by intro r hr; simpa [uf] using h.jp r hr),
   (by intro r hr; simpa [uf] using h.jc r hr),
   (by intro r hr; simpa [uf] using h.jq r hr),
   (by intro r hr; simpa [uf] using h.jd r hr),
   (by intro r hr; simpa [uf] using h.col r hr),
   (by intro r hr c hc; simpa [uf] using h.lan r hr c hc)⟩
theorem mv_tel {f : Nat → Nat → Nat} {l : Nat → Nat → Int64} {D : DB} {W : LB} {U : QB} {T : TB} {N : Nat} {q d : Nat} {v : Int64} (hd : d < 6) (h : MV f l D W U T N) : MV f (uf l 104 (6 * q + d) v) D W (U.1, U.2.1, U.2.2.1, uf U.2.2.2.1 q d v, U.2.2.2.2) T N :=
  ⟨(by simp [uf, h.R]),
   (by intro r hr; simpa [uf] using h.tab r hr),
   (by intro r hr; simpa [uf] using h.tru r hr),
   (by intro r hr; simpa [uf] using h.kep r hr),
   (by intro r hr c hc; simpa [uf] using h.the r hr c hc),
   (by intro r hr c hc; simpa [uf] using h.num r hr c hc),
   (by simp [uf, h.W]),
   (by intro r hr; simpa [uf] using h.knd r hr),
   (by intro r hr; simpa [uf] using h.ltb r hr),
   (by intro r hr; simpa [uf] using h.fst r hr),
   (by intro r hr k0 k1; simpa [uf] using h.snd r hr (by simpa [uf] using k0) (by simpa [uf] using k1)),
   (by intro r hr k0; simpa [uf] using h.oth r hr (by simpa [uf] using k0)),
   (by intro r hr k0; simpa [uf] using h.lc r hr (by simpa [uf] using k0)),
   (by intro r hr k0; simpa [uf] using h.ld r hr (by simpa [uf] using k0)),
   (by intro r hr; simpa [uf] using h.frc r hr),
   (by simp [uf, h.N]),
   (by simp [uf, h.np]),
   (by intro r hr; simpa [uf] using h.pt r hr),
   (by intro r hr c hc; simpa [uf] using h.tld r hr c hc),
   (by
    intro r hr c hc
    by_cases e : r = q ∧ c = d
    · obtain ⟨rfl, rfl⟩ := e; simp [uf]
    · have e1 : ¬ (6 * r + c = 6 * q + d) := by omega
      simp [uf, e, e1, h.tel r hr c hc]),
   (by simp [uf, h.nj]),
   (by intro r hr; simpa [uf] using h.jp r hr),
   (by intro r hr; simpa [uf] using h.jc r hr),
   (by intro r hr; simpa [uf] using h.jq r hr),
   (by intro r hr; simpa [uf] using h.jd r hr),
   (by intro r hr; simpa [uf] using h.col r hr),
   (by intro r hr c hc; simpa [uf] using h.lan r hr c hc)⟩
theorem mv_jp {f : Nat → Nat → Nat} {l : Nat → Nat → Int64} {D : DB} {W : LB} {U : QB} {T : TB} {N : Nat} {q v : Nat} (h : MV f l D W U T N) : MV (uf f 105 q v) l D W (U.1, U.2.1, U.2.2.1, U.2.2.2.1, U.2.2.2.2.1, uf U.2.2.2.2.2 q 0 v) T N :=
  ⟨(by simp [uf, h.R]),
   (by intro r hr; simpa [uf] using h.tab r hr),
   (by intro r hr; simpa [uf] using h.tru r hr),
   (by intro r hr; simpa [uf] using h.kep r hr),
   (by intro r hr c hc; simpa [uf] using h.the r hr c hc),
   (by intro r hr c hc; simpa [uf] using h.num r hr c hc),
   (by simp [uf, h.W]),
   (by intro r hr; simpa [uf] using h.knd r hr),
   (by intro r hr; simpa [uf] using h.ltb r hr),
   (by intro r hr; simpa [uf] using h.fst r hr),
   (by intro r hr k0 k1; simpa [uf] using h.snd r hr (by simpa [uf] using k0) (by simpa [uf] using k1)),
   (by intro r hr k0; simpa [uf] using h.oth r hr (by simpa [uf] using k0)),
   (by intro r hr k0; simpa [uf] using h.lc r hr (by simpa [uf] using k0)),
   (by intro r hr k0; simpa [uf] using h.ld r hr (by simpa [uf] using k0)),
   (by intro r hr; simpa [uf] using h.frc r hr),
   (by simp [uf, h.N]),
   (by simp [uf, h.np]),
   (by intro r hr; simpa [uf] using h.pt r hr),
   (by intro r hr c hc; simpa [uf] using h.tld r hr c hc),
   (by intro r hr c hc; simpa [uf] using h.tel r hr c hc),
   (by simp [uf, h.nj]),
   (by
    intro r hr
    by_cases e : r = q
    · subst e; simp [uf] at *
    · simp [uf, e] at *; simp [h.jp r hr]),
   (by intro r hr; simpa [uf] using h.jc r hr),
   (by intro r hr; simpa [uf] using h.jq r hr),
   (by intro r hr; simpa [uf] using h.jd r hr),
   (by intro r hr; simpa [uf] using h.col r hr),
   (by intro r hr c hc; simpa [uf] using h.lan r hr c hc)⟩
theorem mv_jc {f : Nat → Nat → Nat} {l : Nat → Nat → Int64} {D : DB} {W : LB} {U : QB} {T : TB} {N : Nat} {q v : Nat} (h : MV f l D W U T N) : MV (uf f 106 q v) l D W (U.1, U.2.1, U.2.2.1, U.2.2.2.1, U.2.2.2.2.1, uf U.2.2.2.2.2 q 1 v) T N :=
  ⟨(by simp [uf, h.R]),
   (by intro r hr; simpa [uf] using h.tab r hr),
   (by intro r hr; simpa [uf] using h.tru r hr),
   (by intro r hr; simpa [uf] using h.kep r hr),
   (by intro r hr c hc; simpa [uf] using h.the r hr c hc),
   (by intro r hr c hc; simpa [uf] using h.num r hr c hc),
   (by simp [uf, h.W]),
   (by intro r hr; simpa [uf] using h.knd r hr),
   (by intro r hr; simpa [uf] using h.ltb r hr),
   (by intro r hr; simpa [uf] using h.fst r hr),
   (by intro r hr k0 k1; simpa [uf] using h.snd r hr (by simpa [uf] using k0) (by simpa [uf] using k1)),
   (by intro r hr k0; simpa [uf] using h.oth r hr (by simpa [uf] using k0)),
   (by intro r hr k0; simpa [uf] using h.lc r hr (by simpa [uf] using k0)),
   (by intro r hr k0; simpa [uf] using h.ld r hr (by simpa [uf] using k0)),
   (by intro r hr; simpa [uf] using h.frc r hr),
   (by simp [uf, h.N]),
   (by simp [uf, h.np]),
   (by intro r hr; simpa [uf] using h.pt r hr),
   (by intro r hr c hc; simpa [uf] using h.tld r hr c hc),
   (by intro r hr c hc; simpa [uf] using h.tel r hr c hc),
   (by simp [uf, h.nj]),
   (by intro r hr; simpa [uf] using h.jp r hr),
   (by
    intro r hr
    by_cases e : r = q
    · subst e; simp [uf] at *
    · simp [uf, e] at *; simp [h.jc r hr]),
   (by intro r hr; simpa [uf] using h.jq r hr),
   (by intro r hr; simpa [uf] using h.jd r hr),
   (by intro r hr; simpa [uf] using h.col r hr),
   (by intro r hr c hc; simpa [uf] using h.lan r hr c hc)⟩
theorem mv_jq {f : Nat → Nat → Nat} {l : Nat → Nat → Int64} {D : DB} {W : LB} {U : QB} {T : TB} {N : Nat} {q v : Nat} (h : MV f l D W U T N) : MV (uf f 107 q v) l D W (U.1, U.2.1, U.2.2.1, U.2.2.2.1, U.2.2.2.2.1, uf U.2.2.2.2.2 q 2 v) T N :=
  ⟨(by simp [uf, h.R]),
   (by intro r hr; simpa [uf] using h.tab r hr),
   (by intro r hr; simpa [uf] using h.tru r hr),
   (by intro r hr; simpa [uf] using h.kep r hr),
   (by intro r hr c hc; simpa [uf] using h.the r hr c hc),
   (by intro r hr c hc; simpa [uf] using h.num r hr c hc),
   (by simp [uf, h.W]),
   (by intro r hr; simpa [uf] using h.knd r hr),
   (by intro r hr; simpa [uf] using h.ltb r hr),
   (by intro r hr; simpa [uf] using h.fst r hr),
   (by intro r hr k0 k1; simpa [uf] using h.snd r hr (by simpa [uf] using k0) (by simpa [uf] using k1)),
   (by intro r hr k0; simpa [uf] using h.oth r hr (by simpa [uf] using k0)),
   (by intro r hr k0; simpa [uf] using h.lc r hr (by simpa [uf] using k0)),
   (by intro r hr k0; simpa [uf] using h.ld r hr (by simpa [uf] using k0)),
   (by intro r hr; simpa [uf] using h.frc r hr),
   (by simp [uf, h.N]),
   (by simp [uf, h.np]),
   (by intro r hr; simpa [uf] using h.pt r hr),
   (by intro r hr c hc; simpa [uf] using h.tld r hr c hc),
   (by intro r hr c hc; simpa [uf] using h.tel r hr c hc),
   (by simp [uf, h.nj]),
   (by intro r hr; simpa [uf] using h.jp r hr),
   (by intro r hr; simpa [uf] using h.jc r hr),
   (by
    intro r hr
    by_cases e : r = q
    · subst e; simp [uf] at *
    · simp [uf, e] at *; simp [h.jq r hr]),
   (by intro r hr; simpa [uf] using h.jd r hr),
   (by intro r hr; simpa [uf] using h.col r hr),
   (by intro r hr c hc; simpa [uf] using h.lan r hr c hc)⟩
theorem mv_jd {f : Nat → Nat → Nat} {l : Nat → Nat → Int64} {D : DB} {W : LB} {U : QB} {T : TB} {N : Nat} {q v : Nat} (h : MV f l D W U T N) : MV (uf f 108 q v) l D W (U.1, U.2.1, U.2.2.1, U.2.2.2.1, U.2.2.2.2.1, uf U.2.2.2.2.2 q 3 v) T N :=
  ⟨(by simp [uf, h.R]),
   (by intro r hr; simpa [uf] using h.tab r hr),
   (by intro r hr; simpa [uf] using h.tru r hr),
   (by intro r hr; simpa [uf] using h.kep r hr),
   (by intro r hr c hc; simpa [uf] using h.the r hr c hc),
   (by intro r hr c hc; simpa [uf] using h.num r hr c hc),
   (by simp [uf, h.W]),
   (by intro r hr; simpa [uf] using h.knd r hr),
   (by intro r hr; simpa [uf] using h.ltb r hr),
   (by intro r hr; simpa [uf] using h.fst r hr),
   (by intro r hr k0 k1; simpa [uf] using h.snd r hr (by simpa [uf] using k0) (by simpa [uf] using k1)),
   (by intro r hr k0; simpa [uf] using h.oth r hr (by simpa [uf] using k0)),
   (by intro r hr k0; simpa [uf] using h.lc r hr (by simpa [uf] using k0)),
   (by intro r hr k0; simpa [uf] using h.ld r hr (by simpa [uf] using k0)),
   (by intro r hr; simpa [uf] using h.frc r hr),
   (by simp [uf, h.N]),
   (by simp [uf, h.np]),
   (by intro r hr; simpa [uf] using h.pt r hr),
   (by intro r hr c hc; simpa [uf] using h.tld r hr c hc),
   (by intro r hr c hc; simpa [uf] using h.tel r hr c hc),
   (by simp [uf, h.nj]),
   (by intro r hr; simpa [uf] using h.jp r hr),
   (by intro r hr; simpa [uf] using h.jc r hr),
   (by intro r hr; simpa [uf] using h.jq r hr),
   (by
    intro r hr
    by_cases e : r = q
    · subst e; simp [uf] at *
    · simp [uf, e] at *; simp [h.jd r hr]),
   (by intro r hr; simpa [uf] using h.col r hr),
   (by intro r hr c hc; simpa [uf] using h.lan r hr c hc)⟩
theorem mv_col {f : Nat → Nat → Nat} {l : Nat → Nat → Int64} {D : DB} {W : LB} {U : QB} {T : TB} {N : Nat} {q v : Nat} (h : MV f l D W U T N) : MV (uf f 87 q v) l D W U ((fun p => if p = q then v else T.1 p), T.2) N :=
  ⟨(by simp [uf, h.R]),
   (by intro r hr; simpa [uf] using h.tab r hr),
   (by intro r hr; simpa [uf] using h.tru r hr),
   (by intro r hr; simpa [uf] using h.kep r hr),
   (by intro r hr c hc; simpa [uf] using h.the r hr c hc),
   (by intro r hr c hc; simpa [uf] using h.num r hr c hc),
   (by simp [uf, h.W]),
   (by intro r hr; simpa [uf] using h.knd r hr),
   (by intro r hr; simpa [uf] using h.ltb r hr),
   (by intro r hr; simpa [uf] using h.fst r hr),
   (by intro r hr k0 k1; simpa [uf] using h.snd r hr (by simpa [uf] using k0) (by simpa [uf] using k1)),
   (by intro r hr k0; simpa [uf] using h.oth r hr (by simpa [uf] using k0)),
   (by intro r hr k0; simpa [uf] using h.lc r hr (by simpa [uf] using k0)),
   (by intro r hr k0; simpa [uf] using h.ld r hr (by simpa [uf] using k0)),
   (by intro r hr; simpa [uf] using h.frc r hr),
   (by simp [uf, h.N]),
   (by simp [uf, h.np]),
   (by intro r hr; simpa [uf] using h.pt r hr),
   (by intro r hr c hc; simpa [uf] using h.tld r hr c hc),
   (by intro r hr c hc; simpa [uf] using h.tel r hr c hc),
   (by simp [uf, h.nj]),
   (by intro r hr; simpa [uf] using h.jp r hr),
   (by intro r hr; simpa [uf] using h.jc r hr),
   (by intro r hr; simpa [uf] using h.jq r hr),
   (by intro r hr; simpa [uf] using h.jd r hr),
   (by
    intro r hr
    by_cases e : r = q
    · subst e; simp [uf] at *
    · simp [uf, e] at *; simp [h.col r hr]),
   (by intro r hr c hc; simpa [uf] using h.lan r hr c hc)⟩
theorem mv_lan {f : Nat → Nat → Nat} {l : Nat → Nat → Int64} {D : DB} {W : LB} {U : QB} {T : TB} {N : Nat} {q d v : Nat} (hd : d < 6) (h : MV f l D W U T N) : MV (uf f 88 (6 * q + d) v) l D W U (T.1, uf T.2 q d v) N :=
  ⟨(by simp [uf, h.R]),
   (by intro r hr; simpa [uf] using h.tab r hr),
   (by intro r hr; simpa [uf] using h.tru r hr),
   (by intro r hr; simpa [uf] using h.kep r hr),
   (by intro r hr c hc; simpa [uf] using h.the r hr c hc),
   (by intro r hr c hc; simpa [uf] using h.num r hr c hc),
   (by simp [uf, h.W]),
   (by intro r hr; simpa [uf] using h.knd r hr),
   (by intro r hr; simpa [uf] using h.ltb r hr),
   (by intro r hr; simpa [uf] using h.fst r hr),
   (by intro r hr k0 k1; simpa [uf] using h.snd r hr (by simpa [uf] using k0) (by simpa [uf] using k1)),
   (by intro r hr k0; simpa [uf] using h.oth r hr (by simpa [uf] using k0)),
   (by intro r hr k0; simpa [uf] using h.lc r hr (by simpa [uf] using k0)),
   (by intro r hr k0; simpa [uf] using h.ld r hr (by simpa [uf] using k0)),
   (by intro r hr; simpa [uf] using h.frc r hr),
   (by simp [uf, h.N]),
   (by simp [uf, h.np]),
   (by intro r hr; simpa [uf] using h.pt r hr),
   (by intro r hr c hc; simpa [uf] using h.tld r hr c hc),
   (by intro r hr c hc; simpa [uf] using h.tel r hr c hc),
   (by simp [uf, h.nj]),
   (by intro r hr; simpa [uf] using h.jp r hr),
   (by intro r hr; simpa [uf] using h.jc r hr),
   (by intro r hr; simpa [uf] using h.jq r hr),
   (by intro r hr; simpa [uf] using h.jd r hr),
   (by intro r hr; simpa [uf] using h.col r hr),
   (by
    intro r hr c hc
    by_cases e : r = q ∧ c = d
    · obtain ⟨rfl, rfl⟩ := e; simp [uf]
    · have e1 : ¬ (6 * r + c = 6 * q + d) := by omega
      simp [uf, e, e1, h.lan r hr c hc])⟩
theorem mv_free {f : Nat → Nat → Nat} {l : Nat → Nat → Int64} {D : DB} {W : LB} {U : QB} {T : TB} {N : Nat} {k j v : Nat} (hk : 109 ≤ k ∨ k < 86 ∨ (k = 86 ∧ (j = 0 ∨ 28 ≤ j))) (h : MV f l D W U T N) : MV (uf f k j v) l D W U T N :=
  ⟨(uf_ne f v (by omega)).trans (h.R),
   fun r hr => (uf_ne f v (by omega)).trans (h.tab r hr),
   fun r hr => (uf_ne f v (by omega)).trans (h.tru r hr),
   fun r hr => (uf_ne f v (by omega)).trans (h.kep r hr),
   fun r hr c hc => (uf_ne f v (by omega)).trans (h.the r hr c hc),
   fun r hr c hc => h.num r hr c hc,
   (uf_ne f v (by omega)).trans (h.W),
   fun r hr => (uf_ne f v (by omega)).trans (h.knd r hr),
   fun r hr => (uf_ne f v (by omega)).trans (h.ltb r hr),
   fun r hr => (uf_ne f v (by omega)).trans (h.fst r hr),
   fun r hr k0 k1 => (uf_ne f v (by omega)).trans (h.snd r hr k0 k1),
   fun r hr k0 => (uf_ne f v (by omega)).trans (h.oth r hr k0),
   fun r hr k0 => h.lc r hr k0,
   fun r hr k0 => h.ld r hr k0,
   fun r hr => (uf_ne f v (by omega)).trans (h.frc r hr),
   (uf_ne f v (by omega)).trans (h.N),
   (uf_ne f v (by omega)).trans (h.np),
   fun r hr => (uf_ne f v (by omega)).trans (h.pt r hr),
   fun r hr c hc => (uf_ne f v (by omega)).trans (h.tld r hr c hc),
   fun r hr c hc => h.tel r hr c hc,
   (uf_ne f v (by omega)).trans (h.nj),
   fun r hr => (uf_ne f v (by omega)).trans (h.jp r hr),
   fun r hr => (uf_ne f v (by omega)).trans (h.jc r hr),
   fun r hr => (uf_ne f v (by omega)).trans (h.jq r hr),
   fun r hr => (uf_ne f v (by omega)).trans (h.jd r hr),
   fun r hr => (uf_ne f v (by omega)).trans (h.col r hr),
   fun r hr c hc => (uf_ne f v (by omega)).trans (h.lan r hr c hc)⟩
theorem mv_freel {f : Nat → Nat → Nat} {l : Nat → Nat → Int64} {D : DB} {W : LB} {U : QB} {T : TB} {N : Nat} {k j : Nat} {v : Int64} (hk : 109 ≤ k ∨ k < 86) (h : MV f l D W U T N) : MV f (uf l k j v) D W U T N :=
  ⟨h.R,
   fun r hr => h.tab r hr,
   fun r hr => h.tru r hr,
   fun r hr => h.kep r hr,
   fun r hr c hc => h.the r hr c hc,
   fun r hr c hc => (uf_ne l v (by omega)).trans (h.num r hr c hc),
   h.W,
   fun r hr => h.knd r hr,
   fun r hr => h.ltb r hr,
   fun r hr => h.fst r hr,
   fun r hr k0 k1 => h.snd r hr k0 k1,
   fun r hr k0 => h.oth r hr k0,
   fun r hr k0 => (uf_ne l v (by omega)).trans (h.lc r hr k0),
   fun r hr k0 => (uf_ne l v (by omega)).trans (h.ld r hr k0),
   fun r hr => h.frc r hr,
   h.N,
   h.np,
   fun r hr => h.pt r hr,
   fun r hr c hc => h.tld r hr c hc,
   fun r hr c hc => (uf_ne l v (by omega)).trans (h.tel r hr c hc),
   h.nj,
   fun r hr => h.jp r hr,
   fun r hr => h.jc r hr,
   fun r hr => h.jq r hr,
   fun r hr => h.jd r hr,
   fun r hr => h.col r hr,
   fun r hr c hc => h.lan r hr c hc⟩
theorem MV.mf {f : Nat → Nat → Nat} {l : Nat → Nat → Int64} {D : DB} {W : LB} {U : QB} {T : TB} {N : Nat} {g : Nat → Nat → Nat} {m : Nat → Nat → Int64} (e : MF f l g m) (h : MV f l D W U T N) : MV g m D W U T N :=
  ⟨((e _ (by decide)).1 _).trans (h.R),
   fun r hr => ((e _ (by decide)).1 _).trans (h.tab r hr),
   fun r hr => ((e _ (by decide)).1 _).trans (h.tru r hr),
   fun r hr => ((e _ (by decide)).1 _).trans (h.kep r hr),
   fun r hr c hc => ((e _ (by decide)).1 _).trans (h.the r hr c hc),
   fun r hr c hc => ((e _ (by decide)).2 _).trans (h.num r hr c hc),
   ((e _ (by decide)).1 _).trans (h.W),
   fun r hr => ((e _ (by decide)).1 _).trans (h.knd r hr),
   fun r hr => ((e _ (by decide)).1 _).trans (h.ltb r hr),
   fun r hr => ((e _ (by decide)).1 _).trans (h.fst r hr),
   fun r hr k0 k1 => ((e _ (by decide)).1 _).trans (h.snd r hr k0 k1),
   fun r hr k0 => ((e _ (by decide)).1 _).trans (h.oth r hr k0),
   fun r hr k0 => ((e _ (by decide)).2 _).trans (h.lc r hr k0),
   fun r hr k0 => ((e _ (by decide)).2 _).trans (h.ld r hr k0),
   fun r hr => ((e _ (by decide)).1 _).trans (h.frc r hr),
   ((e _ (by decide)).1 _).trans (h.N),
   ((e _ (by decide)).1 _).trans (h.np),
   fun r hr => ((e _ (by decide)).1 _).trans (h.pt r hr),
   fun r hr c hc => ((e _ (by decide)).1 _).trans (h.tld r hr c hc),
   fun r hr c hc => ((e _ (by decide)).2 _).trans (h.tel r hr c hc),
   ((e _ (by decide)).1 _).trans (h.nj),
   fun r hr => ((e _ (by decide)).1 _).trans (h.jp r hr),
   fun r hr => ((e _ (by decide)).1 _).trans (h.jc r hr),
   fun r hr => ((e _ (by decide)).1 _).trans (h.jq r hr),
   fun r hr => ((e _ (by decide)).1 _).trans (h.jd r hr),
   fun r hr => ((e _ (by decide)).1 _).trans (h.col r hr),
   fun r hr c hc => ((e _ (by decide)).1 _).trans (h.lan r hr c hc)⟩
theorem mv_law {f : Nat → Nat → Nat} {l : Nat → Nat → Int64} {D : DB} {W : LB} {U : QB} {T : TB} {N : Nat} {k t a b b' u : Nat} {c d : Int64} (hk : k ≠ 5) (hb : k ≠ 1 → k ≠ 3 → b = b') (h : MV f l D W U T N) : MV (uf (uf (uf (uf (uf (uf (uf f 94 W.1 k) 95 W.1 t) 96 W.1 a) 97 W.1 b) 98 W.1 u) 101 W.1 1) 86 9 (W.1 + 1)) (uf (uf l 99 W.1 c) 100 W.1 d) D (W.1 + 1, (uf (uf (uf (uf (uf W.2.1 W.1 0 k) W.1 1 t) W.1 7 1) W.1 2 a) W.1 3 b'), uf (uf W.2.2 W.1 5 c) W.1 6 d) U T N :=
  ⟨(by simp [uf, h.R]),
   (by intro r hr; simpa [uf] using h.tab r hr),
   (by intro r hr; simpa [uf] using h.tru r hr),
   (by intro r hr; simpa [uf] using h.kep r hr),
   (by intro r hr c hc; simpa [uf] using h.the r hr c hc),
   (by intro r hr c hc; simpa [uf] using h.num r hr c hc),
   (by simp [uf]),
   (by
    intro r hr
    by_cases e : r = W.1
    · subst e; simp [uf, h.R] at *
    · simp [uf, e] at *; simp [h.knd r hr]),
   (by
    intro r hr
    by_cases e : r = W.1
    · subst e; simp [uf, h.R] at *
    · simp [uf, e] at *; simp [h.ltb r hr]),
   (by
    intro r hr
    by_cases e : r = W.1
    · subst e; simp [uf, h.R] at *
    · simp [uf, e] at *; simp [h.fst r hr]),
   (by
    intro r hr k0 k1
    by_cases e : r = W.1
    · subst e; simp [uf, h.R] at *; try first | assumption | exact hb k0 k1 | exact absurd k0 hk
    · simp [uf, e] at *; simp [h.snd r hr k0 k1]),
   (by
    intro r hr k0
    by_cases e : r = W.1
    · subst e; simp [uf, h.R] at *; try first | assumption | exact hb k0 k1 | exact absurd k0 hk
    · simp [uf, e] at *; simp [h.oth r hr k0]),
   (by
    intro r hr k0
    by_cases e : r = W.1
    · subst e; simp [uf, h.R] at *; try first | assumption | exact hb k0 k1 | exact absurd k0 hk
    · simp [uf, e] at *; simp [h.lc r hr k0]),
   (by
    intro r hr k0
    by_cases e : r = W.1
    · subst e; simp [uf, h.R] at *; try first | assumption | exact hb k0 k1 | exact absurd k0 hk
    · simp [uf, e] at *; simp [h.ld r hr k0]),
   (by
    intro r hr
    by_cases e : r = W.1
    · subst e; simp [uf, h.R] at *
    · simp [uf, e] at *; simp [h.frc r hr]),
   (by simp [uf, h.N]),
   (by simp [uf, h.np]),
   (by intro r hr; simpa [uf] using h.pt r hr),
   (by intro r hr c hc; simpa [uf] using h.tld r hr c hc),
   (by intro r hr c hc; simpa [uf] using h.tel r hr c hc),
   (by simp [uf, h.nj]),
   (by intro r hr; simpa [uf] using h.jp r hr),
   (by intro r hr; simpa [uf] using h.jc r hr),
   (by intro r hr; simpa [uf] using h.jq r hr),
   (by intro r hr; simpa [uf] using h.jd r hr),
   (by intro r hr; simpa [uf] using h.col r hr),
   (by intro r hr c hc; simpa [uf] using h.lan r hr c hc)⟩
theorem mv_among {f : Nat → Nat → Nat} {l : Nat → Nat → Int64} {D : DB} {W : LB} {U : QB} {T : TB} {N : Nat} {t a b u : Nat} {c d : Int64} (h : MV f l D W U T N) : MV (uf (uf (uf (uf (uf (uf (uf f 94 W.1 5) 95 W.1 t) 96 W.1 a) 97 W.1 b) 98 W.1 u) 101 W.1 1) 86 9 (W.1 + 1)) (uf (uf l 99 W.1 c) 100 W.1 d) D (W.1 + 1, (uf (uf (uf (uf (uf (uf W.2.1 W.1 0 5) W.1 1 t) W.1 7 1) W.1 2 a) W.1 4 u) W.1 3 b), W.2.2) U T N :=
  ⟨(by simp [uf, h.R]),
   (by intro r hr; simpa [uf] using h.tab r hr),
   (by intro r hr; simpa [uf] using h.tru r hr),
   (by intro r hr; simpa [uf] using h.kep r hr),
   (by intro r hr c hc; simpa [uf] using h.the r hr c hc),
   (by intro r hr c hc; simpa [uf] using h.num r hr c hc),
   (by simp [uf]),
   (by
    intro r hr
    by_cases e : r = W.1
    · subst e; simp [uf, h.R] at *
    · simp [uf, e] at *; simp [h.knd r hr]),
   (by
    intro r hr
    by_cases e : r = W.1
    · subst e; simp [uf, h.R] at *
    · simp [uf, e] at *; simp [h.ltb r hr]),
   (by
    intro r hr
    by_cases e : r = W.1
    · subst e; simp [uf, h.R] at *
    · simp [uf, e] at *; simp [h.fst r hr]),
   (by
    intro r hr k0 k1
    by_cases e : r = W.1
    · subst e; simp [uf, h.R] at *; try first | assumption | exact hb k0 k1 | exact absurd k0 hk
    · simp [uf, e] at *; simp [h.snd r hr k0 k1]),
   (by
    intro r hr k0
    by_cases e : r = W.1
    · subst e; simp [uf, h.R] at *; try first | assumption | exact hb k0 k1 | exact absurd k0 hk
    · simp [uf, e] at *; simp [h.oth r hr k0]),
   (by
    intro r hr k0
    by_cases e : r = W.1
    · subst e; simp [uf, h.R] at *; try first | assumption | exact hb k0 k1 | exact absurd k0 hk
    · simp [uf, e] at *; simp [h.lc r hr k0]),
   (by
    intro r hr k0
    by_cases e : r = W.1
    · subst e; simp [uf, h.R] at *; try first | assumption | exact hb k0 k1 | exact absurd k0 hk
    · simp [uf, e] at *; simp [h.ld r hr k0]),
   (by
    intro r hr
    by_cases e : r = W.1
    · subst e; simp [uf, h.R] at *
    · simp [uf, e] at *; simp [h.frc r hr]),
   (by simp [uf, h.N]),
   (by simp [uf, h.np]),
   (by intro r hr; simpa [uf] using h.pt r hr),
   (by intro r hr c hc; simpa [uf] using h.tld r hr c hc),
   (by intro r hr c hc; simpa [uf] using h.tel r hr c hc),
   (by simp [uf, h.nj]),
   (by intro r hr; simpa [uf] using h.jp r hr),
   (by intro r hr; simpa [uf] using h.jc r hr),
   (by intro r hr; simpa [uf] using h.jq r hr),
   (by intro r hr; simpa [uf] using h.jd r hr),
   (by intro r hr; simpa [uf] using h.col r hr),
   (by intro r hr c hc; simpa [uf] using h.lan r hr c hc)⟩

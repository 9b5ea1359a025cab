-- what holds of both sides' cells between calls, and how writes keep it: by program (wip/whole/gen25.py)
def CI (f : Nat → Nat → Nat) (l : Nat → Nat → Int64) (D : DB) (W : LB) (U : QB) (T : TB) (N : Nat) : Prop := RV f l D ∧ LV f l W ∧ UV f l U ∧ TV f T ∧ f 0 5 = N ∧ SB f
theorem ci_fin {f : Nat → Nat → Nat} {l : Nat → Nat → Int64} {D : DB} {W : LB} {U : QB} {T : TB} {N : Nat} {v : Nat} (h : CI f l D W U T N) : CI (uf f 0 5 v) l D W U T v := by
  obtain ⟨⟨v1, v2, v3, v4⟩, ⟨l1, l2, l3⟩, ⟨u1, u2, u3, u4, u5, u6⟩, ⟨t1, t2⟩, n5, sb⟩ := h
  refine ⟨⟨?_, fun a ha b => ?_, fun a ha b => ?_, fun a ha b => ?_⟩, ⟨?_, fun a ha b => ?_, fun a ha b => ?_⟩, ⟨?_, fun a ha => ?_, fun a ha b => ?_, fun a ha b => ?_, ?_, fun a ha b => ?_⟩, ⟨fun a ha => ?_, fun a ha b => ?_⟩, ?_, fun b => ⟨?_, ?_, ?_⟩⟩
  · first | (rw [uf_ne _ _ (by omega)]; exact v1) | exact v1
  · first | (rw [uf_ne _ _ (by omega)]; exact v2 a ha b) | exact v2 a ha b
  · first | (rw [uf_ne _ _ (by omega)]; exact v3 a ha b) | exact v3 a ha b
  · first | (rw [uf_ne _ _ (by omega)]; exact v4 a ha b) | exact v4 a ha b
  · first | (rw [uf_ne _ _ (by omega)]; exact l1) | exact l1
  · first | (rw [uf_ne _ _ (by omega)]; exact l2 a ha b) | exact l2 a ha b
  · first | (rw [uf_ne _ _ (by omega)]; exact l3 a ha b) | exact l3 a ha b
  · first | (rw [uf_ne _ _ (by omega)]; exact u1) | exact u1
  · first | (rw [uf_ne _ _ (by omega)]; exact u2 a ha) | exact u2 a ha
  · first | (rw [uf_ne _ _ (by omega)]; exact u3 a ha b) | exact u3 a ha b
  · first | (rw [uf_ne _ _ (by omega)]; exact u4 a ha b) | exact u4 a ha b
  · first | (rw [uf_ne _ _ (by omega)]; exact u5) | exact u5
  · first | (rw [uf_ne _ _ (by omega)]; exact u6 a ha b) | exact u6 a ha b
  · first | (rw [uf_ne _ _ (by omega)]; exact t1 a ha) | exact t1 a ha
  · first | (rw [uf_ne _ _ (by omega)]; exact t2 a ha b) | exact t2 a ha b
  · first | exact uf_self _ _ _ _ | (simp only [uf]; first | done | (split <;> split <;> first | rfl | (exfalso; omega) | exact n5) | (split <;> first | rfl | (exfalso; omega) | exact n5))
  · first | (rw [uf_ne _ _ (by omega)]; exact (sb b).1) | exact (sb b).1
  · first | (rw [uf_ne _ _ (by omega)]; exact (sb b).2.1) | exact (sb b).2.1
  · first | (rw [uf_ne _ _ (by omega)]; exact (sb b).2.2) | exact (sb b).2.2

theorem ci_row {f : Nat → Nat → Nat} {l : Nat → Nat → Int64} {D : DB} {W : LB} {U : QB} {T : TB} {N : Nat} {r j v : Nat} (hr : r < 12) (h : CI f l D W U T N) : CI (uf f (4 + 3 * r) j v) l (D.1, uf D.2.1 r j v, D.2.2) W U T N := by
  obtain ⟨⟨v1, v2, v3, v4⟩, ⟨l1, l2, l3⟩, ⟨u1, u2, u3, u4, u5, u6⟩, ⟨t1, t2⟩, n5, sb⟩ := h
  refine ⟨⟨?_, fun a ha b => ?_, fun a ha b => ?_, fun a ha b => ?_⟩, ⟨?_, fun a ha b => ?_, fun a ha b => ?_⟩, ⟨?_, fun a ha => ?_, fun a ha b => ?_, fun a ha b => ?_, ?_, fun a ha b => ?_⟩, ⟨fun a ha => ?_, fun a ha b => ?_⟩, ?_, fun b => ⟨?_, ?_, ?_⟩⟩
  · first | (rw [uf_ne _ _ (by omega)]; exact v1) | exact v1
  · first | exact uf_self _ _ _ _ | (simp only [uf]; first | done | (split <;> split <;> first | rfl | (exfalso; omega) | exact v2 a ha b) | (split <;> first | rfl | (exfalso; omega) | exact v2 a ha b))
  · first | (rw [uf_ne _ _ (by omega)]; exact v3 a ha b) | exact v3 a ha b
  · first | (rw [uf_ne _ _ (by omega)]; exact v4 a ha b) | exact v4 a ha b
  · first | (rw [uf_ne _ _ (by omega)]; exact l1) | exact l1
  · first | (rw [uf_ne _ _ (by omega)]; exact l2 a ha b) | exact l2 a ha b
  · first | (rw [uf_ne _ _ (by omega)]; exact l3 a ha b) | exact l3 a ha b
  · first | (rw [uf_ne _ _ (by omega)]; exact u1) | exact u1
  · first | (rw [uf_ne _ _ (by omega)]; exact u2 a ha) | exact u2 a ha
  · first | (rw [uf_ne _ _ (by omega)]; exact u3 a ha b) | exact u3 a ha b
  · first | (rw [uf_ne _ _ (by omega)]; exact u4 a ha b) | exact u4 a ha b
  · first | (rw [uf_ne _ _ (by omega)]; exact u5) | exact u5
  · first | (rw [uf_ne _ _ (by omega)]; exact u6 a ha b) | exact u6 a ha b
  · first | (rw [uf_ne _ _ (by omega)]; exact t1 a ha) | exact t1 a ha
  · first | (rw [uf_ne _ _ (by omega)]; exact t2 a ha b) | exact t2 a ha b
  · first | (rw [uf_ne _ _ (by omega)]; exact n5) | exact n5
  · first | (rw [uf_ne _ _ (by omega)]; exact (sb b).1) | exact (sb b).1
  · first | (rw [uf_ne _ _ (by omega)]; exact (sb b).2.1) | exact (sb b).2.1
  · first | (rw [uf_ne _ _ (by omega)]; exact (sb b).2.2) | exact (sb b).2.2

theorem ci_R {f : Nat → Nat → Nat} {l : Nat → Nat → Int64} {D : DB} {W : LB} {U : QB} {T : TB} {N : Nat} {v : Nat} (h : CI f l D W U T N) : CI (uf f 2 1 v) l (v, D.2) W U T N := by
  obtain ⟨⟨v1, v2, v3, v4⟩, ⟨l1, l2, l3⟩, ⟨u1, u2, u3, u4, u5, u6⟩, ⟨t1, t2⟩, n5, sb⟩ := h
  refine ⟨⟨?_, fun a ha b => ?_, fun a ha b => ?_, fun a ha b => ?_⟩, ⟨?_, fun a ha b => ?_, fun a ha b => ?_⟩, ⟨?_, fun a ha => ?_, fun a ha b => ?_, fun a ha b => ?_, ?_, fun a ha b => ?_⟩, ⟨fun a ha => ?_, fun a ha b => ?_⟩, ?_, fun b => ⟨?_, ?_, ?_⟩⟩
  · first | exact uf_self _ _ _ _ | (simp only [uf]; first | done | (split <;> split <;> first | rfl | (exfalso; omega) | exact v1) | (split <;> first | rfl | (exfalso; omega) | exact v1))
  · first | (rw [uf_ne _ _ (by omega)]; exact v2 a ha b) | exact v2 a ha b
  · first | (rw [uf_ne _ _ (by omega)]; exact v3 a ha b) | exact v3 a ha b
  · first | (rw [uf_ne _ _ (by omega)]; exact v4 a ha b) | exact v4 a ha b
  · first | (rw [uf_ne _ _ (by omega)]; exact l1) | exact l1
  · first | (rw [uf_ne _ _ (by omega)]; exact l2 a ha b) | exact l2 a ha b
  · first | (rw [uf_ne _ _ (by omega)]; exact l3 a ha b) | exact l3 a ha b
  · first | (rw [uf_ne _ _ (by omega)]; exact u1) | exact u1
  · first | (rw [uf_ne _ _ (by omega)]; exact u2 a ha) | exact u2 a ha
  · first | (rw [uf_ne _ _ (by omega)]; exact u3 a ha b) | exact u3 a ha b
  · first | (rw [uf_ne _ _ (by omega)]; exact u4 a ha b) | exact u4 a ha b
  · first | (rw [uf_ne _ _ (by omega)]; exact u5) | exact u5
  · first | (rw [uf_ne _ _ (by omega)]; exact u6 a ha b) | exact u6 a ha b
  · first | (rw [uf_ne _ _ (by omega)]; exact t1 a ha) | exact t1 a ha
  · first | (rw [uf_ne _ _ (by omega)]; exact t2 a ha b) | exact t2 a ha b
  · first | (rw [uf_ne _ _ (by omega)]; exact n5) | exact n5
  · first | (rw [uf_ne _ _ (by omega)]; exact (sb b).1) | exact (sb b).1
  · first | (rw [uf_ne _ _ (by omega)]; exact (sb b).2.1) | exact (sb b).2.1
  · first | (rw [uf_ne _ _ (by omega)]; exact (sb b).2.2) | exact (sb b).2.2

theorem ci_the {f : Nat → Nat → Nat} {l : Nat → Nat → Int64} {D : DB} {W : LB} {U : QB} {T : TB} {N : Nat} {r c v : Nat} (hr : r < 12) (h : CI f l D W U T N) : CI (uf f (6 + 3 * r) c v) l (D.1, D.2.1, uf D.2.2.1 r c v, D.2.2.2) W U T N := by
  obtain ⟨⟨v1, v2, v3, v4⟩, ⟨l1, l2, l3⟩, ⟨u1, u2, u3, u4, u5, u6⟩, ⟨t1, t2⟩, n5, sb⟩ := h
  refine ⟨⟨?_, fun a ha b => ?_, fun a ha b => ?_, fun a ha b => ?_⟩, ⟨?_, fun a ha b => ?_, fun a ha b => ?_⟩, ⟨?_, fun a ha => ?_, fun a ha b => ?_, fun a ha b => ?_, ?_, fun a ha b => ?_⟩, ⟨fun a ha => ?_, fun a ha b => ?_⟩, ?_, fun b => ⟨?_, ?_, ?_⟩⟩
  · first | (rw [uf_ne _ _ (by omega)]; exact v1) | exact v1
  · first | (rw [uf_ne _ _ (by omega)]; exact v2 a ha b) | exact v2 a ha b
  · first | exact uf_self _ _ _ _ | (simp only [uf]; first | done | (split <;> split <;> first | rfl | (exfalso; omega) | exact v3 a ha b) | (split <;> first | rfl | (exfalso; omega) | exact v3 a ha b))
  · first | (rw [uf_ne _ _ (by omega)]; exact v4 a ha b) | exact v4 a ha b
  · first | (rw [uf_ne _ _ (by omega)]; exact l1) | exact l1
  · first | (rw [uf_ne _ _ (by omega)]; exact l2 a ha b) | exact l2 a ha b
  · first | (rw [uf_ne _ _ (by omega)]; exact l3 a ha b) | exact l3 a ha b
  · first | (rw [uf_ne _ _ (by omega)]; exact u1) | exact u1
  · first | (rw [uf_ne _ _ (by omega)]; exact u2 a ha) | exact u2 a ha
  · first | (rw [uf_ne _ _ (by omega)]; exact u3 a ha b) | exact u3 a ha b
  · first | (rw [uf_ne _ _ (by omega)]; exact u4 a ha b) | exact u4 a ha b
  · first | (rw [uf_ne _ _ (by omega)]; exact u5) | exact u5
  · first | (rw [uf_ne _ _ (by omega)]; exact u6 a ha b) | exact u6 a ha b
  · first | (rw [uf_ne _ _ (by omega)]; exact t1 a ha) | exact t1 a ha
  · first | (rw [uf_ne _ _ (by omega)]; exact t2 a ha b) | exact t2 a ha b
  · first | (rw [uf_ne _ _ (by omega)]; exact n5) | exact n5
  · first | (rw [uf_ne _ _ (by omega)]; exact (sb b).1) | exact (sb b).1
  · first | (rw [uf_ne _ _ (by omega)]; exact (sb b).2.1) | exact (sb b).2.1
  · first | (rw [uf_ne _ _ (by omega)]; exact (sb b).2.2) | exact (sb b).2.2

theorem ci_num {f : Nat → Nat → Nat} {l : Nat → Nat → Int64} {D : DB} {W : LB} {U : QB} {T : TB} {N : Nat} {r c : Nat} {v : Int64} (hr : r < 12) (h : CI f l D W U T N) : CI f (uf l (5 + 3 * r) c v) (D.1, D.2.1, D.2.2.1, uf D.2.2.2 r c v) W U T N := by
  obtain ⟨⟨v1, v2, v3, v4⟩, ⟨l1, l2, l3⟩, ⟨u1, u2, u3, u4, u5, u6⟩, ⟨t1, t2⟩, n5, sb⟩ := h
  refine ⟨⟨?_, fun a ha b => ?_, fun a ha b => ?_, fun a ha b => ?_⟩, ⟨?_, fun a ha b => ?_, fun a ha b => ?_⟩, ⟨?_, fun a ha => ?_, fun a ha b => ?_, fun a ha b => ?_, ?_, fun a ha b => ?_⟩, ⟨fun a ha => ?_, fun a ha b => ?_⟩, ?_, fun b => ⟨?_, ?_, ?_⟩⟩
  · first | exact v1 | (rw [uf_ne _ _ (by omega)]; exact v1)
  · first | exact v2 a ha b | (rw [uf_ne _ _ (by omega)]; exact v2 a ha b)
  · first | exact v3 a ha b | (rw [uf_ne _ _ (by omega)]; exact v3 a ha b)
  · first | exact uf_self _ _ _ _ | (simp only [uf]; first | done | (split <;> split <;> first | rfl | (exfalso; omega) | exact v4 a ha b) | (split <;> first | rfl | (exfalso; omega) | exact v4 a ha b))
  · first | exact l1 | (rw [uf_ne _ _ (by omega)]; exact l1)
  · first | exact l2 a ha b | (rw [uf_ne _ _ (by omega)]; exact l2 a ha b)
  · first | exact l3 a ha b | (rw [uf_ne _ _ (by omega)]; exact l3 a ha b)
  · first | exact u1 | (rw [uf_ne _ _ (by omega)]; exact u1)
  · first | exact u2 a ha | (rw [uf_ne _ _ (by omega)]; exact u2 a ha)
  · first | exact u3 a ha b | (rw [uf_ne _ _ (by omega)]; exact u3 a ha b)
  · first | exact u4 a ha b | (rw [uf_ne _ _ (by omega)]; exact u4 a ha b)
  · first | exact u5 | (rw [uf_ne _ _ (by omega)]; exact u5)
  · first | exact u6 a ha b | (rw [uf_ne _ _ (by omega)]; exact u6 a ha b)
  · first | exact t1 a ha | (rw [uf_ne _ _ (by omega)]; exact t1 a ha)
  · first | exact t2 a ha b | (rw [uf_ne _ _ (by omega)]; exact t2 a ha b)
  · first | exact n5 | (rw [uf_ne _ _ (by omega)]; exact n5)
  · first | exact (sb b).1 | (rw [uf_ne _ _ (by omega)]; exact (sb b).1)
  · first | exact (sb b).2.1 | (rw [uf_ne _ _ (by omega)]; exact (sb b).2.1)
  · first | exact (sb b).2.2 | (rw [uf_ne _ _ (by omega)]; exact (sb b).2.2)

theorem ci_law {f : Nat → Nat → Nat} {l : Nat → Nat → Int64} {D : DB} {W : LB} {U : QB} {T : TB} {N : Nat} {w j v : Nat} (hw : w < 10) (h : CI f l D W U T N) : CI (uf f (43 + w) j v) l D (W.1, uf W.2.1 w j v, W.2.2) U T N := by
  obtain ⟨⟨v1, v2, v3, v4⟩, ⟨l1, l2, l3⟩, ⟨u1, u2, u3, u4, u5, u6⟩, ⟨t1, t2⟩, n5, sb⟩ := h
  refine ⟨⟨?_, fun a ha b => ?_, fun a ha b => ?_, fun a ha b => ?_⟩, ⟨?_, fun a ha b => ?_, fun a ha b => ?_⟩, ⟨?_, fun a ha => ?_, fun a ha b => ?_, fun a ha b => ?_, ?_, fun a ha b => ?_⟩, ⟨fun a ha => ?_, fun a ha b => ?_⟩, ?_, fun b => ⟨?_, ?_, ?_⟩⟩
  · first | (rw [uf_ne _ _ (by omega)]; exact v1) | exact v1
  · first | (rw [uf_ne _ _ (by omega)]; exact v2 a ha b) | exact v2 a ha b
  · first | (rw [uf_ne _ _ (by omega)]; exact v3 a ha b) | exact v3 a ha b
  · first | (rw [uf_ne _ _ (by omega)]; exact v4 a ha b) | exact v4 a ha b
  · first | (rw [uf_ne _ _ (by omega)]; exact l1) | exact l1
  · first | exact uf_self _ _ _ _ | (simp only [uf]; first | done | (split <;> split <;> first | rfl | (exfalso; omega) | exact l2 a ha b) | (split <;> first | rfl | (exfalso; omega) | exact l2 a ha b))
  · first | (rw [uf_ne _ _ (by omega)]; exact l3 a ha b) | exact l3 a ha b
  · first | (rw [uf_ne _ _ (by omega)]; exact u1) | exact u1
  · first | (rw [uf_ne _ _ (by omega)]; exact u2 a ha) | exact u2 a ha
  · first | (rw [uf_ne _ _ (by omega)]; exact u3 a ha b) | exact u3 a ha b
  · first | (rw [uf_ne _ _ (by omega)]; exact u4 a ha b) | exact u4 a ha b
  · first | (rw [uf_ne _ _ (by omega)]; exact u5) | exact u5
  · first | (rw [uf_ne _ _ (by omega)]; exact u6 a ha b) | exact u6 a ha b
  · first | (rw [uf_ne _ _ (by omega)]; exact t1 a ha) | exact t1 a ha
  · first | (rw [uf_ne _ _ (by omega)]; exact t2 a ha b) | exact t2 a ha b
  · first | (rw [uf_ne _ _ (by omega)]; exact n5) | exact n5
  · first | (rw [uf_ne _ _ (by omega)]; exact (sb b).1) | exact (sb b).1
  · first | (rw [uf_ne _ _ (by omega)]; exact (sb b).2.1) | exact (sb b).2.1
  · first | (rw [uf_ne _ _ (by omega)]; exact (sb b).2.2) | exact (sb b).2.2

theorem ci_lawl {f : Nat → Nat → Nat} {l : Nat → Nat → Int64} {D : DB} {W : LB} {U : QB} {T : TB} {N : Nat} {w j : Nat} {v : Int64} (hw : w < 10) (h : CI f l D W U T N) : CI f (uf l (43 + w) j v) D (W.1, W.2.1, uf W.2.2 w j v) U T N := by
  obtain ⟨⟨v1, v2, v3, v4⟩, ⟨l1, l2, l3⟩, ⟨u1, u2, u3, u4, u5, u6⟩, ⟨t1, t2⟩, n5, sb⟩ := h
  refine ⟨⟨?_, fun a ha b => ?_, fun a ha b => ?_, fun a ha b => ?_⟩, ⟨?_, fun a ha b => ?_, fun a ha b => ?_⟩, ⟨?_, fun a ha => ?_, fun a ha b => ?_, fun a ha b => ?_, ?_, fun a ha b => ?_⟩, ⟨fun a ha => ?_, fun a ha b => ?_⟩, ?_, fun b => ⟨?_, ?_, ?_⟩⟩
  · first | exact v1 | (rw [uf_ne _ _ (by omega)]; exact v1)
  · first | exact v2 a ha b | (rw [uf_ne _ _ (by omega)]; exact v2 a ha b)
  · first | exact v3 a ha b | (rw [uf_ne _ _ (by omega)]; exact v3 a ha b)
  · first | exact v4 a ha b | (rw [uf_ne _ _ (by omega)]; exact v4 a ha b)
  · first | exact l1 | (rw [uf_ne _ _ (by omega)]; exact l1)
  · first | exact l2 a ha b | (rw [uf_ne _ _ (by omega)]; exact l2 a ha b)
  · first | exact uf_self _ _ _ _ | (simp only [uf]; first | done | (split <;> split <;> first | rfl | (exfalso; omega) | exact l3 a ha b) | (split <;> first | rfl | (exfalso; omega) | exact l3 a ha b))
  · first | exact u1 | (rw [uf_ne _ _ (by omega)]; exact u1)
  · first | exact u2 a ha | (rw [uf_ne _ _ (by omega)]; exact u2 a ha)
  · first | exact u3 a ha b | (rw [uf_ne _ _ (by omega)]; exact u3 a ha b)
  · first | exact u4 a ha b | (rw [uf_ne _ _ (by omega)]; exact u4 a ha b)
  · first | exact u5 | (rw [uf_ne _ _ (by omega)]; exact u5)
  · first | exact u6 a ha b | (rw [uf_ne _ _ (by omega)]; exact u6 a ha b)
  · first | exact t1 a ha | (rw [uf_ne _ _ (by omega)]; exact t1 a ha)
  · first | exact t2 a ha b | (rw [uf_ne _ _ (by omega)]; exact t2 a ha b)
  · first | exact n5 | (rw [uf_ne _ _ (by omega)]; exact n5)
  · first | exact (sb b).1 | (rw [uf_ne _ _ (by omega)]; exact (sb b).1)
  · first | exact (sb b).2.1 | (rw [uf_ne _ _ (by omega)]; exact (sb b).2.1)
  · first | exact (sb b).2.2 | (rw [uf_ne _ _ (by omega)]; exact (sb b).2.2)

theorem ci_W {f : Nat → Nat → Nat} {l : Nat → Nat → Int64} {D : DB} {W : LB} {U : QB} {T : TB} {N : Nat} {v : Nat} (h : CI f l D W U T N) : CI (uf f 40 2 v) l D (v, W.2) U T N := by
  obtain ⟨⟨v1, v2, v3, v4⟩, ⟨l1, l2, l3⟩, ⟨u1, u2, u3, u4, u5, u6⟩, ⟨t1, t2⟩, n5, sb⟩ := h
  refine ⟨⟨?_, fun a ha b => ?_, fun a ha b => ?_, fun a ha b => ?_⟩, ⟨?_, fun a ha b => ?_, fun a ha b => ?_⟩, ⟨?_, fun a ha => ?_, fun a ha b => ?_, fun a ha b => ?_, ?_, fun a ha b => ?_⟩, ⟨fun a ha => ?_, fun a ha b => ?_⟩, ?_, fun b => ⟨?_, ?_, ?_⟩⟩
  · first | (rw [uf_ne _ _ (by omega)]; exact v1) | exact v1
  · first | (rw [uf_ne _ _ (by omega)]; exact v2 a ha b) | exact v2 a ha b
  · first | (rw [uf_ne _ _ (by omega)]; exact v3 a ha b) | exact v3 a ha b
  · first | (rw [uf_ne _ _ (by omega)]; exact v4 a ha b) | exact v4 a ha b
  · first | exact uf_self _ _ _ _ | (simp only [uf]; first | done | (split <;> split <;> first | rfl | (exfalso; omega) | exact l1) | (split <;> first | rfl | (exfalso; omega) | exact l1))
  · first | (rw [uf_ne _ _ (by omega)]; exact l2 a ha b) | exact l2 a ha b
  · first | (rw [uf_ne _ _ (by omega)]; exact l3 a ha b) | exact l3 a ha b
  · first | (rw [uf_ne _ _ (by omega)]; exact u1) | exact u1
  · first | (rw [uf_ne _ _ (by omega)]; exact u2 a ha) | exact u2 a ha
  · first | (rw [uf_ne _ _ (by omega)]; exact u3 a ha b) | exact u3 a ha b
  · first | (rw [uf_ne _ _ (by omega)]; exact u4 a ha b) | exact u4 a ha b
  · first | (rw [uf_ne _ _ (by omega)]; exact u5) | exact u5
  · first | (rw [uf_ne _ _ (by omega)]; exact u6 a ha b) | exact u6 a ha b
  · first | (rw [uf_ne _ _ (by omega)]; exact t1 a ha) | exact t1 a ha
  · first | (rw [uf_ne _ _ (by omega)]; exact t2 a ha b) | exact t2 a ha b
  · first | (rw [uf_ne _ _ (by omega)]; exact n5) | exact n5
  · first | (rw [uf_ne _ _ (by omega)]; exact (sb b).1) | exact (sb b).1
  · first | (rw [uf_ne _ _ (by omega)]; exact (sb b).2.1) | exact (sb b).2.1
  · first | (rw [uf_ne _ _ (by omega)]; exact (sb b).2.2) | exact (sb b).2.2

theorem ci_np {f : Nat → Nat → Nat} {l : Nat → Nat → Int64} {D : DB} {W : LB} {U : QB} {T : TB} {N : Nat} {v : Nat} (h : CI f l D W U T N) : CI (uf f 57 2 v) l D W (v, U.2) T N := by
  obtain ⟨⟨v1, v2, v3, v4⟩, ⟨l1, l2, l3⟩, ⟨u1, u2, u3, u4, u5, u6⟩, ⟨t1, t2⟩, n5, sb⟩ := h
  refine ⟨⟨?_, fun a ha b => ?_, fun a ha b => ?_, fun a ha b => ?_⟩, ⟨?_, fun a ha b => ?_, fun a ha b => ?_⟩, ⟨?_, fun a ha => ?_, fun a ha b => ?_, fun a ha b => ?_, ?_, fun a ha b => ?_⟩, ⟨fun a ha => ?_, fun a ha b => ?_⟩, ?_, fun b => ⟨?_, ?_, ?_⟩⟩
  · first | (rw [uf_ne _ _ (by omega)]; exact v1) | exact v1
  · first | (rw [uf_ne _ _ (by omega)]; exact v2 a ha b) | exact v2 a ha b
  · first | (rw [uf_ne _ _ (by omega)]; exact v3 a ha b) | exact v3 a ha b
  · first | (rw [uf_ne _ _ (by omega)]; exact v4 a ha b) | exact v4 a ha b
  · first | (rw [uf_ne _ _ (by omega)]; exact l1) | exact l1
  · first | (rw [uf_ne _ _ (by omega)]; exact l2 a ha b) | exact l2 a ha b
  · first | (rw [uf_ne _ _ (by omega)]; exact l3 a ha b) | exact l3 a ha b
  · first | exact uf_self _ _ _ _ | (simp only [uf]; first | done | (split <;> split <;> first | rfl | (exfalso; omega) | exact u1) | (split <;> first | rfl | (exfalso; omega) | exact u1))
  · first | (rw [uf_ne _ _ (by omega)]; exact u2 a ha) | exact u2 a ha
  · first | (rw [uf_ne _ _ (by omega)]; exact u3 a ha b) | exact u3 a ha b
  · first | (rw [uf_ne _ _ (by omega)]; exact u4 a ha b) | exact u4 a ha b
  · first | (rw [uf_ne _ _ (by omega)]; exact u5) | exact u5
  · first | (rw [uf_ne _ _ (by omega)]; exact u6 a ha b) | exact u6 a ha b
  · first | (rw [uf_ne _ _ (by omega)]; exact t1 a ha) | exact t1 a ha
  · first | (rw [uf_ne _ _ (by omega)]; exact t2 a ha b) | exact t2 a ha b
  · first | (rw [uf_ne _ _ (by omega)]; exact n5) | exact n5
  · first | (rw [uf_ne _ _ (by omega)]; exact (sb b).1) | exact (sb b).1
  · first | (rw [uf_ne _ _ (by omega)]; exact (sb b).2.1) | exact (sb b).2.1
  · first | (rw [uf_ne _ _ (by omega)]; exact (sb b).2.2) | exact (sb b).2.2

theorem ci_nj {f : Nat → Nat → Nat} {l : Nat → Nat → Int64} {D : DB} {W : LB} {U : QB} {T : TB} {N : Nat} {v : Nat} (h : CI f l D W U T N) : CI (uf f 57 4 v) l D W (U.1, U.2.1, U.2.2.1, U.2.2.2.1, v, U.2.2.2.2.2) T N := by
  obtain ⟨⟨v1, v2, v3, v4⟩, ⟨l1, l2, l3⟩, ⟨u1, u2, u3, u4, u5, u6⟩, ⟨t1, t2⟩, n5, sb⟩ := h
  refine ⟨⟨?_, fun a ha b => ?_, fun a ha b => ?_, fun a ha b => ?_⟩, ⟨?_, fun a ha b => ?_, fun a ha b => ?_⟩, ⟨?_, fun a ha => ?_, fun a ha b => ?_, fun a ha b => ?_, ?_, fun a ha b => ?_⟩, ⟨fun a ha => ?_, fun a ha b => ?_⟩, ?_, fun b => ⟨?_, ?_, ?_⟩⟩
  · first | (rw [uf_ne _ _ (by omega)]; exact v1) | exact v1
  · first | (rw [uf_ne _ _ (by omega)]; exact v2 a ha b) | exact v2 a ha b
  · first | (rw [uf_ne _ _ (by omega)]; exact v3 a ha b) | exact v3 a ha b
  · first | (rw [uf_ne _ _ (by omega)]; exact v4 a ha b) | exact v4 a ha b
  · first | (rw [uf_ne _ _ (by omega)]; exact l1) | exact l1
  · first | (rw [uf_ne _ _ (by omega)]; exact l2 a ha b) | exact l2 a ha b
  · first | (rw [uf_ne _ _ (by omega)]; exact l3 a ha b) | exact l3 a ha b
  · first | (rw [uf_ne _ _ (by omega)]; exact u1) | exact u1
  · first | (rw [uf_ne _ _ (by omega)]; exact u2 a ha) | exact u2 a ha
  · first | (rw [uf_ne _ _ (by omega)]; exact u3 a ha b) | exact u3 a ha b
  · first | (rw [uf_ne _ _ (by omega)]; exact u4 a ha b) | exact u4 a ha b
  · first | exact uf_self _ _ _ _ | (simp only [uf]; first | done | (split <;> split <;> first | rfl | (exfalso; omega) | exact u5) | (split <;> first | rfl | (exfalso; omega) | exact u5))
  · first | (rw [uf_ne _ _ (by omega)]; exact u6 a ha b) | exact u6 a ha b
  · first | (rw [uf_ne _ _ (by omega)]; exact t1 a ha) | exact t1 a ha
  · first | (rw [uf_ne _ _ (by omega)]; exact t2 a ha b) | exact t2 a ha b
  · first | (rw [uf_ne _ _ (by omega)]; exact n5) | exact n5
  · first | (rw [uf_ne _ _ (by omega)]; exact (sb b).1) | exact (sb b).1
  · first | (rw [uf_ne _ _ (by omega)]; exact (sb b).2.1) | exact (sb b).2.1
  · first | (rw [uf_ne _ _ (by omega)]; exact (sb b).2.2) | exact (sb b).2.2

theorem ci_par {f : Nat → Nat → Nat} {l : Nat → Nat → Int64} {D : DB} {W : LB} {U : QB} {T : TB} {N : Nat} {p v : Nat} (hp : p < 3) (h : CI f l D W U T N) : CI (uf f (63 + 3 * p) 2 v) l D W (U.1, (fun q => if q = p then v else U.2.1 q), U.2.2) T N := by
  obtain ⟨⟨v1, v2, v3, v4⟩, ⟨l1, l2, l3⟩, ⟨u1, u2, u3, u4, u5, u6⟩, ⟨t1, t2⟩, n5, sb⟩ := h
  refine ⟨⟨?_, fun a ha b => ?_, fun a ha b => ?_, fun a ha b => ?_⟩, ⟨?_, fun a ha b => ?_, fun a ha b => ?_⟩, ⟨?_, fun a ha => ?_, fun a ha b => ?_, fun a ha b => ?_, ?_, fun a ha b => ?_⟩, ⟨fun a ha => ?_, fun a ha b => ?_⟩, ?_, fun b => ⟨?_, ?_, ?_⟩⟩
  · first | (rw [uf_ne _ _ (by omega)]; exact v1) | exact v1
  · first | (rw [uf_ne _ _ (by omega)]; exact v2 a ha b) | exact v2 a ha b
  · first | (rw [uf_ne _ _ (by omega)]; exact v3 a ha b) | exact v3 a ha b
  · first | (rw [uf_ne _ _ (by omega)]; exact v4 a ha b) | exact v4 a ha b
  · first | (rw [uf_ne _ _ (by omega)]; exact l1) | exact l1
  · first | (rw [uf_ne _ _ (by omega)]; exact l2 a ha b) | exact l2 a ha b
  · first | (rw [uf_ne _ _ (by omega)]; exact l3 a ha b) | exact l3 a ha b
  · first | (rw [uf_ne _ _ (by omega)]; exact u1) | exact u1
  · by_cases e : a = p
    · subst e; rw [uf_self]; exact (if_pos rfl).symm
    · rw [uf_ne _ _ (Or.inl (by omega))]; exact (u2 a ha).trans (if_neg e).symm
  · first | (rw [uf_ne _ _ (by omega)]; exact u3 a ha b) | exact u3 a ha b
  · first | (rw [uf_ne _ _ (by omega)]; exact u4 a ha b) | exact u4 a ha b
  · first | (rw [uf_ne _ _ (by omega)]; exact u5) | exact u5
  · first | (rw [uf_ne _ _ (by omega)]; exact u6 a ha b) | exact u6 a ha b
  · first | (rw [uf_ne _ _ (by omega)]; exact t1 a ha) | exact t1 a ha
  · first | (rw [uf_ne _ _ (by omega)]; exact t2 a ha b) | exact t2 a ha b
  · first | (rw [uf_ne _ _ (by omega)]; exact n5) | exact n5
  · first | (rw [uf_ne _ _ (by omega)]; exact (sb b).1) | exact (sb b).1
  · first | (rw [uf_ne _ _ (by omega)]; exact (sb b).2.1) | exact (sb b).2.1
  · first | (rw [uf_ne _ _ (by omega)]; exact (sb b).2.2) | exact (sb b).2.2

theorem ci_pto {f : Nat → Nat → Nat} {l : Nat → Nat → Int64} {D : DB} {W : LB} {U : QB} {T : TB} {N : Nat} {p c v : Nat} (hp : p < 3) (h : CI f l D W U T N) : CI (uf f (64 + 3 * p) c v) l D W (U.1, U.2.1, uf U.2.2.1 p c v, U.2.2.2) T N := by
  obtain ⟨⟨v1, v2, v3, v4⟩, ⟨l1, l2, l3⟩, ⟨u1, u2, u3, u4, u5, u6⟩, ⟨t1, t2⟩, n5, sb⟩ := h
  refine ⟨⟨?_, fun a ha b => ?_, fun a ha b => ?_, fun a ha b => ?_⟩, ⟨?_, fun a ha b => ?_, fun a ha b => ?_⟩, ⟨?_, fun a ha => ?_, fun a ha b => ?_, fun a ha b => ?_, ?_, fun a ha b => ?_⟩, ⟨fun a ha => ?_, fun a ha b => ?_⟩, ?_, fun b => ⟨?_, ?_, ?_⟩⟩
  · first | (rw [uf_ne _ _ (by omega)]; exact v1) | exact v1
  · first | (rw [uf_ne _ _ (by omega)]; exact v2 a ha b) | exact v2 a ha b
  · first | (rw [uf_ne _ _ (by omega)]; exact v3 a ha b) | exact v3 a ha b
  · first | (rw [uf_ne _ _ (by omega)]; exact v4 a ha b) | exact v4 a ha b
  · first | (rw [uf_ne _ _ (by omega)]; exact l1) | exact l1
  · first | (rw [uf_ne _ _ (by omega)]; exact l2 a ha b) | exact l2 a ha b
  · first | (rw [uf_ne _ _ (by omega)]; exact l3 a ha b) | exact l3 a ha b
  · first | (rw [uf_ne _ _ (by omega)]; exact u1) | exact u1
  · first | (rw [uf_ne _ _ (by omega)]; exact u2 a ha) | exact u2 a ha
  · first | exact uf_self _ _ _ _ | (simp only [uf]; first | done | (split <;> split <;> first | rfl | (exfalso; omega) | exact u3 a ha b) | (split <;> first | rfl | (exfalso; omega) | exact u3 a ha b))
  · first | (rw [uf_ne _ _ (by omega)]; exact u4 a ha b) | exact u4 a ha b
  · first | (rw [uf_ne _ _ (by omega)]; exact u5) | exact u5
  · first | (rw [uf_ne _ _ (by omega)]; exact u6 a ha b) | exact u6 a ha b
  · first | (rw [uf_ne _ _ (by omega)]; exact t1 a ha) | exact t1 a ha
  · first | (rw [uf_ne _ _ (by omega)]; exact t2 a ha b) | exact t2 a ha b
  · first | (rw [uf_ne _ _ (by omega)]; exact n5) | exact n5
  · first | (rw [uf_ne _ _ (by omega)]; exact (sb b).1) | exact (sb b).1
  · first | (rw [uf_ne _ _ (by omega)]; exact (sb b).2.1) | exact (sb b).2.1
  · first | (rw [uf_ne _ _ (by omega)]; exact (sb b).2.2) | exact (sb b).2.2

theorem ci_pnu {f : Nat → Nat → Nat} {l : Nat → Nat → Int64} {D : DB} {W : LB} {U : QB} {T : TB} {N : Nat} {p c : Nat} {v : Int64} (hp : p < 3) (h : CI f l D W U T N) : CI f (uf l (65 + 3 * p) c v) D W (U.1, U.2.1, U.2.2.1, uf U.2.2.2.1 p c v, U.2.2.2.2) T N := by
  obtain ⟨⟨v1, v2, v3, v4⟩, ⟨l1, l2, l3⟩, ⟨u1, u2, u3, u4, u5, u6⟩, ⟨t1, t2⟩, n5, sb⟩ := h
  refine ⟨⟨?_, fun a ha b => ?_, fun a ha b => ?_, fun a ha b => ?_⟩, ⟨?_, fun a ha b => ?_, fun a ha b => ?_⟩, ⟨?_, fun a ha => ?_, fun a ha b => ?_, fun a ha b => ?_, ?_, fun a ha b => ?_⟩, ⟨fun a ha => ?_, fun a ha b => ?_⟩, ?_, fun b => ⟨?_, ?_, ?_⟩⟩
  · first | exact v1 | (rw [uf_ne _ _ (by omega)]; exact v1)
  · first | exact v2 a ha b | (rw [uf_ne _ _ (by omega)]; exact v2 a ha b)
  · first | exact v3 a ha b | (rw [uf_ne _ _ (by omega)]; exact v3 a ha b)
  · first | exact v4 a ha b | (rw [uf_ne _ _ (by omega)]; exact v4 a ha b)
  · first | exact l1 | (rw [uf_ne _ _ (by omega)]; exact l1)
  · first | exact l2 a ha b | (rw [uf_ne _ _ (by omega)]; exact l2 a ha b)
  · first | exact l3 a ha b | (rw [uf_ne _ _ (by omega)]; exact l3 a ha b)
  · first | exact u1 | (rw [uf_ne _ _ (by omega)]; exact u1)
  · first | exact u2 a ha | (rw [uf_ne _ _ (by omega)]; exact u2 a ha)
  · first | exact u3 a ha b | (rw [uf_ne _ _ (by omega)]; exact u3 a ha b)
  · first | exact uf_self _ _ _ _ | (simp only [uf]; first | done | (split <;> split <;> first | rfl | (exfalso; omega) | exact u4 a ha b) | (split <;> first | rfl | (exfalso; omega) | exact u4 a ha b))
  · first | exact u5 | (rw [uf_ne _ _ (by omega)]; exact u5)
  · first | exact u6 a ha b | (rw [uf_ne _ _ (by omega)]; exact u6 a ha b)
  · first | exact t1 a ha | (rw [uf_ne _ _ (by omega)]; exact t1 a ha)
  · first | exact t2 a ha b | (rw [uf_ne _ _ (by omega)]; exact t2 a ha b)
  · first | exact n5 | (rw [uf_ne _ _ (by omega)]; exact n5)
  · first | exact (sb b).1 | (rw [uf_ne _ _ (by omega)]; exact (sb b).1)
  · first | exact (sb b).2.1 | (rw [uf_ne _ _ (by omega)]; exact (sb b).2.1)
  · first | exact (sb b).2.2 | (rw [uf_ne _ _ (by omega)]; exact (sb b).2.2)

theorem ci_joi {f : Nat → Nat → Nat} {l : Nat → Nat → Int64} {D : DB} {W : LB} {U : QB} {T : TB} {N : Nat} {j i v : Nat} (hj : j < 6) (h : CI f l D W U T N) : CI (uf f (72 + j) i v) l D W (U.1, U.2.1, U.2.2.1, U.2.2.2.1, U.2.2.2.2.1, uf U.2.2.2.2.2 j i v) T N := by
  obtain ⟨⟨v1, v2, v3, v4⟩, ⟨l1, l2, l3⟩, ⟨u1, u2, u3, u4, u5, u6⟩, ⟨t1, t2⟩, n5, sb⟩ := h
  refine ⟨⟨?_, fun a ha b => ?_, fun a ha b => ?_, fun a ha b => ?_⟩, ⟨?_, fun a ha b => ?_, fun a ha b => ?_⟩, ⟨?_, fun a ha => ?_, fun a ha b => ?_, fun a ha b => ?_, ?_, fun a ha b => ?_⟩, ⟨fun a ha => ?_, fun a ha b => ?_⟩, ?_, fun b => ⟨?_, ?_, ?_⟩⟩
  · first | (rw [uf_ne _ _ (by omega)]; exact v1) | exact v1
  · first | (rw [uf_ne _ _ (by omega)]; exact v2 a ha b) | exact v2 a ha b
  · first | (rw [uf_ne _ _ (by omega)]; exact v3 a ha b) | exact v3 a ha b
  · first | (rw [uf_ne _ _ (by omega)]; exact v4 a ha b) | exact v4 a ha b
  · first | (rw [uf_ne _ _ (by omega)]; exact l1) | exact l1
  · first | (rw [uf_ne _ _ (by omega)]; exact l2 a ha b) | exact l2 a ha b
  · first | (rw [uf_ne _ _ (by omega)]; exact l3 a ha b) | exact l3 a ha b
  · first | (rw [uf_ne _ _ (by omega)]; exact u1) | exact u1
  · first | (rw [uf_ne _ _ (by omega)]; exact u2 a ha) | exact u2 a ha
  · first | (rw [uf_ne _ _ (by omega)]; exact u3 a ha b) | exact u3 a ha b
  · first | (rw [uf_ne _ _ (by omega)]; exact u4 a ha b) | exact u4 a ha b
  · first | (rw [uf_ne _ _ (by omega)]; exact u5) | exact u5
  · first | exact uf_self _ _ _ _ | (simp only [uf]; first | done | (split <;> split <;> first | rfl | (exfalso; omega) | exact u6 a ha b) | (split <;> first | rfl | (exfalso; omega) | exact u6 a ha b))
  · first | (rw [uf_ne _ _ (by omega)]; exact t1 a ha) | exact t1 a ha
  · first | (rw [uf_ne _ _ (by omega)]; exact t2 a ha b) | exact t2 a ha b
  · first | (rw [uf_ne _ _ (by omega)]; exact n5) | exact n5
  · first | (rw [uf_ne _ _ (by omega)]; exact (sb b).1) | exact (sb b).1
  · first | (rw [uf_ne _ _ (by omega)]; exact (sb b).2.1) | exact (sb b).2.1
  · first | (rw [uf_ne _ _ (by omega)]; exact (sb b).2.2) | exact (sb b).2.2

theorem ci_tab {f : Nat → Nat → Nat} {l : Nat → Nat → Int64} {D : DB} {W : LB} {U : QB} {T : TB} {N : Nat} {t v : Nat} (ht : t < 4) (h : CI f l D W U T N) : CI (uf f (78 + 2 * t) 1 v) l D W U ((fun q => if q = t then v else T.1 q), T.2) N := by
  obtain ⟨⟨v1, v2, v3, v4⟩, ⟨l1, l2, l3⟩, ⟨u1, u2, u3, u4, u5, u6⟩, ⟨t1, t2⟩, n5, sb⟩ := h
  refine ⟨⟨?_, fun a ha b => ?_, fun a ha b => ?_, fun a ha b => ?_⟩, ⟨?_, fun a ha b => ?_, fun a ha b => ?_⟩, ⟨?_, fun a ha => ?_, fun a ha b => ?_, fun a ha b => ?_, ?_, fun a ha b => ?_⟩, ⟨fun a ha => ?_, fun a ha b => ?_⟩, ?_, fun b => ⟨?_, ?_, ?_⟩⟩
  · first | (rw [uf_ne _ _ (by omega)]; exact v1) | exact v1
  · first | (rw [uf_ne _ _ (by omega)]; exact v2 a ha b) | exact v2 a ha b
  · first | (rw [uf_ne _ _ (by omega)]; exact v3 a ha b) | exact v3 a ha b
  · first | (rw [uf_ne _ _ (by omega)]; exact v4 a ha b) | exact v4 a ha b
  · first | (rw [uf_ne _ _ (by omega)]; exact l1) | exact l1
  · first | (rw [uf_ne _ _ (by omega)]; exact l2 a ha b) | exact l2 a ha b
  · first | (rw [uf_ne _ _ (by omega)]; exact l3 a ha b) | exact l3 a ha b
  · first | (rw [uf_ne _ _ (by omega)]; exact u1) | exact u1
  · first | (rw [uf_ne _ _ (by omega)]; exact u2 a ha) | exact u2 a ha
  · first | (rw [uf_ne _ _ (by omega)]; exact u3 a ha b) | exact u3 a ha b
  · first | (rw [uf_ne _ _ (by omega)]; exact u4 a ha b) | exact u4 a ha b
  · first | (rw [uf_ne _ _ (by omega)]; exact u5) | exact u5
  · first | (rw [uf_ne _ _ (by omega)]; exact u6 a ha b) | exact u6 a ha b
  · by_cases e : a = t
    · subst e; rw [uf_self]; exact (if_pos rfl).symm
    · rw [uf_ne _ _ (Or.inl (by omega))]; exact (t1 a ha).trans (if_neg e).symm
  · first | (rw [uf_ne _ _ (by omega)]; exact t2 a ha b) | exact t2 a ha b
  · first | (rw [uf_ne _ _ (by omega)]; exact n5) | exact n5
  · first | (rw [uf_ne _ _ (by omega)]; exact (sb b).1) | exact (sb b).1
  · first | (rw [uf_ne _ _ (by omega)]; exact (sb b).2.1) | exact (sb b).2.1
  · first | (rw [uf_ne _ _ (by omega)]; exact (sb b).2.2) | exact (sb b).2.2

theorem ci_lan {f : Nat → Nat → Nat} {l : Nat → Nat → Int64} {D : DB} {W : LB} {U : QB} {T : TB} {N : Nat} {t c v : Nat} (ht : t < 4) (h : CI f l D W U T N) : CI (uf f (79 + 2 * t) c v) l D W U (T.1, uf T.2 t c v) N := by
  obtain ⟨⟨v1, v2, v3, v4⟩, ⟨l1, l2, l3⟩, ⟨u1, u2, u3, u4, u5, u6⟩, ⟨t1, t2⟩, n5, sb⟩ := h
  refine ⟨⟨?_, fun a ha b => ?_, fun a ha b => ?_, fun a ha b => ?_⟩, ⟨?_, fun a ha b => ?_, fun a ha b => ?_⟩, ⟨?_, fun a ha => ?_, fun a ha b => ?_, fun a ha b => ?_, ?_, fun a ha b => ?_⟩, ⟨fun a ha => ?_, fun a ha b => ?_⟩, ?_, fun b => ⟨?_, ?_, ?_⟩⟩
  · first | (rw [uf_ne _ _ (by omega)]; exact v1) | exact v1
  · first | (rw [uf_ne _ _ (by omega)]; exact v2 a ha b) | exact v2 a ha b
  · first | (rw [uf_ne _ _ (by omega)]; exact v3 a ha b) | exact v3 a ha b
  · first | (rw [uf_ne _ _ (by omega)]; exact v4 a ha b) | exact v4 a ha b
  · first | (rw [uf_ne _ _ (by omega)]; exact l1) | exact l1
  · first | (rw [uf_ne _ _ (by omega)]; exact l2 a ha b) | exact l2 a ha b
  · first | (rw [uf_ne _ _ (by omega)]; exact l3 a ha b) | exact l3 a ha b
  · first | (rw [uf_ne _ _ (by omega)]; exact u1) | exact u1
  · first | (rw [uf_ne _ _ (by omega)]; exact u2 a ha) | exact u2 a ha
  · first | (rw [uf_ne _ _ (by omega)]; exact u3 a ha b) | exact u3 a ha b
  · first | (rw [uf_ne _ _ (by omega)]; exact u4 a ha b) | exact u4 a ha b
  · first | (rw [uf_ne _ _ (by omega)]; exact u5) | exact u5
  · first | (rw [uf_ne _ _ (by omega)]; exact u6 a ha b) | exact u6 a ha b
  · first | (rw [uf_ne _ _ (by omega)]; exact t1 a ha) | exact t1 a ha
  · first | exact uf_self _ _ _ _ | (simp only [uf]; first | done | (split <;> split <;> first | rfl | (exfalso; omega) | exact t2 a ha b) | (split <;> first | rfl | (exfalso; omega) | exact t2 a ha b))
  · first | (rw [uf_ne _ _ (by omega)]; exact n5) | exact n5
  · first | (rw [uf_ne _ _ (by omega)]; exact (sb b).1) | exact (sb b).1
  · first | (rw [uf_ne _ _ (by omega)]; exact (sb b).2.1) | exact (sb b).2.1
  · first | (rw [uf_ne _ _ (by omega)]; exact (sb b).2.2) | exact (sb b).2.2

theorem CI.fra {f g : Nat → Nat → Nat} {l : Nat → Nat → Int64} {D : DB} {W : LB} {U : QB} {T : TB} {N : Nat} (h : CI f l D W U T N) (e : Fra f g) : CI g l D W U T N := by
  obtain ⟨hV, hL, hU, ⟨t1, t2⟩, n5, sb⟩ := h
  refine ⟨e.RV hV, e.LV hL, e.UV hU, ⟨fun t ht => (e.1 _ _ ?_).trans (t1 t ht), fun t ht c => (e.1 _ _ ?_).trans (t2 t ht c)⟩, (e.1 0 5 rfl).trans n5, e.2 sb⟩
  · simp [scr]; omega
  · simp [scr]; omega
/-- what is the model's stays -/
def MF (f : Nat → Nat → Nat) (l : Nat → Nat → Int64) (g : Nat → Nat → Nat) (h : Nat → Nat → Int64) : Prop := ∀ k, 86 ≤ k → (∀ j, g k j = f k j) ∧ ∀ j, h k j = l k j
theorem MF.rf (f : Nat → Nat → Nat) (l : Nat → Nat → Int64) : MF f l f l := fun _ _ => ⟨fun _ => rfl, fun _ => rfl⟩
theorem MF.tr {f g g2 : Nat → Nat → Nat} {l h h2 : Nat → Nat → Int64} (a : MF f l g h) (b : MF g h g2 h2) : MF f l g2 h2 := fun k hk => ⟨fun j => ((b k hk).1 j).trans ((a k hk).1 j), fun j => ((b k hk).2 j).trans ((a k hk).2 j)⟩
theorem MF.f {f g : Nat → Nat → Nat} {l h : Nat → Nat → Int64} (a : MF f l g h) {k j v : Nat} (hk : k < 86) : MF f l (uf g k j v) h := fun q hq => ⟨fun i => (uf_ne g v (Or.inl (by omega))).trans ((a q hq).1 i), (a q hq).2⟩
theorem MF.l {f g : Nat → Nat → Nat} {l h : Nat → Nat → Int64} (a : MF f l g h) {k j : Nat} {v : Int64} (hk : k < 86) : MF f l g (uf h k j v) := fun q hq => ⟨(a q hq).1, fun i => (uf_ne h v (Or.inl (by omega))).trans ((a q hq).2 i)⟩
theorem MF.fra {f g : Nat → Nat → Nat} {l : Nat → Nat → Int64} (e : Fra f g) : MF f l g l := fun k hk => ⟨fun j => e.1 k j (by simp [scr]; omega), fun _ => rfl⟩
/-- what is the class's stays -/
def CF (f : Nat → Nat → Nat) (l : Nat → Nat → Int64) (g : Nat → Nat → Nat) (h : Nat → Nat → Int64) : Prop := ∀ k, k < 86 → (∀ j, g k j = f k j) ∧ ∀ j, h k j = l k j
theorem CF.rf (f : Nat → Nat → Nat) (l : Nat → Nat → Int64) : CF f l f l := fun _ _ => ⟨fun _ => rfl, fun _ => rfl⟩
theorem CF.tr {f g g2 : Nat → Nat → Nat} {l h h2 : Nat → Nat → Int64} (a : CF f l g h) (b : CF g h g2 h2) : CF f l g2 h2 := fun k hk => ⟨fun j => ((b k hk).1 j).trans ((a k hk).1 j), fun j => ((b k hk).2 j).trans ((a k hk).2 j)⟩
theorem CF.f {f g : Nat → Nat → Nat} {l h : Nat → Nat → Int64} (a : CF f l g h) {k j v : Nat} (hk : 86 ≤ k) : CF f l (uf g k j v) h := fun q hq => ⟨fun i => (uf_ne g v (Or.inl (by omega))).trans ((a q hq).1 i), (a q hq).2⟩
theorem CF.l {f g : Nat → Nat → Nat} {l h : Nat → Nat → Int64} (a : CF f l g h) {k j : Nat} {v : Int64} (hk : 86 ≤ k) : CF f l g (uf h k j v) := fun q hq => ⟨(a q hq).1, fun i => (uf_ne h v (Or.inl (by omega))).trans ((a q hq).2 i)⟩
theorem CI.cf {f g : Nat → Nat → Nat} {l h : Nat → Nat → Int64} {D : DB} {W : LB} {U : QB} {T : TB} {N : Nat} (hC : CI f l D W U T N) (e : CF f l g h) : CI g h D W U T N := by
  obtain ⟨⟨v1, v2, v3, v4⟩, ⟨l1, l2, l3⟩, ⟨u1, u2, u3, u4, u5, u6⟩, ⟨t1, t2⟩, n5, sb⟩ := hC
  refine ⟨⟨((e _ (by omega)).1 _).trans v1, fun a ha b => ((e _ (by omega)).1 _).trans (v2 a ha b), fun a ha b => ((e _ (by omega)).1 _).trans (v3 a ha b), fun a ha b => ((e _ (by omega)).2 _).trans (v4 a ha b)⟩, ⟨((e _ (by omega)).1 _).trans l1, fun a ha b => ((e _ (by omega)).1 _).trans (l2 a ha b), fun a ha b => ((e _ (by omega)).2 _).trans (l3 a ha b)⟩, ⟨((e _ (by omega)).1 _).trans u1, fun a ha => ((e _ (by omega)).1 _).trans (u2 a ha), fun a ha b => ((e _ (by omega)).1 _).trans (u3 a ha b), fun a ha b => ((e _ (by omega)).2 _).trans (u4 a ha b), ((e _ (by omega)).1 _).trans u5, fun a ha b => ((e _ (by omega)).1 _).trans (u6 a ha b)⟩, ⟨fun a ha => ((e _ (by omega)).1 _).trans (t1 a ha), fun a ha b => ((e _ (by omega)).1 _).trans (t2 a ha b)⟩, ((e _ (by omega)).1 _).trans n5, fun b => ⟨?_, ?_, ?_⟩⟩
  · rw [(e 55 (by omega)).1 b]; exact (sb b).1
  · rw [(e 56 (by omega)).1 b]; exact (sb b).2.1
  · rw [(e 62 (by omega)).1 b]; exact (sb b).2.2

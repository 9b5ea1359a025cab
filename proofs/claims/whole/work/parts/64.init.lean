-- the constructors: by program (wip/whole/gen64.py)
def z0 : Nat → Nat → Nat := fun _ _ => 0
def z0l : Nat → Nat → Int64 := fun _ _ => 0
def r0 : Nat → Nat → Option Nat := fun _ _ => none
theorem szs_le {a b : Nat} (h : a ≤ b) : szs a ≤ szs b := by
  induction b with
  | zero => rw [show a = 0 by omega]; exact Nat.le_refl _
  | succ b ih =>
    by_cases e : a = b + 1
    · rw [e]; exact Nat.le_refl _
    · rw [szs_s]; have := ih (by omega); omega
theorem roo_mk {G : GG} {mi : MI} {n0 n1 n : Nat} {r : Option Value} {σ1 : SS} (h : n + 1 ≤ n1) : Roo (KM G mi n0 n1 r σ1) n := ⟨Nat.sub_le_sub_right h _, Nat.sub_le_sub_right (szs_le h) _⟩
theorem fit_mk {G : GG} {mi mi' : MI} {n0 n1 n : Nat} {r : Option Value} {σ1 : SS} (h1 : mi.2.2.2.2 + 1 ≤ mi'.2.2.2.2) (h : n ≤ n1) : Fits (KM G mi' n0 n1 r σ1) mi n := by
  refine ⟨h1, ?_, Nat.sub_le_sub_right h _, Nat.sub_le_sub_right (szs_le h) _⟩
  show 8 + (20 + 11) + 40 * mi.2.2.2.2 ≤ 40 * mi'.2.2.2.2
  omega
theorem obj_mk {G : GG} {mi : MI} {n0 n1 : Nat} {r : Option Value} {σ1 : SS} (h : 1 ≤ mi.2.2.2.2) : 1 ≤ (KM G mi n0 n1 r σ1).1.frames ∧ 20 ≤ (KM G mi n0 n1 r σ1).1.locals := by
  refine ⟨h, ?_⟩
  show 20 ≤ 40 * mi.2.2.2.2
  omega
set_option maxRecDepth 20000 in
theorem i_X0 {G : GG} {b : Nat} (hl0 : lay b = (0, 4)) {r : Nat → Nat → Option Nat} : Spec G mX0_init [.ref (ad G b)] (b + 1) (z0, z0l, r) none (b + 1) (z0, z0l, r) := by
  refine Spec.of ok_X0_init.1 ⟨by omega, szs_le (by omega)⟩ (Nat.le_of_ble_eq_true rfl) ?_
  show P G RX0 cX0_init 1 (KM G mX0_init (b + 1) (b + 1) none (z0, z0l, r)) 0 [some (.ref (ad G b))] [] (b + 1) (z0, z0l, r)
  refine P.aload_n dX0_init_0 rfl rfl ?_
  refine P.objInit ml_X0_1 (obj_mk (by decide)) (Nat.le_of_ble_eq_true rfl) dX0_init_1 ?_
  show P G _ _ _ _ 4 [some (.ref (ad G b))] [] (b + 1) (z0, z0l, r)
  exact P.vret rfl dX0_init_4 rfl
set_option maxRecDepth 20000 in
theorem i_X1 {G : GG} {b : Nat} (hl0 : lay b = (1, 8)) {r : Nat → Nat → Option Nat} : Spec G mX1_init [.ref (ad G b)] (b + 1) (z0, z0l, r) none (b + 1) (z0, z0l, r) := by
  refine Spec.of ok_X1_init.1 ⟨by omega, szs_le (by omega)⟩ (Nat.le_of_ble_eq_true rfl) ?_
  show P G RX1 cX1_init 1 (KM G mX1_init (b + 1) (b + 1) none (z0, z0l, r)) 0 [some (.ref (ad G b))] [] (b + 1) (z0, z0l, r)
  refine P.aload_n dX1_init_0 rfl rfl ?_
  refine P.objInit ml_X1_1 (obj_mk (by decide)) (Nat.le_of_ble_eq_true rfl) dX1_init_1 ?_
  show P G _ _ _ _ 4 [some (.ref (ad G b))] [] (b + 1) (z0, z0l, r)
  exact P.vret rfl dX1_init_4 rfl
set_option maxRecDepth 20000 in
theorem i_X4 {G : GG} {b : Nat} (hl0 : lay b = (4, 3)) (hl1 : lay (b + 1) = (13, 6)) (hl2 : lay (b + 2) = (12, 6)) {r : Nat → Nat → Option Nat} : Spec G mX4_init [.ref (ad G b)] (b + 1) (z0, z0l, r) none (b + 3) (z0, z0l, uf (uf (r) b 0 (some (b + 1))) b 1 (some (b + 2))) := by
  refine Spec.of ok_X4_init.1 ⟨by omega, szs_le (by omega)⟩ (Nat.le_of_ble_eq_true rfl) ?_
  show P G RX4 cX4_init 1 (KM G mX4_init (b + 1) (b + 3) none (z0, z0l, uf (uf (r) b 0 (some (b + 1))) b 1 (some (b + 2)))) 0 [some (.ref (ad G b))] [] (b + 1) (z0, z0l, r)
  refine P.aload_n dX4_init_0 rfl rfl ?_
  refine P.objInit ml_X4_3 (obj_mk (by decide)) (Nat.le_of_ble_eq_true rfl) dX4_init_1 ?_
  show P G _ _ _ _ 4 [some (.ref (ad G b))] [] (b + 1) (z0, z0l, r)
  refine P.aload_n dX4_init_4 rfl rfl ?_
  refine P.bipush (v := nI 6) dX4_init_5 rfl ?_
  refine P.newZ (N := 6) hl1 (Nat.le_of_ble_eq_true rfl) (fun _ => rfl) (roo_mk (by omega)) dX4_init_7 ?_
  refine P.putr (ci := 4) (N := 3) (j := 0) (T := TX4) (q := (b + 1)) tyX4 tyX4_ok nmX4 rfl inX4 hl0 (by decide) (by omega) (by decide) rfl (fun _ _ _ h => h.2) rfl (tyX4_ok 0 (by decide)) rfl (fun _ => ⟨rfl, rfl⟩) fl_X4_9 dX4_init_9 ?_
  show P G _ _ _ _ 12 [some (.ref (ad G b))] [] (b + 2) (z0, z0l, uf (r) b 0 (some (b + 1)))
  refine P.aload_n dX4_init_12 rfl rfl ?_
  refine P.bipush (v := nI 6) dX4_init_13 rfl ?_
  refine P.newL (N := 6) hl2 (Nat.le_of_ble_eq_true rfl) (fun _ => rfl) (roo_mk (by omega)) dX4_init_15 ?_
  refine P.putr (ci := 4) (N := 3) (j := 1) (T := TX4) (q := (b + 2)) tyX4 tyX4_ok nmX4 rfl inX4 hl0 (by decide) (by omega) (by decide) rfl (fun _ _ _ h => h.2) rfl (tyX4_ok 1 (by decide)) rfl (fun _ => ⟨rfl, rfl⟩) fl_X4_15 dX4_init_17 ?_
  show P G _ _ _ _ 20 [some (.ref (ad G b))] [] (b + 3) (z0, z0l, uf (uf (r) b 0 (some (b + 1))) b 1 (some (b + 2)))
  exact P.vret rfl dX4_init_20 rfl
set_option maxRecDepth 20000 in
theorem i_X6 {G : GG} {b : Nat} (hl0 : lay b = (6, 5)) (hl1 : lay (b + 1) = (12, 6)) (hl2 : lay (b + 2) = (13, 6)) {r : Nat → Nat → Option Nat} : Spec G mX6_init [.ref (ad G b)] (b + 1) (z0, z0l, r) none (b + 3) (z0, z0l, uf (uf (r) b 0 (some (b + 1))) b 1 (some (b + 2))) := by
  refine Spec.of ok_X6_init.1 ⟨by omega, szs_le (by omega)⟩ (Nat.le_of_ble_eq_true rfl) ?_
  show P G RX6 cX6_init 1 (KM G mX6_init (b + 1) (b + 3) none (z0, z0l, uf (uf (r) b 0 (some (b + 1))) b 1 (some (b + 2)))) 0 [some (.ref (ad G b))] [] (b + 1) (z0, z0l, r)
  refine P.aload_n dX6_init_0 rfl rfl ?_
  refine P.objInit ml_X6_3 (obj_mk (by decide)) (Nat.le_of_ble_eq_true rfl) dX6_init_1 ?_
  show P G _ _ _ _ 4 [some (.ref (ad G b))] [] (b + 1) (z0, z0l, r)
  refine P.aload_n dX6_init_4 rfl rfl ?_
  refine P.bipush (v := nI 6) dX6_init_5 rfl ?_
  refine P.newL (N := 6) hl1 (Nat.le_of_ble_eq_true rfl) (fun _ => rfl) (roo_mk (by omega)) dX6_init_7 ?_
  refine P.putr (ci := 6) (N := 5) (j := 0) (T := TX6) (q := (b + 1)) tyX6 tyX6_ok nmX6 rfl inX6 hl0 (by decide) (by omega) (by decide) rfl (fun _ _ _ h => h.2) rfl (tyX6_ok 0 (by decide)) rfl (fun _ => ⟨rfl, rfl⟩) fl_X6_9 dX6_init_9 ?_
  show P G _ _ _ _ 12 [some (.ref (ad G b))] [] (b + 2) (z0, z0l, uf (r) b 0 (some (b + 1)))
  refine P.aload_n dX6_init_12 rfl rfl ?_
  refine P.bipush (v := nI 6) dX6_init_13 rfl ?_
  refine P.newZ (N := 6) hl2 (Nat.le_of_ble_eq_true rfl) (fun _ => rfl) (roo_mk (by omega)) dX6_init_15 ?_
  refine P.putr (ci := 6) (N := 5) (j := 1) (T := TX6) (q := (b + 2)) tyX6 tyX6_ok nmX6 rfl inX6 hl0 (by decide) (by omega) (by decide) rfl (fun _ _ _ h => h.2) rfl (tyX6_ok 1 (by decide)) rfl (fun _ => ⟨rfl, rfl⟩) fl_X6_15 dX6_init_17 ?_
  show P G _ _ _ _ 20 [some (.ref (ad G b))] [] (b + 3) (z0, z0l, uf (uf (r) b 0 (some (b + 1))) b 1 (some (b + 2)))
  exact P.vret rfl dX6_init_20 rfl
set_option maxRecDepth 20000 in
theorem i_X8 {G : GG} {b : Nat} (hl0 : lay b = (8, 2)) (hl1 : lay (b + 1) = (11, 6)) {r : Nat → Nat → Option Nat} : Spec G mX8_init [.ref (ad G b)] (b + 1) (z0, z0l, r) none (b + 2) (z0, z0l, uf (r) b 0 (some (b + 1))) := by
  refine Spec.of ok_X8_init.1 ⟨by omega, szs_le (by omega)⟩ (Nat.le_of_ble_eq_true rfl) ?_
  show P G RX8 cX8_init 1 (KM G mX8_init (b + 1) (b + 2) none (z0, z0l, uf (r) b 0 (some (b + 1)))) 0 [some (.ref (ad G b))] [] (b + 1) (z0, z0l, r)
  refine P.aload_n dX8_init_0 rfl rfl ?_
  refine P.objInit ml_X8_3 (obj_mk (by decide)) (Nat.le_of_ble_eq_true rfl) dX8_init_1 ?_
  show P G _ _ _ _ 4 [some (.ref (ad G b))] [] (b + 1) (z0, z0l, r)
  refine P.aload_n dX8_init_4 rfl rfl ?_
  refine P.bipush (v := nI 6) dX8_init_5 rfl ?_
  refine P.newI (N := 6) hl1 (Nat.le_of_ble_eq_true rfl) (fun _ => rfl) (roo_mk (by omega)) dX8_init_7 ?_
  refine P.putr (ci := 8) (N := 2) (j := 0) (T := TX8) (q := (b + 1)) tyX8 tyX8_ok nmX8 rfl inX8 hl0 (by decide) (by omega) (by decide) rfl (fun _ _ _ h => h.2) rfl (tyX8_ok 0 (by decide)) rfl (fun _ => ⟨rfl, rfl⟩) fl_X8_9 dX8_init_9 ?_
  show P G _ _ _ _ 12 [some (.ref (ad G b))] [] (b + 2) (z0, z0l, uf (r) b 0 (some (b + 1)))
  exact P.vret rfl dX8_init_12 rfl
def rX7 : Nat → Nat → Option Nat := uf (uf (uf (uf (uf (uf (uf (uf (uf (uf (uf (uf (uf (uf (uf (uf (uf (uf (uf (uf (uf (uf (uf (uf (uf (uf (uf (uf (uf (uf (uf (uf (uf (uf (uf (uf (uf ((uf r0 0 0 (some 1))) 2 0 (some 3)) 4 0 (some 5)) 4 1 (some 6)) 3 0 (some 4)) 7 0 (some 8)) 7 1 (some 9)) 3 1 (some 7)) 10 0 (some 11)) 10 1 (some 12)) 3 2 (some 10)) 13 0 (some 14)) 13 1 (some 15)) 3 3 (some 13)) 16 0 (some 17)) 16 1 (some 18)) 3 4 (some 16)) 19 0 (some 20)) 19 1 (some 21)) 3 5 (some 19)) 22 0 (some 23)) 22 1 (some 24)) 3 6 (some 22)) 25 0 (some 26)) 25 1 (some 27)) 3 7 (some 25)) 28 0 (some 29)) 28 1 (some 30)) 3 8 (some 28)) 31 0 (some 32)) 31 1 (some 33)) 3 9 (some 31)) 34 0 (some 35)) 34 1 (some 36)) 3 10 (some 34)) 37 0 (some 38)) 37 1 (some 39)) 3 11 (some 37)
set_option maxRecDepth 20000 in
theorem i_X7 {G : GG} : Spec G mX7_init [.ref (ad G 2)] 3 (z0, z0l, (uf r0 0 0 (some 1))) none 40 (z0, z0l, rX7) := by
  refine Spec.of ok_X7_init.1 ⟨by omega, szs_le (by omega)⟩ (Nat.le_of_ble_eq_true rfl) ?_
  show P G RX7 cX7_init 2 (KM G mX7_init 3 40 none (z0, z0l, rX7)) 0 [some (.ref (ad G 2)), none] [] 3 (z0, z0l, (uf r0 0 0 (some 1)))
  refine P.aload_n dX7_init_0 rfl rfl ?_
  refine P.objInit ml_X7_3 (obj_mk (by decide)) (Nat.le_of_ble_eq_true rfl) dX7_init_1 ?_
  show P G _ _ _ _ 4 [some (.ref (ad G 2)), none] [] 3 (z0, z0l, (uf r0 0 0 (some 1)))
  refine P.aload_n dX7_init_4 rfl rfl ?_
  refine P.bipush (v := nI 12) dX7_init_5 rfl ?_
  refine P.newR (N := 12) (kd := 26) (t0 := 6) (C := RX6) (by decide +kernel) (by decide) rfl (Nat.le_of_ble_eq_true rfl) (fun _ => rfl) (by simp [overs]) cl_X7_9 (roo_mk (by decide)) dX7_init_7 ?_
  refine P.putr (ci := 7) (N := 2) (j := 0) (T := TX7) (q := 3) tyX7 tyX7_ok nmX7 rfl inX7 (by decide +kernel) (by decide) (by decide) (by decide) rfl (fun _ _ _ h => h.2) rfl (tyX7_ok 0 (by decide)) rfl (fun _ => ⟨rfl, rfl⟩) fl_X7_11 dX7_init_10 ?_
  show P G _ _ _ _ 13 [some (.ref (ad G 2)), none] [] 4 (z0, z0l, uf ((uf r0 0 0 (some 1))) 2 0 (some 3))
  refine P.iconst dX7_init_13 ic_0 ?_
  refine P.istore_n dX7_init_14 rfl (by decide) ?_
  refine P.iload_n dX7_init_15 rfl rfl ?_
  refine P.bipush (v := nI 12) dX7_init_16 rfl ?_
  refine P.icmp_ge_n (tgt := 40) dX7_init_18 (by decide) (by decide) (by decide) (fun hc => absurd hc (by decide)) (fun hc => ?_)
  refine P.aload_n dX7_init_21 rfl rfl ?_
  refine P.getr (ci := 7) (N := 2) (j := 0) (T := TX7) (q := 3) rfl inX7 (by decide +kernel) (by decide) (by decide) (by decide) rfl rfl fl_X7_11 dX7_init_22 ?_
  refine P.iload_n dX7_init_25 rfl rfl ?_
  refine P.new (ci := 6) (N := 5) (T := TX6) tyX6 tyX6_ok rfl inX6 (by decide +kernel) (by decide) (fun j hj => ?_) cl_X7_9 in_X6 ini_X6 (roo_mk (by decide)) dX7_init_26 ?_
  · rcases (show j = 0 ∨ j = 1 ∨ j = 2 ∨ j = 3 ∨ j = 4 by omega) with rfl | rfl | rfl | rfl | rfl <;> rfl
  refine P.dup dX7_init_29 rfl ?_
  refine P.callIN (As := []) (rest := [.ref (ad G 4), .int (nI 0), .ref (ad G 3)]) (i_X6 (b := 4) (by decide +kernel) (by decide +kernel) (by decide +kernel)) ok_X6_init (fit_mk (by decide) (by decide)) rfl mn_X7_17 rfl (Nat.le_of_ble_eq_true rfl) dX7_init_30 ?_
  show P G _ _ _ _ 33 [some (.ref (ad G 2)), some (.int (nI 0))] [.ref (ad G 4), .int (nI 0), .ref (ad G 3)] 7 (z0, z0l, uf (uf (uf ((uf r0 0 0 (some 1))) 2 0 (some 3)) 4 0 (some 5)) 4 1 (some 6))
  refine P.astr (N := 12) (kd := 26) (t0 := 6) (C := RX6) (T := TX6) (ci := 6) (M := 5) (by decide +kernel) (by decide) rfl (by decide) (by decide) (by decide) (by decide) (by decide +kernel) (by decide) rfl dX7_init_33 ?_
  show P G _ _ _ _ 34 [some (.ref (ad G 2)), some (.int (nI 0))] [] 7 (z0, z0l, uf (uf (uf (uf ((uf r0 0 0 (some 1))) 2 0 (some 3)) 4 0 (some 5)) 4 1 (some 6)) 3 0 (some 4))
  refine P.iinc (v := nI 1) dX7_init_34 rfl (inc1 _) (by decide) ?_
  refine P.goto (tgt := 15) dX7_init_37 (by decide) ?_
  show P G _ _ _ _ 15 [some (.ref (ad G 2)), some (.int (nI 1))] [] 7 (z0, z0l, uf (uf (uf (uf ((uf r0 0 0 (some 1))) 2 0 (some 3)) 4 0 (some 5)) 4 1 (some 6)) 3 0 (some 4))
  refine P.iload_n dX7_init_15 rfl rfl ?_
  refine P.bipush (v := nI 12) dX7_init_16 rfl ?_
  refine P.icmp_ge_n (tgt := 40) dX7_init_18 (by decide) (by decide) (by decide) (fun hc => absurd hc (by decide)) (fun hc => ?_)
  refine P.aload_n dX7_init_21 rfl rfl ?_
  refine P.getr (ci := 7) (N := 2) (j := 0) (T := TX7) (q := 3) rfl inX7 (by decide +kernel) (by decide) (by decide) (by decide) rfl rfl fl_X7_11 dX7_init_22 ?_
  refine P.iload_n dX7_init_25 rfl rfl ?_
  refine P.new (ci := 6) (N := 5) (T := TX6) tyX6 tyX6_ok rfl inX6 (by decide +kernel) (by decide) (fun j hj => ?_) cl_X7_9 in_X6 ini_X6 (roo_mk (by decide)) dX7_init_26 ?_
  · rcases (show j = 0 ∨ j = 1 ∨ j = 2 ∨ j = 3 ∨ j = 4 by omega) with rfl | rfl | rfl | rfl | rfl <;> rfl
  refine P.dup dX7_init_29 rfl ?_
  refine P.callIN (As := []) (rest := [.ref (ad G 7), .int (nI 1), .ref (ad G 3)]) (i_X6 (b := 7) (by decide +kernel) (by decide +kernel) (by decide +kernel)) ok_X6_init (fit_mk (by decide) (by decide)) rfl mn_X7_17 rfl (Nat.le_of_ble_eq_true rfl) dX7_init_30 ?_
  show P G _ _ _ _ 33 [some (.ref (ad G 2)), some (.int (nI 1))] [.ref (ad G 7), .int (nI 1), .ref (ad G 3)] 10 (z0, z0l, uf (uf (uf (uf (uf (uf ((uf r0 0 0 (some 1))) 2 0 (some 3)) 4 0 (some 5)) 4 1 (some 6)) 3 0 (some 4)) 7 0 (some 8)) 7 1 (some 9))
  refine P.astr (N := 12) (kd := 26) (t0 := 6) (C := RX6) (T := TX6) (ci := 6) (M := 5) (by decide +kernel) (by decide) rfl (by decide) (by decide) (by decide) (by decide) (by decide +kernel) (by decide) rfl dX7_init_33 ?_
  show P G _ _ _ _ 34 [some (.ref (ad G 2)), some (.int (nI 1))] [] 10 (z0, z0l, uf (uf (uf (uf (uf (uf (uf ((uf r0 0 0 (some 1))) 2 0 (some 3)) 4 0 (some 5)) 4 1 (some 6)) 3 0 (some 4)) 7 0 (some 8)) 7 1 (some 9)) 3 1 (some 7))
  refine P.iinc (v := nI 2) dX7_init_34 rfl (inc1 _) (by decide) ?_
  refine P.goto (tgt := 15) dX7_init_37 (by decide) ?_
  show P G _ _ _ _ 15 [some (.ref (ad G 2)), some (.int (nI 2))] [] 10 (z0, z0l, uf (uf (uf (uf (uf (uf (uf ((uf r0 0 0 (some 1))) 2 0 (some 3)) 4 0 (some 5)) 4 1 (some 6)) 3 0 (some 4)) 7 0 (some 8)) 7 1 (some 9)) 3 1 (some 7))
  refine P.iload_n dX7_init_15 rfl rfl ?_
  refine P.bipush (v := nI 12) dX7_init_16 rfl ?_
  refine P.icmp_ge_n (tgt := 40) dX7_init_18 (by decide) (by decide) (by decide) (fun hc => absurd hc (by decide)) (fun hc => ?_)
  refine P.aload_n dX7_init_21 rfl rfl ?_
  refine P.getr (ci := 7) (N := 2) (j := 0) (T := TX7) (q := 3) rfl inX7 (by decide +kernel) (by decide) (by decide) (by decide) rfl rfl fl_X7_11 dX7_init_22 ?_
  refine P.iload_n dX7_init_25 rfl rfl ?_
  refine P.new (ci := 6) (N := 5) (T := TX6) tyX6 tyX6_ok rfl inX6 (by decide +kernel) (by decide) (fun j hj => ?_) cl_X7_9 in_X6 ini_X6 (roo_mk (by decide)) dX7_init_26 ?_
  · rcases (show j = 0 ∨ j = 1 ∨ j = 2 ∨ j = 3 ∨ j = 4 by omega) with rfl | rfl | rfl | rfl | rfl <;> rfl
  refine P.dup dX7_init_29 rfl ?_
  refine P.callIN (As := []) (rest := [.ref (ad G 10), .int (nI 2), .ref (ad G 3)]) (i_X6 (b := 10) (by decide +kernel) (by decide +kernel) (by decide +kernel)) ok_X6_init (fit_mk (by decide) (by decide)) rfl mn_X7_17 rfl (Nat.le_of_ble_eq_true rfl) dX7_init_30 ?_
  show P G _ _ _ _ 33 [some (.ref (ad G 2)), some (.int (nI 2))] [.ref (ad G 10), .int (nI 2), .ref (ad G 3)] 13 (z0, z0l, uf (uf (uf (uf (uf (uf (uf (uf (uf ((uf r0 0 0 (some 1))) 2 0 (some 3)) 4 0 (some 5)) 4 1 (some 6)) 3 0 (some 4)) 7 0 (some 8)) 7 1 (some 9)) 3 1 (some 7)) 10 0 (some 11)) 10 1 (some 12))
  refine P.astr (N := 12) (kd := 26) (t0 := 6) (C := RX6) (T := TX6) (ci := 6) (M := 5) (by decide +kernel) (by decide) rfl (by decide) (by decide) (by decide) (by decide) (by decide +kernel) (by decide) rfl dX7_init_33 ?_
  show P G _ _ _ _ 34 [some (.ref (ad G 2)), some (.int (nI 2))] [] 13 (z0, z0l, uf (uf (uf (uf (uf (uf (uf (uf (uf (uf ((uf r0 0 0 (some 1))) 2 0 (some 3)) 4 0 (some 5)) 4 1 (some 6)) 3 0 (some 4)) 7 0 (some 8)) 7 1 (some 9)) 3 1 (some 7)) 10 0 (some 11)) 10 1 (some 12)) 3 2 (some 10))
  refine P.iinc (v := nI 3) dX7_init_34 rfl (inc1 _) (by decide) ?_
  refine P.goto (tgt := 15) dX7_init_37 (by decide) ?_
  show P G _ _ _ _ 15 [some (.ref (ad G 2)), some (.int (nI 3))] [] 13 (z0, z0l, uf (uf (uf (uf (uf (uf (uf (uf (uf (uf ((uf r0 0 0 (some 1))) 2 0 (some 3)) 4 0 (some 5)) 4 1 (some 6)) 3 0 (some 4)) 7 0 (some 8)) 7 1 (some 9)) 3 1 (some 7)) 10 0 (some 11)) 10 1 (some 12)) 3 2 (some 10))
  refine P.iload_n dX7_init_15 rfl rfl ?_
  refine P.bipush (v := nI 12) dX7_init_16 rfl ?_
  refine P.icmp_ge_n (tgt := 40) dX7_init_18 (by decide) (by decide) (by decide) (fun hc => absurd hc (by decide)) (fun hc => ?_)
  refine P.aload_n dX7_init_21 rfl rfl ?_
  refine P.getr (ci := 7) (N := 2) (j := 0) (T := TX7) (q := 3) rfl inX7 (by decide +kernel) (by decide) (by decide) (by decide) rfl rfl fl_X7_11 dX7_init_22 ?_
  refine P.iload_n dX7_init_25 rfl rfl ?_
  refine P.new (ci := 6) (N := 5) (T := TX6) tyX6 tyX6_ok rfl inX6 (by decide +kernel) (by decide) (fun j hj => ?_) cl_X7_9 in_X6 ini_X6 (roo_mk (by decide)) dX7_init_26 ?_
  · rcases (show j = 0 ∨ j = 1 ∨ j = 2 ∨ j = 3 ∨ j = 4 by omega) with rfl | rfl | rfl | rfl | rfl <;> rfl
  refine P.dup dX7_init_29 rfl ?_
  refine P.callIN (As := []) (rest := [.ref (ad G 13), .int (nI 3), .ref (ad G 3)]) (i_X6 (b := 13) (by decide +kernel) (by decide +kernel) (by decide +kernel)) ok_X6_init (fit_mk (by decide) (by decide)) rfl mn_X7_17 rfl (Nat.le_of_ble_eq_true rfl) dX7_init_30 ?_
  show P G _ _ _ _ 33 [some (.ref (ad G 2)), some (.int (nI 3))] [.ref (ad G 13), .int (nI 3), .ref (ad G 3)] 16 (z0, z0l, uf (uf (uf (uf (uf (uf (uf (uf (uf (uf (uf (uf ((uf r0 0 0 (some 1))) 2 0 (some 3)) 4 0 (some 5)) 4 1 (some 6)) 3 0 (some 4)) 7 0 (some 8)) 7 1 (some 9)) 3 1 (some 7)) 10 0 (some 11)) 10 1 (some 12)) 3 2 (some 10)) 13 0 (some 14)) 13 1 (some 15))
  refine P.astr (N := 12) (kd := 26) (t0 := 6) (C := RX6) (T := TX6) (ci := 6) (M := 5) (by decide +kernel) (by decide) rfl (by decide) (by decide) (by decide) (by decide) (by decide +kernel) (by decide) rfl dX7_init_33 ?_
  show P G _ _ _ _ 34 [some (.ref (ad G 2)), some (.int (nI 3))] [] 16 (z0, z0l, uf (uf (uf (uf (uf (uf (uf (uf (uf (uf (uf (uf (uf ((uf r0 0 0 (some 1))) 2 0 (some 3)) 4 0 (some 5)) 4 1 (some 6)) 3 0 (some 4)) 7 0 (some 8)) 7 1 (some 9)) 3 1 (some 7)) 10 0 (some 11)) 10 1 (some 12)) 3 2 (some 10)) 13 0 (some 14)) 13 1 (some 15)) 3 3 (some 13))
  refine P.iinc (v := nI 4) dX7_init_34 rfl (inc1 _) (by decide) ?_
  refine P.goto (tgt := 15) dX7_init_37 (by decide) ?_
  show P G _ _ _ _ 15 [some (.ref (ad G 2)), some (.int (nI 4))] [] 16 (z0, z0l, uf (uf (uf (uf (uf (uf (uf (uf (uf (uf (uf (uf (uf ((uf r0 0 0 (some 1))) 2 0 (some 3)) 4 0 (some 5)) 4 1 (some 6)) 3 0 (some 4)) 7 0 (some 8)) 7 1 (some 9)) 3 1 (some 7)) 10 0 (some 11)) 10 1 (some 12)) 3 2 (some 10)) 13 0 (some 14)) 13 1 (some 15)) 3 3 (some 13))
  refine P.iload_n dX7_init_15 rfl rfl ?_
  refine P.bipush (v := nI 12) dX7_init_16 rfl ?_
  refine P.icmp_ge_n (tgt := 40) dX7_init_18 (by decide) (by decide) (by decide) (fun hc => absurd hc (by decide)) (fun hc => ?_)
  refine P.aload_n dX7_init_21 rfl rfl ?_
  refine P.getr (ci := 7) (N := 2) (j := 0) (T := TX7) (q := 3) rfl inX7 (by decide +kernel) (by decide) (by decide) (by decide) rfl rfl fl_X7_11 dX7_init_22 ?_
  refine P.iload_n dX7_init_25 rfl rfl ?_
  refine P.new (ci := 6) (N := 5) (T := TX6) tyX6 tyX6_ok rfl inX6 (by decide +kernel) (by decide) (fun j hj => ?_) cl_X7_9 in_X6 ini_X6 (roo_mk (by decide)) dX7_init_26 ?_
  · rcases (show j = 0 ∨ j = 1 ∨ j = 2 ∨ j = 3 ∨ j = 4 by omega) with rfl | rfl | rfl | rfl | rfl <;> rfl
  refine P.dup dX7_init_29 rfl ?_
  refine P.callIN (As := []) (rest := [.ref (ad G 16), .int (nI 4), .ref (ad G 3)]) (i_X6 (b := 16) (by decide +kernel) (by decide +kernel) (by decide +kernel)) ok_X6_init (fit_mk (by decide) (by decide)) rfl mn_X7_17 rfl (Nat.le_of_ble_eq_true rfl) dX7_init_30 ?_
  show P G _ _ _ _ 33 [some (.ref (ad G 2)), some (.int (nI 4))] [.ref (ad G 16), .int (nI 4), .ref (ad G 3)] 19 (z0, z0l, uf (uf (uf (uf (uf (uf (uf (uf (uf (uf (uf (uf (uf (uf (uf ((uf r0 0 0 (some 1))) 2 0 (some 3)) 4 0 (some 5)) 4 1 (some 6)) 3 0 (some 4)) 7 0 (some 8)) 7 1 (some 9)) 3 1 (some 7)) 10 0 (some 11)) 10 1 (some 12)) 3 2 (some 10)) 13 0 (some 14)) 13 1 (some 15)) 3 3 (some 13)) 16 0 (some 17)) 16 1 (some 18))
  refine P.astr (N := 12) (kd := 26) (t0 := 6) (C := RX6) (T := TX6) (ci := 6) (M := 5) (by decide +kernel) (by decide) rfl (by decide) (by decide) (by decide) (by decide) (by decide +kernel) (by decide) rfl dX7_init_33 ?_
  show P G _ _ _ _ 34 [some (.ref (ad G 2)), some (.int (nI 4))] [] 19 (z0, z0l, uf (uf (uf (uf (uf (uf (uf (uf (uf (uf (uf (uf (uf (uf (uf (uf ((uf r0 0 0 (some 1))) 2 0 (some 3)) 4 0 (some 5)) 4 1 (some 6)) 3 0 (some 4)) 7 0 (some 8)) 7 1 (some 9)) 3 1 (some 7)) 10 0 (some 11)) 10 1 (some 12)) 3 2 (some 10)) 13 0 (some 14)) 13 1 (some 15)) 3 3 (some 13)) 16 0 (some 17)) 16 1 (some 18)) 3 4 (some 16))
  refine P.iinc (v := nI 5) dX7_init_34 rfl (inc1 _) (by decide) ?_
  refine P.goto (tgt := 15) dX7_init_37 (by decide) ?_
  show P G _ _ _ _ 15 [some (.ref (ad G 2)), some (.int (nI 5))] [] 19 (z0, z0l, uf (uf (uf (uf (uf (uf (uf (uf (uf (uf (uf (uf (uf (uf (uf (uf ((uf r0 0 0 (some 1))) 2 0 (some 3)) 4 0 (some 5)) 4 1 (some 6)) 3 0 (some 4)) 7 0 (some 8)) 7 1 (some 9)) 3 1 (some 7)) 10 0 (some 11)) 10 1 (some 12)) 3 2 (some 10)) 13 0 (some 14)) 13 1 (some 15)) 3 3 (some 13)) 16 0 (some 17)) 16 1 (some 18)) 3 4 (some 16))
  refine P.iload_n dX7_init_15 rfl rfl ?_
  refine P.bipush (v := nI 12) dX7_init_16 rfl ?_
  refine P.icmp_ge_n (tgt := 40) dX7_init_18 (by decide) (by decide) (by decide) (fun hc => absurd hc (by decide)) (fun hc => ?_)
  refine P.aload_n dX7_init_21 rfl rfl ?_
  refine P.getr (ci := 7) (N := 2) (j := 0) (T := TX7) (q := 3) rfl inX7 (by decide +kernel) (by decide) (by decide) (by decide) rfl rfl fl_X7_11 dX7_init_22 ?_
  refine P.iload_n dX7_init_25 rfl rfl ?_
  refine P.new (ci := 6) (N := 5) (T := TX6) tyX6 tyX6_ok rfl inX6 (by decide +kernel) (by decide) (fun j hj => ?_) cl_X7_9 in_X6 ini_X6 (roo_mk (by decide)) dX7_init_26 ?_
  · rcases (show j = 0 ∨ j = 1 ∨ j = 2 ∨ j = 3 ∨ j = 4 by omega) with rfl | rfl | rfl | rfl | rfl <;> rfl
  refine P.dup dX7_init_29 rfl ?_
  refine P.callIN (As := []) (rest := [.ref (ad G 19), .int (nI 5), .ref (ad G 3)]) (i_X6 (b := 19) (by decide +kernel) (by decide +kernel) (by decide +kernel)) ok_X6_init (fit_mk (by decide) (by decide)) rfl mn_X7_17 rfl (Nat.le_of_ble_eq_true rfl) dX7_init_30 ?_
  show P G _ _ _ _ 33 [some (.ref (ad G 2)), some (.int (nI 5))] [.ref (ad G 19), .int (nI 5), .ref (ad G 3)] 22 (z0, z0l, uf (uf (uf (uf (uf (uf (uf (uf (uf (uf (uf (uf (uf (uf (uf (uf (uf (uf ((uf r0 0 0 (some 1))) 2 0 (some 3)) 4 0 (some 5)) 4 1 (some 6)) 3 0 (some 4)) 7 0 (some 8)) 7 1 (some 9)) 3 1 (some 7)) 10 0 (some 11)) 10 1 (some 12)) 3 2 (some 10)) 13 0 (some 14)) 13 1 (some 15)) 3 3 (some 13)) 16 0 (some 17)) 16 1 (some 18)) 3 4 (some 16)) 19 0 (some 20)) 19 1 (some 21))
  refine P.astr (N := 12) (kd := 26) (t0 := 6) (C := RX6) (T := TX6) (ci := 6) (M := 5) (by decide +kernel) (by decide) rfl (by decide) (by decide) (by decide) (by decide) (by decide +kernel) (by decide) rfl dX7_init_33 ?_
  show P G _ _ _ _ 34 [some (.ref (ad G 2)), some (.int (nI 5))] [] 22 (z0, z0l, uf (uf (uf (uf (uf (uf (uf (uf (uf (uf (uf (uf (uf (uf (uf (uf (uf (uf (uf ((uf r0 0 0 (some 1))) 2 0 (some 3)) 4 0 (some 5)) 4 1 (some 6)) 3 0 (some 4)) 7 0 (some 8)) 7 1 (some 9)) 3 1 (some 7)) 10 0 (some 11)) 10 1 (some 12)) 3 2 (some 10)) 13 0 (some 14)) 13 1 (some 15)) 3 3 (some 13)) 16 0 (some 17)) 16 1 (some 18)) 3 4 (some 16)) 19 0 (some 20)) 19 1 (some 21)) 3 5 (some 19))
  refine P.iinc (v := nI 6) dX7_init_34 rfl (inc1 _) (by decide) ?_
  refine P.goto (tgt := 15) dX7_init_37 (by decide) ?_
  show P G _ _ _ _ 15 [some (.ref (ad G 2)), some (.int (nI 6))] [] 22 (z0, z0l, uf (uf (uf (uf (uf (uf (uf (uf (uf (uf (uf (uf (uf (uf (uf (uf (uf (uf (uf ((uf r0 0 0 (some 1))) 2 0 (some 3)) 4 0 (some 5)) 4 1 (some 6)) 3 0 (some 4)) 7 0 (some 8)) 7 1 (some 9)) 3 1 (some 7)) 10 0 (some 11)) 10 1 (some 12)) 3 2 (some 10)) 13 0 (some 14)) 13 1 (some 15)) 3 3 (some 13)) 16 0 (some 17)) 16 1 (some 18)) 3 4 (some 16)) 19 0 (some 20)) 19 1 (some 21)) 3 5 (some 19))
  refine P.iload_n dX7_init_15 rfl rfl ?_
  refine P.bipush (v := nI 12) dX7_init_16 rfl ?_
  refine P.icmp_ge_n (tgt := 40) dX7_init_18 (by decide) (by decide) (by decide) (fun hc => absurd hc (by decide)) (fun hc => ?_)
  refine P.aload_n dX7_init_21 rfl rfl ?_
  refine P.getr (ci := 7) (N := 2) (j := 0) (T := TX7) (q := 3) rfl inX7 (by decide +kernel) (by decide) (by decide) (by decide) rfl rfl fl_X7_11 dX7_init_22 ?_
  refine P.iload_n dX7_init_25 rfl rfl ?_
  refine P.new (ci := 6) (N := 5) (T := TX6) tyX6 tyX6_ok rfl inX6 (by decide +kernel) (by decide) (fun j hj => ?_) cl_X7_9 in_X6 ini_X6 (roo_mk (by decide)) dX7_init_26 ?_
  · rcases (show j = 0 ∨ j = 1 ∨ j = 2 ∨ j = 3 ∨ j = 4 by omega) with rfl | rfl | rfl | rfl | rfl <;> rfl
  refine P.dup dX7_init_29 rfl ?_
  refine P.callIN (As := []) (rest := [.ref (ad G 22), .int (nI 6), .ref (ad G 3)]) (i_X6 (b := 22) (by decide +kernel) (by decide +kernel) (by decide +kernel)) ok_X6_init (fit_mk (by decide) (by decide)) rfl mn_X7_17 rfl (Nat.le_of_ble_eq_true rfl) dX7_init_30 ?_
  show P G _ _ _ _ 33 [some (.ref (ad G 2)), some (.int (nI 6))] [.ref (ad G 22), .int (nI 6), .ref (ad G 3)] 25 (z0, z0l, uf (uf (uf (uf (uf (uf (uf (uf (uf (uf (uf (uf (uf (uf (uf (uf (uf (uf (uf (uf (uf ((uf r0 0 0 (some 1))) 2 0 (some 3)) 4 0 (some 5)) 4 1 (some 6)) 3 0 (some 4)) 7 0 (some 8)) 7 1 (some 9)) 3 1 (some 7)) 10 0 (some 11)) 10 1 (some 12)) 3 2 (some 10)) 13 0 (some 14)) 13 1 (some 15)) 3 3 (some 13)) 16 0 (some 17)) 16 1 (some 18)) 3 4 (some 16)) 19 0 (some 20)) 19 1 (some 21)) 3 5 (some 19)) 22 0 (some 23)) 22 1 (some 24))
  refine P.astr (N := 12) (kd := 26) (t0 := 6) (C := RX6) (T := TX6) (ci := 6) (M := 5) (by decide +kernel) (by decide) rfl (by decide) (by decide) (by decide) (by decide) (by decide +kernel) (by decide) rfl dX7_init_33 ?_
  show P G _ _ _ _ 34 [some (.ref (ad G 2)), some (.int (nI 6))] [] 25 (z0, z0l, uf (uf (uf (uf (uf (uf (uf (uf (uf (uf (uf (uf (uf (uf (uf (uf (uf (uf (uf (uf (uf (uf ((uf r0 0 0 (some 1))) 2 0 (some 3)) 4 0 (some 5)) 4 1 (some 6)) 3 0 (some 4)) 7 0 (some 8)) 7 1 (some 9)) 3 1 (some 7)) 10 0 (some 11)) 10 1 (some 12)) 3 2 (some 10)) 13 0 (some 14)) 13 1 (some 15)) 3 3 (some 13)) 16 0 (some 17)) 16 1 (some 18)) 3 4 (some 16)) 19 0 (some 20)) 19 1 (some 21)) 3 5 (some 19)) 22 0 (some 23)) 22 1 (some 24)) 3 6 (some 22))
  refine P.iinc (v := nI 7) dX7_init_34 rfl (inc1 _) (by decide) ?_
  refine P.goto (tgt := 15) dX7_init_37 (by decide) ?_
  show P G _ _ _ _ 15 [some (.ref (ad G 2)), some (.int (nI 7))] [] 25 (z0, z0l, uf (uf (uf (uf (uf (uf (uf (uf (uf (uf (uf (uf (uf (uf (uf (uf (uf (uf (uf (uf (uf (uf ((uf r0 0 0 (some 1))) 2 0 (some 3)) 4 0 (some 5)) 4 1 (some 6)) 3 0 (some 4)) 7 0 (some 8)) 7 1 (some 9)) 3 1 (some 7)) 10 0 (some 11)) 10 1 (some 12)) 3 2 (some 10)) 13 0 (some 14)) 13 1 (some 15)) 3 3 (some 13)) 16 0 (some 17)) 16 1 (some 18)) 3 4 (some 16)) 19 0 (some 20)) 19 1 (some 21)) 3 5 (some 19)) 22 0 (some 23)) 22 1 (some 24)) 3 6 (some 22))
  refine P.iload_n dX7_init_15 rfl rfl ?_
  refine P.bipush (v := nI 12) dX7_init_16 rfl ?_
  refine P.icmp_ge_n (tgt := 40) dX7_init_18 (by decide) (by decide) (by decide) (fun hc => absurd hc (by decide)) (fun hc => ?_)
  refine P.aload_n dX7_init_21 rfl rfl ?_
  refine P.getr (ci := 7) (N := 2) (j := 0) (T := TX7) (q := 3) rfl inX7 (by decide +kernel) (by decide) (by decide) (by decide) rfl rfl fl_X7_11 dX7_init_22 ?_
  refine P.iload_n dX7_init_25 rfl rfl ?_
  refine P.new (ci := 6) (N := 5) (T := TX6) tyX6 tyX6_ok rfl inX6 (by decide +kernel) (by decide) (fun j hj => ?_) cl_X7_9 in_X6 ini_X6 (roo_mk (by decide)) dX7_init_26 ?_
  · rcases (show j = 0 ∨ j = 1 ∨ j = 2 ∨ j = 3 ∨ j = 4 by omega) with rfl | rfl | rfl | rfl | rfl <;> rfl
  refine P.dup dX7_init_29 rfl ?_
  refine P.callIN (As := []) (rest := [.ref (ad G 25), .int (nI 7), .ref (ad G 3)]) (i_X6 (b := 25) (by decide +kernel) (by decide +kernel) (by decide +kernel)) ok_X6_init (fit_mk (by decide) (by decide)) rfl mn_X7_17 rfl (Nat.le_of_ble_eq_true rfl) dX7_init_30 ?_
  show P G _ _ _ _ 33 [some (.ref (ad G 2)), some (.int (nI 7))] [.ref (ad G 25), .int (nI 7), .ref (ad G 3)] 28 (z0, z0l, uf (uf (uf (uf (uf (uf (uf (uf (uf (uf (uf (uf (uf (uf (uf (uf (uf (uf (uf (uf (uf (uf (uf (uf ((uf r0 0 0 (some 1))) 2 0 (some 3)) 4 0 (some 5)) 4 1 (some 6)) 3 0 (some 4)) 7 0 (some 8)) 7 1 (some 9)) 3 1 (some 7)) 10 0 (some 11)) 10 1 (some 12)) 3 2 (some 10)) 13 0 (some 14)) 13 1 (some 15)) 3 3 (some 13)) 16 0 (some 17)) 16 1 (some 18)) 3 4 (some 16)) 19 0 (some 20)) 19 1 (some 21)) 3 5 (some 19)) 22 0 (some 23)) 22 1 (some 24)) 3 6 (some 22)) 25 0 (some 26)) 25 1 (some 27))
  refine P.astr (N := 12) (kd := 26) (t0 := 6) (C := RX6) (T := TX6) (ci := 6) (M := 5) (by decide +kernel) (by decide) rfl (by decide) (by decide) (by decide) (by decide) (by decide +kernel) (by decide) rfl dX7_init_33 ?_
  show P G _ _ _ _ 34 [some (.ref (ad G 2)), some (.int (nI 7))] [] 28 (z0, z0l, uf (uf (uf (uf (uf (uf (uf (uf (uf (uf (uf (uf (uf (uf (uf (uf (uf (uf (uf (uf (uf (uf (uf (uf (uf ((uf r0 0 0 (some 1))) 2 0 (some 3)) 4 0 (some 5)) 4 1 (some 6)) 3 0 (some 4)) 7 0 (some 8)) 7 1 (some 9)) 3 1 (some 7)) 10 0 (some 11)) 10 1 (some 12)) 3 2 (some 10)) 13 0 (some 14)) 13 1 (some 15)) 3 3 (some 13)) 16 0 (some 17)) 16 1 (some 18)) 3 4 (some 16)) 19 0 (some 20)) 19 1 (some 21)) 3 5 (some 19)) 22 0 (some 23)) 22 1 (some 24)) 3 6 (some 22)) 25 0 (some 26)) 25 1 (some 27)) 3 7 (some 25))
  refine P.iinc (v := nI 8) dX7_init_34 rfl (inc1 _) (by decide) ?_
  refine P.goto (tgt := 15) dX7_init_37 (by decide) ?_
  show P G _ _ _ _ 15 [some (.ref (ad G 2)), some (.int (nI 8))] [] 28 (z0, z0l, uf (uf (uf (uf (uf (uf (uf (uf (uf (uf (uf (uf (uf (uf (uf (uf (uf (uf (uf (uf (uf (uf (uf (uf (uf ((uf r0 0 0 (some 1))) 2 0 (some 3)) 4 0 (some 5)) 4 1 (some 6)) 3 0 (some 4)) 7 0 (some 8)) 7 1 (some 9)) 3 1 (some 7)) 10 0 (some 11)) 10 1 (some 12)) 3 2 (some 10)) 13 0 (some 14)) 13 1 (some 15)) 3 3 (some 13)) 16 0 (some 17)) 16 1 (some 18)) 3 4 (some 16)) 19 0 (some 20)) 19 1 (some 21)) 3 5 (some 19)) 22 0 (some 23)) 22 1 (some 24)) 3 6 (some 22)) 25 0 (some 26)) 25 1 (some 27)) 3 7 (some 25))
  refine P.iload_n dX7_init_15 rfl rfl ?_
  refine P.bipush (v := nI 12) dX7_init_16 rfl ?_
  refine P.icmp_ge_n (tgt := 40) dX7_init_18 (by decide) (by decide) (by decide) (fun hc => absurd hc (by decide)) (fun hc => ?_)
  refine P.aload_n dX7_init_21 rfl rfl ?_
  refine P.getr (ci := 7) (N := 2) (j := 0) (T := TX7) (q := 3) rfl inX7 (by decide +kernel) (by decide) (by decide) (by decide) rfl rfl fl_X7_11 dX7_init_22 ?_
  refine P.iload_n dX7_init_25 rfl rfl ?_
  refine P.new (ci := 6) (N := 5) (T := TX6) tyX6 tyX6_ok rfl inX6 (by decide +kernel) (by decide) (fun j hj => ?_) cl_X7_9 in_X6 ini_X6 (roo_mk (by decide)) dX7_init_26 ?_
  · rcases (show j = 0 ∨ j = 1 ∨ j = 2 ∨ j = 3 ∨ j = 4 by omega) with rfl | rfl | rfl | rfl | rfl <;> rfl
  refine P.dup dX7_init_29 rfl ?_
  refine P.callIN (As := []) (rest := [.ref (ad G 28), .int (nI 8), .ref (ad G 3)]) (i_X6 (b := 28) (by decide +kernel) (by decide +kernel) (by decide +kernel)) ok_X6_init (fit_mk (by decide) (by decide)) rfl mn_X7_17 rfl (Nat.le_of_ble_eq_true rfl) dX7_init_30 ?_
  show P G _ _ _ _ 33 [some (.ref (ad G 2)), some (.int (nI 8))] [.ref (ad G 28), .int (nI 8), .ref (ad G 3)] 31 (z0, z0l, uf (uf (uf (uf (uf (uf (uf (uf (uf (uf (uf (uf (uf (uf (uf (uf (uf (uf (uf (uf (uf (uf (uf (uf (uf (uf (uf ((uf r0 0 0 (some 1))) 2 0 (some 3)) 4 0 (some 5)) 4 1 (some 6)) 3 0 (some 4)) 7 0 (some 8)) 7 1 (some 9)) 3 1 (some 7)) 10 0 (some 11)) 10 1 (some 12)) 3 2 (some 10)) 13 0 (some 14)) 13 1 (some 15)) 3 3 (some 13)) 16 0 (some 17)) 16 1 (some 18)) 3 4 (some 16)) 19 0 (some 20)) 19 1 (some 21)) 3 5 (some 19)) 22 0 (some 23)) 22 1 (some 24)) 3 6 (some 22)) 25 0 (some 26)) 25 1 (some 27)) 3 7 (some 25)) 28 0 (some 29)) 28 1 (some 30))
  refine P.astr (N := 12) (kd := 26) (t0 := 6) (C := RX6) (T := TX6) (ci := 6) (M := 5) (by decide +kernel) (by decide) rfl (by decide) (by decide) (by decide) (by decide) (by decide +kernel) (by decide) rfl dX7_init_33 ?_
  show P G _ _ _ _ 34 [some (.ref (ad G 2)), some (.int (nI 8))] [] 31 (z0, z0l, uf (uf (uf (uf (uf (uf (uf (uf (uf (uf (uf (uf (uf (uf (uf (uf (uf (uf (uf (uf (uf (uf (uf (uf (uf (uf (uf (uf ((uf r0 0 0 (some 1))) 2 0 (some 3)) 4 0 (some 5)) 4 1 (some 6)) 3 0 (some 4)) 7 0 (some 8)) 7 1 (some 9)) 3 1 (some 7)) 10 0 (some 11)) 10 1 (some 12)) 3 2 (some 10)) 13 0 (some 14)) 13 1 (some 15)) 3 3 (some 13)) 16 0 (some 17)) 16 1 (some 18)) 3 4 (some 16)) 19 0 (some 20)) 19 1 (some 21)) 3 5 (some 19)) 22 0 (some 23)) 22 1 (some 24)) 3 6 (some 22)) 25 0 (some 26)) 25 1 (some 27)) 3 7 (some 25)) 28 0 (some 29)) 28 1 (some 30)) 3 8 (some 28))
  refine P.iinc (v := nI 9) dX7_init_34 rfl (inc1 _) (by decide) ?_
  refine P.goto (tgt := 15) dX7_init_37 (by decide) ?_
  show P G _ _ _ _ 15 [some (.ref (ad G 2)), some (.int (nI 9))] [] 31 (z0, z0l, uf (uf (uf (uf (uf (uf (uf (uf (uf (uf (uf (uf (uf (uf (uf (uf (uf (uf (uf (uf (uf (uf (uf (uf (uf (uf (uf (uf ((uf r0 0 0 (some 1))) 2 0 (some 3)) 4 0 (some 5)) 4 1 (some 6)) 3 0 (some 4)) 7 0 (some 8)) 7 1 (some 9)) 3 1 (some 7)) 10 0 (some 11)) 10 1 (some 12)) 3 2 (some 10)) 13 0 (some 14)) 13 1 (some 15)) 3 3 (some 13)) 16 0 (some 17)) 16 1 (some 18)) 3 4 (some 16)) 19 0 (some 20)) 19 1 (some 21)) 3 5 (some 19)) 22 0 (some 23)) 22 1 (some 24)) 3 6 (some 22)) 25 0 (some 26)) 25 1 (some 27)) 3 7 (some 25)) 28 0 (some 29)) 28 1 (some 30)) 3 8 (some 28))
  refine P.iload_n dX7_init_15 rfl rfl ?_
  refine P.bipush (v := nI 12) dX7_init_16 rfl ?_
  refine P.icmp_ge_n (tgt := 40) dX7_init_18 (by decide) (by decide) (by decide) (fun hc => absurd hc (by decide)) (fun hc => ?_)
  refine P.aload_n dX7_init_21 rfl rfl ?_
  refine P.getr (ci := 7) (N := 2) (j := 0) (T := TX7) (q := 3) rfl inX7 (by decide +kernel) (by decide) (by decide) (by decide) rfl rfl fl_X7_11 dX7_init_22 ?_
  refine P.iload_n dX7_init_25 rfl rfl ?_
  refine P.new (ci := 6) (N := 5) (T := TX6) tyX6 tyX6_ok rfl inX6 (by decide +kernel) (by decide) (fun j hj => ?_) cl_X7_9 in_X6 ini_X6 (roo_mk (by decide)) dX7_init_26 ?_
  · rcases (show j = 0 ∨ j = 1 ∨ j = 2 ∨ j = 3 ∨ j = 4 by omega) with rfl | rfl | rfl | rfl | rfl <;> rfl
  refine P.dup dX7_init_29 rfl ?_
  refine P.callIN (As := []) (rest := [.ref (ad G 31), .int (nI 9), .ref (ad G 3)]) (i_X6 (b := 31) (by decide +kernel) (by decide +kernel) (by decide +kernel)) ok_X6_init (fit_mk (by decide) (by decide)) rfl mn_X7_17 rfl (Nat.le_of_ble_eq_true rfl) dX7_init_30 ?_
  show P G _ _ _ _ 33 [some (.ref (ad G 2)), some (.int (nI 9))] [.ref (ad G 31), .int (nI 9), .ref (ad G 3)] 34 (z0, z0l, uf (uf (uf (uf (uf (uf (uf (uf (uf (uf (uf (uf (uf (uf (uf (uf (uf (uf (uf (uf (uf (uf (uf (uf (uf (uf (uf (uf (uf (uf ((uf r0 0 0 (some 1))) 2 0 (some 3)) 4 0 (some 5)) 4 1 (some 6)) 3 0 (some 4)) 7 0 (some 8)) 7 1 (some 9)) 3 1 (some 7)) 10 0 (some 11)) 10 1 (some 12)) 3 2 (some 10)) 13 0 (some 14)) 13 1 (some 15)) 3 3 (some 13)) 16 0 (some 17)) 16 1 (some 18)) 3 4 (some 16)) 19 0 (some 20)) 19 1 (some 21)) 3 5 (some 19)) 22 0 (some 23)) 22 1 (some 24)) 3 6 (some 22)) 25 0 (some 26)) 25 1 (some 27)) 3 7 (some 25)) 28 0 (some 29)) 28 1 (some 30)) 3 8 (some 28)) 31 0 (some 32)) 31 1 (some 33))
  refine P.astr (N := 12) (kd := 26) (t0 := 6) (C := RX6) (T := TX6) (ci := 6) (M := 5) (by decide +kernel) (by decide) rfl (by decide) (by decide) (by decide) (by decide) (by decide +kernel) (by decide) rfl dX7_init_33 ?_
  show P G _ _ _ _ 34 [some (.ref (ad G 2)), some (.int (nI 9))] [] 34 (z0, z0l, uf (uf (uf (uf (uf (uf (uf (uf (uf (uf (uf (uf (uf (uf (uf (uf (uf (uf (uf (uf (uf (uf (uf (uf (uf (uf (uf (uf (uf (uf (uf ((uf r0 0 0 (some 1))) 2 0 (some 3)) 4 0 (some 5)) 4 1 (some 6)) 3 0 (some 4)) 7 0 (some 8)) 7 1 (some 9)) 3 1 (some 7)) 10 0 (some 11)) 10 1 (some 12)) 3 2 (some 10)) 13 0 (some 14)) 13 1 (some 15)) 3 3 (some 13)) 16 0 (some 17)) 16 1 (some 18)) 3 4 (some 16)) 19 0 (some 20)) 19 1 (some 21)) 3 5 (some 19)) 22 0 (some 23)) 22 1 (some 24)) 3 6 (some 22)) 25 0 (some 26)) 25 1 (some 27)) 3 7 (some 25)) 28 0 (some 29)) 28 1 (some 30)) 3 8 (some 28)) 31 0 (some 32)) 31 1 (some 33)) 3 9 (some 31))
  refine P.iinc (v := nI 10) dX7_init_34 rfl (inc1 _) (by decide) ?_
  refine P.goto (tgt := 15) dX7_init_37 (by decide) ?_
  show P G _ _ _ _ 15 [some (.ref (ad G 2)), some (.int (nI 10))] [] 34 (z0, z0l, uf (uf (uf (uf (uf (uf (uf (uf (uf (uf (uf (uf (uf (uf (uf (uf (uf (uf (uf (uf (uf (uf (uf (uf (uf (uf (uf (uf (uf (uf (uf ((uf r0 0 0 (some 1))) 2 0 (some 3)) 4 0 (some 5)) 4 1 (some 6)) 3 0 (some 4)) 7 0 (some 8)) 7 1 (some 9)) 3 1 (some 7)) 10 0 (some 11)) 10 1 (some 12)) 3 2 (some 10)) 13 0 (some 14)) 13 1 (some 15)) 3 3 (some 13)) 16 0 (some 17)) 16 1 (some 18)) 3 4 (some 16)) 19 0 (some 20)) 19 1 (some 21)) 3 5 (some 19)) 22 0 (some 23)) 22 1 (some 24)) 3 6 (some 22)) 25 0 (some 26)) 25 1 (some 27)) 3 7 (some 25)) 28 0 (some 29)) 28 1 (some 30)) 3 8 (some 28)) 31 0 (some 32)) 31 1 (some 33)) 3 9 (some 31))
  refine P.iload_n dX7_init_15 rfl rfl ?_
  refine P.bipush (v := nI 12) dX7_init_16 rfl ?_
  refine P.icmp_ge_n (tgt := 40) dX7_init_18 (by decide) (by decide) (by decide) (fun hc => absurd hc (by decide)) (fun hc => ?_)
  refine P.aload_n dX7_init_21 rfl rfl ?_
  refine P.getr (ci := 7) (N := 2) (j := 0) (T := TX7) (q := 3) rfl inX7 (by decide +kernel) (by decide) (by decide) (by decide) rfl rfl fl_X7_11 dX7_init_22 ?_
  refine P.iload_n dX7_init_25 rfl rfl ?_
  refine P.new (ci := 6) (N := 5) (T := TX6) tyX6 tyX6_ok rfl inX6 (by decide +kernel) (by decide) (fun j hj => ?_) cl_X7_9 in_X6 ini_X6 (roo_mk (by decide)) dX7_init_26 ?_
  · rcases (show j = 0 ∨ j = 1 ∨ j = 2 ∨ j = 3 ∨ j = 4 by omega) with rfl | rfl | rfl | rfl | rfl <;> rfl
  refine P.dup dX7_init_29 rfl ?_
  refine P.callIN (As := []) (rest := [.ref (ad G 34), .int (nI 10), .ref (ad G 3)]) (i_X6 (b := 34) (by decide +kernel) (by decide +kernel) (by decide +kernel)) ok_X6_init (fit_mk (by decide) (by decide)) rfl mn_X7_17 rfl (Nat.le_of_ble_eq_true rfl) dX7_init_30 ?_
  show P G _ _ _ _ 33 [some (.ref (ad G 2)), some (.int (nI 10))] [.ref (ad G 34), .int (nI 10), .ref (ad G 3)] 37 (z0, z0l, uf (uf (uf (uf (uf (uf (uf (uf (uf (uf (uf (uf (uf (uf (uf (uf (uf (uf (uf (uf (uf (uf (uf (uf (uf (uf (uf (uf (uf (uf (uf (uf (uf ((uf r0 0 0 (some 1))) 2 0 (some 3)) 4 0 (some 5)) 4 1 (some 6)) 3 0 (some 4)) 7 0 (some 8)) 7 1 (some 9)) 3 1 (some 7)) 10 0 (some 11)) 10 1 (some 12)) 3 2 (some 10)) 13 0 (some 14)) 13 1 (some 15)) 3 3 (some 13)) 16 0 (some 17)) 16 1 (some 18)) 3 4 (some 16)) 19 0 (some 20)) 19 1 (some 21)) 3 5 (some 19)) 22 0 (some 23)) 22 1 (some 24)) 3 6 (some 22)) 25 0 (some 26)) 25 1 (some 27)) 3 7 (some 25)) 28 0 (some 29)) 28 1 (some 30)) 3 8 (some 28)) 31 0 (some 32)) 31 1 (some 33)) 3 9 (some 31)) 34 0 (some 35)) 34 1 (some 36))
  refine P.astr (N := 12) (kd := 26) (t0 := 6) (C := RX6) (T := TX6) (ci := 6) (M := 5) (by decide +kernel) (by decide) rfl (by decide) (by decide) (by decide) (by decide) (by decide +kernel) (by decide) rfl dX7_init_33 ?_
  show P G _ _ _ _ 34 [some (.ref (ad G 2)), some (.int (nI 10))] [] 37 (z0, z0l, uf (uf (uf (uf (uf (uf (uf (uf (uf (uf (uf (uf (uf (uf (uf (uf (uf (uf (uf (uf (uf (uf (uf (uf (uf (uf (uf (uf (uf (uf (uf (uf (uf (uf ((uf r0 0 0 (some 1))) 2 0 (some 3)) 4 0 (some 5)) 4 1 (some 6)) 3 0 (some 4)) 7 0 (some 8)) 7 1 (some 9)) 3 1 (some 7)) 10 0 (some 11)) 10 1 (some 12)) 3 2 (some 10)) 13 0 (some 14)) 13 1 (some 15)) 3 3 (some 13)) 16 0 (some 17)) 16 1 (some 18)) 3 4 (some 16)) 19 0 (some 20)) 19 1 (some 21)) 3 5 (some 19)) 22 0 (some 23)) 22 1 (some 24)) 3 6 (some 22)) 25 0 (some 26)) 25 1 (some 27)) 3 7 (some 25)) 28 0 (some 29)) 28 1 (some 30)) 3 8 (some 28)) 31 0 (some 32)) 31 1 (some 33)) 3 9 (some 31)) 34 0 (some 35)) 34 1 (some 36)) 3 10 (some 34))
  refine P.iinc (v := nI 11) dX7_init_34 rfl (inc1 _) (by decide) ?_
  refine P.goto (tgt := 15) dX7_init_37 (by decide) ?_
  show P G _ _ _ _ 15 [some (.ref (ad G 2)), some (.int (nI 11))] [] 37 (z0, z0l, uf (uf (uf (uf (uf (uf (uf (uf (uf (uf (uf (uf (uf (uf (uf (uf (uf (uf (uf (uf (uf (uf (uf (uf (uf (uf (uf (uf (uf (uf (uf (uf (uf (uf ((uf r0 0 0 (some 1))) 2 0 (some 3)) 4 0 (some 5)) 4 1 (some 6)) 3 0 (some 4)) 7 0 (some 8)) 7 1 (some 9)) 3 1 (some 7)) 10 0 (some 11)) 10 1 (some 12)) 3 2 (some 10)) 13 0 (some 14)) 13 1 (some 15)) 3 3 (some 13)) 16 0 (some 17)) 16 1 (some 18)) 3 4 (some 16)) 19 0 (some 20)) 19 1 (some 21)) 3 5 (some 19)) 22 0 (some 23)) 22 1 (some 24)) 3 6 (some 22)) 25 0 (some 26)) 25 1 (some 27)) 3 7 (some 25)) 28 0 (some 29)) 28 1 (some 30)) 3 8 (some 28)) 31 0 (some 32)) 31 1 (some 33)) 3 9 (some 31)) 34 0 (some 35)) 34 1 (some 36)) 3 10 (some 34))
  refine P.iload_n dX7_init_15 rfl rfl ?_
  refine P.bipush (v := nI 12) dX7_init_16 rfl ?_
  refine P.icmp_ge_n (tgt := 40) dX7_init_18 (by decide) (by decide) (by decide) (fun hc => absurd hc (by decide)) (fun hc => ?_)
  refine P.aload_n dX7_init_21 rfl rfl ?_
  refine P.getr (ci := 7) (N := 2) (j := 0) (T := TX7) (q := 3) rfl inX7 (by decide +kernel) (by decide) (by decide) (by decide) rfl rfl fl_X7_11 dX7_init_22 ?_
  refine P.iload_n dX7_init_25 rfl rfl ?_
  refine P.new (ci := 6) (N := 5) (T := TX6) tyX6 tyX6_ok rfl inX6 (by decide +kernel) (by decide) (fun j hj => ?_) cl_X7_9 in_X6 ini_X6 (roo_mk (by decide)) dX7_init_26 ?_
  · rcases (show j = 0 ∨ j = 1 ∨ j = 2 ∨ j = 3 ∨ j = 4 by omega) with rfl | rfl | rfl | rfl | rfl <;> rfl
  refine P.dup dX7_init_29 rfl ?_
  refine P.callIN (As := []) (rest := [.ref (ad G 37), .int (nI 11), .ref (ad G 3)]) (i_X6 (b := 37) (by decide +kernel) (by decide +kernel) (by decide +kernel)) ok_X6_init (fit_mk (by decide) (by decide)) rfl mn_X7_17 rfl (Nat.le_of_ble_eq_true rfl) dX7_init_30 ?_
  show P G _ _ _ _ 33 [some (.ref (ad G 2)), some (.int (nI 11))] [.ref (ad G 37), .int (nI 11), .ref (ad G 3)] 40 (z0, z0l, uf (uf (uf (uf (uf (uf (uf (uf (uf (uf (uf (uf (uf (uf (uf (uf (uf (uf (uf (uf (uf (uf (uf (uf (uf (uf (uf (uf (uf (uf (uf (uf (uf (uf (uf (uf ((uf r0 0 0 (some 1))) 2 0 (some 3)) 4 0 (some 5)) 4 1 (some 6)) 3 0 (some 4)) 7 0 (some 8)) 7 1 (some 9)) 3 1 (some 7)) 10 0 (some 11)) 10 1 (some 12)) 3 2 (some 10)) 13 0 (some 14)) 13 1 (some 15)) 3 3 (some 13)) 16 0 (some 17)) 16 1 (some 18)) 3 4 (some 16)) 19 0 (some 20)) 19 1 (some 21)) 3 5 (some 19)) 22 0 (some 23)) 22 1 (some 24)) 3 6 (some 22)) 25 0 (some 26)) 25 1 (some 27)) 3 7 (some 25)) 28 0 (some 29)) 28 1 (some 30)) 3 8 (some 28)) 31 0 (some 32)) 31 1 (some 33)) 3 9 (some 31)) 34 0 (some 35)) 34 1 (some 36)) 3 10 (some 34)) 37 0 (some 38)) 37 1 (some 39))
  refine P.astr (N := 12) (kd := 26) (t0 := 6) (C := RX6) (T := TX6) (ci := 6) (M := 5) (by decide +kernel) (by decide) rfl (by decide) (by decide) (by decide) (by decide) (by decide +kernel) (by decide) rfl dX7_init_33 ?_
  show P G _ _ _ _ 34 [some (.ref (ad G 2)), some (.int (nI 11))] [] 40 (z0, z0l, uf (uf (uf (uf (uf (uf (uf (uf (uf (uf (uf (uf (uf (uf (uf (uf (uf (uf (uf (uf (uf (uf (uf (uf (uf (uf (uf (uf (uf (uf (uf (uf (uf (uf (uf (uf (uf ((uf r0 0 0 (some 1))) 2 0 (some 3)) 4 0 (some 5)) 4 1 (some 6)) 3 0 (some 4)) 7 0 (some 8)) 7 1 (some 9)) 3 1 (some 7)) 10 0 (some 11)) 10 1 (some 12)) 3 2 (some 10)) 13 0 (some 14)) 13 1 (some 15)) 3 3 (some 13)) 16 0 (some 17)) 16 1 (some 18)) 3 4 (some 16)) 19 0 (some 20)) 19 1 (some 21)) 3 5 (some 19)) 22 0 (some 23)) 22 1 (some 24)) 3 6 (some 22)) 25 0 (some 26)) 25 1 (some 27)) 3 7 (some 25)) 28 0 (some 29)) 28 1 (some 30)) 3 8 (some 28)) 31 0 (some 32)) 31 1 (some 33)) 3 9 (some 31)) 34 0 (some 35)) 34 1 (some 36)) 3 10 (some 34)) 37 0 (some 38)) 37 1 (some 39)) 3 11 (some 37))
  refine P.iinc (v := nI 12) dX7_init_34 rfl (inc1 _) (by decide) ?_
  refine P.goto (tgt := 15) dX7_init_37 (by decide) ?_
  show P G _ _ _ _ 15 [some (.ref (ad G 2)), some (.int (nI 12))] [] 40 (z0, z0l, uf (uf (uf (uf (uf (uf (uf (uf (uf (uf (uf (uf (uf (uf (uf (uf (uf (uf (uf (uf (uf (uf (uf (uf (uf (uf (uf (uf (uf (uf (uf (uf (uf (uf (uf (uf (uf ((uf r0 0 0 (some 1))) 2 0 (some 3)) 4 0 (some 5)) 4 1 (some 6)) 3 0 (some 4)) 7 0 (some 8)) 7 1 (some 9)) 3 1 (some 7)) 10 0 (some 11)) 10 1 (some 12)) 3 2 (some 10)) 13 0 (some 14)) 13 1 (some 15)) 3 3 (some 13)) 16 0 (some 17)) 16 1 (some 18)) 3 4 (some 16)) 19 0 (some 20)) 19 1 (some 21)) 3 5 (some 19)) 22 0 (some 23)) 22 1 (some 24)) 3 6 (some 22)) 25 0 (some 26)) 25 1 (some 27)) 3 7 (some 25)) 28 0 (some 29)) 28 1 (some 30)) 3 8 (some 28)) 31 0 (some 32)) 31 1 (some 33)) 3 9 (some 31)) 34 0 (some 35)) 34 1 (some 36)) 3 10 (some 34)) 37 0 (some 38)) 37 1 (some 39)) 3 11 (some 37))
  refine P.iload_n dX7_init_15 rfl rfl ?_
  refine P.bipush (v := nI 12) dX7_init_16 rfl ?_
  refine P.icmp_ge_n (tgt := 40) dX7_init_18 (by decide) (by decide) (by decide) (fun hc => ?_) (fun hc => absurd hc (by decide))
  exact P.vret rfl dX7_init_40 rfl
def rX2 : Nat → Nat → Option Nat := uf (uf (uf (uf (uf (uf (uf (uf (uf (uf (uf (uf (uf ((uf rX7 0 1 (some 2))) 40 1 (some 41)) 40 3 (some 42)) 40 0 (some 2)) 41 0 (some 43)) 41 1 (some 44)) 41 2 (some 45)) 41 3 (some 46)) 41 4 (some 47)) 41 5 (some 48)) 41 6 (some 49)) 41 7 (some 50)) 41 8 (some 51)) 41 9 (some 52)
set_option maxRecDepth 20000 in
theorem i_X2 {G : GG} : Spec G mX2_init [.ref (ad G 40), .ref (ad G 2)] 41 (z0, z0l, (uf rX7 0 1 (some 2))) none 53 (z0, z0l, rX2) := by
  refine Spec.of ok_X2_init.1 ⟨by omega, szs_le (by omega)⟩ (Nat.le_of_ble_eq_true rfl) ?_
  show P G RX2 cX2_init 3 (KM G mX2_init 41 53 none (z0, z0l, rX2)) 0 [some (.ref (ad G 40)), some (.ref (ad G 2)), none] [] 41 (z0, z0l, (uf rX7 0 1 (some 2)))
  refine P.aload_n dX2_init_0 rfl rfl ?_
  refine P.objInit ml_X2_3 (obj_mk (by decide)) (Nat.le_of_ble_eq_true rfl) dX2_init_1 ?_
  show P G _ _ _ _ 4 [some (.ref (ad G 40)), some (.ref (ad G 2)), none] [] 41 (z0, z0l, (uf rX7 0 1 (some 2)))
  refine P.aload_n dX2_init_4 rfl rfl ?_
  refine P.bipush (v := nI 10) dX2_init_5 rfl ?_
  refine P.newR (N := 10) (kd := 21) (t0 := 4) (C := RX1) (by decide +kernel) (by decide) rfl (Nat.le_of_ble_eq_true rfl) (fun _ => rfl) (by simp [overs]) cl_X2_9 (roo_mk (by decide)) dX2_init_7 ?_
  refine P.putr (ci := 2) (N := 5) (j := 1) (T := TX2) (q := 41) tyX2 tyX2_ok nmX2 rfl inX2 (by decide +kernel) (by decide) (by decide) (by decide) rfl (fun _ _ _ h => h.2) rfl (tyX2_ok 1 (by decide)) rfl (fun _ => ⟨rfl, rfl⟩) fl_X2_11 dX2_init_10 ?_
  show P G _ _ _ _ 13 [some (.ref (ad G 40)), some (.ref (ad G 2)), none] [] 42 (z0, z0l, uf ((uf rX7 0 1 (some 2))) 40 1 (some 41))
  refine P.aload_n dX2_init_13 rfl rfl ?_
  refine P.sipush (v := nI 4096) dX2_init_14 rfl ?_
  refine P.newI (N := 4096) (by decide +kernel) (Nat.le_of_ble_eq_true rfl) (fun _ => rfl) (roo_mk (by decide)) dX2_init_17 ?_
  refine P.putr (ci := 2) (N := 5) (j := 3) (T := TX2) (q := 42) tyX2 tyX2_ok nmX2 rfl inX2 (by decide +kernel) (by decide) (by decide) (by decide) rfl (fun _ _ _ h => h.2) rfl (tyX2_ok 3 (by decide)) rfl (fun _ => ⟨rfl, rfl⟩) fl_X2_17 dX2_init_19 ?_
  show P G _ _ _ _ 22 [some (.ref (ad G 40)), some (.ref (ad G 2)), none] [] 43 (z0, z0l, uf (uf ((uf rX7 0 1 (some 2))) 40 1 (some 41)) 40 3 (some 42))
  refine P.aload_n dX2_init_22 rfl rfl ?_
  refine P.aload_n dX2_init_23 rfl rfl ?_
  refine P.putr (ci := 2) (N := 5) (j := 0) (T := TX2) (q := 2) tyX2 tyX2_ok nmX2 rfl inX2 (by decide +kernel) (by decide) (by decide) (by decide) rfl (fun _ _ _ h => h.2) rfl (tyX2_ok 0 (by decide)) rfl (fun _ => ⟨rfl, rfl⟩) fl_X2_21 dX2_init_24 ?_
  show P G _ _ _ _ 27 [some (.ref (ad G 40)), some (.ref (ad G 2)), none] [] 43 (z0, z0l, uf (uf (uf ((uf rX7 0 1 (some 2))) 40 1 (some 41)) 40 3 (some 42)) 40 0 (some 2))
  refine P.iconst dX2_init_27 ic_0 ?_
  refine P.istore_n dX2_init_28 rfl (by decide) ?_
  refine P.iload_n dX2_init_29 rfl rfl ?_
  refine P.bipush (v := nI 10) dX2_init_30 rfl ?_
  refine P.icmp_ge_n (tgt := 54) dX2_init_32 (by decide) (by decide) (by decide) (fun hc => absurd hc (by decide)) (fun hc => ?_)
  refine P.aload_n dX2_init_35 rfl rfl ?_
  refine P.getr (ci := 2) (N := 5) (j := 1) (T := TX2) (q := 41) rfl inX2 (by decide +kernel) (by decide) (by decide) (by decide) rfl rfl fl_X2_11 dX2_init_36 ?_
  refine P.iload_n dX2_init_39 rfl rfl ?_
  refine P.new (ci := 1) (N := 8) (T := TX1) tyX1 tyX1_ok rfl inX1 (by decide +kernel) (by decide) (fun j hj => ?_) cl_X2_9 in_X1 ini_X1 (roo_mk (by decide)) dX2_init_40 ?_
  · rcases (show j = 0 ∨ j = 1 ∨ j = 2 ∨ j = 3 ∨ j = 4 ∨ j = 5 ∨ j = 6 ∨ j = 7 by omega) with rfl | rfl | rfl | rfl | rfl | rfl | rfl | rfl <;> rfl
  refine P.dup dX2_init_43 rfl ?_
  refine P.callIN (As := []) (rest := [.ref (ad G 43), .int (nI 0), .ref (ad G 41)]) (i_X1 (b := 43) (by decide +kernel)) ok_X1_init (fit_mk (by decide) (by decide)) rfl mn_X2_25 rfl (Nat.le_of_ble_eq_true rfl) dX2_init_44 ?_
  show P G _ _ _ _ 47 [some (.ref (ad G 40)), some (.ref (ad G 2)), some (.int (nI 0))] [.ref (ad G 43), .int (nI 0), .ref (ad G 41)] 44 (z0, z0l, uf (uf (uf ((uf rX7 0 1 (some 2))) 40 1 (some 41)) 40 3 (some 42)) 40 0 (some 2))
  refine P.astr (N := 10) (kd := 21) (t0 := 4) (C := RX1) (T := TX1) (ci := 1) (M := 8) (by decide +kernel) (by decide) rfl (by decide) (by decide) (by decide) (by decide) (by decide +kernel) (by decide) rfl dX2_init_47 ?_
  show P G _ _ _ _ 48 [some (.ref (ad G 40)), some (.ref (ad G 2)), some (.int (nI 0))] [] 44 (z0, z0l, uf (uf (uf (uf ((uf rX7 0 1 (some 2))) 40 1 (some 41)) 40 3 (some 42)) 40 0 (some 2)) 41 0 (some 43))
  refine P.iinc (v := nI 1) dX2_init_48 rfl (inc1 _) (by decide) ?_
  refine P.goto (tgt := 29) dX2_init_51 (by decide) ?_
  show P G _ _ _ _ 29 [some (.ref (ad G 40)), some (.ref (ad G 2)), some (.int (nI 1))] [] 44 (z0, z0l, uf (uf (uf (uf ((uf rX7 0 1 (some 2))) 40 1 (some 41)) 40 3 (some 42)) 40 0 (some 2)) 41 0 (some 43))
  refine P.iload_n dX2_init_29 rfl rfl ?_
  refine P.bipush (v := nI 10) dX2_init_30 rfl ?_
  refine P.icmp_ge_n (tgt := 54) dX2_init_32 (by decide) (by decide) (by decide) (fun hc => absurd hc (by decide)) (fun hc => ?_)
  refine P.aload_n dX2_init_35 rfl rfl ?_
  refine P.getr (ci := 2) (N := 5) (j := 1) (T := TX2) (q := 41) rfl inX2 (by decide +kernel) (by decide) (by decide) (by decide) rfl rfl fl_X2_11 dX2_init_36 ?_
  refine P.iload_n dX2_init_39 rfl rfl ?_
  refine P.new (ci := 1) (N := 8) (T := TX1) tyX1 tyX1_ok rfl inX1 (by decide +kernel) (by decide) (fun j hj => ?_) cl_X2_9 in_X1 ini_X1 (roo_mk (by decide)) dX2_init_40 ?_
  · rcases (show j = 0 ∨ j = 1 ∨ j = 2 ∨ j = 3 ∨ j = 4 ∨ j = 5 ∨ j = 6 ∨ j = 7 by omega) with rfl | rfl | rfl | rfl | rfl | rfl | rfl | rfl <;> rfl
  refine P.dup dX2_init_43 rfl ?_
  refine P.callIN (As := []) (rest := [.ref (ad G 44), .int (nI 1), .ref (ad G 41)]) (i_X1 (b := 44) (by decide +kernel)) ok_X1_init (fit_mk (by decide) (by decide)) rfl mn_X2_25 rfl (Nat.le_of_ble_eq_true rfl) dX2_init_44 ?_
  show P G _ _ _ _ 47 [some (.ref (ad G 40)), some (.ref (ad G 2)), some (.int (nI 1))] [.ref (ad G 44), .int (nI 1), .ref (ad G 41)] 45 (z0, z0l, uf (uf (uf (uf ((uf rX7 0 1 (some 2))) 40 1 (some 41)) 40 3 (some 42)) 40 0 (some 2)) 41 0 (some 43))
  refine P.astr (N := 10) (kd := 21) (t0 := 4) (C := RX1) (T := TX1) (ci := 1) (M := 8) (by decide +kernel) (by decide) rfl (by decide) (by decide) (by decide) (by decide) (by decide +kernel) (by decide) rfl dX2_init_47 ?_
  show P G _ _ _ _ 48 [some (.ref (ad G 40)), some (.ref (ad G 2)), some (.int (nI 1))] [] 45 (z0, z0l, uf (uf (uf (uf (uf ((uf rX7 0 1 (some 2))) 40 1 (some 41)) 40 3 (some 42)) 40 0 (some 2)) 41 0 (some 43)) 41 1 (some 44))
  refine P.iinc (v := nI 2) dX2_init_48 rfl (inc1 _) (by decide) ?_
  refine P.goto (tgt := 29) dX2_init_51 (by decide) ?_
  show P G _ _ _ _ 29 [some (.ref (ad G 40)), some (.ref (ad G 2)), some (.int (nI 2))] [] 45 (z0, z0l, uf (uf (uf (uf (uf ((uf rX7 0 1 (some 2))) 40 1 (some 41)) 40 3 (some 42)) 40 0 (some 2)) 41 0 (some 43)) 41 1 (some 44))
  refine P.iload_n dX2_init_29 rfl rfl ?_
  refine P.bipush (v := nI 10) dX2_init_30 rfl ?_
  refine P.icmp_ge_n (tgt := 54) dX2_init_32 (by decide) (by decide) (by decide) (fun hc => absurd hc (by decide)) (fun hc => ?_)
  refine P.aload_n dX2_init_35 rfl rfl ?_
  refine P.getr (ci := 2) (N := 5) (j := 1) (T := TX2) (q := 41) rfl inX2 (by decide +kernel) (by decide) (by decide) (by decide) rfl rfl fl_X2_11 dX2_init_36 ?_
  refine P.iload_n dX2_init_39 rfl rfl ?_
  refine P.new (ci := 1) (N := 8) (T := TX1) tyX1 tyX1_ok rfl inX1 (by decide +kernel) (by decide) (fun j hj => ?_) cl_X2_9 in_X1 ini_X1 (roo_mk (by decide)) dX2_init_40 ?_
  · rcases (show j = 0 ∨ j = 1 ∨ j = 2 ∨ j = 3 ∨ j = 4 ∨ j = 5 ∨ j = 6 ∨ j = 7 by omega) with rfl | rfl | rfl | rfl | rfl | rfl | rfl | rfl <;> rfl
  refine P.dup dX2_init_43 rfl ?_
  refine P.callIN (As := []) (rest := [.ref (ad G 45), .int (nI 2), .ref (ad G 41)]) (i_X1 (b := 45) (by decide +kernel)) ok_X1_init (fit_mk (by decide) (by decide)) rfl mn_X2_25 rfl (Nat.le_of_ble_eq_true rfl) dX2_init_44 ?_
  show P G _ _ _ _ 47 [some (.ref (ad G 40)), some (.ref (ad G 2)), some (.int (nI 2))] [.ref (ad G 45), .int (nI 2), .ref (ad G 41)] 46 (z0, z0l, uf (uf (uf (uf (uf ((uf rX7 0 1 (some 2))) 40 1 (some 41)) 40 3 (some 42)) 40 0 (some 2)) 41 0 (some 43)) 41 1 (some 44))
  refine P.astr (N := 10) (kd := 21) (t0 := 4) (C := RX1) (T := TX1) (ci := 1) (M := 8) (by decide +kernel) (by decide) rfl (by decide) (by decide) (by decide) (by decide) (by decide +kernel) (by decide) rfl dX2_init_47 ?_
  show P G _ _ _ _ 48 [some (.ref (ad G 40)), some (.ref (ad G 2)), some (.int (nI 2))] [] 46 (z0, z0l, uf (uf (uf (uf (uf (uf ((uf rX7 0 1 (some 2))) 40 1 (some 41)) 40 3 (some 42)) 40 0 (some 2)) 41 0 (some 43)) 41 1 (some 44)) 41 2 (some 45))
  refine P.iinc (v := nI 3) dX2_init_48 rfl (inc1 _) (by decide) ?_
  refine P.goto (tgt := 29) dX2_init_51 (by decide) ?_
  show P G _ _ _ _ 29 [some (.ref (ad G 40)), some (.ref (ad G 2)), some (.int (nI 3))] [] 46 (z0, z0l, uf (uf (uf (uf (uf (uf ((uf rX7 0 1 (some 2))) 40 1 (some 41)) 40 3 (some 42)) 40 0 (some 2)) 41 0 (some 43)) 41 1 (some 44)) 41 2 (some 45))
  refine P.iload_n dX2_init_29 rfl rfl ?_
  refine P.bipush (v := nI 10) dX2_init_30 rfl ?_
  refine P.icmp_ge_n (tgt := 54) dX2_init_32 (by decide) (by decide) (by decide) (fun hc => absurd hc (by decide)) (fun hc => ?_)
  refine P.aload_n dX2_init_35 rfl rfl ?_
  refine P.getr (ci := 2) (N := 5) (j := 1) (T := TX2) (q := 41) rfl inX2 (by decide +kernel) (by decide) (by decide) (by decide) rfl rfl fl_X2_11 dX2_init_36 ?_
  refine P.iload_n dX2_init_39 rfl rfl ?_
  refine P.new (ci := 1) (N := 8) (T := TX1) tyX1 tyX1_ok rfl inX1 (by decide +kernel) (by decide) (fun j hj => ?_) cl_X2_9 in_X1 ini_X1 (roo_mk (by decide)) dX2_init_40 ?_
  · rcases (show j = 0 ∨ j = 1 ∨ j = 2 ∨ j = 3 ∨ j = 4 ∨ j = 5 ∨ j = 6 ∨ j = 7 by omega) with rfl | rfl | rfl | rfl | rfl | rfl | rfl | rfl <;> rfl
  refine P.dup dX2_init_43 rfl ?_
  refine P.callIN (As := []) (rest := [.ref (ad G 46), .int (nI 3), .ref (ad G 41)]) (i_X1 (b := 46) (by decide +kernel)) ok_X1_init (fit_mk (by decide) (by decide)) rfl mn_X2_25 rfl (Nat.le_of_ble_eq_true rfl) dX2_init_44 ?_
  show P G _ _ _ _ 47 [some (.ref (ad G 40)), some (.ref (ad G 2)), some (.int (nI 3))] [.ref (ad G 46), .int (nI 3), .ref (ad G 41)] 47 (z0, z0l, uf (uf (uf (uf (uf (uf ((uf rX7 0 1 (some 2))) 40 1 (some 41)) 40 3 (some 42)) 40 0 (some 2)) 41 0 (some 43)) 41 1 (some 44)) 41 2 (some 45))
  refine P.astr (N := 10) (kd := 21) (t0 := 4) (C := RX1) (T := TX1) (ci := 1) (M := 8) (by decide +kernel) (by decide) rfl (by decide) (by decide) (by decide) (by decide) (by decide +kernel) (by decide) rfl dX2_init_47 ?_
  show P G _ _ _ _ 48 [some (.ref (ad G 40)), some (.ref (ad G 2)), some (.int (nI 3))] [] 47 (z0, z0l, uf (uf (uf (uf (uf (uf (uf ((uf rX7 0 1 (some 2))) 40 1 (some 41)) 40 3 (some 42)) 40 0 (some 2)) 41 0 (some 43)) 41 1 (some 44)) 41 2 (some 45)) 41 3 (some 46))
  refine P.iinc (v := nI 4) dX2_init_48 rfl (inc1 _) (by decide) ?_
  refine P.goto (tgt := 29) dX2_init_51 (by decide) ?_
  show P G _ _ _ _ 29 [some (.ref (ad G 40)), some (.ref (ad G 2)), some (.int (nI 4))] [] 47 (z0, z0l, uf (uf (uf (uf (uf (uf (uf ((uf rX7 0 1 (some 2))) 40 1 (some 41)) 40 3 (some 42)) 40 0 (some 2)) 41 0 (some 43)) 41 1 (some 44)) 41 2 (some 45)) 41 3 (some 46))
  refine P.iload_n dX2_init_29 rfl rfl ?_
  refine P.bipush (v := nI 10) dX2_init_30 rfl ?_
  refine P.icmp_ge_n (tgt := 54) dX2_init_32 (by decide) (by decide) (by decide) (fun hc => absurd hc (by decide)) (fun hc => ?_)
  refine P.aload_n dX2_init_35 rfl rfl ?_
  refine P.getr (ci := 2) (N := 5) (j := 1) (T := TX2) (q := 41) rfl inX2 (by decide +kernel) (by decide) (by decide) (by decide) rfl rfl fl_X2_11 dX2_init_36 ?_
  refine P.iload_n dX2_init_39 rfl rfl ?_
  refine P.new (ci := 1) (N := 8) (T := TX1) tyX1 tyX1_ok rfl inX1 (by decide +kernel) (by decide) (fun j hj => ?_) cl_X2_9 in_X1 ini_X1 (roo_mk (by decide)) dX2_init_40 ?_
  · rcases (show j = 0 ∨ j = 1 ∨ j = 2 ∨ j = 3 ∨ j = 4 ∨ j = 5 ∨ j = 6 ∨ j = 7 by omega) with rfl | rfl | rfl | rfl | rfl | rfl | rfl | rfl <;> rfl
  refine P.dup dX2_init_43 rfl ?_
  refine P.callIN (As := []) (rest := [.ref (ad G 47), .int (nI 4), .ref (ad G 41)]) (i_X1 (b := 47) (by decide +kernel)) ok_X1_init (fit_mk (by decide) (by decide)) rfl mn_X2_25 rfl (Nat.le_of_ble_eq_true rfl) dX2_init_44 ?_
  show P G _ _ _ _ 47 [some (.ref (ad G 40)), some (.ref (ad G 2)), some (.int (nI 4))] [.ref (ad G 47), .int (nI 4), .ref (ad G 41)] 48 (z0, z0l, uf (uf (uf (uf (uf (uf (uf ((uf rX7 0 1 (some 2))) 40 1 (some 41)) 40 3 (some 42)) 40 0 (some 2)) 41 0 (some 43)) 41 1 (some 44)) 41 2 (some 45)) 41 3 (some 46))
  refine P.astr (N := 10) (kd := 21) (t0 := 4) (C := RX1) (T := TX1) (ci := 1) (M := 8) (by decide +kernel) (by decide) rfl (by decide) (by decide) (by decide) (by decide) (by decide +kernel) (by decide) rfl dX2_init_47 ?_
  show P G _ _ _ _ 48 [some (.ref (ad G 40)), some (.ref (ad G 2)), some (.int (nI 4))] [] 48 (z0, z0l, uf (uf (uf (uf (uf (uf (uf (uf ((uf rX7 0 1 (some 2))) 40 1 (some 41)) 40 3 (some 42)) 40 0 (some 2)) 41 0 (some 43)) 41 1 (some 44)) 41 2 (some 45)) 41 3 (some 46)) 41 4 (some 47))
  refine P.iinc (v := nI 5) dX2_init_48 rfl (inc1 _) (by decide) ?_
  refine P.goto (tgt := 29) dX2_init_51 (by decide) ?_
  show P G _ _ _ _ 29 [some (.ref (ad G 40)), some (.ref (ad G 2)), some (.int (nI 5))] [] 48 (z0, z0l, uf (uf (uf (uf (uf (uf (uf (uf ((uf rX7 0 1 (some 2))) 40 1 (some 41)) 40 3 (some 42)) 40 0 (some 2)) 41 0 (some 43)) 41 1 (some 44)) 41 2 (some 45)) 41 3 (some 46)) 41 4 (some 47))
  refine P.iload_n dX2_init_29 rfl rfl ?_
  refine P.bipush (v := nI 10) dX2_init_30 rfl ?_
  refine P.icmp_ge_n (tgt := 54) dX2_init_32 (by decide) (by decide) (by decide) (fun hc => absurd hc (by decide)) (fun hc => ?_)
  refine P.aload_n dX2_init_35 rfl rfl ?_
  refine P.getr (ci := 2) (N := 5) (j := 1) (T := TX2) (q := 41) rfl inX2 (by decide +kernel) (by decide) (by decide) (by decide) rfl rfl fl_X2_11 dX2_init_36 ?_
  refine P.iload_n dX2_init_39 rfl rfl ?_
  refine P.new (ci := 1) (N := 8) (T := TX1) tyX1 tyX1_ok rfl inX1 (by decide +kernel) (by decide) (fun j hj => ?_) cl_X2_9 in_X1 ini_X1 (roo_mk (by decide)) dX2_init_40 ?_
  · rcases (show j = 0 ∨ j = 1 ∨ j = 2 ∨ j = 3 ∨ j = 4 ∨ j = 5 ∨ j = 6 ∨ j = 7 by omega) with rfl | rfl | rfl | rfl | rfl | rfl | rfl | rfl <;> rfl
  refine P.dup dX2_init_43 rfl ?_
  refine P.callIN (As := []) (rest := [.ref (ad G 48), .int (nI 5), .ref (ad G 41)]) (i_X1 (b := 48) (by decide +kernel)) ok_X1_init (fit_mk (by decide) (by decide)) rfl mn_X2_25 rfl (Nat.le_of_ble_eq_true rfl) dX2_init_44 ?_
  show P G _ _ _ _ 47 [some (.ref (ad G 40)), some (.ref (ad G 2)), some (.int (nI 5))] [.ref (ad G 48), .int (nI 5), .ref (ad G 41)] 49 (z0, z0l, uf (uf (uf (uf (uf (uf (uf (uf ((uf rX7 0 1 (some 2))) 40 1 (some 41)) 40 3 (some 42)) 40 0 (some 2)) 41 0 (some 43)) 41 1 (some 44)) 41 2 (some 45)) 41 3 (some 46)) 41 4 (some 47))
  refine P.astr (N := 10) (kd := 21) (t0 := 4) (C := RX1) (T := TX1) (ci := 1) (M := 8) (by decide +kernel) (by decide) rfl (by decide) (by decide) (by decide) (by decide) (by decide +kernel) (by decide) rfl dX2_init_47 ?_
  show P G _ _ _ _ 48 [some (.ref (ad G 40)), some (.ref (ad G 2)), some (.int (nI 5))] [] 49 (z0, z0l, uf (uf (uf (uf (uf (uf (uf (uf (uf ((uf rX7 0 1 (some 2))) 40 1 (some 41)) 40 3 (some 42)) 40 0 (some 2)) 41 0 (some 43)) 41 1 (some 44)) 41 2 (some 45)) 41 3 (some 46)) 41 4 (some 47)) 41 5 (some 48))
  refine P.iinc (v := nI 6) dX2_init_48 rfl (inc1 _) (by decide) ?_
  refine P.goto (tgt := 29) dX2_init_51 (by decide) ?_
  show P G _ _ _ _ 29 [some (.ref (ad G 40)), some (.ref (ad G 2)), some (.int (nI 6))] [] 49 (z0, z0l, uf (uf (uf (uf (uf (uf (uf (uf (uf ((uf rX7 0 1 (some 2))) 40 1 (some 41)) 40 3 (some 42)) 40 0 (some 2)) 41 0 (some 43)) 41 1 (some 44)) 41 2 (some 45)) 41 3 (some 46)) 41 4 (some 47)) 41 5 (some 48))
  refine P.iload_n dX2_init_29 rfl rfl ?_
  refine P.bipush (v := nI 10) dX2_init_30 rfl ?_
  refine P.icmp_ge_n (tgt := 54) dX2_init_32 (by decide) (by decide) (by decide) (fun hc => absurd hc (by decide)) (fun hc => ?_)
  refine P.aload_n dX2_init_35 rfl rfl ?_
  refine P.getr (ci := 2) (N := 5) (j := 1) (T := TX2) (q := 41) rfl inX2 (by decide +kernel) (by decide) (by decide) (by decide) rfl rfl fl_X2_11 dX2_init_36 ?_
  refine P.iload_n dX2_init_39 rfl rfl ?_
  refine P.new (ci := 1) (N := 8) (T := TX1) tyX1 tyX1_ok rfl inX1 (by decide +kernel) (by decide) (fun j hj => ?_) cl_X2_9 in_X1 ini_X1 (roo_mk (by decide)) dX2_init_40 ?_
  · rcases (show j = 0 ∨ j = 1 ∨ j = 2 ∨ j = 3 ∨ j = 4 ∨ j = 5 ∨ j = 6 ∨ j = 7 by omega) with rfl | rfl | rfl | rfl | rfl | rfl | rfl | rfl <;> rfl
  refine P.dup dX2_init_43 rfl ?_
  refine P.callIN (As := []) (rest := [.ref (ad G 49), .int (nI 6), .ref (ad G 41)]) (i_X1 (b := 49) (by decide +kernel)) ok_X1_init (fit_mk (by decide) (by decide)) rfl mn_X2_25 rfl (Nat.le_of_ble_eq_true rfl) dX2_init_44 ?_
  show P G _ _ _ _ 47 [some (.ref (ad G 40)), some (.ref (ad G 2)), some (.int (nI 6))] [.ref (ad G 49), .int (nI 6), .ref (ad G 41)] 50 (z0, z0l, uf (uf (uf (uf (uf (uf (uf (uf (uf ((uf rX7 0 1 (some 2))) 40 1 (some 41)) 40 3 (some 42)) 40 0 (some 2)) 41 0 (some 43)) 41 1 (some 44)) 41 2 (some 45)) 41 3 (some 46)) 41 4 (some 47)) 41 5 (some 48))
  refine P.astr (N := 10) (kd := 21) (t0 := 4) (C := RX1) (T := TX1) (ci := 1) (M := 8) (by decide +kernel) (by decide) rfl (by decide) (by decide) (by decide) (by decide) (by decide +kernel) (by decide) rfl dX2_init_47 ?_
  show P G _ _ _ _ 48 [some (.ref (ad G 40)), some (.ref (ad G 2)), some (.int (nI 6))] [] 50 (z0, z0l, uf (uf (uf (uf (uf (uf (uf (uf (uf (uf ((uf rX7 0 1 (some 2))) 40 1 (some 41)) 40 3 (some 42)) 40 0 (some 2)) 41 0 (some 43)) 41 1 (some 44)) 41 2 (some 45)) 41 3 (some 46)) 41 4 (some 47)) 41 5 (some 48)) 41 6 (some 49))
  refine P.iinc (v := nI 7) dX2_init_48 rfl (inc1 _) (by decide) ?_
  refine P.goto (tgt := 29) dX2_init_51 (by decide) ?_
  show P G _ _ _ _ 29 [some (.ref (ad G 40)), some (.ref (ad G 2)), some (.int (nI 7))] [] 50 (z0, z0l, uf (uf (uf (uf (uf (uf (uf (uf (uf (uf ((uf rX7 0 1 (some 2))) 40 1 (some 41)) 40 3 (some 42)) 40 0 (some 2)) 41 0 (some 43)) 41 1 (some 44)) 41 2 (some 45)) 41 3 (some 46)) 41 4 (some 47)) 41 5 (some 48)) 41 6 (some 49))
  refine P.iload_n dX2_init_29 rfl rfl ?_
  refine P.bipush (v := nI 10) dX2_init_30 rfl ?_
  refine P.icmp_ge_n (tgt := 54) dX2_init_32 (by decide) (by decide) (by decide) (fun hc => absurd hc (by decide)) (fun hc => ?_)
  refine P.aload_n dX2_init_35 rfl rfl ?_
  refine P.getr (ci := 2) (N := 5) (j := 1) (T := TX2) (q := 41) rfl inX2 (by decide +kernel) (by decide) (by decide) (by decide) rfl rfl fl_X2_11 dX2_init_36 ?_
  refine P.iload_n dX2_init_39 rfl rfl ?_
  refine P.new (ci := 1) (N := 8) (T := TX1) tyX1 tyX1_ok rfl inX1 (by decide +kernel) (by decide) (fun j hj => ?_) cl_X2_9 in_X1 ini_X1 (roo_mk (by decide)) dX2_init_40 ?_
  · rcases (show j = 0 ∨ j = 1 ∨ j = 2 ∨ j = 3 ∨ j = 4 ∨ j = 5 ∨ j = 6 ∨ j = 7 by omega) with rfl | rfl | rfl | rfl | rfl | rfl | rfl | rfl <;> rfl
  refine P.dup dX2_init_43 rfl ?_
  refine P.callIN (As := []) (rest := [.ref (ad G 50), .int (nI 7), .ref (ad G 41)]) (i_X1 (b := 50) (by decide +kernel)) ok_X1_init (fit_mk (by decide) (by decide)) rfl mn_X2_25 rfl (Nat.le_of_ble_eq_true rfl) dX2_init_44 ?_
  show P G _ _ _ _ 47 [some (.ref (ad G 40)), some (.ref (ad G 2)), some (.int (nI 7))] [.ref (ad G 50), .int (nI 7), .ref (ad G 41)] 51 (z0, z0l, uf (uf (uf (uf (uf (uf (uf (uf (uf (uf ((uf rX7 0 1 (some 2))) 40 1 (some 41)) 40 3 (some 42)) 40 0 (some 2)) 41 0 (some 43)) 41 1 (some 44)) 41 2 (some 45)) 41 3 (some 46)) 41 4 (some 47)) 41 5 (some 48)) 41 6 (some 49))
  refine P.astr (N := 10) (kd := 21) (t0 := 4) (C := RX1) (T := TX1) (ci := 1) (M := 8) (by decide +kernel) (by decide) rfl (by decide) (by decide) (by decide) (by decide) (by decide +kernel) (by decide) rfl dX2_init_47 ?_
  show P G _ _ _ _ 48 [some (.ref (ad G 40)), some (.ref (ad G 2)), some (.int (nI 7))] [] 51 (z0, z0l, uf (uf (uf (uf (uf (uf (uf (uf (uf (uf (uf ((uf rX7 0 1 (some 2))) 40 1 (some 41)) 40 3 (some 42)) 40 0 (some 2)) 41 0 (some 43)) 41 1 (some 44)) 41 2 (some 45)) 41 3 (some 46)) 41 4 (some 47)) 41 5 (some 48)) 41 6 (some 49)) 41 7 (some 50))
  refine P.iinc (v := nI 8) dX2_init_48 rfl (inc1 _) (by decide) ?_
  refine P.goto (tgt := 29) dX2_init_51 (by decide) ?_
  show P G _ _ _ _ 29 [some (.ref (ad G 40)), some (.ref (ad G 2)), some (.int (nI 8))] [] 51 (z0, z0l, uf (uf (uf (uf (uf (uf (uf (uf (uf (uf (uf ((uf rX7 0 1 (some 2))) 40 1 (some 41)) 40 3 (some 42)) 40 0 (some 2)) 41 0 (some 43)) 41 1 (some 44)) 41 2 (some 45)) 41 3 (some 46)) 41 4 (some 47)) 41 5 (some 48)) 41 6 (some 49)) 41 7 (some 50))
  refine P.iload_n dX2_init_29 rfl rfl ?_
  refine P.bipush (v := nI 10) dX2_init_30 rfl ?_
  refine P.icmp_ge_n (tgt := 54) dX2_init_32 (by decide) (by decide) (by decide) (fun hc => absurd hc (by decide)) (fun hc => ?_)
  refine P.aload_n dX2_init_35 rfl rfl ?_
  refine P.getr (ci := 2) (N := 5) (j := 1) (T := TX2) (q := 41) rfl inX2 (by decide +kernel) (by decide) (by decide) (by decide) rfl rfl fl_X2_11 dX2_init_36 ?_
  refine P.iload_n dX2_init_39 rfl rfl ?_
  refine P.new (ci := 1) (N := 8) (T := TX1) tyX1 tyX1_ok rfl inX1 (by decide +kernel) (by decide) (fun j hj => ?_) cl_X2_9 in_X1 ini_X1 (roo_mk (by decide)) dX2_init_40 ?_
  · rcases (show j = 0 ∨ j = 1 ∨ j = 2 ∨ j = 3 ∨ j = 4 ∨ j = 5 ∨ j = 6 ∨ j = 7 by omega) with rfl | rfl | rfl | rfl | rfl | rfl | rfl | rfl <;> rfl
  refine P.dup dX2_init_43 rfl ?_
  refine P.callIN (As := []) (rest := [.ref (ad G 51), .int (nI 8), .ref (ad G 41)]) (i_X1 (b := 51) (by decide +kernel)) ok_X1_init (fit_mk (by decide) (by decide)) rfl mn_X2_25 rfl (Nat.le_of_ble_eq_true rfl) dX2_init_44 ?_
  show P G _ _ _ _ 47 [some (.ref (ad G 40)), some (.ref (ad G 2)), some (.int (nI 8))] [.ref (ad G 51), .int (nI 8), .ref (ad G 41)] 52 (z0, z0l, uf (uf (uf (uf (uf (uf (uf (uf (uf (uf (uf ((uf rX7 0 1 (some 2))) 40 1 (some 41)) 40 3 (some 42)) 40 0 (some 2)) 41 0 (some 43)) 41 1 (some 44)) 41 2 (some 45)) 41 3 (some 46)) 41 4 (some 47)) 41 5 (some 48)) 41 6 (some 49)) 41 7 (some 50))
  refine P.astr (N := 10) (kd := 21) (t0 := 4) (C := RX1) (T := TX1) (ci := 1) (M := 8) (by decide +kernel) (by decide) rfl (by decide) (by decide) (by decide) (by decide) (by decide +kernel) (by decide) rfl dX2_init_47 ?_
  show P G _ _ _ _ 48 [some (.ref (ad G 40)), some (.ref (ad G 2)), some (.int (nI 8))] [] 52 (z0, z0l, uf (uf (uf (uf (uf (uf (uf (uf (uf (uf (uf (uf ((uf rX7 0 1 (some 2))) 40 1 (some 41)) 40 3 (some 42)) 40 0 (some 2)) 41 0 (some 43)) 41 1 (some 44)) 41 2 (some 45)) 41 3 (some 46)) 41 4 (some 47)) 41 5 (some 48)) 41 6 (some 49)) 41 7 (some 50)) 41 8 (some 51))
  refine P.iinc (v := nI 9) dX2_init_48 rfl (inc1 _) (by decide) ?_
  refine P.goto (tgt := 29) dX2_init_51 (by decide) ?_
  show P G _ _ _ _ 29 [some (.ref (ad G 40)), some (.ref (ad G 2)), some (.int (nI 9))] [] 52 (z0, z0l, uf (uf (uf (uf (uf (uf (uf (uf (uf (uf (uf (uf ((uf rX7 0 1 (some 2))) 40 1 (some 41)) 40 3 (some 42)) 40 0 (some 2)) 41 0 (some 43)) 41 1 (some 44)) 41 2 (some 45)) 41 3 (some 46)) 41 4 (some 47)) 41 5 (some 48)) 41 6 (some 49)) 41 7 (some 50)) 41 8 (some 51))
  refine P.iload_n dX2_init_29 rfl rfl ?_
  refine P.bipush (v := nI 10) dX2_init_30 rfl ?_
  refine P.icmp_ge_n (tgt := 54) dX2_init_32 (by decide) (by decide) (by decide) (fun hc => absurd hc (by decide)) (fun hc => ?_)
  refine P.aload_n dX2_init_35 rfl rfl ?_
  refine P.getr (ci := 2) (N := 5) (j := 1) (T := TX2) (q := 41) rfl inX2 (by decide +kernel) (by decide) (by decide) (by decide) rfl rfl fl_X2_11 dX2_init_36 ?_
  refine P.iload_n dX2_init_39 rfl rfl ?_
  refine P.new (ci := 1) (N := 8) (T := TX1) tyX1 tyX1_ok rfl inX1 (by decide +kernel) (by decide) (fun j hj => ?_) cl_X2_9 in_X1 ini_X1 (roo_mk (by decide)) dX2_init_40 ?_
  · rcases (show j = 0 ∨ j = 1 ∨ j = 2 ∨ j = 3 ∨ j = 4 ∨ j = 5 ∨ j = 6 ∨ j = 7 by omega) with rfl | rfl | rfl | rfl | rfl | rfl | rfl | rfl <;> rfl
  refine P.dup dX2_init_43 rfl ?_
  refine P.callIN (As := []) (rest := [.ref (ad G 52), .int (nI 9), .ref (ad G 41)]) (i_X1 (b := 52) (by decide +kernel)) ok_X1_init (fit_mk (by decide) (by decide)) rfl mn_X2_25 rfl (Nat.le_of_ble_eq_true rfl) dX2_init_44 ?_
  show P G _ _ _ _ 47 [some (.ref (ad G 40)), some (.ref (ad G 2)), some (.int (nI 9))] [.ref (ad G 52), .int (nI 9), .ref (ad G 41)] 53 (z0, z0l, uf (uf (uf (uf (uf (uf (uf (uf (uf (uf (uf (uf ((uf rX7 0 1 (some 2))) 40 1 (some 41)) 40 3 (some 42)) 40 0 (some 2)) 41 0 (some 43)) 41 1 (some 44)) 41 2 (some 45)) 41 3 (some 46)) 41 4 (some 47)) 41 5 (some 48)) 41 6 (some 49)) 41 7 (some 50)) 41 8 (some 51))
  refine P.astr (N := 10) (kd := 21) (t0 := 4) (C := RX1) (T := TX1) (ci := 1) (M := 8) (by decide +kernel) (by decide) rfl (by decide) (by decide) (by decide) (by decide) (by decide +kernel) (by decide) rfl dX2_init_47 ?_
  show P G _ _ _ _ 48 [some (.ref (ad G 40)), some (.ref (ad G 2)), some (.int (nI 9))] [] 53 (z0, z0l, uf (uf (uf (uf (uf (uf (uf (uf (uf (uf (uf (uf (uf ((uf rX7 0 1 (some 2))) 40 1 (some 41)) 40 3 (some 42)) 40 0 (some 2)) 41 0 (some 43)) 41 1 (some 44)) 41 2 (some 45)) 41 3 (some 46)) 41 4 (some 47)) 41 5 (some 48)) 41 6 (some 49)) 41 7 (some 50)) 41 8 (some 51)) 41 9 (some 52))
  refine P.iinc (v := nI 10) dX2_init_48 rfl (inc1 _) (by decide) ?_
  refine P.goto (tgt := 29) dX2_init_51 (by decide) ?_
  show P G _ _ _ _ 29 [some (.ref (ad G 40)), some (.ref (ad G 2)), some (.int (nI 10))] [] 53 (z0, z0l, uf (uf (uf (uf (uf (uf (uf (uf (uf (uf (uf (uf (uf ((uf rX7 0 1 (some 2))) 40 1 (some 41)) 40 3 (some 42)) 40 0 (some 2)) 41 0 (some 43)) 41 1 (some 44)) 41 2 (some 45)) 41 3 (some 46)) 41 4 (some 47)) 41 5 (some 48)) 41 6 (some 49)) 41 7 (some 50)) 41 8 (some 51)) 41 9 (some 52))
  refine P.iload_n dX2_init_29 rfl rfl ?_
  refine P.bipush (v := nI 10) dX2_init_30 rfl ?_
  refine P.icmp_ge_n (tgt := 54) dX2_init_32 (by decide) (by decide) (by decide) (fun hc => ?_) (fun hc => absurd hc (by decide))
  exact P.vret rfl dX2_init_54 rfl
def rX3 : Nat → Nat → Option Nat := uf (uf (uf (uf (uf ((uf rX2 0 2 (some 40))) 53 2 (some 54)) 53 5 (some 55)) 53 6 (some 56)) 53 0 (some 2)) 53 1 (some 40)
set_option maxRecDepth 20000 in
theorem i_X3 {G : GG} : Spec G mX3_init [.ref (ad G 53), .ref (ad G 2), .ref (ad G 40)] 54 (z0, z0l, (uf rX2 0 2 (some 40))) none 57 (z0, z0l, rX3) := by
  refine Spec.of ok_X3_init.1 ⟨by omega, szs_le (by omega)⟩ (Nat.le_of_ble_eq_true rfl) ?_
  show P G RX3 cX3_init 3 (KM G mX3_init 54 57 none (z0, z0l, rX3)) 0 [some (.ref (ad G 53)), some (.ref (ad G 2)), some (.ref (ad G 40))] [] 54 (z0, z0l, (uf rX2 0 2 (some 40)))
  refine P.aload_n dX3_init_0 rfl rfl ?_
  refine P.objInit ml_X3_3 (obj_mk (by decide)) (Nat.le_of_ble_eq_true rfl) dX3_init_1 ?_
  show P G _ _ _ _ 4 [some (.ref (ad G 53)), some (.ref (ad G 2)), some (.ref (ad G 40))] [] 54 (z0, z0l, (uf rX2 0 2 (some 40)))
  refine P.aload_n dX3_init_4 rfl rfl ?_
  refine P.sipush (v := nI 4096) dX3_init_5 rfl ?_
  refine P.newI (N := 4096) (by decide +kernel) (Nat.le_of_ble_eq_true rfl) (fun _ => rfl) (roo_mk (by decide)) dX3_init_8 ?_
  refine P.putr (ci := 3) (N := 7) (j := 2) (T := TX3) (q := 54) tyX3 tyX3_ok nmX3 rfl inX3 (by decide +kernel) (by decide) (by decide) (by decide) rfl (fun _ _ _ h => h.2) rfl (tyX3_ok 2 (by decide)) rfl (fun _ => ⟨rfl, rfl⟩) fl_X3_9 dX3_init_10 ?_
  show P G _ _ _ _ 13 [some (.ref (ad G 53)), some (.ref (ad G 2)), some (.ref (ad G 40))] [] 55 (z0, z0l, uf ((uf rX2 0 2 (some 40))) 53 2 (some 54))
  refine P.aload_n dX3_init_13 rfl rfl ?_
  refine P.sipush (v := nI 4096) dX3_init_14 rfl ?_
  refine P.newZ (N := 4096) (by decide +kernel) (Nat.le_of_ble_eq_true rfl) (fun _ => rfl) (roo_mk (by decide)) dX3_init_17 ?_
  refine P.putr (ci := 3) (N := 7) (j := 5) (T := TX3) (q := 55) tyX3 tyX3_ok nmX3 rfl inX3 (by decide +kernel) (by decide) (by decide) (by decide) rfl (fun _ _ _ h => h.2) rfl (tyX3_ok 5 (by decide)) rfl (fun _ => ⟨rfl, rfl⟩) fl_X3_15 dX3_init_19 ?_
  show P G _ _ _ _ 22 [some (.ref (ad G 53)), some (.ref (ad G 2)), some (.ref (ad G 40))] [] 56 (z0, z0l, uf (uf ((uf rX2 0 2 (some 40))) 53 2 (some 54)) 53 5 (some 55))
  refine P.aload_n dX3_init_22 rfl rfl ?_
  refine P.sipush (v := nI 4096) dX3_init_23 rfl ?_
  refine P.newZ (N := 4096) (by decide +kernel) (Nat.le_of_ble_eq_true rfl) (fun _ => rfl) (roo_mk (by decide)) dX3_init_26 ?_
  refine P.putr (ci := 3) (N := 7) (j := 6) (T := TX3) (q := 56) tyX3 tyX3_ok nmX3 rfl inX3 (by decide +kernel) (by decide) (by decide) (by decide) rfl (fun _ _ _ h => h.2) rfl (tyX3_ok 6 (by decide)) rfl (fun _ => ⟨rfl, rfl⟩) fl_X3_19 dX3_init_28 ?_
  show P G _ _ _ _ 31 [some (.ref (ad G 53)), some (.ref (ad G 2)), some (.ref (ad G 40))] [] 57 (z0, z0l, uf (uf (uf ((uf rX2 0 2 (some 40))) 53 2 (some 54)) 53 5 (some 55)) 53 6 (some 56))
  refine P.aload_n dX3_init_31 rfl rfl ?_
  refine P.aload_n dX3_init_32 rfl rfl ?_
  refine P.putr (ci := 3) (N := 7) (j := 0) (T := TX3) (q := 2) tyX3 tyX3_ok nmX3 rfl inX3 (by decide +kernel) (by decide) (by decide) (by decide) rfl (fun _ _ _ h => h.2) rfl (tyX3_ok 0 (by decide)) rfl (fun _ => ⟨rfl, rfl⟩) fl_X3_22 dX3_init_33 ?_
  show P G _ _ _ _ 36 [some (.ref (ad G 53)), some (.ref (ad G 2)), some (.ref (ad G 40))] [] 57 (z0, z0l, uf (uf (uf (uf ((uf rX2 0 2 (some 40))) 53 2 (some 54)) 53 5 (some 55)) 53 6 (some 56)) 53 0 (some 2))
  refine P.aload_n dX3_init_36 rfl rfl ?_
  refine P.aload_n dX3_init_37 rfl rfl ?_
  refine P.putr (ci := 3) (N := 7) (j := 1) (T := TX3) (q := 40) tyX3 tyX3_ok nmX3 rfl inX3 (by decide +kernel) (by decide) (by decide) (by decide) rfl (fun _ _ _ h => h.2) rfl (tyX3_ok 1 (by decide)) rfl (fun _ => ⟨rfl, rfl⟩) fl_X3_26 dX3_init_38 ?_
  show P G _ _ _ _ 41 [some (.ref (ad G 53)), some (.ref (ad G 2)), some (.ref (ad G 40))] [] 57 (z0, z0l, uf (uf (uf (uf (uf ((uf rX2 0 2 (some 40))) 53 2 (some 54)) 53 5 (some 55)) 53 6 (some 56)) 53 0 (some 2)) 53 1 (some 40))
  exact P.vret rfl dX3_init_41 rfl
def rX5 : Nat → Nat → Option Nat := uf (uf (uf (uf (uf (uf (uf (uf (uf (uf (uf (uf (uf (uf (uf (uf (uf (uf (uf (uf (uf ((uf rX3 0 3 (some 53))) 57 1 (some 58)) 57 3 (some 59)) 57 5 (some 60)) 57 6 (some 61)) 57 7 (some 62)) 57 0 (some 2)) 63 0 (some 64)) 63 1 (some 65)) 58 0 (some 63)) 66 0 (some 67)) 66 1 (some 68)) 58 1 (some 66)) 69 0 (some 70)) 69 1 (some 71)) 58 2 (some 69)) 59 0 (some 72)) 59 1 (some 73)) 59 2 (some 74)) 59 3 (some 75)) 59 4 (some 76)) 59 5 (some 77)
set_option maxRecDepth 20000 in
theorem i_X5 {G : GG} : Spec G mX5_init [.ref (ad G 57), .ref (ad G 2)] 58 (z0, z0l, (uf rX3 0 3 (some 53))) none 78 (z0, z0l, rX5) := by
  refine Spec.of ok_X5_init.1 ⟨by omega, szs_le (by omega)⟩ (Nat.le_of_ble_eq_true rfl) ?_
  show P G RX5 cX5_init 3 (KM G mX5_init 58 78 none (z0, z0l, rX5)) 0 [some (.ref (ad G 57)), some (.ref (ad G 2)), none] [] 58 (z0, z0l, (uf rX3 0 3 (some 53)))
  refine P.aload_n dX5_init_0 rfl rfl ?_
  refine P.objInit ml_X5_3 (obj_mk (by decide)) (Nat.le_of_ble_eq_true rfl) dX5_init_1 ?_
  show P G _ _ _ _ 4 [some (.ref (ad G 57)), some (.ref (ad G 2)), none] [] 58 (z0, z0l, (uf rX3 0 3 (some 53)))
  refine P.aload_n dX5_init_4 rfl rfl ?_
  refine P.iconst dX5_init_5 ic_3 ?_
  refine P.newR (N := 3) (kd := 24) (t0 := 5) (C := RX4) (by decide +kernel) (by decide) rfl (Nat.le_of_ble_eq_true rfl) (fun _ => rfl) (by simp [overs]) cl_X5_9 (roo_mk (by decide)) dX5_init_6 ?_
  refine P.putr (ci := 5) (N := 8) (j := 1) (T := TX5) (q := 58) tyX5 tyX5_ok nmX5 rfl inX5 (by decide +kernel) (by decide) (by decide) (by decide) rfl (fun _ _ _ h => h.2) rfl (tyX5_ok 1 (by decide)) rfl (fun _ => ⟨rfl, rfl⟩) fl_X5_11 dX5_init_9 ?_
  show P G _ _ _ _ 12 [some (.ref (ad G 57)), some (.ref (ad G 2)), none] [] 59 (z0, z0l, uf ((uf rX3 0 3 (some 53))) 57 1 (some 58))
  refine P.aload_n dX5_init_12 rfl rfl ?_
  refine P.bipush (v := nI 6) dX5_init_13 rfl ?_
  refine P.newR (N := 6) (kd := 20) (t0 := 3) (C := RX0) (by decide +kernel) (by decide) rfl (Nat.le_of_ble_eq_true rfl) (fun _ => rfl) (by simp [overs]) cl_X5_17 (roo_mk (by decide)) dX5_init_15 ?_
  refine P.putr (ci := 5) (N := 8) (j := 3) (T := TX5) (q := 59) tyX5 tyX5_ok nmX5 rfl inX5 (by decide +kernel) (by decide) (by decide) (by decide) rfl (fun _ _ _ h => h.2) rfl (tyX5_ok 3 (by decide)) rfl (fun _ => ⟨rfl, rfl⟩) fl_X5_19 dX5_init_18 ?_
  show P G _ _ _ _ 21 [some (.ref (ad G 57)), some (.ref (ad G 2)), none] [] 60 (z0, z0l, uf (uf ((uf rX3 0 3 (some 53))) 57 1 (some 58)) 57 3 (some 59))
  refine P.aload_n dX5_init_21 rfl rfl ?_
  refine P.iconst dX5_init_22 ic_3 ?_
  refine P.newI (N := 3) (by decide +kernel) (Nat.le_of_ble_eq_true rfl) (fun _ => rfl) (roo_mk (by decide)) dX5_init_23 ?_
  refine P.putr (ci := 5) (N := 8) (j := 5) (T := TX5) (q := 60) tyX5 tyX5_ok nmX5 rfl inX5 (by decide +kernel) (by decide) (by decide) (by decide) rfl (fun _ _ _ h => h.2) rfl (tyX5_ok 5 (by decide)) rfl (fun _ => ⟨rfl, rfl⟩) fl_X5_23 dX5_init_25 ?_
  show P G _ _ _ _ 28 [some (.ref (ad G 57)), some (.ref (ad G 2)), none] [] 61 (z0, z0l, uf (uf (uf ((uf rX3 0 3 (some 53))) 57 1 (some 58)) 57 3 (some 59)) 57 5 (some 60))
  refine P.aload_n dX5_init_28 rfl rfl ?_
  refine P.iconst dX5_init_29 ic_3 ?_
  refine P.newI (N := 3) (by decide +kernel) (Nat.le_of_ble_eq_true rfl) (fun _ => rfl) (roo_mk (by decide)) dX5_init_30 ?_
  refine P.putr (ci := 5) (N := 8) (j := 6) (T := TX5) (q := 61) tyX5 tyX5_ok nmX5 rfl inX5 (by decide +kernel) (by decide) (by decide) (by decide) rfl (fun _ _ _ h => h.2) rfl (tyX5_ok 6 (by decide)) rfl (fun _ => ⟨rfl, rfl⟩) fl_X5_27 dX5_init_32 ?_
  show P G _ _ _ _ 35 [some (.ref (ad G 57)), some (.ref (ad G 2)), none] [] 62 (z0, z0l, uf (uf (uf (uf ((uf rX3 0 3 (some 53))) 57 1 (some 58)) 57 3 (some 59)) 57 5 (some 60)) 57 6 (some 61))
  refine P.aload_n dX5_init_35 rfl rfl ?_
  refine P.sipush (v := nI 4096) dX5_init_36 rfl ?_
  refine P.newZ (N := 4096) (by decide +kernel) (Nat.le_of_ble_eq_true rfl) (fun _ => rfl) (roo_mk (by decide)) dX5_init_39 ?_
  refine P.putr (ci := 5) (N := 8) (j := 7) (T := TX5) (q := 62) tyX5 tyX5_ok nmX5 rfl inX5 (by decide +kernel) (by decide) (by decide) (by decide) rfl (fun _ _ _ h => h.2) rfl (tyX5_ok 7 (by decide)) rfl (fun _ => ⟨rfl, rfl⟩) fl_X5_30 dX5_init_41 ?_
  show P G _ _ _ _ 44 [some (.ref (ad G 57)), some (.ref (ad G 2)), none] [] 63 (z0, z0l, uf (uf (uf (uf (uf ((uf rX3 0 3 (some 53))) 57 1 (some 58)) 57 3 (some 59)) 57 5 (some 60)) 57 6 (some 61)) 57 7 (some 62))
  refine P.aload_n dX5_init_44 rfl rfl ?_
  refine P.aload_n dX5_init_45 rfl rfl ?_
  refine P.putr (ci := 5) (N := 8) (j := 0) (T := TX5) (q := 2) tyX5 tyX5_ok nmX5 rfl inX5 (by decide +kernel) (by decide) (by decide) (by decide) rfl (fun _ _ _ h => h.2) rfl (tyX5_ok 0 (by decide)) rfl (fun _ => ⟨rfl, rfl⟩) fl_X5_34 dX5_init_46 ?_
  show P G _ _ _ _ 49 [some (.ref (ad G 57)), some (.ref (ad G 2)), none] [] 63 (z0, z0l, uf (uf (uf (uf (uf (uf ((uf rX3 0 3 (some 53))) 57 1 (some 58)) 57 3 (some 59)) 57 5 (some 60)) 57 6 (some 61)) 57 7 (some 62)) 57 0 (some 2))
  refine P.iconst dX5_init_49 ic_0 ?_
  refine P.istore_n dX5_init_50 rfl (by decide) ?_
  refine P.iload_n dX5_init_51 rfl rfl ?_
  refine P.iconst dX5_init_52 ic_3 ?_
  refine P.icmp_ge_n (tgt := 75) dX5_init_53 (by decide) (by decide) (by decide) (fun hc => absurd hc (by decide)) (fun hc => ?_)
  refine P.aload_n dX5_init_56 rfl rfl ?_
  refine P.getr (ci := 5) (N := 8) (j := 1) (T := TX5) (q := 58) rfl inX5 (by decide +kernel) (by decide) (by decide) (by decide) rfl rfl fl_X5_11 dX5_init_57 ?_
  refine P.iload_n dX5_init_60 rfl rfl ?_
  refine P.new (ci := 4) (N := 3) (T := TX4) tyX4 tyX4_ok rfl inX4 (by decide +kernel) (by decide) (fun j hj => ?_) cl_X5_9 in_X4 ini_X4 (roo_mk (by decide)) dX5_init_61 ?_
  · rcases (show j = 0 ∨ j = 1 ∨ j = 2 by omega) with rfl | rfl | rfl <;> rfl
  refine P.dup dX5_init_64 rfl ?_
  refine P.callIN (As := []) (rest := [.ref (ad G 63), .int (nI 0), .ref (ad G 58)]) (i_X4 (b := 63) (by decide +kernel) (by decide +kernel) (by decide +kernel)) ok_X4_init (fit_mk (by decide) (by decide)) rfl mn_X5_38 rfl (Nat.le_of_ble_eq_true rfl) dX5_init_65 ?_
  show P G _ _ _ _ 68 [some (.ref (ad G 57)), some (.ref (ad G 2)), some (.int (nI 0))] [.ref (ad G 63), .int (nI 0), .ref (ad G 58)] 66 (z0, z0l, uf (uf (uf (uf (uf (uf (uf (uf ((uf rX3 0 3 (some 53))) 57 1 (some 58)) 57 3 (some 59)) 57 5 (some 60)) 57 6 (some 61)) 57 7 (some 62)) 57 0 (some 2)) 63 0 (some 64)) 63 1 (some 65))
  refine P.astr (N := 3) (kd := 24) (t0 := 5) (C := RX4) (T := TX4) (ci := 4) (M := 3) (by decide +kernel) (by decide) rfl (by decide) (by decide) (by decide) (by decide) (by decide +kernel) (by decide) rfl dX5_init_68 ?_
  show P G _ _ _ _ 69 [some (.ref (ad G 57)), some (.ref (ad G 2)), some (.int (nI 0))] [] 66 (z0, z0l, uf (uf (uf (uf (uf (uf (uf (uf (uf ((uf rX3 0 3 (some 53))) 57 1 (some 58)) 57 3 (some 59)) 57 5 (some 60)) 57 6 (some 61)) 57 7 (some 62)) 57 0 (some 2)) 63 0 (some 64)) 63 1 (some 65)) 58 0 (some 63))
  refine P.iinc (v := nI 1) dX5_init_69 rfl (inc1 _) (by decide) ?_
  refine P.goto (tgt := 51) dX5_init_72 (by decide) ?_
  show P G _ _ _ _ 51 [some (.ref (ad G 57)), some (.ref (ad G 2)), some (.int (nI 1))] [] 66 (z0, z0l, uf (uf (uf (uf (uf (uf (uf (uf (uf ((uf rX3 0 3 (some 53))) 57 1 (some 58)) 57 3 (some 59)) 57 5 (some 60)) 57 6 (some 61)) 57 7 (some 62)) 57 0 (some 2)) 63 0 (some 64)) 63 1 (some 65)) 58 0 (some 63))
  refine P.iload_n dX5_init_51 rfl rfl ?_
  refine P.iconst dX5_init_52 ic_3 ?_
  refine P.icmp_ge_n (tgt := 75) dX5_init_53 (by decide) (by decide) (by decide) (fun hc => absurd hc (by decide)) (fun hc => ?_)
  refine P.aload_n dX5_init_56 rfl rfl ?_
  refine P.getr (ci := 5) (N := 8) (j := 1) (T := TX5) (q := 58) rfl inX5 (by decide +kernel) (by decide) (by decide) (by decide) rfl rfl fl_X5_11 dX5_init_57 ?_
  refine P.iload_n dX5_init_60 rfl rfl ?_
  refine P.new (ci := 4) (N := 3) (T := TX4) tyX4 tyX4_ok rfl inX4 (by decide +kernel) (by decide) (fun j hj => ?_) cl_X5_9 in_X4 ini_X4 (roo_mk (by decide)) dX5_init_61 ?_
  · rcases (show j = 0 ∨ j = 1 ∨ j = 2 by omega) with rfl | rfl | rfl <;> rfl
  refine P.dup dX5_init_64 rfl ?_
  refine P.callIN (As := []) (rest := [.ref (ad G 66), .int (nI 1), .ref (ad G 58)]) (i_X4 (b := 66) (by decide +kernel) (by decide +kernel) (by decide +kernel)) ok_X4_init (fit_mk (by decide) (by decide)) rfl mn_X5_38 rfl (Nat.le_of_ble_eq_true rfl) dX5_init_65 ?_
  show P G _ _ _ _ 68 [some (.ref (ad G 57)), some (.ref (ad G 2)), some (.int (nI 1))] [.ref (ad G 66), .int (nI 1), .ref (ad G 58)] 69 (z0, z0l, uf (uf (uf (uf (uf (uf (uf (uf (uf (uf (uf ((uf rX3 0 3 (some 53))) 57 1 (some 58)) 57 3 (some 59)) 57 5 (some 60)) 57 6 (some 61)) 57 7 (some 62)) 57 0 (some 2)) 63 0 (some 64)) 63 1 (some 65)) 58 0 (some 63)) 66 0 (some 67)) 66 1 (some 68))
  refine P.astr (N := 3) (kd := 24) (t0 := 5) (C := RX4) (T := TX4) (ci := 4) (M := 3) (by decide +kernel) (by decide) rfl (by decide) (by decide) (by decide) (by decide) (by decide +kernel) (by decide) rfl dX5_init_68 ?_
  show P G _ _ _ _ 69 [some (.ref (ad G 57)), some (.ref (ad G 2)), some (.int (nI 1))] [] 69 (z0, z0l, uf (uf (uf (uf (uf (uf (uf (uf (uf (uf (uf (uf ((uf rX3 0 3 (some 53))) 57 1 (some 58)) 57 3 (some 59)) 57 5 (some 60)) 57 6 (some 61)) 57 7 (some 62)) 57 0 (some 2)) 63 0 (some 64)) 63 1 (some 65)) 58 0 (some 63)) 66 0 (some 67)) 66 1 (some 68)) 58 1 (some 66))
  refine P.iinc (v := nI 2) dX5_init_69 rfl (inc1 _) (by decide) ?_
  refine P.goto (tgt := 51) dX5_init_72 (by decide) ?_
  show P G _ _ _ _ 51 [some (.ref (ad G 57)), some (.ref (ad G 2)), some (.int (nI 2))] [] 69 (z0, z0l, uf (uf (uf (uf (uf (uf (uf (uf (uf (uf (uf (uf ((uf rX3 0 3 (some 53))) 57 1 (some 58)) 57 3 (some 59)) 57 5 (some 60)) 57 6 (some 61)) 57 7 (some 62)) 57 0 (some 2)) 63 0 (some 64)) 63 1 (some 65)) 58 0 (some 63)) 66 0 (some 67)) 66 1 (some 68)) 58 1 (some 66))
  refine P.iload_n dX5_init_51 rfl rfl ?_
  refine P.iconst dX5_init_52 ic_3 ?_
  refine P.icmp_ge_n (tgt := 75) dX5_init_53 (by decide) (by decide) (by decide) (fun hc => absurd hc (by decide)) (fun hc => ?_)
  refine P.aload_n dX5_init_56 rfl rfl ?_
  refine P.getr (ci := 5) (N := 8) (j := 1) (T := TX5) (q := 58) rfl inX5 (by decide +kernel) (by decide) (by decide) (by decide) rfl rfl fl_X5_11 dX5_init_57 ?_
  refine P.iload_n dX5_init_60 rfl rfl ?_
  refine P.new (ci := 4) (N := 3) (T := TX4) tyX4 tyX4_ok rfl inX4 (by decide +kernel) (by decide) (fun j hj => ?_) cl_X5_9 in_X4 ini_X4 (roo_mk (by decide)) dX5_init_61 ?_
  · rcases (show j = 0 ∨ j = 1 ∨ j = 2 by omega) with rfl | rfl | rfl <;> rfl
  refine P.dup dX5_init_64 rfl ?_
  refine P.callIN (As := []) (rest := [.ref (ad G 69), .int (nI 2), .ref (ad G 58)]) (i_X4 (b := 69) (by decide +kernel) (by decide +kernel) (by decide +kernel)) ok_X4_init (fit_mk (by decide) (by decide)) rfl mn_X5_38 rfl (Nat.le_of_ble_eq_true rfl) dX5_init_65 ?_
  show P G _ _ _ _ 68 [some (.ref (ad G 57)), some (.ref (ad G 2)), some (.int (nI 2))] [.ref (ad G 69), .int (nI 2), .ref (ad G 58)] 72 (z0, z0l, uf (uf (uf (uf (uf (uf (uf (uf (uf (uf (uf (uf (uf (uf ((uf rX3 0 3 (some 53))) 57 1 (some 58)) 57 3 (some 59)) 57 5 (some 60)) 57 6 (some 61)) 57 7 (some 62)) 57 0 (some 2)) 63 0 (some 64)) 63 1 (some 65)) 58 0 (some 63)) 66 0 (some 67)) 66 1 (some 68)) 58 1 (some 66)) 69 0 (some 70)) 69 1 (some 71))
  refine P.astr (N := 3) (kd := 24) (t0 := 5) (C := RX4) (T := TX4) (ci := 4) (M := 3) (by decide +kernel) (by decide) rfl (by decide) (by decide) (by decide) (by decide) (by decide +kernel) (by decide) rfl dX5_init_68 ?_
  show P G _ _ _ _ 69 [some (.ref (ad G 57)), some (.ref (ad G 2)), some (.int (nI 2))] [] 72 (z0, z0l, uf (uf (uf (uf (uf (uf (uf (uf (uf (uf (uf (uf (uf (uf (uf ((uf rX3 0 3 (some 53))) 57 1 (some 58)) 57 3 (some 59)) 57 5 (some 60)) 57 6 (some 61)) 57 7 (some 62)) 57 0 (some 2)) 63 0 (some 64)) 63 1 (some 65)) 58 0 (some 63)) 66 0 (some 67)) 66 1 (some 68)) 58 1 (some 66)) 69 0 (some 70)) 69 1 (some 71)) 58 2 (some 69))
  refine P.iinc (v := nI 3) dX5_init_69 rfl (inc1 _) (by decide) ?_
  refine P.goto (tgt := 51) dX5_init_72 (by decide) ?_
  show P G _ _ _ _ 51 [some (.ref (ad G 57)), some (.ref (ad G 2)), some (.int (nI 3))] [] 72 (z0, z0l, uf (uf (uf (uf (uf (uf (uf (uf (uf (uf (uf (uf (uf (uf (uf ((uf rX3 0 3 (some 53))) 57 1 (some 58)) 57 3 (some 59)) 57 5 (some 60)) 57 6 (some 61)) 57 7 (some 62)) 57 0 (some 2)) 63 0 (some 64)) 63 1 (some 65)) 58 0 (some 63)) 66 0 (some 67)) 66 1 (some 68)) 58 1 (some 66)) 69 0 (some 70)) 69 1 (some 71)) 58 2 (some 69))
  refine P.iload_n dX5_init_51 rfl rfl ?_
  refine P.iconst dX5_init_52 ic_3 ?_
  refine P.icmp_ge_n (tgt := 75) dX5_init_53 (by decide) (by decide) (by decide) (fun hc => ?_) (fun hc => absurd hc (by decide))
  refine P.iconst dX5_init_75 ic_0 ?_
  refine P.istore_n dX5_init_76 rfl (by decide) ?_
  refine P.iload_n dX5_init_77 rfl rfl ?_
  refine P.bipush (v := nI 6) dX5_init_78 rfl ?_
  refine P.icmp_ge_n (tgt := 102) dX5_init_80 (by decide) (by decide) (by decide) (fun hc => absurd hc (by decide)) (fun hc => ?_)
  refine P.aload_n dX5_init_83 rfl rfl ?_
  refine P.getr (ci := 5) (N := 8) (j := 3) (T := TX5) (q := 59) rfl inX5 (by decide +kernel) (by decide) (by decide) (by decide) rfl rfl fl_X5_19 dX5_init_84 ?_
  refine P.iload_n dX5_init_87 rfl rfl ?_
  refine P.new (ci := 0) (N := 4) (T := TX0) tyX0 tyX0_ok rfl inX0 (by decide +kernel) (by decide) (fun j hj => ?_) cl_X5_17 in_X0 ini_X0 (roo_mk (by decide)) dX5_init_88 ?_
  · rcases (show j = 0 ∨ j = 1 ∨ j = 2 ∨ j = 3 by omega) with rfl | rfl | rfl | rfl <;> rfl
  refine P.dup dX5_init_91 rfl ?_
  refine P.callIN (As := []) (rest := [.ref (ad G 72), .int (nI 0), .ref (ad G 59)]) (i_X0 (b := 72) (by decide +kernel)) ok_X0_init (fit_mk (by decide) (by decide)) rfl mn_X5_39 rfl (Nat.le_of_ble_eq_true rfl) dX5_init_92 ?_
  show P G _ _ _ _ 95 [some (.ref (ad G 57)), some (.ref (ad G 2)), some (.int (nI 0))] [.ref (ad G 72), .int (nI 0), .ref (ad G 59)] 73 (z0, z0l, uf (uf (uf (uf (uf (uf (uf (uf (uf (uf (uf (uf (uf (uf (uf ((uf rX3 0 3 (some 53))) 57 1 (some 58)) 57 3 (some 59)) 57 5 (some 60)) 57 6 (some 61)) 57 7 (some 62)) 57 0 (some 2)) 63 0 (some 64)) 63 1 (some 65)) 58 0 (some 63)) 66 0 (some 67)) 66 1 (some 68)) 58 1 (some 66)) 69 0 (some 70)) 69 1 (some 71)) 58 2 (some 69))
  refine P.astr (N := 6) (kd := 20) (t0 := 3) (C := RX0) (T := TX0) (ci := 0) (M := 4) (by decide +kernel) (by decide) rfl (by decide) (by decide) (by decide) (by decide) (by decide +kernel) (by decide) rfl dX5_init_95 ?_
  show P G _ _ _ _ 96 [some (.ref (ad G 57)), some (.ref (ad G 2)), some (.int (nI 0))] [] 73 (z0, z0l, uf (uf (uf (uf (uf (uf (uf (uf (uf (uf (uf (uf (uf (uf (uf (uf ((uf rX3 0 3 (some 53))) 57 1 (some 58)) 57 3 (some 59)) 57 5 (some 60)) 57 6 (some 61)) 57 7 (some 62)) 57 0 (some 2)) 63 0 (some 64)) 63 1 (some 65)) 58 0 (some 63)) 66 0 (some 67)) 66 1 (some 68)) 58 1 (some 66)) 69 0 (some 70)) 69 1 (some 71)) 58 2 (some 69)) 59 0 (some 72))
  refine P.iinc (v := nI 1) dX5_init_96 rfl (inc1 _) (by decide) ?_
  refine P.goto (tgt := 77) dX5_init_99 (by decide) ?_
  show P G _ _ _ _ 77 [some (.ref (ad G 57)), some (.ref (ad G 2)), some (.int (nI 1))] [] 73 (z0, z0l, uf (uf (uf (uf (uf (uf (uf (uf (uf (uf (uf (uf (uf (uf (uf (uf ((uf rX3 0 3 (some 53))) 57 1 (some 58)) 57 3 (some 59)) 57 5 (some 60)) 57 6 (some 61)) 57 7 (some 62)) 57 0 (some 2)) 63 0 (some 64)) 63 1 (some 65)) 58 0 (some 63)) 66 0 (some 67)) 66 1 (some 68)) 58 1 (some 66)) 69 0 (some 70)) 69 1 (some 71)) 58 2 (some 69)) 59 0 (some 72))
  refine P.iload_n dX5_init_77 rfl rfl ?_
  refine P.bipush (v := nI 6) dX5_init_78 rfl ?_
  refine P.icmp_ge_n (tgt := 102) dX5_init_80 (by decide) (by decide) (by decide) (fun hc => absurd hc (by decide)) (fun hc => ?_)
  refine P.aload_n dX5_init_83 rfl rfl ?_
  refine P.getr (ci := 5) (N := 8) (j := 3) (T := TX5) (q := 59) rfl inX5 (by decide +kernel) (by decide) (by decide) (by decide) rfl rfl fl_X5_19 dX5_init_84 ?_
  refine P.iload_n dX5_init_87 rfl rfl ?_
  refine P.new (ci := 0) (N := 4) (T := TX0) tyX0 tyX0_ok rfl inX0 (by decide +kernel) (by decide) (fun j hj => ?_) cl_X5_17 in_X0 ini_X0 (roo_mk (by decide)) dX5_init_88 ?_
  · rcases (show j = 0 ∨ j = 1 ∨ j = 2 ∨ j = 3 by omega) with rfl | rfl | rfl | rfl <;> rfl
  refine P.dup dX5_init_91 rfl ?_
  refine P.callIN (As := []) (rest := [.ref (ad G 73), .int (nI 1), .ref (ad G 59)]) (i_X0 (b := 73) (by decide +kernel)) ok_X0_init (fit_mk (by decide) (by decide)) rfl mn_X5_39 rfl (Nat.le_of_ble_eq_true rfl) dX5_init_92 ?_
  show P G _ _ _ _ 95 [some (.ref (ad G 57)), some (.ref (ad G 2)), some (.int (nI 1))] [.ref (ad G 73), .int (nI 1), .ref (ad G 59)] 74 (z0, z0l, uf (uf (uf (uf (uf (uf (uf (uf (uf (uf (uf (uf (uf (uf (uf (uf ((uf rX3 0 3 (some 53))) 57 1 (some 58)) 57 3 (some 59)) 57 5 (some 60)) 57 6 (some 61)) 57 7 (some 62)) 57 0 (some 2)) 63 0 (some 64)) 63 1 (some 65)) 58 0 (some 63)) 66 0 (some 67)) 66 1 (some 68)) 58 1 (some 66)) 69 0 (some 70)) 69 1 (some 71)) 58 2 (some 69)) 59 0 (some 72))
  refine P.astr (N := 6) (kd := 20) (t0 := 3) (C := RX0) (T := TX0) (ci := 0) (M := 4) (by decide +kernel) (by decide) rfl (by decide) (by decide) (by decide) (by decide) (by decide +kernel) (by decide) rfl dX5_init_95 ?_
  show P G _ _ _ _ 96 [some (.ref (ad G 57)), some (.ref (ad G 2)), some (.int (nI 1))] [] 74 (z0, z0l, uf (uf (uf (uf (uf (uf (uf (uf (uf (uf (uf (uf (uf (uf (uf (uf (uf ((uf rX3 0 3 (some 53))) 57 1 (some 58)) 57 3 (some 59)) 57 5 (some 60)) 57 6 (some 61)) 57 7 (some 62)) 57 0 (some 2)) 63 0 (some 64)) 63 1 (some 65)) 58 0 (some 63)) 66 0 (some 67)) 66 1 (some 68)) 58 1 (some 66)) 69 0 (some 70)) 69 1 (some 71)) 58 2 (some 69)) 59 0 (some 72)) 59 1 (some 73))
  refine P.iinc (v := nI 2) dX5_init_96 rfl (inc1 _) (by decide) ?_
  refine P.goto (tgt := 77) dX5_init_99 (by decide) ?_
  show P G _ _ _ _ 77 [some (.ref (ad G 57)), some (.ref (ad G 2)), some (.int (nI 2))] [] 74 (z0, z0l, uf (uf (uf (uf (uf (uf (uf (uf (uf (uf (uf (uf (uf (uf (uf (uf (uf ((uf rX3 0 3 (some 53))) 57 1 (some 58)) 57 3 (some 59)) 57 5 (some 60)) 57 6 (some 61)) 57 7 (some 62)) 57 0 (some 2)) 63 0 (some 64)) 63 1 (some 65)) 58 0 (some 63)) 66 0 (some 67)) 66 1 (some 68)) 58 1 (some 66)) 69 0 (some 70)) 69 1 (some 71)) 58 2 (some 69)) 59 0 (some 72)) 59 1 (some 73))
  refine P.iload_n dX5_init_77 rfl rfl ?_
  refine P.bipush (v := nI 6) dX5_init_78 rfl ?_
  refine P.icmp_ge_n (tgt := 102) dX5_init_80 (by decide) (by decide) (by decide) (fun hc => absurd hc (by decide)) (fun hc => ?_)
  refine P.aload_n dX5_init_83 rfl rfl ?_
  refine P.getr (ci := 5) (N := 8) (j := 3) (T := TX5) (q := 59) rfl inX5 (by decide +kernel) (by decide) (by decide) (by decide) rfl rfl fl_X5_19 dX5_init_84 ?_
  refine P.iload_n dX5_init_87 rfl rfl ?_
  refine P.new (ci := 0) (N := 4) (T := TX0) tyX0 tyX0_ok rfl inX0 (by decide +kernel) (by decide) (fun j hj => ?_) cl_X5_17 in_X0 ini_X0 (roo_mk (by decide)) dX5_init_88 ?_
  · rcases (show j = 0 ∨ j = 1 ∨ j = 2 ∨ j = 3 by omega) with rfl | rfl | rfl | rfl <;> rfl
  refine P.dup dX5_init_91 rfl ?_
  refine P.callIN (As := []) (rest := [.ref (ad G 74), .int (nI 2), .ref (ad G 59)]) (i_X0 (b := 74) (by decide +kernel)) ok_X0_init (fit_mk (by decide) (by decide)) rfl mn_X5_39 rfl (Nat.le_of_ble_eq_true rfl) dX5_init_92 ?_
  show P G _ _ _ _ 95 [some (.ref (ad G 57)), some (.ref (ad G 2)), some (.int (nI 2))] [.ref (ad G 74), .int (nI 2), .ref (ad G 59)] 75 (z0, z0l, uf (uf (uf (uf (uf (uf (uf (uf (uf (uf (uf (uf (uf (uf (uf (uf (uf ((uf rX3 0 3 (some 53))) 57 1 (some 58)) 57 3 (some 59)) 57 5 (some 60)) 57 6 (some 61)) 57 7 (some 62)) 57 0 (some 2)) 63 0 (some 64)) 63 1 (some 65)) 58 0 (some 63)) 66 0 (some 67)) 66 1 (some 68)) 58 1 (some 66)) 69 0 (some 70)) 69 1 (some 71)) 58 2 (some 69)) 59 0 (some 72)) 59 1 (some 73))
  refine P.astr (N := 6) (kd := 20) (t0 := 3) (C := RX0) (T := TX0) (ci := 0) (M := 4) (by decide +kernel) (by decide) rfl (by decide) (by decide) (by decide) (by decide) (by decide +kernel) (by decide) rfl dX5_init_95 ?_
  show P G _ _ _ _ 96 [some (.ref (ad G 57)), some (.ref (ad G 2)), some (.int (nI 2))] [] 75 (z0, z0l, uf (uf (uf (uf (uf (uf (uf (uf (uf (uf (uf (uf (uf (uf (uf (uf (uf (uf ((uf rX3 0 3 (some 53))) 57 1 (some 58)) 57 3 (some 59)) 57 5 (some 60)) 57 6 (some 61)) 57 7 (some 62)) 57 0 (some 2)) 63 0 (some 64)) 63 1 (some 65)) 58 0 (some 63)) 66 0 (some 67)) 66 1 (some 68)) 58 1 (some 66)) 69 0 (some 70)) 69 1 (some 71)) 58 2 (some 69)) 59 0 (some 72)) 59 1 (some 73)) 59 2 (some 74))
  refine P.iinc (v := nI 3) dX5_init_96 rfl (inc1 _) (by decide) ?_
  refine P.goto (tgt := 77) dX5_init_99 (by decide) ?_
  show P G _ _ _ _ 77 [some (.ref (ad G 57)), some (.ref (ad G 2)), some (.int (nI 3))] [] 75 (z0, z0l, uf (uf (uf (uf (uf (uf (uf (uf (uf (uf (uf (uf (uf (uf (uf (uf (uf (uf ((uf rX3 0 3 (some 53))) 57 1 (some 58)) 57 3 (some 59)) 57 5 (some 60)) 57 6 (some 61)) 57 7 (some 62)) 57 0 (some 2)) 63 0 (some 64)) 63 1 (some 65)) 58 0 (some 63)) 66 0 (some 67)) 66 1 (some 68)) 58 1 (some 66)) 69 0 (some 70)) 69 1 (some 71)) 58 2 (some 69)) 59 0 (some 72)) 59 1 (some 73)) 59 2 (some 74))
  refine P.iload_n dX5_init_77 rfl rfl ?_
  refine P.bipush (v := nI 6) dX5_init_78 rfl ?_
  refine P.icmp_ge_n (tgt := 102) dX5_init_80 (by decide) (by decide) (by decide) (fun hc => absurd hc (by decide)) (fun hc => ?_)
  refine P.aload_n dX5_init_83 rfl rfl ?_
  refine P.getr (ci := 5) (N := 8) (j := 3) (T := TX5) (q := 59) rfl inX5 (by decide +kernel) (by decide) (by decide) (by decide) rfl rfl fl_X5_19 dX5_init_84 ?_
  refine P.iload_n dX5_init_87 rfl rfl ?_
  refine P.new (ci := 0) (N := 4) (T := TX0) tyX0 tyX0_ok rfl inX0 (by decide +kernel) (by decide) (fun j hj => ?_) cl_X5_17 in_X0 ini_X0 (roo_mk (by decide)) dX5_init_88 ?_
  · rcases (show j = 0 ∨ j = 1 ∨ j = 2 ∨ j = 3 by omega) with rfl | rfl | rfl | rfl <;> rfl
  refine P.dup dX5_init_91 rfl ?_
  refine P.callIN (As := []) (rest := [.ref (ad G 75), .int (nI 3), .ref (ad G 59)]) (i_X0 (b := 75) (by decide +kernel)) ok_X0_init (fit_mk (by decide) (by decide)) rfl mn_X5_39 rfl (Nat.le_of_ble_eq_true rfl) dX5_init_92 ?_
  show P G _ _ _ _ 95 [some (.ref (ad G 57)), some (.ref (ad G 2)), some (.int (nI 3))] [.ref (ad G 75), .int (nI 3), .ref (ad G 59)] 76 (z0, z0l, uf (uf (uf (uf (uf (uf (uf (uf (uf (uf (uf (uf (uf (uf (uf (uf (uf (uf ((uf rX3 0 3 (some 53))) 57 1 (some 58)) 57 3 (some 59)) 57 5 (some 60)) 57 6 (some 61)) 57 7 (some 62)) 57 0 (some 2)) 63 0 (some 64)) 63 1 (some 65)) 58 0 (some 63)) 66 0 (some 67)) 66 1 (some 68)) 58 1 (some 66)) 69 0 (some 70)) 69 1 (some 71)) 58 2 (some 69)) 59 0 (some 72)) 59 1 (some 73)) 59 2 (some 74))
  refine P.astr (N := 6) (kd := 20) (t0 := 3) (C := RX0) (T := TX0) (ci := 0) (M := 4) (by decide +kernel) (by decide) rfl (by decide) (by decide) (by decide) (by decide) (by decide +kernel) (by decide) rfl dX5_init_95 ?_
  show P G _ _ _ _ 96 [some (.ref (ad G 57)), some (.ref (ad G 2)), some (.int (nI 3))] [] 76 (z0, z0l, uf (uf (uf (uf (uf (uf (uf (uf (uf (uf (uf (uf (uf (uf (uf (uf (uf (uf (uf ((uf rX3 0 3 (some 53))) 57 1 (some 58)) 57 3 (some 59)) 57 5 (some 60)) 57 6 (some 61)) 57 7 (some 62)) 57 0 (some 2)) 63 0 (some 64)) 63 1 (some 65)) 58 0 (some 63)) 66 0 (some 67)) 66 1 (some 68)) 58 1 (some 66)) 69 0 (some 70)) 69 1 (some 71)) 58 2 (some 69)) 59 0 (some 72)) 59 1 (some 73)) 59 2 (some 74)) 59 3 (some 75))
  refine P.iinc (v := nI 4) dX5_init_96 rfl (inc1 _) (by decide) ?_
  refine P.goto (tgt := 77) dX5_init_99 (by decide) ?_
  show P G _ _ _ _ 77 [some (.ref (ad G 57)), some (.ref (ad G 2)), some (.int (nI 4))] [] 76 (z0, z0l, uf (uf (uf (uf (uf (uf (uf (uf (uf (uf (uf (uf (uf (uf (uf (uf (uf (uf (uf ((uf rX3 0 3 (some 53))) 57 1 (some 58)) 57 3 (some 59)) 57 5 (some 60)) 57 6 (some 61)) 57 7 (some 62)) 57 0 (some 2)) 63 0 (some 64)) 63 1 (some 65)) 58 0 (some 63)) 66 0 (some 67)) 66 1 (some 68)) 58 1 (some 66)) 69 0 (some 70)) 69 1 (some 71)) 58 2 (some 69)) 59 0 (some 72)) 59 1 (some 73)) 59 2 (some 74)) 59 3 (some 75))
  refine P.iload_n dX5_init_77 rfl rfl ?_
  refine P.bipush (v := nI 6) dX5_init_78 rfl ?_
  refine P.icmp_ge_n (tgt := 102) dX5_init_80 (by decide) (by decide) (by decide) (fun hc => absurd hc (by decide)) (fun hc => ?_)
  refine P.aload_n dX5_init_83 rfl rfl ?_
  refine P.getr (ci := 5) (N := 8) (j := 3) (T := TX5) (q := 59) rfl inX5 (by decide +kernel) (by decide) (by decide) (by decide) rfl rfl fl_X5_19 dX5_init_84 ?_
  refine P.iload_n dX5_init_87 rfl rfl ?_
  refine P.new (ci := 0) (N := 4) (T := TX0) tyX0 tyX0_ok rfl inX0 (by decide +kernel) (by decide) (fun j hj => ?_) cl_X5_17 in_X0 ini_X0 (roo_mk (by decide)) dX5_init_88 ?_
  · rcases (show j = 0 ∨ j = 1 ∨ j = 2 ∨ j = 3 by omega) with rfl | rfl | rfl | rfl <;> rfl
  refine P.dup dX5_init_91 rfl ?_
  refine P.callIN (As := []) (rest := [.ref (ad G 76), .int (nI 4), .ref (ad G 59)]) (i_X0 (b := 76) (by decide +kernel)) ok_X0_init (fit_mk (by decide) (by decide)) rfl mn_X5_39 rfl (Nat.le_of_ble_eq_true rfl) dX5_init_92 ?_
  show P G _ _ _ _ 95 [some (.ref (ad G 57)), some (.ref (ad G 2)), some (.int (nI 4))] [.ref (ad G 76), .int (nI 4), .ref (ad G 59)] 77 (z0, z0l, uf (uf (uf (uf (uf (uf (uf (uf (uf (uf (uf (uf (uf (uf (uf (uf (uf (uf (uf ((uf rX3 0 3 (some 53))) 57 1 (some 58)) 57 3 (some 59)) 57 5 (some 60)) 57 6 (some 61)) 57 7 (some 62)) 57 0 (some 2)) 63 0 (some 64)) 63 1 (some 65)) 58 0 (some 63)) 66 0 (some 67)) 66 1 (some 68)) 58 1 (some 66)) 69 0 (some 70)) 69 1 (some 71)) 58 2 (some 69)) 59 0 (some 72)) 59 1 (some 73)) 59 2 (some 74)) 59 3 (some 75))
  refine P.astr (N := 6) (kd := 20) (t0 := 3) (C := RX0) (T := TX0) (ci := 0) (M := 4) (by decide +kernel) (by decide) rfl (by decide) (by decide) (by decide) (by decide) (by decide +kernel) (by decide) rfl dX5_init_95 ?_
  show P G _ _ _ _ 96 [some (.ref (ad G 57)), some (.ref (ad G 2)), some (.int (nI 4))] [] 77 (z0, z0l, uf (uf (uf (uf (uf (uf (uf (uf (uf (uf (uf (uf (uf (uf (uf (uf (uf (uf (uf (uf ((uf rX3 0 3 (some 53))) 57 1 (some 58)) 57 3 (some 59)) 57 5 (some 60)) 57 6 (some 61)) 57 7 (some 62)) 57 0 (some 2)) 63 0 (some 64)) 63 1 (some 65)) 58 0 (some 63)) 66 0 (some 67)) 66 1 (some 68)) 58 1 (some 66)) 69 0 (some 70)) 69 1 (some 71)) 58 2 (some 69)) 59 0 (some 72)) 59 1 (some 73)) 59 2 (some 74)) 59 3 (some 75)) 59 4 (some 76))
  refine P.iinc (v := nI 5) dX5_init_96 rfl (inc1 _) (by decide) ?_
  refine P.goto (tgt := 77) dX5_init_99 (by decide) ?_
  show P G _ _ _ _ 77 [some (.ref (ad G 57)), some (.ref (ad G 2)), some (.int (nI 5))] [] 77 (z0, z0l, uf (uf (uf (uf (uf (uf (uf (uf (uf (uf (uf (uf (uf (uf (uf (uf (uf (uf (uf (uf ((uf rX3 0 3 (some 53))) 57 1 (some 58)) 57 3 (some 59)) 57 5 (some 60)) 57 6 (some 61)) 57 7 (some 62)) 57 0 (some 2)) 63 0 (some 64)) 63 1 (some 65)) 58 0 (some 63)) 66 0 (some 67)) 66 1 (some 68)) 58 1 (some 66)) 69 0 (some 70)) 69 1 (some 71)) 58 2 (some 69)) 59 0 (some 72)) 59 1 (some 73)) 59 2 (some 74)) 59 3 (some 75)) 59 4 (some 76))
  refine P.iload_n dX5_init_77 rfl rfl ?_
  refine P.bipush (v := nI 6) dX5_init_78 rfl ?_
  refine P.icmp_ge_n (tgt := 102) dX5_init_80 (by decide) (by decide) (by decide) (fun hc => absurd hc (by decide)) (fun hc => ?_)
  refine P.aload_n dX5_init_83 rfl rfl ?_
  refine P.getr (ci := 5) (N := 8) (j := 3) (T := TX5) (q := 59) rfl inX5 (by decide +kernel) (by decide) (by decide) (by decide) rfl rfl fl_X5_19 dX5_init_84 ?_
  refine P.iload_n dX5_init_87 rfl rfl ?_
  refine P.new (ci := 0) (N := 4) (T := TX0) tyX0 tyX0_ok rfl inX0 (by decide +kernel) (by decide) (fun j hj => ?_) cl_X5_17 in_X0 ini_X0 (roo_mk (by decide)) dX5_init_88 ?_
  · rcases (show j = 0 ∨ j = 1 ∨ j = 2 ∨ j = 3 by omega) with rfl | rfl | rfl | rfl <;> rfl
  refine P.dup dX5_init_91 rfl ?_
  refine P.callIN (As := []) (rest := [.ref (ad G 77), .int (nI 5), .ref (ad G 59)]) (i_X0 (b := 77) (by decide +kernel)) ok_X0_init (fit_mk (by decide) (by decide)) rfl mn_X5_39 rfl (Nat.le_of_ble_eq_true rfl) dX5_init_92 ?_
  show P G _ _ _ _ 95 [some (.ref (ad G 57)), some (.ref (ad G 2)), some (.int (nI 5))] [.ref (ad G 77), .int (nI 5), .ref (ad G 59)] 78 (z0, z0l, uf (uf (uf (uf (uf (uf (uf (uf (uf (uf (uf (uf (uf (uf (uf (uf (uf (uf (uf (uf ((uf rX3 0 3 (some 53))) 57 1 (some 58)) 57 3 (some 59)) 57 5 (some 60)) 57 6 (some 61)) 57 7 (some 62)) 57 0 (some 2)) 63 0 (some 64)) 63 1 (some 65)) 58 0 (some 63)) 66 0 (some 67)) 66 1 (some 68)) 58 1 (some 66)) 69 0 (some 70)) 69 1 (some 71)) 58 2 (some 69)) 59 0 (some 72)) 59 1 (some 73)) 59 2 (some 74)) 59 3 (some 75)) 59 4 (some 76))
  refine P.astr (N := 6) (kd := 20) (t0 := 3) (C := RX0) (T := TX0) (ci := 0) (M := 4) (by decide +kernel) (by decide) rfl (by decide) (by decide) (by decide) (by decide) (by decide +kernel) (by decide) rfl dX5_init_95 ?_
  show P G _ _ _ _ 96 [some (.ref (ad G 57)), some (.ref (ad G 2)), some (.int (nI 5))] [] 78 (z0, z0l, uf (uf (uf (uf (uf (uf (uf (uf (uf (uf (uf (uf (uf (uf (uf (uf (uf (uf (uf (uf (uf ((uf rX3 0 3 (some 53))) 57 1 (some 58)) 57 3 (some 59)) 57 5 (some 60)) 57 6 (some 61)) 57 7 (some 62)) 57 0 (some 2)) 63 0 (some 64)) 63 1 (some 65)) 58 0 (some 63)) 66 0 (some 67)) 66 1 (some 68)) 58 1 (some 66)) 69 0 (some 70)) 69 1 (some 71)) 58 2 (some 69)) 59 0 (some 72)) 59 1 (some 73)) 59 2 (some 74)) 59 3 (some 75)) 59 4 (some 76)) 59 5 (some 77))
  refine P.iinc (v := nI 6) dX5_init_96 rfl (inc1 _) (by decide) ?_
  refine P.goto (tgt := 77) dX5_init_99 (by decide) ?_
  show P G _ _ _ _ 77 [some (.ref (ad G 57)), some (.ref (ad G 2)), some (.int (nI 6))] [] 78 (z0, z0l, uf (uf (uf (uf (uf (uf (uf (uf (uf (uf (uf (uf (uf (uf (uf (uf (uf (uf (uf (uf (uf ((uf rX3 0 3 (some 53))) 57 1 (some 58)) 57 3 (some 59)) 57 5 (some 60)) 57 6 (some 61)) 57 7 (some 62)) 57 0 (some 2)) 63 0 (some 64)) 63 1 (some 65)) 58 0 (some 63)) 66 0 (some 67)) 66 1 (some 68)) 58 1 (some 66)) 69 0 (some 70)) 69 1 (some 71)) 58 2 (some 69)) 59 0 (some 72)) 59 1 (some 73)) 59 2 (some 74)) 59 3 (some 75)) 59 4 (some 76)) 59 5 (some 77))
  refine P.iload_n dX5_init_77 rfl rfl ?_
  refine P.bipush (v := nI 6) dX5_init_78 rfl ?_
  refine P.icmp_ge_n (tgt := 102) dX5_init_80 (by decide) (by decide) (by decide) (fun hc => ?_) (fun hc => absurd hc (by decide))
  exact P.vret rfl dX5_init_102 rfl
def rX9 : Nat → Nat → Option Nat := uf (uf (uf (uf (uf (uf (uf (uf (uf (rX5) 0 4 (some 57)) 78 0 (some 79)) 1 0 (some 78)) 80 0 (some 81)) 1 1 (some 80)) 82 0 (some 83)) 1 2 (some 82)) 84 0 (some 85)) 1 3 (some 84)
set_option maxRecDepth 20000 in
theorem i_X9 {G : GG} : Spec G mX9_init [.ref (ad G 0)] 1 (z0, z0l, r0) none 86 (z0, z0l, rX9) := by
  refine Spec.of ok_X9_init.1 ⟨by omega, szs_le (by omega)⟩ (Nat.le_of_ble_eq_true rfl) ?_
  show P G RX9 cX9_init 2 (KM G mX9_init 1 86 none (z0, z0l, rX9)) 0 [some (.ref (ad G 0)), none] [] 1 (z0, z0l, r0)
  refine P.aload_n dX9_init_0 rfl rfl ?_
  refine P.objInit ml_X9_3 (obj_mk (by decide)) (Nat.le_of_ble_eq_true rfl) dX9_init_1 ?_
  show P G _ _ _ _ 4 [some (.ref (ad G 0)), none] [] 1 (z0, z0l, r0)
  refine P.aload_n dX9_init_4 rfl rfl ?_
  refine P.iconst dX9_init_5 ic_4 ?_
  refine P.newR (N := 4) (kd := 28) (t0 := 7) (C := RX8) (by decide +kernel) (by decide) rfl (Nat.le_of_ble_eq_true rfl) (fun _ => rfl) (by simp [overs]) cl_X9_9 (roo_mk (by decide)) dX9_init_6 ?_
  refine P.putr (ci := 9) (N := 6) (j := 0) (T := TX9) (q := 1) tyX9 tyX9_ok nmX9 rfl inX9 (by decide +kernel) (by decide) (by decide) (by decide) rfl (fun _ _ _ h => h.2) rfl (tyX9_ok 0 (by decide)) rfl (fun _ => ⟨rfl, rfl⟩) fl_X9_11 dX9_init_9 ?_
  show P G _ _ _ _ 12 [some (.ref (ad G 0)), none] [] 2 (z0, z0l, uf (r0) 0 0 (some 1))
  refine P.aload_n dX9_init_12 rfl rfl ?_
  refine P.new (ci := 7) (N := 2) (T := TX7) tyX7 tyX7_ok rfl inX7 (by decide +kernel) (by decide) (fun j hj => ?_) cl_X9_15 in_X7 ini_X7 (roo_mk (by decide)) dX9_init_13 ?_
  · rcases (show j = 0 ∨ j = 1 by omega) with rfl | rfl <;> rfl
  refine P.dup dX9_init_16 rfl ?_
  refine P.callI (As := []) (rest := [.ref (ad G 2), .ref (ad G 0)]) i_X7 ok_X7_init (fit_mk (by decide) (by decide)) rfl ml_X9_17 rfl (Nat.le_of_ble_eq_true rfl) dX9_init_17 ?_
  show P G _ _ _ _ 20 [some (.ref (ad G 0)), none] [.ref (ad G 2), .ref (ad G 0)] 40 (z0, z0l, rX7)
  refine P.putr (ci := 9) (N := 6) (j := 1) (T := TX9) (q := 2) tyX9 tyX9_ok nmX9 rfl inX9 (by decide +kernel) (by decide) (by decide) (by decide) rfl (fun _ _ _ h => h.2) rfl (tyX9_ok 1 (by decide)) rfl (fun _ => ⟨rfl, rfl⟩) fl_X9_18 dX9_init_20 ?_
  show P G _ _ _ _ 23 [some (.ref (ad G 0)), none] [] 40 (z0, z0l, uf (rX7) 0 1 (some 2))
  refine P.aload_n dX9_init_23 rfl rfl ?_
  refine P.new (ci := 2) (N := 5) (T := TX2) tyX2 tyX2_ok rfl inX2 (by decide +kernel) (by decide) (fun j hj => ?_) cl_X9_22 in_X2 ini_X2 (roo_mk (by decide)) dX9_init_24 ?_
  · rcases (show j = 0 ∨ j = 1 ∨ j = 2 ∨ j = 3 ∨ j = 4 by omega) with rfl | rfl | rfl | rfl | rfl <;> rfl
  refine P.dup dX9_init_27 rfl ?_
  refine P.aload_n dX9_init_28 rfl rfl ?_
  refine P.getr (ci := 9) (N := 6) (j := 1) (T := TX9) (q := 2) rfl inX9 (by decide +kernel) (by decide) (by decide) (by decide) rfl rfl fl_X9_18 dX9_init_29 ?_
  refine P.callI (As := [.ref (ad G 2)]) (rest := [.ref (ad G 40), .ref (ad G 0)]) i_X2 ok_X2_init (fit_mk (by decide) (by decide)) rfl ml_X9_24 rfl (Nat.le_of_ble_eq_true rfl) dX9_init_32 ?_
  show P G _ _ _ _ 35 [some (.ref (ad G 0)), none] [.ref (ad G 40), .ref (ad G 0)] 53 (z0, z0l, rX2)
  refine P.putr (ci := 9) (N := 6) (j := 2) (T := TX9) (q := 40) tyX9 tyX9_ok nmX9 rfl inX9 (by decide +kernel) (by decide) (by decide) (by decide) rfl (fun _ _ _ h => h.2) rfl (tyX9_ok 2 (by decide)) rfl (fun _ => ⟨rfl, rfl⟩) fl_X9_27 dX9_init_35 ?_
  show P G _ _ _ _ 38 [some (.ref (ad G 0)), none] [] 53 (z0, z0l, uf (rX2) 0 2 (some 40))
  refine P.aload_n dX9_init_38 rfl rfl ?_
  refine P.new (ci := 3) (N := 7) (T := TX3) tyX3 tyX3_ok rfl inX3 (by decide +kernel) (by decide) (fun j hj => ?_) cl_X9_31 in_X3 ini_X3 (roo_mk (by decide)) dX9_init_39 ?_
  · rcases (show j = 0 ∨ j = 1 ∨ j = 2 ∨ j = 3 ∨ j = 4 ∨ j = 5 ∨ j = 6 by omega) with rfl | rfl | rfl | rfl | rfl | rfl | rfl <;> rfl
  refine P.dup dX9_init_42 rfl ?_
  refine P.aload_n dX9_init_43 rfl rfl ?_
  refine P.getr (ci := 9) (N := 6) (j := 1) (T := TX9) (q := 2) rfl inX9 (by decide +kernel) (by decide) (by decide) (by decide) rfl rfl fl_X9_18 dX9_init_44 ?_
  refine P.aload_n dX9_init_47 rfl rfl ?_
  refine P.getr (ci := 9) (N := 6) (j := 2) (T := TX9) (q := 40) rfl inX9 (by decide +kernel) (by decide) (by decide) (by decide) rfl rfl fl_X9_27 dX9_init_48 ?_
  refine P.callI (As := [.ref (ad G 2), .ref (ad G 40)]) (rest := [.ref (ad G 53), .ref (ad G 0)]) i_X3 ok_X3_init (fit_mk (by decide) (by decide)) rfl ml_X9_33 rfl (Nat.le_of_ble_eq_true rfl) dX9_init_51 ?_
  show P G _ _ _ _ 54 [some (.ref (ad G 0)), none] [.ref (ad G 53), .ref (ad G 0)] 57 (z0, z0l, rX3)
  refine P.putr (ci := 9) (N := 6) (j := 3) (T := TX9) (q := 53) tyX9 tyX9_ok nmX9 rfl inX9 (by decide +kernel) (by decide) (by decide) (by decide) rfl (fun _ _ _ h => h.2) rfl (tyX9_ok 3 (by decide)) rfl (fun _ => ⟨rfl, rfl⟩) fl_X9_36 dX9_init_54 ?_
  show P G _ _ _ _ 57 [some (.ref (ad G 0)), none] [] 57 (z0, z0l, uf (rX3) 0 3 (some 53))
  refine P.aload_n dX9_init_57 rfl rfl ?_
  refine P.new (ci := 5) (N := 8) (T := TX5) tyX5 tyX5_ok rfl inX5 (by decide +kernel) (by decide) (fun j hj => ?_) cl_X9_40 in_X5 ini_X5 (roo_mk (by decide)) dX9_init_58 ?_
  · rcases (show j = 0 ∨ j = 1 ∨ j = 2 ∨ j = 3 ∨ j = 4 ∨ j = 5 ∨ j = 6 ∨ j = 7 by omega) with rfl | rfl | rfl | rfl | rfl | rfl | rfl | rfl <;> rfl
  refine P.dup dX9_init_61 rfl ?_
  refine P.aload_n dX9_init_62 rfl rfl ?_
  refine P.getr (ci := 9) (N := 6) (j := 1) (T := TX9) (q := 2) rfl inX9 (by decide +kernel) (by decide) (by decide) (by decide) rfl rfl fl_X9_18 dX9_init_63 ?_
  refine P.callI (As := [.ref (ad G 2)]) (rest := [.ref (ad G 57), .ref (ad G 0)]) i_X5 ok_X5_init (fit_mk (by decide) (by decide)) rfl ml_X9_42 rfl (Nat.le_of_ble_eq_true rfl) dX9_init_66 ?_
  show P G _ _ _ _ 69 [some (.ref (ad G 0)), none] [.ref (ad G 57), .ref (ad G 0)] 78 (z0, z0l, rX5)
  refine P.putr (ci := 9) (N := 6) (j := 4) (T := TX9) (q := 57) tyX9 tyX9_ok nmX9 rfl inX9 (by decide +kernel) (by decide) (by decide) (by decide) rfl (fun _ _ _ h => h.2) rfl (tyX9_ok 4 (by decide)) rfl (fun _ => ⟨rfl, rfl⟩) fl_X9_43 dX9_init_69 ?_
  show P G _ _ _ _ 72 [some (.ref (ad G 0)), none] [] 78 (z0, z0l, uf (rX5) 0 4 (some 57))
  refine P.iconst dX9_init_72 ic_0 ?_
  refine P.istore_n dX9_init_73 rfl (by decide) ?_
  refine P.iload_n dX9_init_74 rfl rfl ?_
  refine P.iconst dX9_init_75 ic_4 ?_
  refine P.icmp_ge_n (tgt := 98) dX9_init_76 (by decide) (by decide) (by decide) (fun hc => absurd hc (by decide)) (fun hc => ?_)
  refine P.aload_n dX9_init_79 rfl rfl ?_
  refine P.getr (ci := 9) (N := 6) (j := 0) (T := TX9) (q := 1) rfl inX9 (by decide +kernel) (by decide) (by decide) (by decide) rfl rfl fl_X9_11 dX9_init_80 ?_
  refine P.iload_n dX9_init_83 rfl rfl ?_
  refine P.new (ci := 8) (N := 2) (T := TX8) tyX8 tyX8_ok rfl inX8 (by decide +kernel) (by decide) (fun j hj => ?_) cl_X9_9 in_X8 ini_X8 (roo_mk (by decide)) dX9_init_84 ?_
  · rcases (show j = 0 ∨ j = 1 by omega) with rfl | rfl <;> rfl
  refine P.dup dX9_init_87 rfl ?_
  refine P.callIN (As := []) (rest := [.ref (ad G 78), .int (nI 0), .ref (ad G 1)]) (i_X8 (b := 78) (by decide +kernel) (by decide +kernel)) ok_X8_init (fit_mk (by decide) (by decide)) rfl mn_X9_47 rfl (Nat.le_of_ble_eq_true rfl) dX9_init_88 ?_
  show P G _ _ _ _ 91 [some (.ref (ad G 0)), some (.int (nI 0))] [.ref (ad G 78), .int (nI 0), .ref (ad G 1)] 80 (z0, z0l, uf (uf (rX5) 0 4 (some 57)) 78 0 (some 79))
  refine P.astr (N := 4) (kd := 28) (t0 := 7) (C := RX8) (T := TX8) (ci := 8) (M := 2) (by decide +kernel) (by decide) rfl (by decide) (by decide) (by decide) (by decide) (by decide +kernel) (by decide) rfl dX9_init_91 ?_
  show P G _ _ _ _ 92 [some (.ref (ad G 0)), some (.int (nI 0))] [] 80 (z0, z0l, uf (uf (uf (rX5) 0 4 (some 57)) 78 0 (some 79)) 1 0 (some 78))
  refine P.iinc (v := nI 1) dX9_init_92 rfl (inc1 _) (by decide) ?_
  refine P.goto (tgt := 74) dX9_init_95 (by decide) ?_
  show P G _ _ _ _ 74 [some (.ref (ad G 0)), some (.int (nI 1))] [] 80 (z0, z0l, uf (uf (uf (rX5) 0 4 (some 57)) 78 0 (some 79)) 1 0 (some 78))
  refine P.iload_n dX9_init_74 rfl rfl ?_
  refine P.iconst dX9_init_75 ic_4 ?_
  refine P.icmp_ge_n (tgt := 98) dX9_init_76 (by decide) (by decide) (by decide) (fun hc => absurd hc (by decide)) (fun hc => ?_)
  refine P.aload_n dX9_init_79 rfl rfl ?_
  refine P.getr (ci := 9) (N := 6) (j := 0) (T := TX9) (q := 1) rfl inX9 (by decide +kernel) (by decide) (by decide) (by decide) rfl rfl fl_X9_11 dX9_init_80 ?_
  refine P.iload_n dX9_init_83 rfl rfl ?_
  refine P.new (ci := 8) (N := 2) (T := TX8) tyX8 tyX8_ok rfl inX8 (by decide +kernel) (by decide) (fun j hj => ?_) cl_X9_9 in_X8 ini_X8 (roo_mk (by decide)) dX9_init_84 ?_
  · rcases (show j = 0 ∨ j = 1 by omega) with rfl | rfl <;> rfl
  refine P.dup dX9_init_87 rfl ?_
  refine P.callIN (As := []) (rest := [.ref (ad G 80), .int (nI 1), .ref (ad G 1)]) (i_X8 (b := 80) (by decide +kernel) (by decide +kernel)) ok_X8_init (fit_mk (by decide) (by decide)) rfl mn_X9_47 rfl (Nat.le_of_ble_eq_true rfl) dX9_init_88 ?_
  show P G _ _ _ _ 91 [some (.ref (ad G 0)), some (.int (nI 1))] [.ref (ad G 80), .int (nI 1), .ref (ad G 1)] 82 (z0, z0l, uf (uf (uf (uf (rX5) 0 4 (some 57)) 78 0 (some 79)) 1 0 (some 78)) 80 0 (some 81))
  refine P.astr (N := 4) (kd := 28) (t0 := 7) (C := RX8) (T := TX8) (ci := 8) (M := 2) (by decide +kernel) (by decide) rfl (by decide) (by decide) (by decide) (by decide) (by decide +kernel) (by decide) rfl dX9_init_91 ?_
  show P G _ _ _ _ 92 [some (.ref (ad G 0)), some (.int (nI 1))] [] 82 (z0, z0l, uf (uf (uf (uf (uf (rX5) 0 4 (some 57)) 78 0 (some 79)) 1 0 (some 78)) 80 0 (some 81)) 1 1 (some 80))
  refine P.iinc (v := nI 2) dX9_init_92 rfl (inc1 _) (by decide) ?_
  refine P.goto (tgt := 74) dX9_init_95 (by decide) ?_
  show P G _ _ _ _ 74 [some (.ref (ad G 0)), some (.int (nI 2))] [] 82 (z0, z0l, uf (uf (uf (uf (uf (rX5) 0 4 (some 57)) 78 0 (some 79)) 1 0 (some 78)) 80 0 (some 81)) 1 1 (some 80))
  refine P.iload_n dX9_init_74 rfl rfl ?_
  refine P.iconst dX9_init_75 ic_4 ?_
  refine P.icmp_ge_n (tgt := 98) dX9_init_76 (by decide) (by decide) (by decide) (fun hc => absurd hc (by decide)) (fun hc => ?_)
  refine P.aload_n dX9_init_79 rfl rfl ?_
  refine P.getr (ci := 9) (N := 6) (j := 0) (T := TX9) (q := 1) rfl inX9 (by decide +kernel) (by decide) (by decide) (by decide) rfl rfl fl_X9_11 dX9_init_80 ?_
  refine P.iload_n dX9_init_83 rfl rfl ?_
  refine P.new (ci := 8) (N := 2) (T := TX8) tyX8 tyX8_ok rfl inX8 (by decide +kernel) (by decide) (fun j hj => ?_) cl_X9_9 in_X8 ini_X8 (roo_mk (by decide)) dX9_init_84 ?_
  · rcases (show j = 0 ∨ j = 1 by omega) with rfl | rfl <;> rfl
  refine P.dup dX9_init_87 rfl ?_
  refine P.callIN (As := []) (rest := [.ref (ad G 82), .int (nI 2), .ref (ad G 1)]) (i_X8 (b := 82) (by decide +kernel) (by decide +kernel)) ok_X8_init (fit_mk (by decide) (by decide)) rfl mn_X9_47 rfl (Nat.le_of_ble_eq_true rfl) dX9_init_88 ?_
  show P G _ _ _ _ 91 [some (.ref (ad G 0)), some (.int (nI 2))] [.ref (ad G 82), .int (nI 2), .ref (ad G 1)] 84 (z0, z0l, uf (uf (uf (uf (uf (uf (rX5) 0 4 (some 57)) 78 0 (some 79)) 1 0 (some 78)) 80 0 (some 81)) 1 1 (some 80)) 82 0 (some 83))
  refine P.astr (N := 4) (kd := 28) (t0 := 7) (C := RX8) (T := TX8) (ci := 8) (M := 2) (by decide +kernel) (by decide) rfl (by decide) (by decide) (by decide) (by decide) (by decide +kernel) (by decide) rfl dX9_init_91 ?_
  show P G _ _ _ _ 92 [some (.ref (ad G 0)), some (.int (nI 2))] [] 84 (z0, z0l, uf (uf (uf (uf (uf (uf (uf (rX5) 0 4 (some 57)) 78 0 (some 79)) 1 0 (some 78)) 80 0 (some 81)) 1 1 (some 80)) 82 0 (some 83)) 1 2 (some 82))
  refine P.iinc (v := nI 3) dX9_init_92 rfl (inc1 _) (by decide) ?_
  refine P.goto (tgt := 74) dX9_init_95 (by decide) ?_
  show P G _ _ _ _ 74 [some (.ref (ad G 0)), some (.int (nI 3))] [] 84 (z0, z0l, uf (uf (uf (uf (uf (uf (uf (rX5) 0 4 (some 57)) 78 0 (some 79)) 1 0 (some 78)) 80 0 (some 81)) 1 1 (some 80)) 82 0 (some 83)) 1 2 (some 82))
  refine P.iload_n dX9_init_74 rfl rfl ?_
  refine P.iconst dX9_init_75 ic_4 ?_
  refine P.icmp_ge_n (tgt := 98) dX9_init_76 (by decide) (by decide) (by decide) (fun hc => absurd hc (by decide)) (fun hc => ?_)
  refine P.aload_n dX9_init_79 rfl rfl ?_
  refine P.getr (ci := 9) (N := 6) (j := 0) (T := TX9) (q := 1) rfl inX9 (by decide +kernel) (by decide) (by decide) (by decide) rfl rfl fl_X9_11 dX9_init_80 ?_
  refine P.iload_n dX9_init_83 rfl rfl ?_
  refine P.new (ci := 8) (N := 2) (T := TX8) tyX8 tyX8_ok rfl inX8 (by decide +kernel) (by decide) (fun j hj => ?_) cl_X9_9 in_X8 ini_X8 (roo_mk (by decide)) dX9_init_84 ?_
  · rcases (show j = 0 ∨ j = 1 by omega) with rfl | rfl <;> rfl
  refine P.dup dX9_init_87 rfl ?_
  refine P.callIN (As := []) (rest := [.ref (ad G 84), .int (nI 3), .ref (ad G 1)]) (i_X8 (b := 84) (by decide +kernel) (by decide +kernel)) ok_X8_init (fit_mk (by decide) (by decide)) rfl mn_X9_47 rfl (Nat.le_of_ble_eq_true rfl) dX9_init_88 ?_
  show P G _ _ _ _ 91 [some (.ref (ad G 0)), some (.int (nI 3))] [.ref (ad G 84), .int (nI 3), .ref (ad G 1)] 86 (z0, z0l, uf (uf (uf (uf (uf (uf (uf (uf (rX5) 0 4 (some 57)) 78 0 (some 79)) 1 0 (some 78)) 80 0 (some 81)) 1 1 (some 80)) 82 0 (some 83)) 1 2 (some 82)) 84 0 (some 85))
  refine P.astr (N := 4) (kd := 28) (t0 := 7) (C := RX8) (T := TX8) (ci := 8) (M := 2) (by decide +kernel) (by decide) rfl (by decide) (by decide) (by decide) (by decide) (by decide +kernel) (by decide) rfl dX9_init_91 ?_
  show P G _ _ _ _ 92 [some (.ref (ad G 0)), some (.int (nI 3))] [] 86 (z0, z0l, uf (uf (uf (uf (uf (uf (uf (uf (uf (rX5) 0 4 (some 57)) 78 0 (some 79)) 1 0 (some 78)) 80 0 (some 81)) 1 1 (some 80)) 82 0 (some 83)) 1 2 (some 82)) 84 0 (some 85)) 1 3 (some 84))
  refine P.iinc (v := nI 4) dX9_init_92 rfl (inc1 _) (by decide) ?_
  refine P.goto (tgt := 74) dX9_init_95 (by decide) ?_
  show P G _ _ _ _ 74 [some (.ref (ad G 0)), some (.int (nI 4))] [] 86 (z0, z0l, uf (uf (uf (uf (uf (uf (uf (uf (uf (rX5) 0 4 (some 57)) 78 0 (some 79)) 1 0 (some 78)) 80 0 (some 81)) 1 1 (some 80)) 82 0 (some 83)) 1 2 (some 82)) 84 0 (some 85)) 1 3 (some 84))
  refine P.iload_n dX9_init_74 rfl rfl ?_
  refine P.iconst dX9_init_75 ic_4 ?_
  refine P.icmp_ge_n (tgt := 98) dX9_init_76 (by decide) (by decide) (by decide) (fun hc => ?_) (fun hc => absurd hc (by decide))
  exact P.vret rfl dX9_init_98 rfl
def rX10 : Nat → Nat → Option Nat := uf (uf (uf (uf (uf (uf (uf (uf (uf (uf (uf (uf (uf (uf (uf (uf (uf (uf (uf (uf (uf (uf (uf (uf (uf (uf (uf (rX9) 86 1 (some 87)) 86 2 (some 88)) 86 4 (some 89)) 86 5 (some 90)) 86 6 (some 91)) 86 7 (some 92)) 86 8 (some 93)) 86 10 (some 94)) 86 11 (some 95)) 86 12 (some 96)) 86 13 (some 97)) 86 14 (some 98)) 86 15 (some 99)) 86 16 (some 100)) 86 17 (some 101)) 86 20 (some 102)) 86 21 (some 103)) 86 22 (some 104)) 86 24 (some 105)) 86 25 (some 106)) 86 26 (some 107)) 86 27 (some 108)) 86 30 (some 109)) 86 31 (some 110)) 86 33 (some 111)) 86 34 (some 112)) 86 35 (some 113)
set_option maxRecDepth 20000 in
theorem i_X10 {G : GG} : Spec G mX10_init [.ref (ad G 86)] 87 (z0, z0l, rX9) none 114 (z0, z0l, rX10) := by
  refine Spec.of ok_X10_init.1 ⟨by omega, szs_le (by omega)⟩ (Nat.le_of_ble_eq_true rfl) ?_
  show P G RX10 cX10_init 1 (KM G mX10_init 87 114 none (z0, z0l, rX10)) 0 [some (.ref (ad G 86))] [] 87 (z0, z0l, rX9)
  refine P.aload_n dX10_init_0 rfl rfl ?_
  refine P.objInit ml_X10_1 (obj_mk (by decide)) (Nat.le_of_ble_eq_true rfl) dX10_init_1 ?_
  show P G _ _ _ _ 4 [some (.ref (ad G 86))] [] 87 (z0, z0l, rX9)
  refine P.aload_n dX10_init_4 rfl rfl ?_
  refine P.iconst dX10_init_5 ic_4 ?_
  refine P.newI (N := 4) (by decide +kernel) (Nat.le_of_ble_eq_true rfl) (fun _ => rfl) (roo_mk (by decide)) dX10_init_6 ?_
  refine P.putr (ci := 10) (N := 36) (j := 1) (T := TX10) (q := 87) tyX10 tyX10_ok nmX10 rfl inX10 (by decide +kernel) (by decide) (by decide) (by decide) rfl (fun _ _ _ h => h.2) rfl (tyX10_ok 1 (by decide)) rfl (fun _ => ⟨rfl, rfl⟩) fl_X10_7 dX10_init_8 ?_
  show P G _ _ _ _ 11 [some (.ref (ad G 86))] [] 88 (z0, z0l, uf (rX9) 86 1 (some 87))
  refine P.aload_n dX10_init_11 rfl rfl ?_
  refine P.bipush (v := nI 24) dX10_init_12 rfl ?_
  refine P.newI (N := 24) (by decide +kernel) (Nat.le_of_ble_eq_true rfl) (fun _ => rfl) (roo_mk (by decide)) dX10_init_14 ?_
  refine P.putr (ci := 10) (N := 36) (j := 2) (T := TX10) (q := 88) tyX10 tyX10_ok nmX10 rfl inX10 (by decide +kernel) (by decide) (by decide) (by decide) rfl (fun _ _ _ h => h.2) rfl (tyX10_ok 2 (by decide)) rfl (fun _ => ⟨rfl, rfl⟩) fl_X10_13 dX10_init_16 ?_
  show P G _ _ _ _ 19 [some (.ref (ad G 86))] [] 89 (z0, z0l, uf (uf (rX9) 86 1 (some 87)) 86 2 (some 88))
  refine P.aload_n dX10_init_19 rfl rfl ?_
  refine P.bipush (v := nI 12) dX10_init_20 rfl ?_
  refine P.newI (N := 12) (by decide +kernel) (Nat.le_of_ble_eq_true rfl) (fun _ => rfl) (roo_mk (by decide)) dX10_init_22 ?_
  refine P.putr (ci := 10) (N := 36) (j := 4) (T := TX10) (q := 89) tyX10 tyX10_ok nmX10 rfl inX10 (by decide +kernel) (by decide) (by decide) (by decide) rfl (fun _ _ _ h => h.2) rfl (tyX10_ok 4 (by decide)) rfl (fun _ => ⟨rfl, rfl⟩) fl_X10_16 dX10_init_24 ?_
  show P G _ _ _ _ 27 [some (.ref (ad G 86))] [] 90 (z0, z0l, uf (uf (uf (rX9) 86 1 (some 87)) 86 2 (some 88)) 86 4 (some 89))
  refine P.aload_n dX10_init_27 rfl rfl ?_
  refine P.bipush (v := nI 12) dX10_init_28 rfl ?_
  refine P.newI (N := 12) (by decide +kernel) (Nat.le_of_ble_eq_true rfl) (fun _ => rfl) (roo_mk (by decide)) dX10_init_30 ?_
  refine P.putr (ci := 10) (N := 36) (j := 5) (T := TX10) (q := 90) tyX10 tyX10_ok nmX10 rfl inX10 (by decide +kernel) (by decide) (by decide) (by decide) rfl (fun _ _ _ h => h.2) rfl (tyX10_ok 5 (by decide)) rfl (fun _ => ⟨rfl, rfl⟩) fl_X10_19 dX10_init_32 ?_
  show P G _ _ _ _ 35 [some (.ref (ad G 86))] [] 91 (z0, z0l, uf (uf (uf (uf (rX9) 86 1 (some 87)) 86 2 (some 88)) 86 4 (some 89)) 86 5 (some 90))
  refine P.aload_n dX10_init_35 rfl rfl ?_
  refine P.bipush (v := nI 12) dX10_init_36 rfl ?_
  refine P.newZ (N := 12) (by decide +kernel) (Nat.le_of_ble_eq_true rfl) (fun _ => rfl) (roo_mk (by decide)) dX10_init_38 ?_
  refine P.putr (ci := 10) (N := 36) (j := 6) (T := TX10) (q := 91) tyX10 tyX10_ok nmX10 rfl inX10 (by decide +kernel) (by decide) (by decide) (by decide) rfl (fun _ _ _ h => h.2) rfl (tyX10_ok 6 (by decide)) rfl (fun _ => ⟨rfl, rfl⟩) fl_X10_22 dX10_init_40 ?_
  show P G _ _ _ _ 43 [some (.ref (ad G 86))] [] 92 (z0, z0l, uf (uf (uf (uf (uf (rX9) 86 1 (some 87)) 86 2 (some 88)) 86 4 (some 89)) 86 5 (some 90)) 86 6 (some 91))
  refine P.aload_n dX10_init_43 rfl rfl ?_
  refine P.bipush (v := nI 72) dX10_init_44 rfl ?_
  refine P.newZ (N := 72) (by decide +kernel) (Nat.le_of_ble_eq_true rfl) (fun _ => rfl) (roo_mk (by decide)) dX10_init_46 ?_
  refine P.putr (ci := 10) (N := 36) (j := 7) (T := TX10) (q := 92) tyX10 tyX10_ok nmX10 rfl inX10 (by decide +kernel) (by decide) (by decide) (by decide) rfl (fun _ _ _ h => h.2) rfl (tyX10_ok 7 (by decide)) rfl (fun _ => ⟨rfl, rfl⟩) fl_X10_26 dX10_init_48 ?_
  show P G _ _ _ _ 51 [some (.ref (ad G 86))] [] 93 (z0, z0l, uf (uf (uf (uf (uf (uf (rX9) 86 1 (some 87)) 86 2 (some 88)) 86 4 (some 89)) 86 5 (some 90)) 86 6 (some 91)) 86 7 (some 92))
  refine P.aload_n dX10_init_51 rfl rfl ?_
  refine P.bipush (v := nI 72) dX10_init_52 rfl ?_
  refine P.newL (N := 72) (by decide +kernel) (Nat.le_of_ble_eq_true rfl) (fun _ => rfl) (roo_mk (by decide)) dX10_init_54 ?_
  refine P.putr (ci := 10) (N := 36) (j := 8) (T := TX10) (q := 93) tyX10 tyX10_ok nmX10 rfl inX10 (by decide +kernel) (by decide) (by decide) (by decide) rfl (fun _ _ _ h => h.2) rfl (tyX10_ok 8 (by decide)) rfl (fun _ => ⟨rfl, rfl⟩) fl_X10_29 dX10_init_56 ?_
  show P G _ _ _ _ 59 [some (.ref (ad G 86))] [] 94 (z0, z0l, uf (uf (uf (uf (uf (uf (uf (rX9) 86 1 (some 87)) 86 2 (some 88)) 86 4 (some 89)) 86 5 (some 90)) 86 6 (some 91)) 86 7 (some 92)) 86 8 (some 93))
  refine P.aload_n dX10_init_59 rfl rfl ?_
  refine P.bipush (v := nI 10) dX10_init_60 rfl ?_
  refine P.newI (N := 10) (by decide +kernel) (Nat.le_of_ble_eq_true rfl) (fun _ => rfl) (roo_mk (by decide)) dX10_init_62 ?_
  refine P.putr (ci := 10) (N := 36) (j := 10) (T := TX10) (q := 94) tyX10 tyX10_ok nmX10 rfl inX10 (by decide +kernel) (by decide) (by decide) (by decide) rfl (fun _ _ _ h => h.2) rfl (tyX10_ok 10 (by decide)) rfl (fun _ => ⟨rfl, rfl⟩) fl_X10_33 dX10_init_64 ?_
  show P G _ _ _ _ 67 [some (.ref (ad G 86))] [] 95 (z0, z0l, uf (uf (uf (uf (uf (uf (uf (uf (rX9) 86 1 (some 87)) 86 2 (some 88)) 86 4 (some 89)) 86 5 (some 90)) 86 6 (some 91)) 86 7 (some 92)) 86 8 (some 93)) 86 10 (some 94))
  refine P.aload_n dX10_init_67 rfl rfl ?_
  refine P.bipush (v := nI 10) dX10_init_68 rfl ?_
  refine P.newI (N := 10) (by decide +kernel) (Nat.le_of_ble_eq_true rfl) (fun _ => rfl) (roo_mk (by decide)) dX10_init_70 ?_
  refine P.putr (ci := 10) (N := 36) (j := 11) (T := TX10) (q := 95) tyX10 tyX10_ok nmX10 rfl inX10 (by decide +kernel) (by decide) (by decide) (by decide) rfl (fun _ _ _ h => h.2) rfl (tyX10_ok 11 (by decide)) rfl (fun _ => ⟨rfl, rfl⟩) fl_X10_36 dX10_init_72 ?_
  show P G _ _ _ _ 75 [some (.ref (ad G 86))] [] 96 (z0, z0l, uf (uf (uf (uf (uf (uf (uf (uf (uf (rX9) 86 1 (some 87)) 86 2 (some 88)) 86 4 (some 89)) 86 5 (some 90)) 86 6 (some 91)) 86 7 (some 92)) 86 8 (some 93)) 86 10 (some 94)) 86 11 (some 95))
  refine P.aload_n dX10_init_75 rfl rfl ?_
  refine P.bipush (v := nI 10) dX10_init_76 rfl ?_
  refine P.newI (N := 10) (by decide +kernel) (Nat.le_of_ble_eq_true rfl) (fun _ => rfl) (roo_mk (by decide)) dX10_init_78 ?_
  refine P.putr (ci := 10) (N := 36) (j := 12) (T := TX10) (q := 96) tyX10 tyX10_ok nmX10 rfl inX10 (by decide +kernel) (by decide) (by decide) (by decide) rfl (fun _ _ _ h => h.2) rfl (tyX10_ok 12 (by decide)) rfl (fun _ => ⟨rfl, rfl⟩) fl_X10_39 dX10_init_80 ?_
  show P G _ _ _ _ 83 [some (.ref (ad G 86))] [] 97 (z0, z0l, uf (uf (uf (uf (uf (uf (uf (uf (uf (uf (rX9) 86 1 (some 87)) 86 2 (some 88)) 86 4 (some 89)) 86 5 (some 90)) 86 6 (some 91)) 86 7 (some 92)) 86 8 (some 93)) 86 10 (some 94)) 86 11 (some 95)) 86 12 (some 96))
  refine P.aload_n dX10_init_83 rfl rfl ?_
  refine P.bipush (v := nI 10) dX10_init_84 rfl ?_
  refine P.newI (N := 10) (by decide +kernel) (Nat.le_of_ble_eq_true rfl) (fun _ => rfl) (roo_mk (by decide)) dX10_init_86 ?_
  refine P.putr (ci := 10) (N := 36) (j := 13) (T := TX10) (q := 97) tyX10 tyX10_ok nmX10 rfl inX10 (by decide +kernel) (by decide) (by decide) (by decide) rfl (fun _ _ _ h => h.2) rfl (tyX10_ok 13 (by decide)) rfl (fun _ => ⟨rfl, rfl⟩) fl_X10_42 dX10_init_88 ?_
  show P G _ _ _ _ 91 [some (.ref (ad G 86))] [] 98 (z0, z0l, uf (uf (uf (uf (uf (uf (uf (uf (uf (uf (uf (rX9) 86 1 (some 87)) 86 2 (some 88)) 86 4 (some 89)) 86 5 (some 90)) 86 6 (some 91)) 86 7 (some 92)) 86 8 (some 93)) 86 10 (some 94)) 86 11 (some 95)) 86 12 (some 96)) 86 13 (some 97))
  refine P.aload_n dX10_init_91 rfl rfl ?_
  refine P.bipush (v := nI 10) dX10_init_92 rfl ?_
  refine P.newI (N := 10) (by decide +kernel) (Nat.le_of_ble_eq_true rfl) (fun _ => rfl) (roo_mk (by decide)) dX10_init_94 ?_
  refine P.putr (ci := 10) (N := 36) (j := 14) (T := TX10) (q := 98) tyX10 tyX10_ok nmX10 rfl inX10 (by decide +kernel) (by decide) (by decide) (by decide) rfl (fun _ _ _ h => h.2) rfl (tyX10_ok 14 (by decide)) rfl (fun _ => ⟨rfl, rfl⟩) fl_X10_45 dX10_init_96 ?_
  show P G _ _ _ _ 99 [some (.ref (ad G 86))] [] 99 (z0, z0l, uf (uf (uf (uf (uf (uf (uf (uf (uf (uf (uf (uf (rX9) 86 1 (some 87)) 86 2 (some 88)) 86 4 (some 89)) 86 5 (some 90)) 86 6 (some 91)) 86 7 (some 92)) 86 8 (some 93)) 86 10 (some 94)) 86 11 (some 95)) 86 12 (some 96)) 86 13 (some 97)) 86 14 (some 98))
  refine P.aload_n dX10_init_99 rfl rfl ?_
  refine P.bipush (v := nI 10) dX10_init_100 rfl ?_
  refine P.newL (N := 10) (by decide +kernel) (Nat.le_of_ble_eq_true rfl) (fun _ => rfl) (roo_mk (by decide)) dX10_init_102 ?_
  refine P.putr (ci := 10) (N := 36) (j := 15) (T := TX10) (q := 99) tyX10 tyX10_ok nmX10 rfl inX10 (by decide +kernel) (by decide) (by decide) (by decide) rfl (fun _ _ _ h => h.2) rfl (tyX10_ok 15 (by decide)) rfl (fun _ => ⟨rfl, rfl⟩) fl_X10_48 dX10_init_104 ?_
  show P G _ _ _ _ 107 [some (.ref (ad G 86))] [] 100 (z0, z0l, uf (uf (uf (uf (uf (uf (uf (uf (uf (uf (uf (uf (uf (rX9) 86 1 (some 87)) 86 2 (some 88)) 86 4 (some 89)) 86 5 (some 90)) 86 6 (some 91)) 86 7 (some 92)) 86 8 (some 93)) 86 10 (some 94)) 86 11 (some 95)) 86 12 (some 96)) 86 13 (some 97)) 86 14 (some 98)) 86 15 (some 99))
  refine P.aload_n dX10_init_107 rfl rfl ?_
  refine P.bipush (v := nI 10) dX10_init_108 rfl ?_
  refine P.newL (N := 10) (by decide +kernel) (Nat.le_of_ble_eq_true rfl) (fun _ => rfl) (roo_mk (by decide)) dX10_init_110 ?_
  refine P.putr (ci := 10) (N := 36) (j := 16) (T := TX10) (q := 100) tyX10 tyX10_ok nmX10 rfl inX10 (by decide +kernel) (by decide) (by decide) (by decide) rfl (fun _ _ _ h => h.2) rfl (tyX10_ok 16 (by decide)) rfl (fun _ => ⟨rfl, rfl⟩) fl_X10_51 dX10_init_112 ?_
  show P G _ _ _ _ 115 [some (.ref (ad G 86))] [] 101 (z0, z0l, uf (uf (uf (uf (uf (uf (uf (uf (uf (uf (uf (uf (uf (uf (rX9) 86 1 (some 87)) 86 2 (some 88)) 86 4 (some 89)) 86 5 (some 90)) 86 6 (some 91)) 86 7 (some 92)) 86 8 (some 93)) 86 10 (some 94)) 86 11 (some 95)) 86 12 (some 96)) 86 13 (some 97)) 86 14 (some 98)) 86 15 (some 99)) 86 16 (some 100))
  refine P.aload_n dX10_init_115 rfl rfl ?_
  refine P.bipush (v := nI 10) dX10_init_116 rfl ?_
  refine P.newZ (N := 10) (by decide +kernel) (Nat.le_of_ble_eq_true rfl) (fun _ => rfl) (roo_mk (by decide)) dX10_init_118 ?_
  refine P.putr (ci := 10) (N := 36) (j := 17) (T := TX10) (q := 101) tyX10 tyX10_ok nmX10 rfl inX10 (by decide +kernel) (by decide) (by decide) (by decide) rfl (fun _ _ _ h => h.2) rfl (tyX10_ok 17 (by decide)) rfl (fun _ => ⟨rfl, rfl⟩) fl_X10_54 dX10_init_120 ?_
  show P G _ _ _ _ 123 [some (.ref (ad G 86))] [] 102 (z0, z0l, uf (uf (uf (uf (uf (uf (uf (uf (uf (uf (uf (uf (uf (uf (uf (rX9) 86 1 (some 87)) 86 2 (some 88)) 86 4 (some 89)) 86 5 (some 90)) 86 6 (some 91)) 86 7 (some 92)) 86 8 (some 93)) 86 10 (some 94)) 86 11 (some 95)) 86 12 (some 96)) 86 13 (some 97)) 86 14 (some 98)) 86 15 (some 99)) 86 16 (some 100)) 86 17 (some 101))
  refine P.aload_n dX10_init_123 rfl rfl ?_
  refine P.iconst dX10_init_124 ic_3 ?_
  refine P.newI (N := 3) (by decide +kernel) (Nat.le_of_ble_eq_true rfl) (fun _ => rfl) (roo_mk (by decide)) dX10_init_125 ?_
  refine P.putr (ci := 10) (N := 36) (j := 20) (T := TX10) (q := 102) tyX10 tyX10_ok nmX10 rfl inX10 (by decide +kernel) (by decide) (by decide) (by decide) rfl (fun _ _ _ h => h.2) rfl (tyX10_ok 20 (by decide)) rfl (fun _ => ⟨rfl, rfl⟩) fl_X10_57 dX10_init_127 ?_
  show P G _ _ _ _ 130 [some (.ref (ad G 86))] [] 103 (z0, z0l, uf (uf (uf (uf (uf (uf (uf (uf (uf (uf (uf (uf (uf (uf (uf (uf (rX9) 86 1 (some 87)) 86 2 (some 88)) 86 4 (some 89)) 86 5 (some 90)) 86 6 (some 91)) 86 7 (some 92)) 86 8 (some 93)) 86 10 (some 94)) 86 11 (some 95)) 86 12 (some 96)) 86 13 (some 97)) 86 14 (some 98)) 86 15 (some 99)) 86 16 (some 100)) 86 17 (some 101)) 86 20 (some 102))
  refine P.aload_n dX10_init_130 rfl rfl ?_
  refine P.bipush (v := nI 18) dX10_init_131 rfl ?_
  refine P.newZ (N := 18) (by decide +kernel) (Nat.le_of_ble_eq_true rfl) (fun _ => rfl) (roo_mk (by decide)) dX10_init_133 ?_
  refine P.putr (ci := 10) (N := 36) (j := 21) (T := TX10) (q := 103) tyX10 tyX10_ok nmX10 rfl inX10 (by decide +kernel) (by decide) (by decide) (by decide) rfl (fun _ _ _ h => h.2) rfl (tyX10_ok 21 (by decide)) rfl (fun _ => ⟨rfl, rfl⟩) fl_X10_60 dX10_init_135 ?_
  show P G _ _ _ _ 138 [some (.ref (ad G 86))] [] 104 (z0, z0l, uf (uf (uf (uf (uf (uf (uf (uf (uf (uf (uf (uf (uf (uf (uf (uf (uf (rX9) 86 1 (some 87)) 86 2 (some 88)) 86 4 (some 89)) 86 5 (some 90)) 86 6 (some 91)) 86 7 (some 92)) 86 8 (some 93)) 86 10 (some 94)) 86 11 (some 95)) 86 12 (some 96)) 86 13 (some 97)) 86 14 (some 98)) 86 15 (some 99)) 86 16 (some 100)) 86 17 (some 101)) 86 20 (some 102)) 86 21 (some 103))
  refine P.aload_n dX10_init_138 rfl rfl ?_
  refine P.bipush (v := nI 18) dX10_init_139 rfl ?_
  refine P.newL (N := 18) (by decide +kernel) (Nat.le_of_ble_eq_true rfl) (fun _ => rfl) (roo_mk (by decide)) dX10_init_141 ?_
  refine P.putr (ci := 10) (N := 36) (j := 22) (T := TX10) (q := 104) tyX10 tyX10_ok nmX10 rfl inX10 (by decide +kernel) (by decide) (by decide) (by decide) rfl (fun _ _ _ h => h.2) rfl (tyX10_ok 22 (by decide)) rfl (fun _ => ⟨rfl, rfl⟩) fl_X10_63 dX10_init_143 ?_
  show P G _ _ _ _ 146 [some (.ref (ad G 86))] [] 105 (z0, z0l, uf (uf (uf (uf (uf (uf (uf (uf (uf (uf (uf (uf (uf (uf (uf (uf (uf (uf (rX9) 86 1 (some 87)) 86 2 (some 88)) 86 4 (some 89)) 86 5 (some 90)) 86 6 (some 91)) 86 7 (some 92)) 86 8 (some 93)) 86 10 (some 94)) 86 11 (some 95)) 86 12 (some 96)) 86 13 (some 97)) 86 14 (some 98)) 86 15 (some 99)) 86 16 (some 100)) 86 17 (some 101)) 86 20 (some 102)) 86 21 (some 103)) 86 22 (some 104))
  refine P.aload_n dX10_init_146 rfl rfl ?_
  refine P.bipush (v := nI 6) dX10_init_147 rfl ?_
  refine P.newI (N := 6) (by decide +kernel) (Nat.le_of_ble_eq_true rfl) (fun _ => rfl) (roo_mk (by decide)) dX10_init_149 ?_
  refine P.putr (ci := 10) (N := 36) (j := 24) (T := TX10) (q := 105) tyX10 tyX10_ok nmX10 rfl inX10 (by decide +kernel) (by decide) (by decide) (by decide) rfl (fun _ _ _ h => h.2) rfl (tyX10_ok 24 (by decide)) rfl (fun _ => ⟨rfl, rfl⟩) fl_X10_66 dX10_init_151 ?_
  show P G _ _ _ _ 154 [some (.ref (ad G 86))] [] 106 (z0, z0l, uf (uf (uf (uf (uf (uf (uf (uf (uf (uf (uf (uf (uf (uf (uf (uf (uf (uf (uf (rX9) 86 1 (some 87)) 86 2 (some 88)) 86 4 (some 89)) 86 5 (some 90)) 86 6 (some 91)) 86 7 (some 92)) 86 8 (some 93)) 86 10 (some 94)) 86 11 (some 95)) 86 12 (some 96)) 86 13 (some 97)) 86 14 (some 98)) 86 15 (some 99)) 86 16 (some 100)) 86 17 (some 101)) 86 20 (some 102)) 86 21 (some 103)) 86 22 (some 104)) 86 24 (some 105))
  refine P.aload_n dX10_init_154 rfl rfl ?_
  refine P.bipush (v := nI 6) dX10_init_155 rfl ?_
  refine P.newI (N := 6) (by decide +kernel) (Nat.le_of_ble_eq_true rfl) (fun _ => rfl) (roo_mk (by decide)) dX10_init_157 ?_
  refine P.putr (ci := 10) (N := 36) (j := 25) (T := TX10) (q := 106) tyX10 tyX10_ok nmX10 rfl inX10 (by decide +kernel) (by decide) (by decide) (by decide) rfl (fun _ _ _ h => h.2) rfl (tyX10_ok 25 (by decide)) rfl (fun _ => ⟨rfl, rfl⟩) fl_X10_69 dX10_init_159 ?_
  show P G _ _ _ _ 162 [some (.ref (ad G 86))] [] 107 (z0, z0l, uf (uf (uf (uf (uf (uf (uf (uf (uf (uf (uf (uf (uf (uf (uf (uf (uf (uf (uf (uf (rX9) 86 1 (some 87)) 86 2 (some 88)) 86 4 (some 89)) 86 5 (some 90)) 86 6 (some 91)) 86 7 (some 92)) 86 8 (some 93)) 86 10 (some 94)) 86 11 (some 95)) 86 12 (some 96)) 86 13 (some 97)) 86 14 (some 98)) 86 15 (some 99)) 86 16 (some 100)) 86 17 (some 101)) 86 20 (some 102)) 86 21 (some 103)) 86 22 (some 104)) 86 24 (some 105)) 86 25 (some 106))
  refine P.aload_n dX10_init_162 rfl rfl ?_
  refine P.bipush (v := nI 6) dX10_init_163 rfl ?_
  refine P.newI (N := 6) (by decide +kernel) (Nat.le_of_ble_eq_true rfl) (fun _ => rfl) (roo_mk (by decide)) dX10_init_165 ?_
  refine P.putr (ci := 10) (N := 36) (j := 26) (T := TX10) (q := 107) tyX10 tyX10_ok nmX10 rfl inX10 (by decide +kernel) (by decide) (by decide) (by decide) rfl (fun _ _ _ h => h.2) rfl (tyX10_ok 26 (by decide)) rfl (fun _ => ⟨rfl, rfl⟩) fl_X10_72 dX10_init_167 ?_
  show P G _ _ _ _ 170 [some (.ref (ad G 86))] [] 108 (z0, z0l, uf (uf (uf (uf (uf (uf (uf (uf (uf (uf (uf (uf (uf (uf (uf (uf (uf (uf (uf (uf (uf (rX9) 86 1 (some 87)) 86 2 (some 88)) 86 4 (some 89)) 86 5 (some 90)) 86 6 (some 91)) 86 7 (some 92)) 86 8 (some 93)) 86 10 (some 94)) 86 11 (some 95)) 86 12 (some 96)) 86 13 (some 97)) 86 14 (some 98)) 86 15 (some 99)) 86 16 (some 100)) 86 17 (some 101)) 86 20 (some 102)) 86 21 (some 103)) 86 22 (some 104)) 86 24 (some 105)) 86 25 (some 106)) 86 26 (some 107))
  refine P.aload_n dX10_init_170 rfl rfl ?_
  refine P.bipush (v := nI 6) dX10_init_171 rfl ?_
  refine P.newI (N := 6) (by decide +kernel) (Nat.le_of_ble_eq_true rfl) (fun _ => rfl) (roo_mk (by decide)) dX10_init_173 ?_
  refine P.putr (ci := 10) (N := 36) (j := 27) (T := TX10) (q := 108) tyX10 tyX10_ok nmX10 rfl inX10 (by decide +kernel) (by decide) (by decide) (by decide) rfl (fun _ _ _ h => h.2) rfl (tyX10_ok 27 (by decide)) rfl (fun _ => ⟨rfl, rfl⟩) fl_X10_75 dX10_init_175 ?_
  show P G _ _ _ _ 178 [some (.ref (ad G 86))] [] 109 (z0, z0l, uf (uf (uf (uf (uf (uf (uf (uf (uf (uf (uf (uf (uf (uf (uf (uf (uf (uf (uf (uf (uf (uf (rX9) 86 1 (some 87)) 86 2 (some 88)) 86 4 (some 89)) 86 5 (some 90)) 86 6 (some 91)) 86 7 (some 92)) 86 8 (some 93)) 86 10 (some 94)) 86 11 (some 95)) 86 12 (some 96)) 86 13 (some 97)) 86 14 (some 98)) 86 15 (some 99)) 86 16 (some 100)) 86 17 (some 101)) 86 20 (some 102)) 86 21 (some 103)) 86 22 (some 104)) 86 24 (some 105)) 86 25 (some 106)) 86 26 (some 107)) 86 27 (some 108))
  refine P.aload_n dX10_init_178 rfl rfl ?_
  refine P.sipush (v := nI 4096) dX10_init_179 rfl ?_
  refine P.newI (N := 4096) (by decide +kernel) (Nat.le_of_ble_eq_true rfl) (fun _ => rfl) (roo_mk (by decide)) dX10_init_182 ?_
  refine P.putr (ci := 10) (N := 36) (j := 30) (T := TX10) (q := 109) tyX10 tyX10_ok nmX10 rfl inX10 (by decide +kernel) (by decide) (by decide) (by decide) rfl (fun _ _ _ h => h.2) rfl (tyX10_ok 30 (by decide)) rfl (fun _ => ⟨rfl, rfl⟩) fl_X10_78 dX10_init_184 ?_
  show P G _ _ _ _ 187 [some (.ref (ad G 86))] [] 110 (z0, z0l, uf (uf (uf (uf (uf (uf (uf (uf (uf (uf (uf (uf (uf (uf (uf (uf (uf (uf (uf (uf (uf (uf (uf (rX9) 86 1 (some 87)) 86 2 (some 88)) 86 4 (some 89)) 86 5 (some 90)) 86 6 (some 91)) 86 7 (some 92)) 86 8 (some 93)) 86 10 (some 94)) 86 11 (some 95)) 86 12 (some 96)) 86 13 (some 97)) 86 14 (some 98)) 86 15 (some 99)) 86 16 (some 100)) 86 17 (some 101)) 86 20 (some 102)) 86 21 (some 103)) 86 22 (some 104)) 86 24 (some 105)) 86 25 (some 106)) 86 26 (some 107)) 86 27 (some 108)) 86 30 (some 109))
  refine P.aload_n dX10_init_187 rfl rfl ?_
  refine P.sipush (v := nI 4096) dX10_init_188 rfl ?_
  refine P.newZ (N := 4096) (by decide +kernel) (Nat.le_of_ble_eq_true rfl) (fun _ => rfl) (roo_mk (by decide)) dX10_init_191 ?_
  refine P.putr (ci := 10) (N := 36) (j := 31) (T := TX10) (q := 110) tyX10 tyX10_ok nmX10 rfl inX10 (by decide +kernel) (by decide) (by decide) (by decide) rfl (fun _ _ _ h => h.2) rfl (tyX10_ok 31 (by decide)) rfl (fun _ => ⟨rfl, rfl⟩) fl_X10_81 dX10_init_193 ?_
  show P G _ _ _ _ 196 [some (.ref (ad G 86))] [] 111 (z0, z0l, uf (uf (uf (uf (uf (uf (uf (uf (uf (uf (uf (uf (uf (uf (uf (uf (uf (uf (uf (uf (uf (uf (uf (uf (rX9) 86 1 (some 87)) 86 2 (some 88)) 86 4 (some 89)) 86 5 (some 90)) 86 6 (some 91)) 86 7 (some 92)) 86 8 (some 93)) 86 10 (some 94)) 86 11 (some 95)) 86 12 (some 96)) 86 13 (some 97)) 86 14 (some 98)) 86 15 (some 99)) 86 16 (some 100)) 86 17 (some 101)) 86 20 (some 102)) 86 21 (some 103)) 86 22 (some 104)) 86 24 (some 105)) 86 25 (some 106)) 86 26 (some 107)) 86 27 (some 108)) 86 30 (some 109)) 86 31 (some 110))
  refine P.aload_n dX10_init_196 rfl rfl ?_
  refine P.sipush (v := nI 4096) dX10_init_197 rfl ?_
  refine P.newI (N := 4096) (by decide +kernel) (Nat.le_of_ble_eq_true rfl) (fun _ => rfl) (roo_mk (by decide)) dX10_init_200 ?_
  refine P.putr (ci := 10) (N := 36) (j := 33) (T := TX10) (q := 111) tyX10 tyX10_ok nmX10 rfl inX10 (by decide +kernel) (by decide) (by decide) (by decide) rfl (fun _ _ _ h => h.2) rfl (tyX10_ok 33 (by decide)) rfl (fun _ => ⟨rfl, rfl⟩) fl_X10_84 dX10_init_202 ?_
  show P G _ _ _ _ 205 [some (.ref (ad G 86))] [] 112 (z0, z0l, uf (uf (uf (uf (uf (uf (uf (uf (uf (uf (uf (uf (uf (uf (uf (uf (uf (uf (uf (uf (uf (uf (uf (uf (uf (rX9) 86 1 (some 87)) 86 2 (some 88)) 86 4 (some 89)) 86 5 (some 90)) 86 6 (some 91)) 86 7 (some 92)) 86 8 (some 93)) 86 10 (some 94)) 86 11 (some 95)) 86 12 (some 96)) 86 13 (some 97)) 86 14 (some 98)) 86 15 (some 99)) 86 16 (some 100)) 86 17 (some 101)) 86 20 (some 102)) 86 21 (some 103)) 86 22 (some 104)) 86 24 (some 105)) 86 25 (some 106)) 86 26 (some 107)) 86 27 (some 108)) 86 30 (some 109)) 86 31 (some 110)) 86 33 (some 111))
  refine P.aload_n dX10_init_205 rfl rfl ?_
  refine P.bipush (v := nI 12) dX10_init_206 rfl ?_
  refine P.newL (N := 12) (by decide +kernel) (Nat.le_of_ble_eq_true rfl) (fun _ => rfl) (roo_mk (by decide)) dX10_init_208 ?_
  refine P.putr (ci := 10) (N := 36) (j := 34) (T := TX10) (q := 112) tyX10 tyX10_ok nmX10 rfl inX10 (by decide +kernel) (by decide) (by decide) (by decide) rfl (fun _ _ _ h => h.2) rfl (tyX10_ok 34 (by decide)) rfl (fun _ => ⟨rfl, rfl⟩) fl_X10_87 dX10_init_210 ?_
  show P G _ _ _ _ 213 [some (.ref (ad G 86))] [] 113 (z0, z0l, uf (uf (uf (uf (uf (uf (uf (uf (uf (uf (uf (uf (uf (uf (uf (uf (uf (uf (uf (uf (uf (uf (uf (uf (uf (uf (rX9) 86 1 (some 87)) 86 2 (some 88)) 86 4 (some 89)) 86 5 (some 90)) 86 6 (some 91)) 86 7 (some 92)) 86 8 (some 93)) 86 10 (some 94)) 86 11 (some 95)) 86 12 (some 96)) 86 13 (some 97)) 86 14 (some 98)) 86 15 (some 99)) 86 16 (some 100)) 86 17 (some 101)) 86 20 (some 102)) 86 21 (some 103)) 86 22 (some 104)) 86 24 (some 105)) 86 25 (some 106)) 86 26 (some 107)) 86 27 (some 108)) 86 30 (some 109)) 86 31 (some 110)) 86 33 (some 111)) 86 34 (some 112))
  refine P.aload_n dX10_init_213 rfl rfl ?_
  refine P.iconst dX10_init_214 ic_3 ?_
  refine P.newI (N := 3) (by decide +kernel) (Nat.le_of_ble_eq_true rfl) (fun _ => rfl) (roo_mk (by decide)) dX10_init_215 ?_
  refine P.putr (ci := 10) (N := 36) (j := 35) (T := TX10) (q := 113) tyX10 tyX10_ok nmX10 rfl inX10 (by decide +kernel) (by decide) (by decide) (by decide) rfl (fun _ _ _ h => h.2) rfl (tyX10_ok 35 (by decide)) rfl (fun _ => ⟨rfl, rfl⟩) fl_X10_90 dX10_init_217 ?_
  show P G _ _ _ _ 220 [some (.ref (ad G 86))] [] 114 (z0, z0l, uf (uf (uf (uf (uf (uf (uf (uf (uf (uf (uf (uf (uf (uf (uf (uf (uf (uf (uf (uf (uf (uf (uf (uf (uf (uf (uf (rX9) 86 1 (some 87)) 86 2 (some 88)) 86 4 (some 89)) 86 5 (some 90)) 86 6 (some 91)) 86 7 (some 92)) 86 8 (some 93)) 86 10 (some 94)) 86 11 (some 95)) 86 12 (some 96)) 86 13 (some 97)) 86 14 (some 98)) 86 15 (some 99)) 86 16 (some 100)) 86 17 (some 101)) 86 20 (some 102)) 86 21 (some 103)) 86 22 (some 104)) 86 24 (some 105)) 86 25 (some 106)) 86 26 (some 107)) 86 27 (some 108)) 86 30 (some 109)) 86 31 (some 110)) 86 33 (some 111)) 86 34 (some 112)) 86 35 (some 113))
  exact P.vret rfl dX10_init_220 rfl
theorem rX10_all : ∀ k, k < 114 → ∀ j, j < 40 → rX10 k j = refT k j := by decide +kernel

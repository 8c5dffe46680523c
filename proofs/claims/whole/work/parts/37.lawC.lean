/-! the law, call by call -/
set_option maxHeartbeats 4000000 in
set_option maxRecDepth 100000 in
theorem law_beat {p : Program} {l : Launch} {e : Env} {s : State} {m : MethodId} {b : Nat} {below : List Frame} {meth : Method} {c : Code} {E : GE} {A : Nat → Prop} {z0 L o i j : Nat} {xs : Nat → Int32} {Q : State → Prop} (CC : LC p l s m b c E A z0 L xs) (hL9 : L ≤ 2560) (hi9 : i + 5 ≤ L) (hj9 : j ≤ 511) (KK : LK p l e s m b below meth c E A z0 o Q 1763 i (j + 1)) (a : Nat → Nat) (mc : Int32) (n now lim : Nat) (F : LR) (lit : Nat → Bool) (fo : Nat → Nat) (fn : Nat → Int64) (bb : Nat → Nat) (th : Int32) (kp : Nat → Int32) (H : Heap) (locs : List Loc) (ls : Array Slot) (cells slots : Nat) (hst : LSt E A s b z0 i j a mc n now lim F lit fo o fn bb th kp H locs ls cells slots) : W p l e room_1 s m #[Value.ref b] below meth c H locs cells slots Q (F0 m 595 ls []) := by
  obtain ⟨hx, hb, hml, hown, hts, hK, hZ, hT, hA, hbA, hX, hbl, hl9⟩ := CC
  obtain ⟨hO, hnw, hz, hcl, hsl, hP, hD, hS, hl⟩ := hst
  refine lv_aload_n hx hb dL_law_595 rfl (lv_at hl 1 rfl) ?_
  refine csV_i (rest := []) (As := []) ⟨hx, hb, hml, hown, hts⟩ (c_X1_beat l E _ a n now lim F lit fo CV_app hO ) (cwV 0 hts gL_law_X1_beat rfl rfl rfl (by decide +kernel) ⟨Nat.le_of_ble_eq_true rfl, Nat.le_of_ble_eq_true rfl⟩) (va_recv hK hP (ci := 2) (q0 := 0) rfl (list_app wC_x)) hP hK rfl hl.1 rfl (Nat.le_of_ble_eq_true rfl) dL_law_596 (by show cells ≤ 601024; omega) (by show slots ≤ 7293034; omega) (fun r1 hr1 => ?_)
  subst hr1
  refine lv_aload_n hx hb dL_law_599 rfl (lv_at hl 2 rfl) ?_
  refine lawM_i (S := Unit) (W1 := fun kQ => wM E bb (nI 0) n lim F (NW now F) kp) (rest := [.int (nI now)]) (As := []) ⟨hx, hb, hml, hown, hts⟩ (c_X2_beat l E _ bb th n lim now F kp hO ) (cwV 0 hts gL_law_X2_beat rfl rfl rfl (by decide +kernel) ⟨Nat.le_of_ble_eq_true rfl, Nat.le_of_ble_eq_true rfl⟩) (va_recv hK hP (ci := 3) (q0 := (wC E a mc n now lim (LF F lit fo)).length + 1) rfl wG_m0) hP hK hD hS hA rfl hl.1 rfl (Nat.le_of_ble_eq_true rfl) dL_law_600 ⟨by show cells + 0 ≤ 601024; omega, by show slots + 0 ≤ 7293034; omega⟩ (fun r2 u2 H locs hr2 hP hD hS => ?_)
  subst hr2
  have hP : va_P E.1 vwCl (wG E (wC E a mc n now lim (LF F lit fo)) o (fn) (wM E bb (nI 0) n lim F (NW now F) kp)) _ := hP
  have hD : va_D A (wG E (wC E a mc n now lim (LF F lit fo)) o (fn) (wM E bb (nI 0) n lim F (NW now F) kp)) := hD
  refine lv_icmp_eq (tgt := 1763) hx hb dL_law_603 (by decide) (fun h603 => ?_) (fun h603 => ?_)
  · skip
    exact KK a mc n now lim F lit fo fn bb (nI 0) kp _ _ _ _ _ ⟨hO, by omega, hz, by omega, by omega, hP, hD, hS, (lv_sub hl [0, 1, 2, 3, 4] rfl)⟩
  · skip
    exact absurd rfl h603

set_option maxHeartbeats 4000000 in
set_option maxRecDepth 100000 in
theorem law_lamps {p : Program} {l : Launch} {e : Env} {s : State} {m : MethodId} {b : Nat} {below : List Frame} {meth : Method} {c : Code} {E : GE} {A : Nat → Prop} {z0 L o i j : Nat} {xs : Nat → Int32} {Q : State → Prop} (CC : LC p l s m b c E A z0 L xs) (hL9 : L ≤ 2560) (hi9 : i + 5 ≤ L) (hj9 : j ≤ 511) (KK : LK p l e s m b below meth c E A z0 o Q 1763 i (j + 1)) (a : Nat → Nat) (mc : Int32) (n now lim : Nat) (F : LR) (lit : Nat → Bool) (fo : Nat → Nat) (fn : Nat → Int64) (bb : Nat → Nat) (th : Int32) (kp : Nat → Int32) (H : Heap) (locs : List Loc) (ls : Array Slot) (cells slots : Nat) (hst : LSt E A s b z0 i j a mc n now lim F lit fo o fn bb th kp H locs ls cells slots) : W p l e room_1 s m #[Value.ref b] below meth c H locs cells slots Q (F0 m 608 ls []) := by
  obtain ⟨hx, hb, hml, hown, hts, hK, hZ, hT, hA, hbA, hX, hbl, hl9⟩ := CC
  obtain ⟨hO, hnw, hz, hcl, hsl, hP, hD, hS, hl⟩ := hst
  refine lv_aload_n hx hb dL_law_608 rfl (lv_at hl 1 rfl) ?_
  refine csV_i (rest := []) (As := []) ⟨hx, hb, hml, hown, hts⟩ (c_X1_lamps l E _ a n now lim F lit fo CV_app hO ) (cwV 0 hts gL_law_X1_lamps rfl rfl rfl (by decide +kernel) ⟨Nat.le_of_ble_eq_true rfl, Nat.le_of_ble_eq_true rfl⟩) (va_recv hK hP (ci := 2) (q0 := 0) rfl (list_app wC_x)) hP hK rfl hl.1 rfl (Nat.le_of_ble_eq_true rfl) dL_law_609 (by show cells ≤ 601024; omega) (by show slots ≤ 7293034; omega) (fun r1 hr1 => ?_)
  subst hr1
  refine lv_aload_n hx hb dL_law_612 rfl (lv_at hl 2 rfl) ?_
  refine lawM_i (S := Unit) (W1 := fun kQ => wM E bb (nI 0) n lim F (NW now F) kp) (rest := [.int (nI n)]) (As := []) ⟨hx, hb, hml, hown, hts⟩ (c_X2_lamps l E _ bb th n lim now F kp hO ) (cwV 0 hts gL_law_X2_lamps rfl rfl rfl (by decide +kernel) ⟨Nat.le_of_ble_eq_true rfl, Nat.le_of_ble_eq_true rfl⟩) (va_recv hK hP (ci := 3) (q0 := (wC E a mc n now lim (LF F lit fo)).length + 1) rfl wG_m0) hP hK hD hS hA rfl hl.1 rfl (Nat.le_of_ble_eq_true rfl) dL_law_613 ⟨by show cells + 0 ≤ 601024; omega, by show slots + 0 ≤ 7293034; omega⟩ (fun r2 u2 H locs hr2 hP hD hS => ?_)
  subst hr2
  have hP : va_P E.1 vwCl (wG E (wC E a mc n now lim (LF F lit fo)) o (fn) (wM E bb (nI 0) n lim F (NW now F) kp)) _ := hP
  have hD : va_D A (wG E (wC E a mc n now lim (LF F lit fo)) o (fn) (wM E bb (nI 0) n lim F (NW now F) kp)) := hD
  refine lv_icmp_eq (tgt := 1763) hx hb dL_law_616 (by decide) (fun h616 => ?_) (fun h616 => ?_)
  · skip
    exact KK a mc n now lim F lit fo fn bb (nI 0) kp _ _ _ _ _ ⟨hO, by omega, hz, by omega, by omega, hP, hD, hS, (lv_sub hl [0, 1, 2, 3, 4] rfl)⟩
  · skip
    exact absurd rfl h616

set_option maxHeartbeats 4000000 in
set_option maxRecDepth 100000 in
theorem law_limit {p : Program} {l : Launch} {e : Env} {s : State} {m : MethodId} {b : Nat} {below : List Frame} {meth : Method} {c : Code} {E : GE} {A : Nat → Prop} {z0 L o i j : Nat} {xs : Nat → Int32} {Q : State → Prop} (CC : LC p l s m b c E A z0 L xs) (hL9 : L ≤ 2560) (hi9 : i + 5 ≤ L) (hj9 : j ≤ 511) (KK : LK p l e s m b below meth c E A z0 o Q 1763 i (j + 1)) (a : Nat → Nat) (mc : Int32) (n now lim : Nat) (F : LR) (lit : Nat → Bool) (fo : Nat → Nat) (fn : Nat → Int64) (bb : Nat → Nat) (th : Int32) (kp : Nat → Int32) (H : Heap) (locs : List Loc) (ls : Array Slot) (cells slots : Nat) (hst : LSt E A s b z0 i j a mc n now lim F lit fo o fn bb th kp H locs ls cells slots) : W p l e room_1 s m #[Value.ref b] below meth c H locs cells slots Q (F0 m 621 ls []) := by
  obtain ⟨hx, hb, hml, hown, hts, hK, hZ, hT, hA, hbA, hX, hbl, hl9⟩ := CC
  obtain ⟨hO, hnw, hz, hcl, hsl, hP, hD, hS, hl⟩ := hst
  refine lv_aload_n hx hb dL_law_621 rfl (lv_at hl 1 rfl) ?_
  refine csV_i (rest := []) (As := []) ⟨hx, hb, hml, hown, hts⟩ (c_X1_limit l E _ a n now lim F lit fo CV_app hO ) (cwV 0 hts gL_law_X1_limit rfl rfl rfl (by decide +kernel) ⟨Nat.le_of_ble_eq_true rfl, Nat.le_of_ble_eq_true rfl⟩) (va_recv hK hP (ci := 2) (q0 := 0) rfl (list_app wC_x)) hP hK rfl hl.1 rfl (Nat.le_of_ble_eq_true rfl) dL_law_622 (by show cells ≤ 601024; omega) (by show slots ≤ 7293034; omega) (fun r1 hr1 => ?_)
  subst hr1
  refine lv_aload_n hx hb dL_law_625 rfl (lv_at hl 2 rfl) ?_
  refine lawM_i (S := Unit) (W1 := fun kQ => wM E bb (nI 0) n lim F (NW now F) kp) (rest := [.int (nI lim)]) (As := []) ⟨hx, hb, hml, hown, hts⟩ (c_X2_limit l E _ bb th n lim now F kp hO ) (cwV 0 hts gL_law_X2_limit rfl rfl rfl (by decide +kernel) ⟨Nat.le_of_ble_eq_true rfl, Nat.le_of_ble_eq_true rfl⟩) (va_recv hK hP (ci := 3) (q0 := (wC E a mc n now lim (LF F lit fo)).length + 1) rfl wG_m0) hP hK hD hS hA rfl hl.1 rfl (Nat.le_of_ble_eq_true rfl) dL_law_626 ⟨by show cells + 0 ≤ 601024; omega, by show slots + 0 ≤ 7293034; omega⟩ (fun r2 u2 H locs hr2 hP hD hS => ?_)
  subst hr2
  have hP : va_P E.1 vwCl (wG E (wC E a mc n now lim (LF F lit fo)) o (fn) (wM E bb (nI 0) n lim F (NW now F) kp)) _ := hP
  have hD : va_D A (wG E (wC E a mc n now lim (LF F lit fo)) o (fn) (wM E bb (nI 0) n lim F (NW now F) kp)) := hD
  refine lv_icmp_eq (tgt := 1763) hx hb dL_law_629 (by decide) (fun h629 => ?_) (fun h629 => ?_)
  · skip
    exact KK a mc n now lim F lit fo fn bb (nI 0) kp _ _ _ _ _ ⟨hO, by omega, hz, by omega, by omega, hP, hD, hS, (lv_sub hl [0, 1, 2, 3, 4] rfl)⟩
  · skip
    exact absurd rfl h629

set_option maxHeartbeats 4000000 in
set_option maxRecDepth 100000 in
theorem law_power {p : Program} {l : Launch} {e : Env} {s : State} {m : MethodId} {b : Nat} {below : List Frame} {meth : Method} {c : Code} {E : GE} {A : Nat → Prop} {z0 L o i j : Nat} {xs : Nat → Int32} {Q : State → Prop} (CC : LC p l s m b c E A z0 L xs) (hL9 : L ≤ 2560) (hi9 : i + 5 ≤ L) (hj9 : j ≤ 511) (KK : LK p l e s m b below meth c E A z0 o Q 1763 i (j + 1)) (a : Nat → Nat) (mc : Int32) (n now lim : Nat) (F : LR) (lit : Nat → Bool) (fo : Nat → Nat) (fn : Nat → Int64) (bb : Nat → Nat) (th : Int32) (kp : Nat → Int32) (H : Heap) (locs : List Loc) (ls : Array Slot) (cells slots : Nat) (hst : LSt E A s b z0 i j a mc n now lim F lit fo o fn bb th kp H locs ls cells slots) : W p l e room_1 s m #[Value.ref b] below meth c H locs cells slots Q (F0 m 634 ls []) := by
  obtain ⟨hx, hb, hml, hown, hts, hK, hZ, hT, hA, hbA, hX, hbl, hl9⟩ := CC
  obtain ⟨hO, hnw, hz, hcl, hsl, hP, hD, hS, hl⟩ := hst
  refine lv_aload_n hx hb dL_law_634 rfl (lv_at hl 1 rfl) ?_
  refine lawC_i (S := Nat → Bool) (W1 := fun uQ => wC E a mc n now lim (LF F uQ fo)) (rest := []) (As := []) ⟨hx, hb, hml, hown, hts⟩ (c_X1_power l E _ a mc n now lim F lit fo hO ) (cwV 0 hts gL_law_X1_power rfl rfl rfl (by decide +kernel) ⟨Nat.le_of_ble_eq_true rfl, Nat.le_of_ble_eq_true rfl⟩) (va_recv hK hP (ci := 2) (q0 := 0) rfl (list_app wC_x)) hP hK hD hS hA rfl hl.1 rfl (Nat.le_of_ble_eq_true rfl) dL_law_635 ⟨by show cells + 0 ≤ 601024; omega, by show slots + 0 ≤ 7293034; omega⟩ (fun r1 u1 H locs hr1 hP hD hS => ?_)
  subst hr1
  have hP : va_P E.1 vwCl (wG E (wC E a mc n now lim (LF F u1 fo)) o (fn) (wM E bb (th) n lim F (NW now F) kp)) _ := hP
  have hD : va_D A (wG E (wC E a mc n now lim (LF F u1 fo)) o (fn) (wM E bb (th) n lim F (NW now F) kp)) := hD
  refine lv_aload_n hx hb dL_law_638 rfl (lv_at hl 2 rfl) ?_
  refine lawM_i (S := Unit) (W1 := fun kQ => wM E bb (nI 0) n lim F (NW now F) kp) (rest := [.int (nI (acS F lim now n))]) (As := []) ⟨hx, hb, hml, hown, hts⟩ (c_X2_power l E _ bb th n lim now F kp hO ) (cwV 0 hts gL_law_X2_power rfl rfl rfl (by decide +kernel) ⟨Nat.le_of_ble_eq_true rfl, Nat.le_of_ble_eq_true rfl⟩) (va_recv hK hP (ci := 3) (q0 := (wC E a mc n now lim (LF F u1 fo)).length + 1) rfl wG_m0) hP hK hD hS hA rfl hl.1 rfl (Nat.le_of_ble_eq_true rfl) dL_law_639 ⟨by show cells + 0 + 0 ≤ 601024; omega, by show slots + 0 + 0 ≤ 7293034; omega⟩ (fun r2 u2 H locs hr2 hP hD hS => ?_)
  subst hr2
  have hP : va_P E.1 vwCl (wG E (wC E a mc n now lim (LF F u1 fo)) o (fn) (wM E bb (nI 0) n lim F (NW now F) kp)) _ := hP
  have hD : va_D A (wG E (wC E a mc n now lim (LF F u1 fo)) o (fn) (wM E bb (nI 0) n lim F (NW now F) kp)) := hD
  refine lv_icmp_eq (tgt := 1763) hx hb dL_law_642 (by decide) (fun h642 => ?_) (fun h642 => ?_)
  · skip
    exact KK a mc n now lim F u1 fo fn bb (nI 0) kp _ _ _ _ _ ⟨hO, by omega, hz, by omega, by omega, hP, hD, hS, (lv_sub hl [0, 1, 2, 3, 4] rfl)⟩
  · skip
    exact absurd rfl h642

set_option maxHeartbeats 4000000 in
set_option maxRecDepth 100000 in
theorem law_phaseOf {p : Program} {l : Launch} {e : Env} {s : State} {m : MethodId} {b : Nat} {below : List Frame} {meth : Method} {c : Code} {E : GE} {A : Nat → Prop} {z0 L o i j : Nat} {xs : Nat → Int32} {Q : State → Prop} (CC : LC p l s m b c E A z0 L xs) (hL9 : L ≤ 2560) (hi9 : i + 5 ≤ L) (hj9 : j ≤ 511) (KK : LK p l e s m b below meth c E A z0 o Q 1763 i (j + 1)) (a : Nat → Nat) (mc : Int32) (n now lim : Nat) (F : LR) (lit : Nat → Bool) (fo : Nat → Nat) (fn : Nat → Int64) (bb : Nat → Nat) (th : Int32) (kp : Nat → Int32) (H : Heap) (locs : List Loc) (ls : Array Slot) (cells slots : Nat) (hst : LSt E A s b z0 i j a mc n now lim F lit fo o fn bb th kp H locs ls cells slots) (k : Nat) (hk : k < n) (e1 : xs (i + 1) = (nI k)) : W p l e room_1 s m #[Value.ref b] below meth c H locs cells slots Q (F0 m 647 ls []) := by
  obtain ⟨hx, hb, hml, hown, hts, hK, hZ, hT, hA, hbA, hX, hbl, hl9⟩ := CC
  obtain ⟨hO, hnw, hz, hcl, hsl, hP, hD, hS, hl⟩ := hst
  refine lv_aload_n hx hb dL_law_647 rfl (lv_at hl 1 rfl) ?_
  refine lv_aload_n hx hb dL_law_648 rfl (lv_at hl 0 rfl) ?_
  refine lv_iload hx hb dL_law_649 (lv_at hl 4 rfl) ?_
  refine lv_iconst (v := (nI 1)) hx hb dL_law_651 (by decide) ?_
  refine nq_add hx hb dL_law_652 ?_
  refine va_sld hx hb hX hbl hbA hS (i := nI (i + 1)) (by exact vp_in_nI (by omega) (by omega)) dL_law_653 ?_
  refine nq_top (show xs ((nI (i + 1)).toNatClampNeg) = (nI k) from by rw [nI_clamp (by omega)]; exact e1) ?_
  refine lv_aload_n hx hb dL_law_654 rfl (lv_at hl 3 rfl) ?_
  refine lawS (S := Unit) (W1 := fun uQ => wC E a mc n now lim (LF F lit fo)) (f1 := fun uQ => vp_updL fn 0 (((nI (ph F k now))).toInt64)) (rest := []) (As := [.ref (a 0), .int (nI k), .ref o]) ⟨hx, hb, hml, hown, hts⟩ (w_L_phaseOf l hl9 E _ z0 a mc n now lim F lit fo hO o fn k hk) (vx_cwSW 3 hts gL_law_L_phaseOf rfl rfl rfl (by decide +kernel) ⟨Nat.le_of_ble_eq_true rfl, Nat.le_of_ble_eq_true rfl⟩) hP hK hD hZ hT hS hA rfl hl.1 rfl (Nat.le_of_ble_eq_true rfl) dL_law_655 ⟨by show cells + 0 ≤ 601024; omega, by show slots + 0 ≤ 7293034; omega⟩ (fun r1 u1 H locs hr1 hP hD hS => ?_)
  subst hr1
  have hP : va_P E.1 vwCl (wG E (wC E a mc n now lim (LF F lit fo)) o (vp_updL fn 0 (((nI (ph F k now))).toInt64)) (wM E bb (th) n lim F (NW now F) kp)) _ := hP
  have hD : va_D A (wG E (wC E a mc n now lim (LF F lit fo)) o (vp_updL fn 0 (((nI (ph F k now))).toInt64)) (wM E bb (th) n lim F (NW now F) kp)) := hD
  refine lv_istore (lv' := [(5, .int (nI 0)), (0, .ref b), (1, .ref (a 0)), (2, .ref (bb 0)), (3, .ref o), (4, .int (nI i))]) hx hb dL_law_658 hl (by decide) rfl (fun ls hl => ?_)
  refine lv_aload_n hx hb dL_law_660 rfl (lv_at hl 3 rfl) ?_
  refine lv_aload_n hx hb dL_law_661 rfl (lv_at hl 1 rfl) ?_
  refine lv_iload hx hb dL_law_662 (lv_at hl 5 rfl) ?_
  refine lv_iconst (v := (nI 1)) hx hb dL_law_664 (by decide) ?_
  refine nq_add hx hb dL_law_665 ?_
  refine va_sld hx hb hX hbl hbA hS (i := nI (i + 1)) (by exact vp_in_nI (by omega) (by omega)) dL_law_666 ?_
  refine nq_top (show xs ((nI (i + 1)).toNatClampNeg) = (nI k) from by rw [nI_clamp (by omega)]; exact e1) ?_
  refine lawM_i (S := Unit) (W1 := fun kQ => wM E bb (nI 0) n lim F (NW now F) kp) (rest := []) (As := [.int (nI k)]) ⟨hx, hb, hml, hown, hts⟩ (c_X2_phaseOf l E _ bb th n lim now F kp hO k hk) (cwV 1 hts gL_law_X2_phaseOf rfl rfl rfl (by decide +kernel) ⟨Nat.le_of_ble_eq_true rfl, Nat.le_of_ble_eq_true rfl⟩) (va_recv hK hP (ci := 3) (q0 := (wC E a mc n now lim (LF F lit fo)).length + 1) rfl wG_m0) hP hK hD hS hA rfl hl.1 rfl (Nat.le_of_ble_eq_true rfl) dL_law_667 ⟨by show cells + 0 + 0 ≤ 601024; omega, by show slots + 0 + 0 ≤ 7293034; omega⟩ (fun r2 u2 H locs hr2 hP hD hS => ?_)
  subst hr2
  have hP : va_P E.1 vwCl (wG E (wC E a mc n now lim (LF F lit fo)) o (vp_updL fn 0 (((nI (ph F k now))).toInt64)) (wM E bb (nI 0) n lim F (NW now F) kp)) _ := hP
  have hD : va_D A (wG E (wC E a mc n now lim (LF F lit fo)) o (vp_updL fn 0 (((nI (ph F k now))).toInt64)) (wM E bb (nI 0) n lim F (NW now F) kp)) := hD
  refine lv_istore (lv' := [(6, .int (nI (ph F k now))), (5, .int (nI 0)), (0, .ref b), (1, .ref (a 0)), (2, .ref (bb 0)), (3, .ref o), (4, .int (nI i))]) hx hb dL_law_670 hl (by decide) rfl (fun ls hl => ?_)
  refine lv_aload_n hx hb dL_law_672 rfl (lv_at hl 4 rfl) ?_
  refine lawM_i (S := Unit) (W1 := fun kQ => wM E bb (nI 0) n lim F (NW now F) kp) (rest := []) (As := []) ⟨hx, hb, hml, hown, hts⟩ (c_X2_thrown l E _ bb (nI 0) n lim now F kp) (cwV 0 hts gL_law_X2_thrown rfl rfl rfl (by decide +kernel) ⟨Nat.le_of_ble_eq_true rfl, Nat.le_of_ble_eq_true rfl⟩) (va_recv hK hP (ci := 3) (q0 := (wC E a mc n now lim (LF F lit fo)).length + 1) rfl wG_m0) hP hK hD hS hA rfl hl.1 rfl (Nat.le_of_ble_eq_true rfl) dL_law_673 ⟨by show cells + 0 + 0 + 0 ≤ 601024; omega, by show slots + 0 + 0 + 0 ≤ 7293034; omega⟩ (fun r3 u3 H locs hr3 hP hD hS => ?_)
  subst hr3
  have hP : va_P E.1 vwCl (wG E (wC E a mc n now lim (LF F lit fo)) o (vp_updL fn 0 (((nI (ph F k now))).toInt64)) (wM E bb (nI 0) n lim F (NW now F) kp)) _ := hP
  have hD : va_D A (wG E (wC E a mc n now lim (LF F lit fo)) o (vp_updL fn 0 (((nI (ph F k now))).toInt64)) (wM E bb (nI 0) n lim F (NW now F) kp)) := hD
  refine lv_iload hx hb dL_law_676 (lv_at hl 1 rfl) ?_
  refine nq_icmp_eq (tgt := 683) hx hb dL_law_678 (by decide) (by omega) (by omega) (fun h678 => ?_) (fun h678 => ?_)
  · skip
    refine lv_iload hx hb dL_law_683 (lv_at hl 1 rfl) ?_
    refine nq_if_ne (tgt := 700) hx hb dL_law_685 (by decide) (by decide) (fun h685 => ?_) (fun h685 => ?_)
    · skip
      exact absurd h685 (by decide)
    · skip
      refine lv_aload_n hx hb dL_law_688 rfl (lv_at hl 5 rfl) ?_
      refine lv_iconst (v := (nI 0)) hx hb dL_law_689 (by decide) ?_
      refine va_lald hx hb hK hP (wC E a mc n now lim (LF F lit fo)).length 2 wG_o rfl (i := nI 0) (by exact vp_in_nI (by omega) (by omega)) dL_law_690 ?_
      refine nq_topl (show (vp_updL fn 0 (((nI (ph F k now))).toInt64)) ((nI 0).toNatClampNeg) = ((nI (ph F k now))).toInt64 from by rw [nI_clamp (by omega)]; exact if_pos rfl) ?_
      refine lv_iload hx hb dL_law_691 (lv_at hl 0 rfl) ?_
      refine lv_i2l (v := (nI (ph F k now)).toInt64) hx hb dL_law_693 (rfl) ?_
      refine nq_topl (show (nI (ph F k now)).toInt64 = ((nI (ph F k now))).toInt64 from by first | rfl | (rw [h685]; rfl)) ?_
      refine W.lcmp hx hb dL_law_694 ?_
      refine lv_if_eq (tgt := 700) hx hb dL_law_695 (by decide) (fun h695 => ?_) (fun h695 => ?_)
      · skip
        refine lv_goto (tgt := 1763) hx hb dL_law_700 (by decide) ?_
        exact KK a mc n now lim F lit fo (vp_updL fn 0 (((nI (ph F k now))).toInt64)) bb (nI 0) kp _ _ _ _ _ ⟨hO, by omega, hz, by omega, by omega, hP, hD, hS, (lv_sub hl [2, 3, 4, 5, 6] rfl)⟩
      · skip
        exact absurd (lg_self _) h695
  · skip
    exact absurd rfl h678

set_option maxHeartbeats 4000000 in
set_option maxRecDepth 100000 in
theorem law_phaseOf_x {p : Program} {l : Launch} {e : Env} {s : State} {m : MethodId} {b : Nat} {below : List Frame} {meth : Method} {c : Code} {E : GE} {A : Nat → Prop} {z0 L o i j : Nat} {xs : Nat → Int32} {Q : State → Prop} (CC : LC p l s m b c E A z0 L xs) (hL9 : L ≤ 2560) (hi9 : i + 5 ≤ L) (hj9 : j ≤ 511) (KK : LK p l e s m b below meth c E A z0 o Q 1763 i (j + 1)) (a : Nat → Nat) (mc : Int32) (n now lim : Nat) (F : LR) (lit : Nat → Bool) (fo : Nat → Nat) (fn : Nat → Int64) (bb : Nat → Nat) (th : Int32) (kp : Nat → Int32) (H : Heap) (locs : List Loc) (ls : Array Slot) (cells slots : Nat) (hst : LSt E A s b z0 i j a mc n now lim F lit fo o fn bb th kp H locs ls cells slots) (x : Int32) (hx9 : lpB n x = false) (e1 : xs (i + 1) = x) : W p l e room_1 s m #[Value.ref b] below meth c H locs cells slots Q (F0 m 647 ls []) := by
  obtain ⟨hx, hb, hml, hown, hts, hK, hZ, hT, hA, hbA, hX, hbl, hl9⟩ := CC
  obtain ⟨hO, hnw, hz, hcl, hsl, hP, hD, hS, hl⟩ := hst
  refine lv_aload_n hx hb dL_law_647 rfl (lv_at hl 1 rfl) ?_
  refine lv_aload_n hx hb dL_law_648 rfl (lv_at hl 0 rfl) ?_
  refine lv_iload hx hb dL_law_649 (lv_at hl 4 rfl) ?_
  refine lv_iconst (v := (nI 1)) hx hb dL_law_651 (by decide) ?_
  refine nq_add hx hb dL_law_652 ?_
  refine va_sld hx hb hX hbl hbA hS (i := nI (i + 1)) (by exact vp_in_nI (by omega) (by omega)) dL_law_653 ?_
  refine nq_top (show xs ((nI (i + 1)).toNatClampNeg) = x from by rw [nI_clamp (by omega)]; exact e1) ?_
  refine lv_aload_n hx hb dL_law_654 rfl (lv_at hl 3 rfl) ?_
  refine lawS (S := Unit) (W1 := fun uQ => wC E a mc n now lim (LF F lit fo)) (f1 := fun uQ => fn) (rest := []) (As := [.ref (a 0), .int x, .ref o]) ⟨hx, hb, hml, hown, hts⟩ (w_L_phaseOf_x l hl9 E _ z0 a mc n now lim F lit fo hO o fn x hx9) (vx_cwSW 3 hts gL_law_L_phaseOf rfl rfl rfl (by decide +kernel) ⟨Nat.le_of_ble_eq_true rfl, Nat.le_of_ble_eq_true rfl⟩) hP hK hD hZ hT hS hA rfl hl.1 rfl (Nat.le_of_ble_eq_true rfl) dL_law_655 ⟨by show cells + 1 ≤ 601024; omega, by show slots + 6 ≤ 7293034; omega⟩ (fun r1 u1 H locs hr1 hP hD hS => ?_)
  subst hr1
  have hP : va_P E.1 vwCl (wG E (wC E a mc n now lim (LF F lit fo)) o (fn) (wM E bb (th) n lim F (NW now F) kp)) _ := hP
  have hD : va_D A (wG E (wC E a mc n now lim (LF F lit fo)) o (fn) (wM E bb (th) n lim F (NW now F) kp)) := hD
  refine lv_istore (lv' := [(5, .int (nI 1)), (0, .ref b), (1, .ref (a 0)), (2, .ref (bb 0)), (3, .ref o), (4, .int (nI i))]) hx hb dL_law_658 hl (by decide) rfl (fun ls hl => ?_)
  refine lv_aload_n hx hb dL_law_660 rfl (lv_at hl 3 rfl) ?_
  refine lv_aload_n hx hb dL_law_661 rfl (lv_at hl 1 rfl) ?_
  refine lv_iload hx hb dL_law_662 (lv_at hl 5 rfl) ?_
  refine lv_iconst (v := (nI 1)) hx hb dL_law_664 (by decide) ?_
  refine nq_add hx hb dL_law_665 ?_
  refine va_sld hx hb hX hbl hbA hS (i := nI (i + 1)) (by exact vp_in_nI (by omega) (by omega)) dL_law_666 ?_
  refine nq_top (show xs ((nI (i + 1)).toNatClampNeg) = x from by rw [nI_clamp (by omega)]; exact e1) ?_
  refine lawM_i (S := Unit) (W1 := fun kQ => wM E bb (nI 1) n lim F (NW now F) kp) (rest := []) (As := [.int x]) ⟨hx, hb, hml, hown, hts⟩ (c_X2_phaseOf_x l E _ bb th n lim now F kp hO x hx9) (cwV 1 hts gL_law_X2_phaseOf rfl rfl rfl (by decide +kernel) ⟨Nat.le_of_ble_eq_true rfl, Nat.le_of_ble_eq_true rfl⟩) (va_recv hK hP (ci := 3) (q0 := (wC E a mc n now lim (LF F lit fo)).length + 1) rfl wG_m0) hP hK hD hS hA rfl hl.1 rfl (Nat.le_of_ble_eq_true rfl) dL_law_667 ⟨by show cells + 1 + 0 ≤ 601024; omega, by show slots + 6 + 0 ≤ 7293034; omega⟩ (fun r2 u2 H locs hr2 hP hD hS => ?_)
  subst hr2
  have hP : va_P E.1 vwCl (wG E (wC E a mc n now lim (LF F lit fo)) o (fn) (wM E bb (nI 1) n lim F (NW now F) kp)) _ := hP
  have hD : va_D A (wG E (wC E a mc n now lim (LF F lit fo)) o (fn) (wM E bb (nI 1) n lim F (NW now F) kp)) := hD
  refine lv_istore (lv' := [(6, .int (nI 0)), (5, .int (nI 1)), (0, .ref b), (1, .ref (a 0)), (2, .ref (bb 0)), (3, .ref o), (4, .int (nI i))]) hx hb dL_law_670 hl (by decide) rfl (fun ls hl => ?_)
  refine lv_aload_n hx hb dL_law_672 rfl (lv_at hl 4 rfl) ?_
  refine lawM_i (S := Unit) (W1 := fun kQ => wM E bb (nI 1) n lim F (NW now F) kp) (rest := []) (As := []) ⟨hx, hb, hml, hown, hts⟩ (c_X2_thrown l E _ bb (nI 1) n lim now F kp) (cwV 0 hts gL_law_X2_thrown rfl rfl rfl (by decide +kernel) ⟨Nat.le_of_ble_eq_true rfl, Nat.le_of_ble_eq_true rfl⟩) (va_recv hK hP (ci := 3) (q0 := (wC E a mc n now lim (LF F lit fo)).length + 1) rfl wG_m0) hP hK hD hS hA rfl hl.1 rfl (Nat.le_of_ble_eq_true rfl) dL_law_673 ⟨by show cells + 1 + 0 + 0 ≤ 601024; omega, by show slots + 6 + 0 + 0 ≤ 7293034; omega⟩ (fun r3 u3 H locs hr3 hP hD hS => ?_)
  subst hr3
  have hP : va_P E.1 vwCl (wG E (wC E a mc n now lim (LF F lit fo)) o (fn) (wM E bb (nI 1) n lim F (NW now F) kp)) _ := hP
  have hD : va_D A (wG E (wC E a mc n now lim (LF F lit fo)) o (fn) (wM E bb (nI 1) n lim F (NW now F) kp)) := hD
  refine lv_iload hx hb dL_law_676 (lv_at hl 1 rfl) ?_
  refine nq_icmp_eq (tgt := 683) hx hb dL_law_678 (by decide) (by omega) (by omega) (fun h678 => ?_) (fun h678 => ?_)
  · skip
    refine lv_iload hx hb dL_law_683 (lv_at hl 1 rfl) ?_
    refine nq_if_ne (tgt := 700) hx hb dL_law_685 (by decide) (by decide) (fun h685 => ?_) (fun h685 => ?_)
    · skip
      refine lv_goto (tgt := 1763) hx hb dL_law_700 (by decide) ?_
      exact KK a mc n now lim F lit fo fn bb (nI 1) kp _ _ _ _ _ ⟨hO, by omega, hz, by omega, by omega, hP, hD, hS, (lv_sub hl [2, 3, 4, 5, 6] rfl)⟩
    · skip
      exact absurd h685 (by decide)
  · skip
    exact absurd rfl h678

set_option maxHeartbeats 4000000 in
set_option maxRecDepth 100000 in
theorem law_isDue {p : Program} {l : Launch} {e : Env} {s : State} {m : MethodId} {b : Nat} {below : List Frame} {meth : Method} {c : Code} {E : GE} {A : Nat → Prop} {z0 L o i j : Nat} {xs : Nat → Int32} {Q : State → Prop} (CC : LC p l s m b c E A z0 L xs) (hL9 : L ≤ 2560) (hi9 : i + 5 ≤ L) (hj9 : j ≤ 511) (KK : LK p l e s m b below meth c E A z0 o Q 1763 i (j + 1)) (a : Nat → Nat) (mc : Int32) (n now lim : Nat) (F : LR) (lit : Nat → Bool) (fo : Nat → Nat) (fn : Nat → Int64) (bb : Nat → Nat) (th : Int32) (kp : Nat → Int32) (H : Heap) (locs : List Loc) (ls : Array Slot) (cells slots : Nat) (hst : LSt E A s b z0 i j a mc n now lim F lit fo o fn bb th kp H locs ls cells slots) (k : Nat) (hk : k < n) (e1 : xs (i + 1) = (nI k)) : W p l e room_1 s m #[Value.ref b] below meth c H locs cells slots Q (F0 m 703 ls []) := by
  obtain ⟨hx, hb, hml, hown, hts, hK, hZ, hT, hA, hbA, hX, hbl, hl9⟩ := CC
  obtain ⟨hO, hnw, hz, hcl, hsl, hP, hD, hS, hl⟩ := hst
  refine lv_aload_n hx hb dL_law_703 rfl (lv_at hl 1 rfl) ?_
  refine lv_aload_n hx hb dL_law_704 rfl (lv_at hl 0 rfl) ?_
  refine lv_iload hx hb dL_law_705 (lv_at hl 4 rfl) ?_
  refine lv_iconst (v := (nI 1)) hx hb dL_law_707 (by decide) ?_
  refine nq_add hx hb dL_law_708 ?_
  refine va_sld hx hb hX hbl hbA hS (i := nI (i + 1)) (by exact vp_in_nI (by omega) (by omega)) dL_law_709 ?_
  refine nq_top (show xs ((nI (i + 1)).toNatClampNeg) = (nI k) from by rw [nI_clamp (by omega)]; exact e1) ?_
  refine lv_aload_n hx hb dL_law_710 rfl (lv_at hl 3 rfl) ?_
  refine lawS (S := Unit) (W1 := fun uQ => wC E a mc n now lim (LF F lit fo)) (f1 := fun uQ => vp_updL fn 0 (bL (due F k now))) (rest := []) (As := [.ref (a 0), .int (nI k), .ref o]) ⟨hx, hb, hml, hown, hts⟩ (w_L_isDue l hl9 E _ z0 a mc n now lim F lit fo hO o fn k hk) (vx_cwSW 3 hts gL_law_L_isDue rfl rfl rfl (by decide +kernel) ⟨Nat.le_of_ble_eq_true rfl, Nat.le_of_ble_eq_true rfl⟩) hP hK hD hZ hT hS hA rfl hl.1 rfl (Nat.le_of_ble_eq_true rfl) dL_law_711 ⟨by show cells + 0 ≤ 601024; omega, by show slots + 0 ≤ 7293034; omega⟩ (fun r1 u1 H locs hr1 hP hD hS => ?_)
  subst hr1
  have hP : va_P E.1 vwCl (wG E (wC E a mc n now lim (LF F lit fo)) o (vp_updL fn 0 (bL (due F k now))) (wM E bb (th) n lim F (NW now F) kp)) _ := hP
  have hD : va_D A (wG E (wC E a mc n now lim (LF F lit fo)) o (vp_updL fn 0 (bL (due F k now))) (wM E bb (th) n lim F (NW now F) kp)) := hD
  refine lv_istore (lv' := [(5, .int (nI 0)), (0, .ref b), (1, .ref (a 0)), (2, .ref (bb 0)), (3, .ref o), (4, .int (nI i))]) hx hb dL_law_714 hl (by decide) rfl (fun ls hl => ?_)
  refine lv_aload_n hx hb dL_law_716 rfl (lv_at hl 3 rfl) ?_
  refine lv_aload_n hx hb dL_law_717 rfl (lv_at hl 1 rfl) ?_
  refine lv_iload hx hb dL_law_718 (lv_at hl 5 rfl) ?_
  refine lv_iconst (v := (nI 1)) hx hb dL_law_720 (by decide) ?_
  refine nq_add hx hb dL_law_721 ?_
  refine va_sld hx hb hX hbl hbA hS (i := nI (i + 1)) (by exact vp_in_nI (by omega) (by omega)) dL_law_722 ?_
  refine nq_top (show xs ((nI (i + 1)).toNatClampNeg) = (nI k) from by rw [nI_clamp (by omega)]; exact e1) ?_
  refine lawM_i (S := Unit) (W1 := fun kQ => wM E bb (nI 0) n lim F (NW now F) kp) (rest := []) (As := [.int (nI k)]) ⟨hx, hb, hml, hown, hts⟩ (c_X2_isDue l E _ bb th n lim now F kp hO k hk) (cwV 1 hts gL_law_X2_isDue rfl rfl rfl (by decide +kernel) ⟨Nat.le_of_ble_eq_true rfl, Nat.le_of_ble_eq_true rfl⟩) (va_recv hK hP (ci := 3) (q0 := (wC E a mc n now lim (LF F lit fo)).length + 1) rfl wG_m0) hP hK hD hS hA rfl hl.1 rfl (Nat.le_of_ble_eq_true rfl) dL_law_723 ⟨by show cells + 0 + 0 ≤ 601024; omega, by show slots + 0 + 0 ≤ 7293034; omega⟩ (fun r2 u2 H locs hr2 hP hD hS => ?_)
  subst hr2
  have hP : va_P E.1 vwCl (wG E (wC E a mc n now lim (LF F lit fo)) o (vp_updL fn 0 (bL (due F k now))) (wM E bb (nI 0) n lim F (NW now F) kp)) _ := hP
  have hD : va_D A (wG E (wC E a mc n now lim (LF F lit fo)) o (vp_updL fn 0 (bL (due F k now))) (wM E bb (nI 0) n lim F (NW now F) kp)) := hD
  refine lv_istore (lv' := [(6, .int (bI (due F k now))), (5, .int (nI 0)), (0, .ref b), (1, .ref (a 0)), (2, .ref (bb 0)), (3, .ref o), (4, .int (nI i))]) hx hb dL_law_726 hl (by decide) rfl (fun ls hl => ?_)
  refine lv_aload_n hx hb dL_law_728 rfl (lv_at hl 4 rfl) ?_
  refine lawM_i (S := Unit) (W1 := fun kQ => wM E bb (nI 0) n lim F (NW now F) kp) (rest := []) (As := []) ⟨hx, hb, hml, hown, hts⟩ (c_X2_thrown l E _ bb (nI 0) n lim now F kp) (cwV 0 hts gL_law_X2_thrown rfl rfl rfl (by decide +kernel) ⟨Nat.le_of_ble_eq_true rfl, Nat.le_of_ble_eq_true rfl⟩) (va_recv hK hP (ci := 3) (q0 := (wC E a mc n now lim (LF F lit fo)).length + 1) rfl wG_m0) hP hK hD hS hA rfl hl.1 rfl (Nat.le_of_ble_eq_true rfl) dL_law_729 ⟨by show cells + 0 + 0 + 0 ≤ 601024; omega, by show slots + 0 + 0 + 0 ≤ 7293034; omega⟩ (fun r3 u3 H locs hr3 hP hD hS => ?_)
  subst hr3
  have hP : va_P E.1 vwCl (wG E (wC E a mc n now lim (LF F lit fo)) o (vp_updL fn 0 (bL (due F k now))) (wM E bb (nI 0) n lim F (NW now F) kp)) _ := hP
  have hD : va_D A (wG E (wC E a mc n now lim (LF F lit fo)) o (vp_updL fn 0 (bL (due F k now))) (wM E bb (nI 0) n lim F (NW now F) kp)) := hD
  refine lv_iload hx hb dL_law_732 (lv_at hl 1 rfl) ?_
  refine nq_icmp_eq (tgt := 739) hx hb dL_law_734 (by decide) (by omega) (by omega) (fun h734 => ?_) (fun h734 => ?_)
  · skip
    refine lv_iload hx hb dL_law_739 (lv_at hl 1 rfl) ?_
    refine nq_if_ne (tgt := 763) hx hb dL_law_741 (by decide) (by decide) (fun h741 => ?_) (fun h741 => ?_)
    · skip
      exact absurd h741 (by decide)
    · skip
      refine lv_aload_n hx hb dL_law_744 rfl (lv_at hl 5 rfl) ?_
      refine lv_iconst (v := (nI 0)) hx hb dL_law_745 (by decide) ?_
      refine va_lald hx hb hK hP (wC E a mc n now lim (LF F lit fo)).length 2 wG_o rfl (i := nI 0) (by exact vp_in_nI (by omega) (by omega)) dL_law_746 ?_
      refine nq_topl (show (vp_updL fn 0 (bL (due F k now))) ((nI 0).toNatClampNeg) = bL (due F k now) from by rw [nI_clamp (by omega)]; exact if_pos rfl) ?_
      refine lv_iload hx hb dL_law_747 (lv_at hl 0 rfl) ?_
      refine bq_if_eq (tgt := 756) hx hb dL_law_749 (by decide) (fun h749 => ?_) (fun h749 => ?_)
      · skip
        refine lv_lconst (v := 0) hx hb dL_law_756 (by decide) ?_
        refine nq_topl (show 0 = bL (due F k now) from by first | rfl | (rw [h749]; rfl)) ?_
        refine W.lcmp hx hb dL_law_757 ?_
        refine lv_if_eq (tgt := 763) hx hb dL_law_758 (by decide) (fun h758 => ?_) (fun h758 => ?_)
        · skip
          refine lv_goto (tgt := 1763) hx hb dL_law_763 (by decide) ?_
          exact KK a mc n now lim F lit fo (vp_updL fn 0 (bL (due F k now))) bb (nI 0) kp _ _ _ _ _ ⟨hO, by omega, hz, by omega, by omega, hP, hD, hS, (lv_sub hl [2, 3, 4, 5, 6] rfl)⟩
        · skip
          exact absurd (lg_self _) h758
      · skip
        refine lv_lconst (v := 1) hx hb dL_law_752 (by decide) ?_
        refine lv_goto (tgt := 757) hx hb dL_law_753 (by decide) ?_
        refine nq_topl (show 1 = bL (due F k now) from by first | rfl | (rw [h749]; rfl)) ?_
        refine W.lcmp hx hb dL_law_757 ?_
        refine lv_if_eq (tgt := 763) hx hb dL_law_758 (by decide) (fun h758 => ?_) (fun h758 => ?_)
        · skip
          refine lv_goto (tgt := 1763) hx hb dL_law_763 (by decide) ?_
          exact KK a mc n now lim F lit fo (vp_updL fn 0 (bL (due F k now))) bb (nI 0) kp _ _ _ _ _ ⟨hO, by omega, hz, by omega, by omega, hP, hD, hS, (lv_sub hl [2, 3, 4, 5, 6] rfl)⟩
        · skip
          exact absurd (lg_self _) h758
  · skip
    exact absurd rfl h734

set_option maxHeartbeats 4000000 in
set_option maxRecDepth 100000 in
theorem law_isDue_x {p : Program} {l : Launch} {e : Env} {s : State} {m : MethodId} {b : Nat} {below : List Frame} {meth : Method} {c : Code} {E : GE} {A : Nat → Prop} {z0 L o i j : Nat} {xs : Nat → Int32} {Q : State → Prop} (CC : LC p l s m b c E A z0 L xs) (hL9 : L ≤ 2560) (hi9 : i + 5 ≤ L) (hj9 : j ≤ 511) (KK : LK p l e s m b below meth c E A z0 o Q 1763 i (j + 1)) (a : Nat → Nat) (mc : Int32) (n now lim : Nat) (F : LR) (lit : Nat → Bool) (fo : Nat → Nat) (fn : Nat → Int64) (bb : Nat → Nat) (th : Int32) (kp : Nat → Int32) (H : Heap) (locs : List Loc) (ls : Array Slot) (cells slots : Nat) (hst : LSt E A s b z0 i j a mc n now lim F lit fo o fn bb th kp H locs ls cells slots) (x : Int32) (hx9 : lpB n x = false) (e1 : xs (i + 1) = x) : W p l e room_1 s m #[Value.ref b] below meth c H locs cells slots Q (F0 m 703 ls []) := by
  obtain ⟨hx, hb, hml, hown, hts, hK, hZ, hT, hA, hbA, hX, hbl, hl9⟩ := CC
  obtain ⟨hO, hnw, hz, hcl, hsl, hP, hD, hS, hl⟩ := hst
  refine lv_aload_n hx hb dL_law_703 rfl (lv_at hl 1 rfl) ?_
  refine lv_aload_n hx hb dL_law_704 rfl (lv_at hl 0 rfl) ?_
  refine lv_iload hx hb dL_law_705 (lv_at hl 4 rfl) ?_
  refine lv_iconst (v := (nI 1)) hx hb dL_law_707 (by decide) ?_
  refine nq_add hx hb dL_law_708 ?_
  refine va_sld hx hb hX hbl hbA hS (i := nI (i + 1)) (by exact vp_in_nI (by omega) (by omega)) dL_law_709 ?_
  refine nq_top (show xs ((nI (i + 1)).toNatClampNeg) = x from by rw [nI_clamp (by omega)]; exact e1) ?_
  refine lv_aload_n hx hb dL_law_710 rfl (lv_at hl 3 rfl) ?_
  refine lawS (S := Unit) (W1 := fun uQ => wC E a mc n now lim (LF F lit fo)) (f1 := fun uQ => fn) (rest := []) (As := [.ref (a 0), .int x, .ref o]) ⟨hx, hb, hml, hown, hts⟩ (w_L_isDue_x l hl9 E _ z0 a mc n now lim F lit fo hO o fn x hx9) (vx_cwSW 3 hts gL_law_L_isDue rfl rfl rfl (by decide +kernel) ⟨Nat.le_of_ble_eq_true rfl, Nat.le_of_ble_eq_true rfl⟩) hP hK hD hZ hT hS hA rfl hl.1 rfl (Nat.le_of_ble_eq_true rfl) dL_law_711 ⟨by show cells + 1 ≤ 601024; omega, by show slots + 6 ≤ 7293034; omega⟩ (fun r1 u1 H locs hr1 hP hD hS => ?_)
  subst hr1
  have hP : va_P E.1 vwCl (wG E (wC E a mc n now lim (LF F lit fo)) o (fn) (wM E bb (th) n lim F (NW now F) kp)) _ := hP
  have hD : va_D A (wG E (wC E a mc n now lim (LF F lit fo)) o (fn) (wM E bb (th) n lim F (NW now F) kp)) := hD
  refine lv_istore (lv' := [(5, .int (nI 1)), (0, .ref b), (1, .ref (a 0)), (2, .ref (bb 0)), (3, .ref o), (4, .int (nI i))]) hx hb dL_law_714 hl (by decide) rfl (fun ls hl => ?_)
  refine lv_aload_n hx hb dL_law_716 rfl (lv_at hl 3 rfl) ?_
  refine lv_aload_n hx hb dL_law_717 rfl (lv_at hl 1 rfl) ?_
  refine lv_iload hx hb dL_law_718 (lv_at hl 5 rfl) ?_
  refine lv_iconst (v := (nI 1)) hx hb dL_law_720 (by decide) ?_
  refine nq_add hx hb dL_law_721 ?_
  refine va_sld hx hb hX hbl hbA hS (i := nI (i + 1)) (by exact vp_in_nI (by omega) (by omega)) dL_law_722 ?_
  refine nq_top (show xs ((nI (i + 1)).toNatClampNeg) = x from by rw [nI_clamp (by omega)]; exact e1) ?_
  refine lawM_i (S := Unit) (W1 := fun kQ => wM E bb (nI 1) n lim F (NW now F) kp) (rest := []) (As := [.int x]) ⟨hx, hb, hml, hown, hts⟩ (c_X2_isDue_x l E _ bb th n lim now F kp hO x hx9) (cwV 1 hts gL_law_X2_isDue rfl rfl rfl (by decide +kernel) ⟨Nat.le_of_ble_eq_true rfl, Nat.le_of_ble_eq_true rfl⟩) (va_recv hK hP (ci := 3) (q0 := (wC E a mc n now lim (LF F lit fo)).length + 1) rfl wG_m0) hP hK hD hS hA rfl hl.1 rfl (Nat.le_of_ble_eq_true rfl) dL_law_723 ⟨by show cells + 1 + 0 ≤ 601024; omega, by show slots + 6 + 0 ≤ 7293034; omega⟩ (fun r2 u2 H locs hr2 hP hD hS => ?_)
  subst hr2
  have hP : va_P E.1 vwCl (wG E (wC E a mc n now lim (LF F lit fo)) o (fn) (wM E bb (nI 1) n lim F (NW now F) kp)) _ := hP
  have hD : va_D A (wG E (wC E a mc n now lim (LF F lit fo)) o (fn) (wM E bb (nI 1) n lim F (NW now F) kp)) := hD
  refine lv_istore (lv' := [(6, .int (bI false)), (5, .int (nI 1)), (0, .ref b), (1, .ref (a 0)), (2, .ref (bb 0)), (3, .ref o), (4, .int (nI i))]) hx hb dL_law_726 hl (by decide) rfl (fun ls hl => ?_)
  refine lv_aload_n hx hb dL_law_728 rfl (lv_at hl 4 rfl) ?_
  refine lawM_i (S := Unit) (W1 := fun kQ => wM E bb (nI 1) n lim F (NW now F) kp) (rest := []) (As := []) ⟨hx, hb, hml, hown, hts⟩ (c_X2_thrown l E _ bb (nI 1) n lim now F kp) (cwV 0 hts gL_law_X2_thrown rfl rfl rfl (by decide +kernel) ⟨Nat.le_of_ble_eq_true rfl, Nat.le_of_ble_eq_true rfl⟩) (va_recv hK hP (ci := 3) (q0 := (wC E a mc n now lim (LF F lit fo)).length + 1) rfl wG_m0) hP hK hD hS hA rfl hl.1 rfl (Nat.le_of_ble_eq_true rfl) dL_law_729 ⟨by show cells + 1 + 0 + 0 ≤ 601024; omega, by show slots + 6 + 0 + 0 ≤ 7293034; omega⟩ (fun r3 u3 H locs hr3 hP hD hS => ?_)
  subst hr3
  have hP : va_P E.1 vwCl (wG E (wC E a mc n now lim (LF F lit fo)) o (fn) (wM E bb (nI 1) n lim F (NW now F) kp)) _ := hP
  have hD : va_D A (wG E (wC E a mc n now lim (LF F lit fo)) o (fn) (wM E bb (nI 1) n lim F (NW now F) kp)) := hD
  refine lv_iload hx hb dL_law_732 (lv_at hl 1 rfl) ?_
  refine nq_icmp_eq (tgt := 739) hx hb dL_law_734 (by decide) (by omega) (by omega) (fun h734 => ?_) (fun h734 => ?_)
  · skip
    refine lv_iload hx hb dL_law_739 (lv_at hl 1 rfl) ?_
    refine nq_if_ne (tgt := 763) hx hb dL_law_741 (by decide) (by decide) (fun h741 => ?_) (fun h741 => ?_)
    · skip
      refine lv_goto (tgt := 1763) hx hb dL_law_763 (by decide) ?_
      exact KK a mc n now lim F lit fo fn bb (nI 1) kp _ _ _ _ _ ⟨hO, by omega, hz, by omega, by omega, hP, hD, hS, (lv_sub hl [2, 3, 4, 5, 6] rfl)⟩
    · skip
      exact absurd h741 (by decide)
  · skip
    exact absurd rfl h734

set_option maxHeartbeats 4000000 in
set_option maxRecDepth 100000 in
theorem law_shines {p : Program} {l : Launch} {e : Env} {s : State} {m : MethodId} {b : Nat} {below : List Frame} {meth : Method} {c : Code} {E : GE} {A : Nat → Prop} {z0 L o i j : Nat} {xs : Nat → Int32} {Q : State → Prop} (CC : LC p l s m b c E A z0 L xs) (hL9 : L ≤ 2560) (hi9 : i + 5 ≤ L) (hj9 : j ≤ 511) (KK : LK p l e s m b below meth c E A z0 o Q 1763 i (j + 1)) (a : Nat → Nat) (mc : Int32) (n now lim : Nat) (F : LR) (lit : Nat → Bool) (fo : Nat → Nat) (fn : Nat → Int64) (bb : Nat → Nat) (th : Int32) (kp : Nat → Int32) (H : Heap) (locs : List Loc) (ls : Array Slot) (cells slots : Nat) (hst : LSt E A s b z0 i j a mc n now lim F lit fo o fn bb th kp H locs ls cells slots) (k : Nat) (hk : k < n) (e1 : xs (i + 1) = (nI k)) : W p l e room_1 s m #[Value.ref b] below meth c H locs cells slots Q (F0 m 766 ls []) := by
  obtain ⟨hx, hb, hml, hown, hts, hK, hZ, hT, hA, hbA, hX, hbl, hl9⟩ := CC
  obtain ⟨hO, hnw, hz, hcl, hsl, hP, hD, hS, hl⟩ := hst
  refine lv_aload_n hx hb dL_law_766 rfl (lv_at hl 1 rfl) ?_
  refine lv_aload_n hx hb dL_law_767 rfl (lv_at hl 0 rfl) ?_
  refine lv_iload hx hb dL_law_768 (lv_at hl 4 rfl) ?_
  refine lv_iconst (v := (nI 1)) hx hb dL_law_770 (by decide) ?_
  refine nq_add hx hb dL_law_771 ?_
  refine va_sld hx hb hX hbl hbA hS (i := nI (i + 1)) (by exact vp_in_nI (by omega) (by omega)) dL_law_772 ?_
  refine nq_top (show xs ((nI (i + 1)).toNatClampNeg) = (nI k) from by rw [nI_clamp (by omega)]; exact e1) ?_
  refine lv_aload_n hx hb dL_law_773 rfl (lv_at hl 3 rfl) ?_
  refine lawS (S := Nat → Bool) (W1 := fun uQ => wC E a mc n now lim (LF F uQ fo)) (f1 := fun uQ => vp_updL fn 0 (bL (litS F lim now k))) (rest := []) (As := [.ref (a 0), .int (nI k), .ref o]) ⟨hx, hb, hml, hown, hts⟩ (w_L_shines l hl9 E _ z0 a mc n now lim F lit fo hO o fn k hk) (vx_cwSW 3 hts gL_law_L_shines rfl rfl rfl (by decide +kernel) ⟨Nat.le_of_ble_eq_true rfl, Nat.le_of_ble_eq_true rfl⟩) hP hK hD hZ hT hS hA rfl hl.1 rfl (Nat.le_of_ble_eq_true rfl) dL_law_774 ⟨by show cells + 0 ≤ 601024; omega, by show slots + 0 ≤ 7293034; omega⟩ (fun r1 u1 H locs hr1 hP hD hS => ?_)
  subst hr1
  have hP : va_P E.1 vwCl (wG E (wC E a mc n now lim (LF F u1 fo)) o (vp_updL fn 0 (bL (litS F lim now k))) (wM E bb (th) n lim F (NW now F) kp)) _ := hP
  have hD : va_D A (wG E (wC E a mc n now lim (LF F u1 fo)) o (vp_updL fn 0 (bL (litS F lim now k))) (wM E bb (th) n lim F (NW now F) kp)) := hD
  refine lv_istore (lv' := [(5, .int (nI 0)), (0, .ref b), (1, .ref (a 0)), (2, .ref (bb 0)), (3, .ref o), (4, .int (nI i))]) hx hb dL_law_777 hl (by decide) rfl (fun ls hl => ?_)
  refine lv_aload_n hx hb dL_law_779 rfl (lv_at hl 3 rfl) ?_
  refine lv_aload_n hx hb dL_law_780 rfl (lv_at hl 1 rfl) ?_
  refine lv_iload hx hb dL_law_781 (lv_at hl 5 rfl) ?_
  refine lv_iconst (v := (nI 1)) hx hb dL_law_783 (by decide) ?_
  refine nq_add hx hb dL_law_784 ?_
  refine va_sld hx hb hX hbl hbA hS (i := nI (i + 1)) (by exact vp_in_nI (by omega) (by omega)) dL_law_785 ?_
  refine nq_top (show xs ((nI (i + 1)).toNatClampNeg) = (nI k) from by rw [nI_clamp (by omega)]; exact e1) ?_
  refine lawM_i (S := Unit) (W1 := fun kQ => wM E bb (nI 0) n lim F (NW now F) kp) (rest := []) (As := [.int (nI k)]) ⟨hx, hb, hml, hown, hts⟩ (c_X2_shines l E _ bb th n lim now F kp hO k hk) (cwV 1 hts gL_law_X2_shines rfl rfl rfl (by decide +kernel) ⟨Nat.le_of_ble_eq_true rfl, Nat.le_of_ble_eq_true rfl⟩) (va_recv hK hP (ci := 3) (q0 := (wC E a mc n now lim (LF F u1 fo)).length + 1) rfl wG_m0) hP hK hD hS hA rfl hl.1 rfl (Nat.le_of_ble_eq_true rfl) dL_law_786 ⟨by show cells + 0 + 0 ≤ 601024; omega, by show slots + 0 + 0 ≤ 7293034; omega⟩ (fun r2 u2 H locs hr2 hP hD hS => ?_)
  subst hr2
  have hP : va_P E.1 vwCl (wG E (wC E a mc n now lim (LF F u1 fo)) o (vp_updL fn 0 (bL (litS F lim now k))) (wM E bb (nI 0) n lim F (NW now F) kp)) _ := hP
  have hD : va_D A (wG E (wC E a mc n now lim (LF F u1 fo)) o (vp_updL fn 0 (bL (litS F lim now k))) (wM E bb (nI 0) n lim F (NW now F) kp)) := hD
  refine lv_istore (lv' := [(6, .int (bI (litS F lim now k))), (5, .int (nI 0)), (0, .ref b), (1, .ref (a 0)), (2, .ref (bb 0)), (3, .ref o), (4, .int (nI i))]) hx hb dL_law_789 hl (by decide) rfl (fun ls hl => ?_)
  refine lv_aload_n hx hb dL_law_791 rfl (lv_at hl 4 rfl) ?_
  refine lawM_i (S := Unit) (W1 := fun kQ => wM E bb (nI 0) n lim F (NW now F) kp) (rest := []) (As := []) ⟨hx, hb, hml, hown, hts⟩ (c_X2_thrown l E _ bb (nI 0) n lim now F kp) (cwV 0 hts gL_law_X2_thrown rfl rfl rfl (by decide +kernel) ⟨Nat.le_of_ble_eq_true rfl, Nat.le_of_ble_eq_true rfl⟩) (va_recv hK hP (ci := 3) (q0 := (wC E a mc n now lim (LF F u1 fo)).length + 1) rfl wG_m0) hP hK hD hS hA rfl hl.1 rfl (Nat.le_of_ble_eq_true rfl) dL_law_792 ⟨by show cells + 0 + 0 + 0 ≤ 601024; omega, by show slots + 0 + 0 + 0 ≤ 7293034; omega⟩ (fun r3 u3 H locs hr3 hP hD hS => ?_)
  subst hr3
  have hP : va_P E.1 vwCl (wG E (wC E a mc n now lim (LF F u1 fo)) o (vp_updL fn 0 (bL (litS F lim now k))) (wM E bb (nI 0) n lim F (NW now F) kp)) _ := hP
  have hD : va_D A (wG E (wC E a mc n now lim (LF F u1 fo)) o (vp_updL fn 0 (bL (litS F lim now k))) (wM E bb (nI 0) n lim F (NW now F) kp)) := hD
  refine lv_iload hx hb dL_law_795 (lv_at hl 1 rfl) ?_
  refine nq_icmp_eq (tgt := 802) hx hb dL_law_797 (by decide) (by omega) (by omega) (fun h797 => ?_) (fun h797 => ?_)
  · skip
    refine lv_iload hx hb dL_law_802 (lv_at hl 1 rfl) ?_
    refine nq_if_ne (tgt := 826) hx hb dL_law_804 (by decide) (by decide) (fun h804 => ?_) (fun h804 => ?_)
    · skip
      exact absurd h804 (by decide)
    · skip
      refine lv_aload_n hx hb dL_law_807 rfl (lv_at hl 5 rfl) ?_
      refine lv_iconst (v := (nI 0)) hx hb dL_law_808 (by decide) ?_
      refine va_lald hx hb hK hP (wC E a mc n now lim (LF F u1 fo)).length 2 wG_o rfl (i := nI 0) (by exact vp_in_nI (by omega) (by omega)) dL_law_809 ?_
      refine nq_topl (show (vp_updL fn 0 (bL (litS F lim now k))) ((nI 0).toNatClampNeg) = bL (litS F lim now k) from by rw [nI_clamp (by omega)]; exact if_pos rfl) ?_
      refine lv_iload hx hb dL_law_810 (lv_at hl 0 rfl) ?_
      refine bq_if_eq (tgt := 819) hx hb dL_law_812 (by decide) (fun h812 => ?_) (fun h812 => ?_)
      · skip
        refine lv_lconst (v := 0) hx hb dL_law_819 (by decide) ?_
        refine nq_topl (show 0 = bL (litS F lim now k) from by first | rfl | (rw [h812]; rfl)) ?_
        refine W.lcmp hx hb dL_law_820 ?_
        refine lv_if_eq (tgt := 826) hx hb dL_law_821 (by decide) (fun h821 => ?_) (fun h821 => ?_)
        · skip
          refine lv_goto (tgt := 1763) hx hb dL_law_826 (by decide) ?_
          exact KK a mc n now lim F u1 fo (vp_updL fn 0 (bL (litS F lim now k))) bb (nI 0) kp _ _ _ _ _ ⟨hO, by omega, hz, by omega, by omega, hP, hD, hS, (lv_sub hl [2, 3, 4, 5, 6] rfl)⟩
        · skip
          exact absurd (lg_self _) h821
      · skip
        refine lv_lconst (v := 1) hx hb dL_law_815 (by decide) ?_
        refine lv_goto (tgt := 820) hx hb dL_law_816 (by decide) ?_
        refine nq_topl (show 1 = bL (litS F lim now k) from by first | rfl | (rw [h812]; rfl)) ?_
        refine W.lcmp hx hb dL_law_820 ?_
        refine lv_if_eq (tgt := 826) hx hb dL_law_821 (by decide) (fun h821 => ?_) (fun h821 => ?_)
        · skip
          refine lv_goto (tgt := 1763) hx hb dL_law_826 (by decide) ?_
          exact KK a mc n now lim F u1 fo (vp_updL fn 0 (bL (litS F lim now k))) bb (nI 0) kp _ _ _ _ _ ⟨hO, by omega, hz, by omega, by omega, hP, hD, hS, (lv_sub hl [2, 3, 4, 5, 6] rfl)⟩
        · skip
          exact absurd (lg_self _) h821
  · skip
    exact absurd rfl h797

set_option maxHeartbeats 4000000 in
set_option maxRecDepth 100000 in
theorem law_shines_x {p : Program} {l : Launch} {e : Env} {s : State} {m : MethodId} {b : Nat} {below : List Frame} {meth : Method} {c : Code} {E : GE} {A : Nat → Prop} {z0 L o i j : Nat} {xs : Nat → Int32} {Q : State → Prop} (CC : LC p l s m b c E A z0 L xs) (hL9 : L ≤ 2560) (hi9 : i + 5 ≤ L) (hj9 : j ≤ 511) (KK : LK p l e s m b below meth c E A z0 o Q 1763 i (j + 1)) (a : Nat → Nat) (mc : Int32) (n now lim : Nat) (F : LR) (lit : Nat → Bool) (fo : Nat → Nat) (fn : Nat → Int64) (bb : Nat → Nat) (th : Int32) (kp : Nat → Int32) (H : Heap) (locs : List Loc) (ls : Array Slot) (cells slots : Nat) (hst : LSt E A s b z0 i j a mc n now lim F lit fo o fn bb th kp H locs ls cells slots) (x : Int32) (hx9 : lpB n x = false) (e1 : xs (i + 1) = x) : W p l e room_1 s m #[Value.ref b] below meth c H locs cells slots Q (F0 m 766 ls []) := by
  obtain ⟨hx, hb, hml, hown, hts, hK, hZ, hT, hA, hbA, hX, hbl, hl9⟩ := CC
  obtain ⟨hO, hnw, hz, hcl, hsl, hP, hD, hS, hl⟩ := hst
  refine lv_aload_n hx hb dL_law_766 rfl (lv_at hl 1 rfl) ?_
  refine lv_aload_n hx hb dL_law_767 rfl (lv_at hl 0 rfl) ?_
  refine lv_iload hx hb dL_law_768 (lv_at hl 4 rfl) ?_
  refine lv_iconst (v := (nI 1)) hx hb dL_law_770 (by decide) ?_
  refine nq_add hx hb dL_law_771 ?_
  refine va_sld hx hb hX hbl hbA hS (i := nI (i + 1)) (by exact vp_in_nI (by omega) (by omega)) dL_law_772 ?_
  refine nq_top (show xs ((nI (i + 1)).toNatClampNeg) = x from by rw [nI_clamp (by omega)]; exact e1) ?_
  refine lv_aload_n hx hb dL_law_773 rfl (lv_at hl 3 rfl) ?_
  refine lawS (S := Unit) (W1 := fun uQ => wC E a mc n now lim (LF F lit fo)) (f1 := fun uQ => fn) (rest := []) (As := [.ref (a 0), .int x, .ref o]) ⟨hx, hb, hml, hown, hts⟩ (w_L_shines_x l hl9 E _ z0 a mc n now lim F lit fo hO o fn x hx9) (vx_cwSW 3 hts gL_law_L_shines rfl rfl rfl (by decide +kernel) ⟨Nat.le_of_ble_eq_true rfl, Nat.le_of_ble_eq_true rfl⟩) hP hK hD hZ hT hS hA rfl hl.1 rfl (Nat.le_of_ble_eq_true rfl) dL_law_774 ⟨by show cells + 1 ≤ 601024; omega, by show slots + 6 ≤ 7293034; omega⟩ (fun r1 u1 H locs hr1 hP hD hS => ?_)
  subst hr1
  have hP : va_P E.1 vwCl (wG E (wC E a mc n now lim (LF F lit fo)) o (fn) (wM E bb (th) n lim F (NW now F) kp)) _ := hP
  have hD : va_D A (wG E (wC E a mc n now lim (LF F lit fo)) o (fn) (wM E bb (th) n lim F (NW now F) kp)) := hD
  refine lv_istore (lv' := [(5, .int (nI 1)), (0, .ref b), (1, .ref (a 0)), (2, .ref (bb 0)), (3, .ref o), (4, .int (nI i))]) hx hb dL_law_777 hl (by decide) rfl (fun ls hl => ?_)
  refine lv_aload_n hx hb dL_law_779 rfl (lv_at hl 3 rfl) ?_
  refine lv_aload_n hx hb dL_law_780 rfl (lv_at hl 1 rfl) ?_
  refine lv_iload hx hb dL_law_781 (lv_at hl 5 rfl) ?_
  refine lv_iconst (v := (nI 1)) hx hb dL_law_783 (by decide) ?_
  refine nq_add hx hb dL_law_784 ?_
  refine va_sld hx hb hX hbl hbA hS (i := nI (i + 1)) (by exact vp_in_nI (by omega) (by omega)) dL_law_785 ?_
  refine nq_top (show xs ((nI (i + 1)).toNatClampNeg) = x from by rw [nI_clamp (by omega)]; exact e1) ?_
  refine lawM_i (S := Unit) (W1 := fun kQ => wM E bb (nI 1) n lim F (NW now F) kp) (rest := []) (As := [.int x]) ⟨hx, hb, hml, hown, hts⟩ (c_X2_shines_x l E _ bb th n lim now F kp hO x hx9) (cwV 1 hts gL_law_X2_shines rfl rfl rfl (by decide +kernel) ⟨Nat.le_of_ble_eq_true rfl, Nat.le_of_ble_eq_true rfl⟩) (va_recv hK hP (ci := 3) (q0 := (wC E a mc n now lim (LF F lit fo)).length + 1) rfl wG_m0) hP hK hD hS hA rfl hl.1 rfl (Nat.le_of_ble_eq_true rfl) dL_law_786 ⟨by show cells + 1 + 0 ≤ 601024; omega, by show slots + 6 + 0 ≤ 7293034; omega⟩ (fun r2 u2 H locs hr2 hP hD hS => ?_)
  subst hr2
  have hP : va_P E.1 vwCl (wG E (wC E a mc n now lim (LF F lit fo)) o (fn) (wM E bb (nI 1) n lim F (NW now F) kp)) _ := hP
  have hD : va_D A (wG E (wC E a mc n now lim (LF F lit fo)) o (fn) (wM E bb (nI 1) n lim F (NW now F) kp)) := hD
  refine lv_istore (lv' := [(6, .int (bI false)), (5, .int (nI 1)), (0, .ref b), (1, .ref (a 0)), (2, .ref (bb 0)), (3, .ref o), (4, .int (nI i))]) hx hb dL_law_789 hl (by decide) rfl (fun ls hl => ?_)
  refine lv_aload_n hx hb dL_law_791 rfl (lv_at hl 4 rfl) ?_
  refine lawM_i (S := Unit) (W1 := fun kQ => wM E bb (nI 1) n lim F (NW now F) kp) (rest := []) (As := []) ⟨hx, hb, hml, hown, hts⟩ (c_X2_thrown l E _ bb (nI 1) n lim now F kp) (cwV 0 hts gL_law_X2_thrown rfl rfl rfl (by decide +kernel) ⟨Nat.le_of_ble_eq_true rfl, Nat.le_of_ble_eq_true rfl⟩) (va_recv hK hP (ci := 3) (q0 := (wC E a mc n now lim (LF F lit fo)).length + 1) rfl wG_m0) hP hK hD hS hA rfl hl.1 rfl (Nat.le_of_ble_eq_true rfl) dL_law_792 ⟨by show cells + 1 + 0 + 0 ≤ 601024; omega, by show slots + 6 + 0 + 0 ≤ 7293034; omega⟩ (fun r3 u3 H locs hr3 hP hD hS => ?_)
  subst hr3
  have hP : va_P E.1 vwCl (wG E (wC E a mc n now lim (LF F lit fo)) o (fn) (wM E bb (nI 1) n lim F (NW now F) kp)) _ := hP
  have hD : va_D A (wG E (wC E a mc n now lim (LF F lit fo)) o (fn) (wM E bb (nI 1) n lim F (NW now F) kp)) := hD
  refine lv_iload hx hb dL_law_795 (lv_at hl 1 rfl) ?_
  refine nq_icmp_eq (tgt := 802) hx hb dL_law_797 (by decide) (by omega) (by omega) (fun h797 => ?_) (fun h797 => ?_)
  · skip
    refine lv_iload hx hb dL_law_802 (lv_at hl 1 rfl) ?_
    refine nq_if_ne (tgt := 826) hx hb dL_law_804 (by decide) (by decide) (fun h804 => ?_) (fun h804 => ?_)
    · skip
      refine lv_goto (tgt := 1763) hx hb dL_law_826 (by decide) ?_
      exact KK a mc n now lim F lit fo fn bb (nI 1) kp _ _ _ _ _ ⟨hO, by omega, hz, by omega, by omega, hP, hD, hS, (lv_sub hl [2, 3, 4, 5, 6] rfl)⟩
    · skip
      exact absurd h804 (by decide)
  · skip
    exact absurd rfl h797

set_option maxHeartbeats 4000000 in
set_option maxRecDepth 100000 in
theorem law_colourOf {p : Program} {l : Launch} {e : Env} {s : State} {m : MethodId} {b : Nat} {below : List Frame} {meth : Method} {c : Code} {E : GE} {A : Nat → Prop} {z0 L o i j : Nat} {xs : Nat → Int32} {Q : State → Prop} (CC : LC p l s m b c E A z0 L xs) (hL9 : L ≤ 2560) (hi9 : i + 5 ≤ L) (hj9 : j ≤ 511) (KK : LK p l e s m b below meth c E A z0 o Q 1763 i (j + 1)) (a : Nat → Nat) (mc : Int32) (n now lim : Nat) (F : LR) (lit : Nat → Bool) (fo : Nat → Nat) (fn : Nat → Int64) (bb : Nat → Nat) (th : Int32) (kp : Nat → Int32) (H : Heap) (locs : List Loc) (ls : Array Slot) (cells slots : Nat) (hst : LSt E A s b z0 i j a mc n now lim F lit fo o fn bb th kp H locs ls cells slots) (k : Nat) (hk : k < n) (e1 : xs (i + 1) = (nI k)) : W p l e room_1 s m #[Value.ref b] below meth c H locs cells slots Q (F0 m 829 ls []) := by
  obtain ⟨hx, hb, hml, hown, hts, hK, hZ, hT, hA, hbA, hX, hbl, hl9⟩ := CC
  obtain ⟨hO, hnw, hz, hcl, hsl, hP, hD, hS, hl⟩ := hst
  refine lv_aload_n hx hb dL_law_829 rfl (lv_at hl 1 rfl) ?_
  refine lv_aload_n hx hb dL_law_830 rfl (lv_at hl 0 rfl) ?_
  refine lv_iload hx hb dL_law_831 (lv_at hl 4 rfl) ?_
  refine lv_iconst (v := (nI 1)) hx hb dL_law_833 (by decide) ?_
  refine nq_add hx hb dL_law_834 ?_
  refine va_sld hx hb hX hbl hbA hS (i := nI (i + 1)) (by exact vp_in_nI (by omega) (by omega)) dL_law_835 ?_
  refine nq_top (show xs ((nI (i + 1)).toNatClampNeg) = (nI k) from by rw [nI_clamp (by omega)]; exact e1) ?_
  refine lv_aload_n hx hb dL_law_836 rfl (lv_at hl 3 rfl) ?_
  refine lawS (S := Unit) (W1 := fun uQ => wC E a mc n now lim (LF F lit fo)) (f1 := fun uQ => vp_updL fn 0 (((nI (F k 2))).toInt64)) (rest := []) (As := [.ref (a 0), .int (nI k), .ref o]) ⟨hx, hb, hml, hown, hts⟩ (w_L_colourOf l hl9 E _ z0 a mc n now lim F lit fo hO o fn k hk) (vx_cwSW 3 hts gL_law_L_colourOf rfl rfl rfl (by decide +kernel) ⟨Nat.le_of_ble_eq_true rfl, Nat.le_of_ble_eq_true rfl⟩) hP hK hD hZ hT hS hA rfl hl.1 rfl (Nat.le_of_ble_eq_true rfl) dL_law_837 ⟨by show cells + 0 ≤ 601024; omega, by show slots + 0 ≤ 7293034; omega⟩ (fun r1 u1 H locs hr1 hP hD hS => ?_)
  subst hr1
  have hP : va_P E.1 vwCl (wG E (wC E a mc n now lim (LF F lit fo)) o (vp_updL fn 0 (((nI (F k 2))).toInt64)) (wM E bb (th) n lim F (NW now F) kp)) _ := hP
  have hD : va_D A (wG E (wC E a mc n now lim (LF F lit fo)) o (vp_updL fn 0 (((nI (F k 2))).toInt64)) (wM E bb (th) n lim F (NW now F) kp)) := hD
  refine lv_istore (lv' := [(5, .int (nI 0)), (0, .ref b), (1, .ref (a 0)), (2, .ref (bb 0)), (3, .ref o), (4, .int (nI i))]) hx hb dL_law_840 hl (by decide) rfl (fun ls hl => ?_)
  refine lv_aload_n hx hb dL_law_842 rfl (lv_at hl 3 rfl) ?_
  refine lv_aload_n hx hb dL_law_843 rfl (lv_at hl 1 rfl) ?_
  refine lv_iload hx hb dL_law_844 (lv_at hl 5 rfl) ?_
  refine lv_iconst (v := (nI 1)) hx hb dL_law_846 (by decide) ?_
  refine nq_add hx hb dL_law_847 ?_
  refine va_sld hx hb hX hbl hbA hS (i := nI (i + 1)) (by exact vp_in_nI (by omega) (by omega)) dL_law_848 ?_
  refine nq_top (show xs ((nI (i + 1)).toNatClampNeg) = (nI k) from by rw [nI_clamp (by omega)]; exact e1) ?_
  refine lawM_i (S := Unit) (W1 := fun kQ => wM E bb (nI 0) n lim F (NW now F) kp) (rest := []) (As := [.int (nI k)]) ⟨hx, hb, hml, hown, hts⟩ (c_X2_colourOf l E _ bb th n lim now F kp hO k hk) (cwV 1 hts gL_law_X2_colourOf rfl rfl rfl (by decide +kernel) ⟨Nat.le_of_ble_eq_true rfl, Nat.le_of_ble_eq_true rfl⟩) (va_recv hK hP (ci := 3) (q0 := (wC E a mc n now lim (LF F lit fo)).length + 1) rfl wG_m0) hP hK hD hS hA rfl hl.1 rfl (Nat.le_of_ble_eq_true rfl) dL_law_849 ⟨by show cells + 0 + 0 ≤ 601024; omega, by show slots + 0 + 0 ≤ 7293034; omega⟩ (fun r2 u2 H locs hr2 hP hD hS => ?_)
  subst hr2
  have hP : va_P E.1 vwCl (wG E (wC E a mc n now lim (LF F lit fo)) o (vp_updL fn 0 (((nI (F k 2))).toInt64)) (wM E bb (nI 0) n lim F (NW now F) kp)) _ := hP
  have hD : va_D A (wG E (wC E a mc n now lim (LF F lit fo)) o (vp_updL fn 0 (((nI (F k 2))).toInt64)) (wM E bb (nI 0) n lim F (NW now F) kp)) := hD
  refine lv_istore (lv' := [(6, .int (nI (F k 2))), (5, .int (nI 0)), (0, .ref b), (1, .ref (a 0)), (2, .ref (bb 0)), (3, .ref o), (4, .int (nI i))]) hx hb dL_law_852 hl (by decide) rfl (fun ls hl => ?_)
  refine lv_aload_n hx hb dL_law_854 rfl (lv_at hl 4 rfl) ?_
  refine lawM_i (S := Unit) (W1 := fun kQ => wM E bb (nI 0) n lim F (NW now F) kp) (rest := []) (As := []) ⟨hx, hb, hml, hown, hts⟩ (c_X2_thrown l E _ bb (nI 0) n lim now F kp) (cwV 0 hts gL_law_X2_thrown rfl rfl rfl (by decide +kernel) ⟨Nat.le_of_ble_eq_true rfl, Nat.le_of_ble_eq_true rfl⟩) (va_recv hK hP (ci := 3) (q0 := (wC E a mc n now lim (LF F lit fo)).length + 1) rfl wG_m0) hP hK hD hS hA rfl hl.1 rfl (Nat.le_of_ble_eq_true rfl) dL_law_855 ⟨by show cells + 0 + 0 + 0 ≤ 601024; omega, by show slots + 0 + 0 + 0 ≤ 7293034; omega⟩ (fun r3 u3 H locs hr3 hP hD hS => ?_)
  subst hr3
  have hP : va_P E.1 vwCl (wG E (wC E a mc n now lim (LF F lit fo)) o (vp_updL fn 0 (((nI (F k 2))).toInt64)) (wM E bb (nI 0) n lim F (NW now F) kp)) _ := hP
  have hD : va_D A (wG E (wC E a mc n now lim (LF F lit fo)) o (vp_updL fn 0 (((nI (F k 2))).toInt64)) (wM E bb (nI 0) n lim F (NW now F) kp)) := hD
  refine lv_iload hx hb dL_law_858 (lv_at hl 1 rfl) ?_
  refine nq_icmp_eq (tgt := 865) hx hb dL_law_860 (by decide) (by omega) (by omega) (fun h860 => ?_) (fun h860 => ?_)
  · skip
    refine lv_iload hx hb dL_law_865 (lv_at hl 1 rfl) ?_
    refine nq_if_ne (tgt := 882) hx hb dL_law_867 (by decide) (by decide) (fun h867 => ?_) (fun h867 => ?_)
    · skip
      exact absurd h867 (by decide)
    · skip
      refine lv_aload_n hx hb dL_law_870 rfl (lv_at hl 5 rfl) ?_
      refine lv_iconst (v := (nI 0)) hx hb dL_law_871 (by decide) ?_
      refine va_lald hx hb hK hP (wC E a mc n now lim (LF F lit fo)).length 2 wG_o rfl (i := nI 0) (by exact vp_in_nI (by omega) (by omega)) dL_law_872 ?_
      refine nq_topl (show (vp_updL fn 0 (((nI (F k 2))).toInt64)) ((nI 0).toNatClampNeg) = ((nI (F k 2))).toInt64 from by rw [nI_clamp (by omega)]; exact if_pos rfl) ?_
      refine lv_iload hx hb dL_law_873 (lv_at hl 0 rfl) ?_
      refine lv_i2l (v := (nI (F k 2)).toInt64) hx hb dL_law_875 (rfl) ?_
      refine nq_topl (show (nI (F k 2)).toInt64 = ((nI (F k 2))).toInt64 from by first | rfl | (rw [h867]; rfl)) ?_
      refine W.lcmp hx hb dL_law_876 ?_
      refine lv_if_eq (tgt := 882) hx hb dL_law_877 (by decide) (fun h877 => ?_) (fun h877 => ?_)
      · skip
        refine lv_goto (tgt := 1763) hx hb dL_law_882 (by decide) ?_
        exact KK a mc n now lim F lit fo (vp_updL fn 0 (((nI (F k 2))).toInt64)) bb (nI 0) kp _ _ _ _ _ ⟨hO, by omega, hz, by omega, by omega, hP, hD, hS, (lv_sub hl [2, 3, 4, 5, 6] rfl)⟩
      · skip
        exact absurd (lg_self _) h877
  · skip
    exact absurd rfl h860

set_option maxHeartbeats 4000000 in
set_option maxRecDepth 100000 in
theorem law_colourOf_x {p : Program} {l : Launch} {e : Env} {s : State} {m : MethodId} {b : Nat} {below : List Frame} {meth : Method} {c : Code} {E : GE} {A : Nat → Prop} {z0 L o i j : Nat} {xs : Nat → Int32} {Q : State → Prop} (CC : LC p l s m b c E A z0 L xs) (hL9 : L ≤ 2560) (hi9 : i + 5 ≤ L) (hj9 : j ≤ 511) (KK : LK p l e s m b below meth c E A z0 o Q 1763 i (j + 1)) (a : Nat → Nat) (mc : Int32) (n now lim : Nat) (F : LR) (lit : Nat → Bool) (fo : Nat → Nat) (fn : Nat → Int64) (bb : Nat → Nat) (th : Int32) (kp : Nat → Int32) (H : Heap) (locs : List Loc) (ls : Array Slot) (cells slots : Nat) (hst : LSt E A s b z0 i j a mc n now lim F lit fo o fn bb th kp H locs ls cells slots) (x : Int32) (hx9 : lpB n x = false) (e1 : xs (i + 1) = x) : W p l e room_1 s m #[Value.ref b] below meth c H locs cells slots Q (F0 m 829 ls []) := by
  obtain ⟨hx, hb, hml, hown, hts, hK, hZ, hT, hA, hbA, hX, hbl, hl9⟩ := CC
  obtain ⟨hO, hnw, hz, hcl, hsl, hP, hD, hS, hl⟩ := hst
  refine lv_aload_n hx hb dL_law_829 rfl (lv_at hl 1 rfl) ?_
  refine lv_aload_n hx hb dL_law_830 rfl (lv_at hl 0 rfl) ?_
  refine lv_iload hx hb dL_law_831 (lv_at hl 4 rfl) ?_
  refine lv_iconst (v := (nI 1)) hx hb dL_law_833 (by decide) ?_
  refine nq_add hx hb dL_law_834 ?_
  refine va_sld hx hb hX hbl hbA hS (i := nI (i + 1)) (by exact vp_in_nI (by omega) (by omega)) dL_law_835 ?_
  refine nq_top (show xs ((nI (i + 1)).toNatClampNeg) = x from by rw [nI_clamp (by omega)]; exact e1) ?_
  refine lv_aload_n hx hb dL_law_836 rfl (lv_at hl 3 rfl) ?_
  refine lawS (S := Unit) (W1 := fun uQ => wC E a mc n now lim (LF F lit fo)) (f1 := fun uQ => fn) (rest := []) (As := [.ref (a 0), .int x, .ref o]) ⟨hx, hb, hml, hown, hts⟩ (w_L_colourOf_x l hl9 E _ z0 a mc n now lim F lit fo hO o fn x hx9) (vx_cwSW 3 hts gL_law_L_colourOf rfl rfl rfl (by decide +kernel) ⟨Nat.le_of_ble_eq_true rfl, Nat.le_of_ble_eq_true rfl⟩) hP hK hD hZ hT hS hA rfl hl.1 rfl (Nat.le_of_ble_eq_true rfl) dL_law_837 ⟨by show cells + 1 ≤ 601024; omega, by show slots + 6 ≤ 7293034; omega⟩ (fun r1 u1 H locs hr1 hP hD hS => ?_)
  subst hr1
  have hP : va_P E.1 vwCl (wG E (wC E a mc n now lim (LF F lit fo)) o (fn) (wM E bb (th) n lim F (NW now F) kp)) _ := hP
  have hD : va_D A (wG E (wC E a mc n now lim (LF F lit fo)) o (fn) (wM E bb (th) n lim F (NW now F) kp)) := hD
  refine lv_istore (lv' := [(5, .int (nI 1)), (0, .ref b), (1, .ref (a 0)), (2, .ref (bb 0)), (3, .ref o), (4, .int (nI i))]) hx hb dL_law_840 hl (by decide) rfl (fun ls hl => ?_)
  refine lv_aload_n hx hb dL_law_842 rfl (lv_at hl 3 rfl) ?_
  refine lv_aload_n hx hb dL_law_843 rfl (lv_at hl 1 rfl) ?_
  refine lv_iload hx hb dL_law_844 (lv_at hl 5 rfl) ?_
  refine lv_iconst (v := (nI 1)) hx hb dL_law_846 (by decide) ?_
  refine nq_add hx hb dL_law_847 ?_
  refine va_sld hx hb hX hbl hbA hS (i := nI (i + 1)) (by exact vp_in_nI (by omega) (by omega)) dL_law_848 ?_
  refine nq_top (show xs ((nI (i + 1)).toNatClampNeg) = x from by rw [nI_clamp (by omega)]; exact e1) ?_
  refine lawM_i (S := Unit) (W1 := fun kQ => wM E bb (nI 1) n lim F (NW now F) kp) (rest := []) (As := [.int x]) ⟨hx, hb, hml, hown, hts⟩ (c_X2_colourOf_x l E _ bb th n lim now F kp hO x hx9) (cwV 1 hts gL_law_X2_colourOf rfl rfl rfl (by decide +kernel) ⟨Nat.le_of_ble_eq_true rfl, Nat.le_of_ble_eq_true rfl⟩) (va_recv hK hP (ci := 3) (q0 := (wC E a mc n now lim (LF F lit fo)).length + 1) rfl wG_m0) hP hK hD hS hA rfl hl.1 rfl (Nat.le_of_ble_eq_true rfl) dL_law_849 ⟨by show cells + 1 + 0 ≤ 601024; omega, by show slots + 6 + 0 ≤ 7293034; omega⟩ (fun r2 u2 H locs hr2 hP hD hS => ?_)
  subst hr2
  have hP : va_P E.1 vwCl (wG E (wC E a mc n now lim (LF F lit fo)) o (fn) (wM E bb (nI 1) n lim F (NW now F) kp)) _ := hP
  have hD : va_D A (wG E (wC E a mc n now lim (LF F lit fo)) o (fn) (wM E bb (nI 1) n lim F (NW now F) kp)) := hD
  refine lv_istore (lv' := [(6, .int (nI 0)), (5, .int (nI 1)), (0, .ref b), (1, .ref (a 0)), (2, .ref (bb 0)), (3, .ref o), (4, .int (nI i))]) hx hb dL_law_852 hl (by decide) rfl (fun ls hl => ?_)
  refine lv_aload_n hx hb dL_law_854 rfl (lv_at hl 4 rfl) ?_
  refine lawM_i (S := Unit) (W1 := fun kQ => wM E bb (nI 1) n lim F (NW now F) kp) (rest := []) (As := []) ⟨hx, hb, hml, hown, hts⟩ (c_X2_thrown l E _ bb (nI 1) n lim now F kp) (cwV 0 hts gL_law_X2_thrown rfl rfl rfl (by decide +kernel) ⟨Nat.le_of_ble_eq_true rfl, Nat.le_of_ble_eq_true rfl⟩) (va_recv hK hP (ci := 3) (q0 := (wC E a mc n now lim (LF F lit fo)).length + 1) rfl wG_m0) hP hK hD hS hA rfl hl.1 rfl (Nat.le_of_ble_eq_true rfl) dL_law_855 ⟨by show cells + 1 + 0 + 0 ≤ 601024; omega, by show slots + 6 + 0 + 0 ≤ 7293034; omega⟩ (fun r3 u3 H locs hr3 hP hD hS => ?_)
  subst hr3
  have hP : va_P E.1 vwCl (wG E (wC E a mc n now lim (LF F lit fo)) o (fn) (wM E bb (nI 1) n lim F (NW now F) kp)) _ := hP
  have hD : va_D A (wG E (wC E a mc n now lim (LF F lit fo)) o (fn) (wM E bb (nI 1) n lim F (NW now F) kp)) := hD
  refine lv_iload hx hb dL_law_858 (lv_at hl 1 rfl) ?_
  refine nq_icmp_eq (tgt := 865) hx hb dL_law_860 (by decide) (by omega) (by omega) (fun h860 => ?_) (fun h860 => ?_)
  · skip
    refine lv_iload hx hb dL_law_865 (lv_at hl 1 rfl) ?_
    refine nq_if_ne (tgt := 882) hx hb dL_law_867 (by decide) (by decide) (fun h867 => ?_) (fun h867 => ?_)
    · skip
      refine lv_goto (tgt := 1763) hx hb dL_law_882 (by decide) ?_
      exact KK a mc n now lim F lit fo fn bb (nI 1) kp _ _ _ _ _ ⟨hO, by omega, hz, by omega, by omega, hP, hD, hS, (lv_sub hl [2, 3, 4, 5, 6] rfl)⟩
    · skip
      exact absurd h867 (by decide)
  · skip
    exact absurd rfl h860

set_option maxHeartbeats 4000000 in
set_option maxRecDepth 100000 in
theorem law_shiftOf {p : Program} {l : Launch} {e : Env} {s : State} {m : MethodId} {b : Nat} {below : List Frame} {meth : Method} {c : Code} {E : GE} {A : Nat → Prop} {z0 L o i j : Nat} {xs : Nat → Int32} {Q : State → Prop} (CC : LC p l s m b c E A z0 L xs) (hL9 : L ≤ 2560) (hi9 : i + 5 ≤ L) (hj9 : j ≤ 511) (KK : LK p l e s m b below meth c E A z0 o Q 1763 i (j + 1)) (a : Nat → Nat) (mc : Int32) (n now lim : Nat) (F : LR) (lit : Nat → Bool) (fo : Nat → Nat) (fn : Nat → Int64) (bb : Nat → Nat) (th : Int32) (kp : Nat → Int32) (H : Heap) (locs : List Loc) (ls : Array Slot) (cells slots : Nat) (hst : LSt E A s b z0 i j a mc n now lim F lit fo o fn bb th kp H locs ls cells slots) (k : Nat) (hk : k < n) (e1 : xs (i + 1) = (nI k)) : W p l e room_1 s m #[Value.ref b] below meth c H locs cells slots Q (F0 m 885 ls []) := by
  obtain ⟨hx, hb, hml, hown, hts, hK, hZ, hT, hA, hbA, hX, hbl, hl9⟩ := CC
  obtain ⟨hO, hnw, hz, hcl, hsl, hP, hD, hS, hl⟩ := hst
  refine lv_aload_n hx hb dL_law_885 rfl (lv_at hl 1 rfl) ?_
  refine lv_aload_n hx hb dL_law_886 rfl (lv_at hl 0 rfl) ?_
  refine lv_iload hx hb dL_law_887 (lv_at hl 4 rfl) ?_
  refine lv_iconst (v := (nI 1)) hx hb dL_law_889 (by decide) ?_
  refine nq_add hx hb dL_law_890 ?_
  refine va_sld hx hb hX hbl hbA hS (i := nI (i + 1)) (by exact vp_in_nI (by omega) (by omega)) dL_law_891 ?_
  refine nq_top (show xs ((nI (i + 1)).toNatClampNeg) = (nI k) from by rw [nI_clamp (by omega)]; exact e1) ?_
  refine lv_aload_n hx hb dL_law_892 rfl (lv_at hl 3 rfl) ?_
  refine lawS (S := Unit) (W1 := fun uQ => wC E a mc n now lim (LF F lit fo)) (f1 := fun uQ => vp_updL fn 0 (((nI (F k 3))).toInt64)) (rest := []) (As := [.ref (a 0), .int (nI k), .ref o]) ⟨hx, hb, hml, hown, hts⟩ (w_L_shiftOf l hl9 E _ z0 a mc n now lim F lit fo hO o fn k hk) (vx_cwSW 3 hts gL_law_L_shiftOf rfl rfl rfl (by decide +kernel) ⟨Nat.le_of_ble_eq_true rfl, Nat.le_of_ble_eq_true rfl⟩) hP hK hD hZ hT hS hA rfl hl.1 rfl (Nat.le_of_ble_eq_true rfl) dL_law_893 ⟨by show cells + 0 ≤ 601024; omega, by show slots + 0 ≤ 7293034; omega⟩ (fun r1 u1 H locs hr1 hP hD hS => ?_)
  subst hr1
  have hP : va_P E.1 vwCl (wG E (wC E a mc n now lim (LF F lit fo)) o (vp_updL fn 0 (((nI (F k 3))).toInt64)) (wM E bb (th) n lim F (NW now F) kp)) _ := hP
  have hD : va_D A (wG E (wC E a mc n now lim (LF F lit fo)) o (vp_updL fn 0 (((nI (F k 3))).toInt64)) (wM E bb (th) n lim F (NW now F) kp)) := hD
  refine lv_istore (lv' := [(5, .int (nI 0)), (0, .ref b), (1, .ref (a 0)), (2, .ref (bb 0)), (3, .ref o), (4, .int (nI i))]) hx hb dL_law_896 hl (by decide) rfl (fun ls hl => ?_)
  refine lv_aload_n hx hb dL_law_898 rfl (lv_at hl 3 rfl) ?_
  refine lv_aload_n hx hb dL_law_899 rfl (lv_at hl 1 rfl) ?_
  refine lv_iload hx hb dL_law_900 (lv_at hl 5 rfl) ?_
  refine lv_iconst (v := (nI 1)) hx hb dL_law_902 (by decide) ?_
  refine nq_add hx hb dL_law_903 ?_
  refine va_sld hx hb hX hbl hbA hS (i := nI (i + 1)) (by exact vp_in_nI (by omega) (by omega)) dL_law_904 ?_
  refine nq_top (show xs ((nI (i + 1)).toNatClampNeg) = (nI k) from by rw [nI_clamp (by omega)]; exact e1) ?_
  refine lawM_i (S := Unit) (W1 := fun kQ => wM E bb (nI 0) n lim F (NW now F) kp) (rest := []) (As := [.int (nI k)]) ⟨hx, hb, hml, hown, hts⟩ (c_X2_shiftOf l E _ bb th n lim now F kp hO k hk) (cwV 1 hts gL_law_X2_shiftOf rfl rfl rfl (by decide +kernel) ⟨Nat.le_of_ble_eq_true rfl, Nat.le_of_ble_eq_true rfl⟩) (va_recv hK hP (ci := 3) (q0 := (wC E a mc n now lim (LF F lit fo)).length + 1) rfl wG_m0) hP hK hD hS hA rfl hl.1 rfl (Nat.le_of_ble_eq_true rfl) dL_law_905 ⟨by show cells + 0 + 0 ≤ 601024; omega, by show slots + 0 + 0 ≤ 7293034; omega⟩ (fun r2 u2 H locs hr2 hP hD hS => ?_)
  subst hr2
  have hP : va_P E.1 vwCl (wG E (wC E a mc n now lim (LF F lit fo)) o (vp_updL fn 0 (((nI (F k 3))).toInt64)) (wM E bb (nI 0) n lim F (NW now F) kp)) _ := hP
  have hD : va_D A (wG E (wC E a mc n now lim (LF F lit fo)) o (vp_updL fn 0 (((nI (F k 3))).toInt64)) (wM E bb (nI 0) n lim F (NW now F) kp)) := hD
  refine lv_istore (lv' := [(6, .int (nI (F k 3))), (5, .int (nI 0)), (0, .ref b), (1, .ref (a 0)), (2, .ref (bb 0)), (3, .ref o), (4, .int (nI i))]) hx hb dL_law_908 hl (by decide) rfl (fun ls hl => ?_)
  refine lv_aload_n hx hb dL_law_910 rfl (lv_at hl 4 rfl) ?_
  refine lawM_i (S := Unit) (W1 := fun kQ => wM E bb (nI 0) n lim F (NW now F) kp) (rest := []) (As := []) ⟨hx, hb, hml, hown, hts⟩ (c_X2_thrown l E _ bb (nI 0) n lim now F kp) (cwV 0 hts gL_law_X2_thrown rfl rfl rfl (by decide +kernel) ⟨Nat.le_of_ble_eq_true rfl, Nat.le_of_ble_eq_true rfl⟩) (va_recv hK hP (ci := 3) (q0 := (wC E a mc n now lim (LF F lit fo)).length + 1) rfl wG_m0) hP hK hD hS hA rfl hl.1 rfl (Nat.le_of_ble_eq_true rfl) dL_law_911 ⟨by show cells + 0 + 0 + 0 ≤ 601024; omega, by show slots + 0 + 0 + 0 ≤ 7293034; omega⟩ (fun r3 u3 H locs hr3 hP hD hS => ?_)
  subst hr3
  have hP : va_P E.1 vwCl (wG E (wC E a mc n now lim (LF F lit fo)) o (vp_updL fn 0 (((nI (F k 3))).toInt64)) (wM E bb (nI 0) n lim F (NW now F) kp)) _ := hP
  have hD : va_D A (wG E (wC E a mc n now lim (LF F lit fo)) o (vp_updL fn 0 (((nI (F k 3))).toInt64)) (wM E bb (nI 0) n lim F (NW now F) kp)) := hD
  refine lv_iload hx hb dL_law_914 (lv_at hl 1 rfl) ?_
  refine nq_icmp_eq (tgt := 921) hx hb dL_law_916 (by decide) (by omega) (by omega) (fun h916 => ?_) (fun h916 => ?_)
  · skip
    refine lv_iload hx hb dL_law_921 (lv_at hl 1 rfl) ?_
    refine nq_if_ne (tgt := 938) hx hb dL_law_923 (by decide) (by decide) (fun h923 => ?_) (fun h923 => ?_)
    · skip
      exact absurd h923 (by decide)
    · skip
      refine lv_aload_n hx hb dL_law_926 rfl (lv_at hl 5 rfl) ?_
      refine lv_iconst (v := (nI 0)) hx hb dL_law_927 (by decide) ?_
      refine va_lald hx hb hK hP (wC E a mc n now lim (LF F lit fo)).length 2 wG_o rfl (i := nI 0) (by exact vp_in_nI (by omega) (by omega)) dL_law_928 ?_
      refine nq_topl (show (vp_updL fn 0 (((nI (F k 3))).toInt64)) ((nI 0).toNatClampNeg) = ((nI (F k 3))).toInt64 from by rw [nI_clamp (by omega)]; exact if_pos rfl) ?_
      refine lv_iload hx hb dL_law_929 (lv_at hl 0 rfl) ?_
      refine lv_i2l (v := (nI (F k 3)).toInt64) hx hb dL_law_931 (rfl) ?_
      refine nq_topl (show (nI (F k 3)).toInt64 = ((nI (F k 3))).toInt64 from by first | rfl | (rw [h923]; rfl)) ?_
      refine W.lcmp hx hb dL_law_932 ?_
      refine lv_if_eq (tgt := 938) hx hb dL_law_933 (by decide) (fun h933 => ?_) (fun h933 => ?_)
      · skip
        refine lv_goto (tgt := 1763) hx hb dL_law_938 (by decide) ?_
        exact KK a mc n now lim F lit fo (vp_updL fn 0 (((nI (F k 3))).toInt64)) bb (nI 0) kp _ _ _ _ _ ⟨hO, by omega, hz, by omega, by omega, hP, hD, hS, (lv_sub hl [2, 3, 4, 5, 6] rfl)⟩
      · skip
        exact absurd (lg_self _) h933
  · skip
    exact absurd rfl h916

set_option maxHeartbeats 4000000 in
set_option maxRecDepth 100000 in
theorem law_shiftOf_x {p : Program} {l : Launch} {e : Env} {s : State} {m : MethodId} {b : Nat} {below : List Frame} {meth : Method} {c : Code} {E : GE} {A : Nat → Prop} {z0 L o i j : Nat} {xs : Nat → Int32} {Q : State → Prop} (CC : LC p l s m b c E A z0 L xs) (hL9 : L ≤ 2560) (hi9 : i + 5 ≤ L) (hj9 : j ≤ 511) (KK : LK p l e s m b below meth c E A z0 o Q 1763 i (j + 1)) (a : Nat → Nat) (mc : Int32) (n now lim : Nat) (F : LR) (lit : Nat → Bool) (fo : Nat → Nat) (fn : Nat → Int64) (bb : Nat → Nat) (th : Int32) (kp : Nat → Int32) (H : Heap) (locs : List Loc) (ls : Array Slot) (cells slots : Nat) (hst : LSt E A s b z0 i j a mc n now lim F lit fo o fn bb th kp H locs ls cells slots) (x : Int32) (hx9 : lpB n x = false) (e1 : xs (i + 1) = x) : W p l e room_1 s m #[Value.ref b] below meth c H locs cells slots Q (F0 m 885 ls []) := by
  obtain ⟨hx, hb, hml, hown, hts, hK, hZ, hT, hA, hbA, hX, hbl, hl9⟩ := CC
  obtain ⟨hO, hnw, hz, hcl, hsl, hP, hD, hS, hl⟩ := hst
  refine lv_aload_n hx hb dL_law_885 rfl (lv_at hl 1 rfl) ?_
  refine lv_aload_n hx hb dL_law_886 rfl (lv_at hl 0 rfl) ?_
  refine lv_iload hx hb dL_law_887 (lv_at hl 4 rfl) ?_
  refine lv_iconst (v := (nI 1)) hx hb dL_law_889 (by decide) ?_
  refine nq_add hx hb dL_law_890 ?_
  refine va_sld hx hb hX hbl hbA hS (i := nI (i + 1)) (by exact vp_in_nI (by omega) (by omega)) dL_law_891 ?_
  refine nq_top (show xs ((nI (i + 1)).toNatClampNeg) = x from by rw [nI_clamp (by omega)]; exact e1) ?_
  refine lv_aload_n hx hb dL_law_892 rfl (lv_at hl 3 rfl) ?_
  refine lawS (S := Unit) (W1 := fun uQ => wC E a mc n now lim (LF F lit fo)) (f1 := fun uQ => fn) (rest := []) (As := [.ref (a 0), .int x, .ref o]) ⟨hx, hb, hml, hown, hts⟩ (w_L_shiftOf_x l hl9 E _ z0 a mc n now lim F lit fo hO o fn x hx9) (vx_cwSW 3 hts gL_law_L_shiftOf rfl rfl rfl (by decide +kernel) ⟨Nat.le_of_ble_eq_true rfl, Nat.le_of_ble_eq_true rfl⟩) hP hK hD hZ hT hS hA rfl hl.1 rfl (Nat.le_of_ble_eq_true rfl) dL_law_893 ⟨by show cells + 1 ≤ 601024; omega, by show slots + 6 ≤ 7293034; omega⟩ (fun r1 u1 H locs hr1 hP hD hS => ?_)
  subst hr1
  have hP : va_P E.1 vwCl (wG E (wC E a mc n now lim (LF F lit fo)) o (fn) (wM E bb (th) n lim F (NW now F) kp)) _ := hP
  have hD : va_D A (wG E (wC E a mc n now lim (LF F lit fo)) o (fn) (wM E bb (th) n lim F (NW now F) kp)) := hD
  refine lv_istore (lv' := [(5, .int (nI 1)), (0, .ref b), (1, .ref (a 0)), (2, .ref (bb 0)), (3, .ref o), (4, .int (nI i))]) hx hb dL_law_896 hl (by decide) rfl (fun ls hl => ?_)
  refine lv_aload_n hx hb dL_law_898 rfl (lv_at hl 3 rfl) ?_
  refine lv_aload_n hx hb dL_law_899 rfl (lv_at hl 1 rfl) ?_
  refine lv_iload hx hb dL_law_900 (lv_at hl 5 rfl) ?_
  refine lv_iconst (v := (nI 1)) hx hb dL_law_902 (by decide) ?_
  refine nq_add hx hb dL_law_903 ?_
  refine va_sld hx hb hX hbl hbA hS (i := nI (i + 1)) (by exact vp_in_nI (by omega) (by omega)) dL_law_904 ?_
  refine nq_top (show xs ((nI (i + 1)).toNatClampNeg) = x from by rw [nI_clamp (by omega)]; exact e1) ?_
  refine lawM_i (S := Unit) (W1 := fun kQ => wM E bb (nI 1) n lim F (NW now F) kp) (rest := []) (As := [.int x]) ⟨hx, hb, hml, hown, hts⟩ (c_X2_shiftOf_x l E _ bb th n lim now F kp hO x hx9) (cwV 1 hts gL_law_X2_shiftOf rfl rfl rfl (by decide +kernel) ⟨Nat.le_of_ble_eq_true rfl, Nat.le_of_ble_eq_true rfl⟩) (va_recv hK hP (ci := 3) (q0 := (wC E a mc n now lim (LF F lit fo)).length + 1) rfl wG_m0) hP hK hD hS hA rfl hl.1 rfl (Nat.le_of_ble_eq_true rfl) dL_law_905 ⟨by show cells + 1 + 0 ≤ 601024; omega, by show slots + 6 + 0 ≤ 7293034; omega⟩ (fun r2 u2 H locs hr2 hP hD hS => ?_)
  subst hr2
  have hP : va_P E.1 vwCl (wG E (wC E a mc n now lim (LF F lit fo)) o (fn) (wM E bb (nI 1) n lim F (NW now F) kp)) _ := hP
  have hD : va_D A (wG E (wC E a mc n now lim (LF F lit fo)) o (fn) (wM E bb (nI 1) n lim F (NW now F) kp)) := hD
  refine lv_istore (lv' := [(6, .int (nI 0)), (5, .int (nI 1)), (0, .ref b), (1, .ref (a 0)), (2, .ref (bb 0)), (3, .ref o), (4, .int (nI i))]) hx hb dL_law_908 hl (by decide) rfl (fun ls hl => ?_)
  refine lv_aload_n hx hb dL_law_910 rfl (lv_at hl 4 rfl) ?_
  refine lawM_i (S := Unit) (W1 := fun kQ => wM E bb (nI 1) n lim F (NW now F) kp) (rest := []) (As := []) ⟨hx, hb, hml, hown, hts⟩ (c_X2_thrown l E _ bb (nI 1) n lim now F kp) (cwV 0 hts gL_law_X2_thrown rfl rfl rfl (by decide +kernel) ⟨Nat.le_of_ble_eq_true rfl, Nat.le_of_ble_eq_true rfl⟩) (va_recv hK hP (ci := 3) (q0 := (wC E a mc n now lim (LF F lit fo)).length + 1) rfl wG_m0) hP hK hD hS hA rfl hl.1 rfl (Nat.le_of_ble_eq_true rfl) dL_law_911 ⟨by show cells + 1 + 0 + 0 ≤ 601024; omega, by show slots + 6 + 0 + 0 ≤ 7293034; omega⟩ (fun r3 u3 H locs hr3 hP hD hS => ?_)
  subst hr3
  have hP : va_P E.1 vwCl (wG E (wC E a mc n now lim (LF F lit fo)) o (fn) (wM E bb (nI 1) n lim F (NW now F) kp)) _ := hP
  have hD : va_D A (wG E (wC E a mc n now lim (LF F lit fo)) o (fn) (wM E bb (nI 1) n lim F (NW now F) kp)) := hD
  refine lv_iload hx hb dL_law_914 (lv_at hl 1 rfl) ?_
  refine nq_icmp_eq (tgt := 921) hx hb dL_law_916 (by decide) (by omega) (by omega) (fun h916 => ?_) (fun h916 => ?_)
  · skip
    refine lv_iload hx hb dL_law_921 (lv_at hl 1 rfl) ?_
    refine nq_if_ne (tgt := 938) hx hb dL_law_923 (by decide) (by decide) (fun h923 => ?_) (fun h923 => ?_)
    · skip
      refine lv_goto (tgt := 1763) hx hb dL_law_938 (by decide) ?_
      exact KK a mc n now lim F lit fo fn bb (nI 1) kp _ _ _ _ _ ⟨hO, by omega, hz, by omega, by omega, hP, hD, hS, (lv_sub hl [2, 3, 4, 5, 6] rfl)⟩
    · skip
      exact absurd h923 (by decide)
  · skip
    exact absurd rfl h916

set_option maxHeartbeats 4000000 in
set_option maxRecDepth 100000 in
theorem law_shone {p : Program} {l : Launch} {e : Env} {s : State} {m : MethodId} {b : Nat} {below : List Frame} {meth : Method} {c : Code} {E : GE} {A : Nat → Prop} {z0 L o i j : Nat} {xs : Nat → Int32} {Q : State → Prop} (CC : LC p l s m b c E A z0 L xs) (hL9 : L ≤ 2560) (hi9 : i + 5 ≤ L) (hj9 : j ≤ 511) (KK : LK p l e s m b below meth c E A z0 o Q 1763 i (j + 1)) (a : Nat → Nat) (mc : Int32) (n now lim : Nat) (F : LR) (lit : Nat → Bool) (fo : Nat → Nat) (fn : Nat → Int64) (bb : Nat → Nat) (th : Int32) (kp : Nat → Int32) (H : Heap) (locs : List Loc) (ls : Array Slot) (cells slots : Nat) (hst : LSt E A s b z0 i j a mc n now lim F lit fo o fn bb th kp H locs ls cells slots) (k : Nat) (hk : k < n) (e1 : xs (i + 1) = (nI k)) : W p l e room_1 s m #[Value.ref b] below meth c H locs cells slots Q (F0 m 941 ls []) := by
  obtain ⟨hx, hb, hml, hown, hts, hK, hZ, hT, hA, hbA, hX, hbl, hl9⟩ := CC
  obtain ⟨hO, hnw, hz, hcl, hsl, hP, hD, hS, hl⟩ := hst
  refine lv_aload_n hx hb dL_law_941 rfl (lv_at hl 1 rfl) ?_
  refine lv_aload_n hx hb dL_law_942 rfl (lv_at hl 0 rfl) ?_
  refine lv_iload hx hb dL_law_943 (lv_at hl 4 rfl) ?_
  refine lv_iconst (v := (nI 1)) hx hb dL_law_945 (by decide) ?_
  refine nq_add hx hb dL_law_946 ?_
  refine va_sld hx hb hX hbl hbA hS (i := nI (i + 1)) (by exact vp_in_nI (by omega) (by omega)) dL_law_947 ?_
  refine nq_top (show xs ((nI (i + 1)).toNatClampNeg) = (nI k) from by rw [nI_clamp (by omega)]; exact e1) ?_
  refine lv_aload_n hx hb dL_law_948 rfl (lv_at hl 3 rfl) ?_
  refine lawS (S := Unit) (W1 := fun uQ => wC E a mc n now lim (LF F lit fo)) (f1 := fun uQ => vp_updL fn 0 (((nI (F k 5))).toInt64)) (rest := []) (As := [.ref (a 0), .int (nI k), .ref o]) ⟨hx, hb, hml, hown, hts⟩ (w_L_shone l hl9 E _ z0 a mc n now lim F lit fo hO o fn k hk) (vx_cwSW 3 hts gL_law_L_shone rfl rfl rfl (by decide +kernel) ⟨Nat.le_of_ble_eq_true rfl, Nat.le_of_ble_eq_true rfl⟩) hP hK hD hZ hT hS hA rfl hl.1 rfl (Nat.le_of_ble_eq_true rfl) dL_law_949 ⟨by show cells + 0 ≤ 601024; omega, by show slots + 0 ≤ 7293034; omega⟩ (fun r1 u1 H locs hr1 hP hD hS => ?_)
  subst hr1
  have hP : va_P E.1 vwCl (wG E (wC E a mc n now lim (LF F lit fo)) o (vp_updL fn 0 (((nI (F k 5))).toInt64)) (wM E bb (th) n lim F (NW now F) kp)) _ := hP
  have hD : va_D A (wG E (wC E a mc n now lim (LF F lit fo)) o (vp_updL fn 0 (((nI (F k 5))).toInt64)) (wM E bb (th) n lim F (NW now F) kp)) := hD
  refine lv_istore (lv' := [(5, .int (nI 0)), (0, .ref b), (1, .ref (a 0)), (2, .ref (bb 0)), (3, .ref o), (4, .int (nI i))]) hx hb dL_law_952 hl (by decide) rfl (fun ls hl => ?_)
  refine lv_aload_n hx hb dL_law_954 rfl (lv_at hl 3 rfl) ?_
  refine lv_aload_n hx hb dL_law_955 rfl (lv_at hl 1 rfl) ?_
  refine lv_iload hx hb dL_law_956 (lv_at hl 5 rfl) ?_
  refine lv_iconst (v := (nI 1)) hx hb dL_law_958 (by decide) ?_
  refine nq_add hx hb dL_law_959 ?_
  refine va_sld hx hb hX hbl hbA hS (i := nI (i + 1)) (by exact vp_in_nI (by omega) (by omega)) dL_law_960 ?_
  refine nq_top (show xs ((nI (i + 1)).toNatClampNeg) = (nI k) from by rw [nI_clamp (by omega)]; exact e1) ?_
  refine lawM_i (S := Unit) (W1 := fun kQ => wM E bb (nI 0) n lim F (NW now F) kp) (rest := []) (As := [.int (nI k)]) ⟨hx, hb, hml, hown, hts⟩ (c_X2_shone l E _ bb th n lim now F kp hO k hk) (cwV 1 hts gL_law_X2_shone rfl rfl rfl (by decide +kernel) ⟨Nat.le_of_ble_eq_true rfl, Nat.le_of_ble_eq_true rfl⟩) (va_recv hK hP (ci := 3) (q0 := (wC E a mc n now lim (LF F lit fo)).length + 1) rfl wG_m0) hP hK hD hS hA rfl hl.1 rfl (Nat.le_of_ble_eq_true rfl) dL_law_961 ⟨by show cells + 0 + 0 ≤ 601024; omega, by show slots + 0 + 0 ≤ 7293034; omega⟩ (fun r2 u2 H locs hr2 hP hD hS => ?_)
  subst hr2
  have hP : va_P E.1 vwCl (wG E (wC E a mc n now lim (LF F lit fo)) o (vp_updL fn 0 (((nI (F k 5))).toInt64)) (wM E bb (nI 0) n lim F (NW now F) kp)) _ := hP
  have hD : va_D A (wG E (wC E a mc n now lim (LF F lit fo)) o (vp_updL fn 0 (((nI (F k 5))).toInt64)) (wM E bb (nI 0) n lim F (NW now F) kp)) := hD
  refine lv_istore (lv' := [(6, .int (nI (F k 5))), (5, .int (nI 0)), (0, .ref b), (1, .ref (a 0)), (2, .ref (bb 0)), (3, .ref o), (4, .int (nI i))]) hx hb dL_law_964 hl (by decide) rfl (fun ls hl => ?_)
  refine lv_aload_n hx hb dL_law_966 rfl (lv_at hl 4 rfl) ?_
  refine lawM_i (S := Unit) (W1 := fun kQ => wM E bb (nI 0) n lim F (NW now F) kp) (rest := []) (As := []) ⟨hx, hb, hml, hown, hts⟩ (c_X2_thrown l E _ bb (nI 0) n lim now F kp) (cwV 0 hts gL_law_X2_thrown rfl rfl rfl (by decide +kernel) ⟨Nat.le_of_ble_eq_true rfl, Nat.le_of_ble_eq_true rfl⟩) (va_recv hK hP (ci := 3) (q0 := (wC E a mc n now lim (LF F lit fo)).length + 1) rfl wG_m0) hP hK hD hS hA rfl hl.1 rfl (Nat.le_of_ble_eq_true rfl) dL_law_967 ⟨by show cells + 0 + 0 + 0 ≤ 601024; omega, by show slots + 0 + 0 + 0 ≤ 7293034; omega⟩ (fun r3 u3 H locs hr3 hP hD hS => ?_)
  subst hr3
  have hP : va_P E.1 vwCl (wG E (wC E a mc n now lim (LF F lit fo)) o (vp_updL fn 0 (((nI (F k 5))).toInt64)) (wM E bb (nI 0) n lim F (NW now F) kp)) _ := hP
  have hD : va_D A (wG E (wC E a mc n now lim (LF F lit fo)) o (vp_updL fn 0 (((nI (F k 5))).toInt64)) (wM E bb (nI 0) n lim F (NW now F) kp)) := hD
  refine lv_iload hx hb dL_law_970 (lv_at hl 1 rfl) ?_
  refine nq_icmp_eq (tgt := 977) hx hb dL_law_972 (by decide) (by omega) (by omega) (fun h972 => ?_) (fun h972 => ?_)
  · skip
    refine lv_iload hx hb dL_law_977 (lv_at hl 1 rfl) ?_
    refine nq_if_ne (tgt := 994) hx hb dL_law_979 (by decide) (by decide) (fun h979 => ?_) (fun h979 => ?_)
    · skip
      exact absurd h979 (by decide)
    · skip
      refine lv_aload_n hx hb dL_law_982 rfl (lv_at hl 5 rfl) ?_
      refine lv_iconst (v := (nI 0)) hx hb dL_law_983 (by decide) ?_
      refine va_lald hx hb hK hP (wC E a mc n now lim (LF F lit fo)).length 2 wG_o rfl (i := nI 0) (by exact vp_in_nI (by omega) (by omega)) dL_law_984 ?_
      refine nq_topl (show (vp_updL fn 0 (((nI (F k 5))).toInt64)) ((nI 0).toNatClampNeg) = ((nI (F k 5))).toInt64 from by rw [nI_clamp (by omega)]; exact if_pos rfl) ?_
      refine lv_iload hx hb dL_law_985 (lv_at hl 0 rfl) ?_
      refine lv_i2l (v := (nI (F k 5)).toInt64) hx hb dL_law_987 (rfl) ?_
      refine nq_topl (show (nI (F k 5)).toInt64 = ((nI (F k 5))).toInt64 from by first | rfl | (rw [h979]; rfl)) ?_
      refine W.lcmp hx hb dL_law_988 ?_
      refine lv_if_eq (tgt := 994) hx hb dL_law_989 (by decide) (fun h989 => ?_) (fun h989 => ?_)
      · skip
        refine lv_goto (tgt := 1763) hx hb dL_law_994 (by decide) ?_
        exact KK a mc n now lim F lit fo (vp_updL fn 0 (((nI (F k 5))).toInt64)) bb (nI 0) kp _ _ _ _ _ ⟨hO, by omega, hz, by omega, by omega, hP, hD, hS, (lv_sub hl [2, 3, 4, 5, 6] rfl)⟩
      · skip
        exact absurd (lg_self _) h989
  · skip
    exact absurd rfl h972

set_option maxHeartbeats 4000000 in
set_option maxRecDepth 100000 in
theorem law_shone_x {p : Program} {l : Launch} {e : Env} {s : State} {m : MethodId} {b : Nat} {below : List Frame} {meth : Method} {c : Code} {E : GE} {A : Nat → Prop} {z0 L o i j : Nat} {xs : Nat → Int32} {Q : State → Prop} (CC : LC p l s m b c E A z0 L xs) (hL9 : L ≤ 2560) (hi9 : i + 5 ≤ L) (hj9 : j ≤ 511) (KK : LK p l e s m b below meth c E A z0 o Q 1763 i (j + 1)) (a : Nat → Nat) (mc : Int32) (n now lim : Nat) (F : LR) (lit : Nat → Bool) (fo : Nat → Nat) (fn : Nat → Int64) (bb : Nat → Nat) (th : Int32) (kp : Nat → Int32) (H : Heap) (locs : List Loc) (ls : Array Slot) (cells slots : Nat) (hst : LSt E A s b z0 i j a mc n now lim F lit fo o fn bb th kp H locs ls cells slots) (x : Int32) (hx9 : lpB n x = false) (e1 : xs (i + 1) = x) : W p l e room_1 s m #[Value.ref b] below meth c H locs cells slots Q (F0 m 941 ls []) := by
  obtain ⟨hx, hb, hml, hown, hts, hK, hZ, hT, hA, hbA, hX, hbl, hl9⟩ := CC
  obtain ⟨hO, hnw, hz, hcl, hsl, hP, hD, hS, hl⟩ := hst
  refine lv_aload_n hx hb dL_law_941 rfl (lv_at hl 1 rfl) ?_
  refine lv_aload_n hx hb dL_law_942 rfl (lv_at hl 0 rfl) ?_
  refine lv_iload hx hb dL_law_943 (lv_at hl 4 rfl) ?_
  refine lv_iconst (v := (nI 1)) hx hb dL_law_945 (by decide) ?_
  refine nq_add hx hb dL_law_946 ?_
  refine va_sld hx hb hX hbl hbA hS (i := nI (i + 1)) (by exact vp_in_nI (by omega) (by omega)) dL_law_947 ?_
  refine nq_top (show xs ((nI (i + 1)).toNatClampNeg) = x from by rw [nI_clamp (by omega)]; exact e1) ?_
  refine lv_aload_n hx hb dL_law_948 rfl (lv_at hl 3 rfl) ?_
  refine lawS (S := Unit) (W1 := fun uQ => wC E a mc n now lim (LF F lit fo)) (f1 := fun uQ => fn) (rest := []) (As := [.ref (a 0), .int x, .ref o]) ⟨hx, hb, hml, hown, hts⟩ (w_L_shone_x l hl9 E _ z0 a mc n now lim F lit fo hO o fn x hx9) (vx_cwSW 3 hts gL_law_L_shone rfl rfl rfl (by decide +kernel) ⟨Nat.le_of_ble_eq_true rfl, Nat.le_of_ble_eq_true rfl⟩) hP hK hD hZ hT hS hA rfl hl.1 rfl (Nat.le_of_ble_eq_true rfl) dL_law_949 ⟨by show cells + 1 ≤ 601024; omega, by show slots + 6 ≤ 7293034; omega⟩ (fun r1 u1 H locs hr1 hP hD hS => ?_)
  subst hr1
  have hP : va_P E.1 vwCl (wG E (wC E a mc n now lim (LF F lit fo)) o (fn) (wM E bb (th) n lim F (NW now F) kp)) _ := hP
  have hD : va_D A (wG E (wC E a mc n now lim (LF F lit fo)) o (fn) (wM E bb (th) n lim F (NW now F) kp)) := hD
  refine lv_istore (lv' := [(5, .int (nI 1)), (0, .ref b), (1, .ref (a 0)), (2, .ref (bb 0)), (3, .ref o), (4, .int (nI i))]) hx hb dL_law_952 hl (by decide) rfl (fun ls hl => ?_)
  refine lv_aload_n hx hb dL_law_954 rfl (lv_at hl 3 rfl) ?_
  refine lv_aload_n hx hb dL_law_955 rfl (lv_at hl 1 rfl) ?_
  refine lv_iload hx hb dL_law_956 (lv_at hl 5 rfl) ?_
  refine lv_iconst (v := (nI 1)) hx hb dL_law_958 (by decide) ?_
  refine nq_add hx hb dL_law_959 ?_
  refine va_sld hx hb hX hbl hbA hS (i := nI (i + 1)) (by exact vp_in_nI (by omega) (by omega)) dL_law_960 ?_
  refine nq_top (show xs ((nI (i + 1)).toNatClampNeg) = x from by rw [nI_clamp (by omega)]; exact e1) ?_
  refine lawM_i (S := Unit) (W1 := fun kQ => wM E bb (nI 1) n lim F (NW now F) kp) (rest := []) (As := [.int x]) ⟨hx, hb, hml, hown, hts⟩ (c_X2_shone_x l E _ bb th n lim now F kp hO x hx9) (cwV 1 hts gL_law_X2_shone rfl rfl rfl (by decide +kernel) ⟨Nat.le_of_ble_eq_true rfl, Nat.le_of_ble_eq_true rfl⟩) (va_recv hK hP (ci := 3) (q0 := (wC E a mc n now lim (LF F lit fo)).length + 1) rfl wG_m0) hP hK hD hS hA rfl hl.1 rfl (Nat.le_of_ble_eq_true rfl) dL_law_961 ⟨by show cells + 1 + 0 ≤ 601024; omega, by show slots + 6 + 0 ≤ 7293034; omega⟩ (fun r2 u2 H locs hr2 hP hD hS => ?_)
  subst hr2
  have hP : va_P E.1 vwCl (wG E (wC E a mc n now lim (LF F lit fo)) o (fn) (wM E bb (nI 1) n lim F (NW now F) kp)) _ := hP
  have hD : va_D A (wG E (wC E a mc n now lim (LF F lit fo)) o (fn) (wM E bb (nI 1) n lim F (NW now F) kp)) := hD
  refine lv_istore (lv' := [(6, .int (nI 0)), (5, .int (nI 1)), (0, .ref b), (1, .ref (a 0)), (2, .ref (bb 0)), (3, .ref o), (4, .int (nI i))]) hx hb dL_law_964 hl (by decide) rfl (fun ls hl => ?_)
  refine lv_aload_n hx hb dL_law_966 rfl (lv_at hl 4 rfl) ?_
  refine lawM_i (S := Unit) (W1 := fun kQ => wM E bb (nI 1) n lim F (NW now F) kp) (rest := []) (As := []) ⟨hx, hb, hml, hown, hts⟩ (c_X2_thrown l E _ bb (nI 1) n lim now F kp) (cwV 0 hts gL_law_X2_thrown rfl rfl rfl (by decide +kernel) ⟨Nat.le_of_ble_eq_true rfl, Nat.le_of_ble_eq_true rfl⟩) (va_recv hK hP (ci := 3) (q0 := (wC E a mc n now lim (LF F lit fo)).length + 1) rfl wG_m0) hP hK hD hS hA rfl hl.1 rfl (Nat.le_of_ble_eq_true rfl) dL_law_967 ⟨by show cells + 1 + 0 + 0 ≤ 601024; omega, by show slots + 6 + 0 + 0 ≤ 7293034; omega⟩ (fun r3 u3 H locs hr3 hP hD hS => ?_)
  subst hr3
  have hP : va_P E.1 vwCl (wG E (wC E a mc n now lim (LF F lit fo)) o (fn) (wM E bb (nI 1) n lim F (NW now F) kp)) _ := hP
  have hD : va_D A (wG E (wC E a mc n now lim (LF F lit fo)) o (fn) (wM E bb (nI 1) n lim F (NW now F) kp)) := hD
  refine lv_iload hx hb dL_law_970 (lv_at hl 1 rfl) ?_
  refine nq_icmp_eq (tgt := 977) hx hb dL_law_972 (by decide) (by omega) (by omega) (fun h972 => ?_) (fun h972 => ?_)
  · skip
    refine lv_iload hx hb dL_law_977 (lv_at hl 1 rfl) ?_
    refine nq_if_ne (tgt := 994) hx hb dL_law_979 (by decide) (by decide) (fun h979 => ?_) (fun h979 => ?_)
    · skip
      refine lv_goto (tgt := 1763) hx hb dL_law_994 (by decide) ?_
      exact KK a mc n now lim F lit fo fn bb (nI 1) kp _ _ _ _ _ ⟨hO, by omega, hz, by omega, by omega, hP, hD, hS, (lv_sub hl [2, 3, 4, 5, 6] rfl)⟩
    · skip
      exact absurd h979 (by decide)
  · skip
    exact absurd rfl h972

set_option maxHeartbeats 4000000 in
set_option maxRecDepth 100000 in
theorem law_stayedDark {p : Program} {l : Launch} {e : Env} {s : State} {m : MethodId} {b : Nat} {below : List Frame} {meth : Method} {c : Code} {E : GE} {A : Nat → Prop} {z0 L o i j : Nat} {xs : Nat → Int32} {Q : State → Prop} (CC : LC p l s m b c E A z0 L xs) (hL9 : L ≤ 2560) (hi9 : i + 5 ≤ L) (hj9 : j ≤ 511) (KK : LK p l e s m b below meth c E A z0 o Q 1763 i (j + 1)) (a : Nat → Nat) (mc : Int32) (n now lim : Nat) (F : LR) (lit : Nat → Bool) (fo : Nat → Nat) (fn : Nat → Int64) (bb : Nat → Nat) (th : Int32) (kp : Nat → Int32) (H : Heap) (locs : List Loc) (ls : Array Slot) (cells slots : Nat) (hst : LSt E A s b z0 i j a mc n now lim F lit fo o fn bb th kp H locs ls cells slots) (k : Nat) (hk : k < n) (e1 : xs (i + 1) = (nI k)) : W p l e room_1 s m #[Value.ref b] below meth c H locs cells slots Q (F0 m 997 ls []) := by
  obtain ⟨hx, hb, hml, hown, hts, hK, hZ, hT, hA, hbA, hX, hbl, hl9⟩ := CC
  obtain ⟨hO, hnw, hz, hcl, hsl, hP, hD, hS, hl⟩ := hst
  refine lv_aload_n hx hb dL_law_997 rfl (lv_at hl 1 rfl) ?_
  refine lv_aload_n hx hb dL_law_998 rfl (lv_at hl 0 rfl) ?_
  refine lv_iload hx hb dL_law_999 (lv_at hl 4 rfl) ?_
  refine lv_iconst (v := (nI 1)) hx hb dL_law_1001 (by decide) ?_
  refine nq_add hx hb dL_law_1002 ?_
  refine va_sld hx hb hX hbl hbA hS (i := nI (i + 1)) (by exact vp_in_nI (by omega) (by omega)) dL_law_1003 ?_
  refine nq_top (show xs ((nI (i + 1)).toNatClampNeg) = (nI k) from by rw [nI_clamp (by omega)]; exact e1) ?_
  refine lv_aload_n hx hb dL_law_1004 rfl (lv_at hl 3 rfl) ?_
  refine lawS (S := Unit) (W1 := fun uQ => wC E a mc n now lim (LF F lit fo)) (f1 := fun uQ => vp_updL fn 0 (((nI (F k 6))).toInt64)) (rest := []) (As := [.ref (a 0), .int (nI k), .ref o]) ⟨hx, hb, hml, hown, hts⟩ (w_L_stayedDark l hl9 E _ z0 a mc n now lim F lit fo hO o fn k hk) (vx_cwSW 3 hts gL_law_L_stayedDark rfl rfl rfl (by decide +kernel) ⟨Nat.le_of_ble_eq_true rfl, Nat.le_of_ble_eq_true rfl⟩) hP hK hD hZ hT hS hA rfl hl.1 rfl (Nat.le_of_ble_eq_true rfl) dL_law_1005 ⟨by show cells + 0 ≤ 601024; omega, by show slots + 0 ≤ 7293034; omega⟩ (fun r1 u1 H locs hr1 hP hD hS => ?_)
  subst hr1
  have hP : va_P E.1 vwCl (wG E (wC E a mc n now lim (LF F lit fo)) o (vp_updL fn 0 (((nI (F k 6))).toInt64)) (wM E bb (th) n lim F (NW now F) kp)) _ := hP
  have hD : va_D A (wG E (wC E a mc n now lim (LF F lit fo)) o (vp_updL fn 0 (((nI (F k 6))).toInt64)) (wM E bb (th) n lim F (NW now F) kp)) := hD
  refine lv_istore (lv' := [(5, .int (nI 0)), (0, .ref b), (1, .ref (a 0)), (2, .ref (bb 0)), (3, .ref o), (4, .int (nI i))]) hx hb dL_law_1008 hl (by decide) rfl (fun ls hl => ?_)
  refine lv_aload_n hx hb dL_law_1010 rfl (lv_at hl 3 rfl) ?_
  refine lv_aload_n hx hb dL_law_1011 rfl (lv_at hl 1 rfl) ?_
  refine lv_iload hx hb dL_law_1012 (lv_at hl 5 rfl) ?_
  refine lv_iconst (v := (nI 1)) hx hb dL_law_1014 (by decide) ?_
  refine nq_add hx hb dL_law_1015 ?_
  refine va_sld hx hb hX hbl hbA hS (i := nI (i + 1)) (by exact vp_in_nI (by omega) (by omega)) dL_law_1016 ?_
  refine nq_top (show xs ((nI (i + 1)).toNatClampNeg) = (nI k) from by rw [nI_clamp (by omega)]; exact e1) ?_
  refine lawM_i (S := Unit) (W1 := fun kQ => wM E bb (nI 0) n lim F (NW now F) kp) (rest := []) (As := [.int (nI k)]) ⟨hx, hb, hml, hown, hts⟩ (c_X2_stayedDark l E _ bb th n lim now F kp hO k hk) (cwV 1 hts gL_law_X2_stayedDark rfl rfl rfl (by decide +kernel) ⟨Nat.le_of_ble_eq_true rfl, Nat.le_of_ble_eq_true rfl⟩) (va_recv hK hP (ci := 3) (q0 := (wC E a mc n now lim (LF F lit fo)).length + 1) rfl wG_m0) hP hK hD hS hA rfl hl.1 rfl (Nat.le_of_ble_eq_true rfl) dL_law_1017 ⟨by show cells + 0 + 0 ≤ 601024; omega, by show slots + 0 + 0 ≤ 7293034; omega⟩ (fun r2 u2 H locs hr2 hP hD hS => ?_)
  subst hr2
  have hP : va_P E.1 vwCl (wG E (wC E a mc n now lim (LF F lit fo)) o (vp_updL fn 0 (((nI (F k 6))).toInt64)) (wM E bb (nI 0) n lim F (NW now F) kp)) _ := hP
  have hD : va_D A (wG E (wC E a mc n now lim (LF F lit fo)) o (vp_updL fn 0 (((nI (F k 6))).toInt64)) (wM E bb (nI 0) n lim F (NW now F) kp)) := hD
  refine lv_istore (lv' := [(6, .int (nI (F k 6))), (5, .int (nI 0)), (0, .ref b), (1, .ref (a 0)), (2, .ref (bb 0)), (3, .ref o), (4, .int (nI i))]) hx hb dL_law_1020 hl (by decide) rfl (fun ls hl => ?_)
  refine lv_aload_n hx hb dL_law_1022 rfl (lv_at hl 4 rfl) ?_
  refine lawM_i (S := Unit) (W1 := fun kQ => wM E bb (nI 0) n lim F (NW now F) kp) (rest := []) (As := []) ⟨hx, hb, hml, hown, hts⟩ (c_X2_thrown l E _ bb (nI 0) n lim now F kp) (cwV 0 hts gL_law_X2_thrown rfl rfl rfl (by decide +kernel) ⟨Nat.le_of_ble_eq_true rfl, Nat.le_of_ble_eq_true rfl⟩) (va_recv hK hP (ci := 3) (q0 := (wC E a mc n now lim (LF F lit fo)).length + 1) rfl wG_m0) hP hK hD hS hA rfl hl.1 rfl (Nat.le_of_ble_eq_true rfl) dL_law_1023 ⟨by show cells + 0 + 0 + 0 ≤ 601024; omega, by show slots + 0 + 0 + 0 ≤ 7293034; omega⟩ (fun r3 u3 H locs hr3 hP hD hS => ?_)
  subst hr3
  have hP : va_P E.1 vwCl (wG E (wC E a mc n now lim (LF F lit fo)) o (vp_updL fn 0 (((nI (F k 6))).toInt64)) (wM E bb (nI 0) n lim F (NW now F) kp)) _ := hP
  have hD : va_D A (wG E (wC E a mc n now lim (LF F lit fo)) o (vp_updL fn 0 (((nI (F k 6))).toInt64)) (wM E bb (nI 0) n lim F (NW now F) kp)) := hD
  refine lv_iload hx hb dL_law_1026 (lv_at hl 1 rfl) ?_
  refine nq_icmp_eq (tgt := 1033) hx hb dL_law_1028 (by decide) (by omega) (by omega) (fun h1028 => ?_) (fun h1028 => ?_)
  · skip
    refine lv_iload hx hb dL_law_1033 (lv_at hl 1 rfl) ?_
    refine nq_if_ne (tgt := 1050) hx hb dL_law_1035 (by decide) (by decide) (fun h1035 => ?_) (fun h1035 => ?_)
    · skip
      exact absurd h1035 (by decide)
    · skip
      refine lv_aload_n hx hb dL_law_1038 rfl (lv_at hl 5 rfl) ?_
      refine lv_iconst (v := (nI 0)) hx hb dL_law_1039 (by decide) ?_
      refine va_lald hx hb hK hP (wC E a mc n now lim (LF F lit fo)).length 2 wG_o rfl (i := nI 0) (by exact vp_in_nI (by omega) (by omega)) dL_law_1040 ?_
      refine nq_topl (show (vp_updL fn 0 (((nI (F k 6))).toInt64)) ((nI 0).toNatClampNeg) = ((nI (F k 6))).toInt64 from by rw [nI_clamp (by omega)]; exact if_pos rfl) ?_
      refine lv_iload hx hb dL_law_1041 (lv_at hl 0 rfl) ?_
      refine lv_i2l (v := (nI (F k 6)).toInt64) hx hb dL_law_1043 (rfl) ?_
      refine nq_topl (show (nI (F k 6)).toInt64 = ((nI (F k 6))).toInt64 from by first | rfl | (rw [h1035]; rfl)) ?_
      refine W.lcmp hx hb dL_law_1044 ?_
      refine lv_if_eq (tgt := 1050) hx hb dL_law_1045 (by decide) (fun h1045 => ?_) (fun h1045 => ?_)
      · skip
        refine lv_goto (tgt := 1763) hx hb dL_law_1050 (by decide) ?_
        exact KK a mc n now lim F lit fo (vp_updL fn 0 (((nI (F k 6))).toInt64)) bb (nI 0) kp _ _ _ _ _ ⟨hO, by omega, hz, by omega, by omega, hP, hD, hS, (lv_sub hl [2, 3, 4, 5, 6] rfl)⟩
      · skip
        exact absurd (lg_self _) h1045
  · skip
    exact absurd rfl h1028

set_option maxHeartbeats 4000000 in
set_option maxRecDepth 100000 in
theorem law_stayedDark_x {p : Program} {l : Launch} {e : Env} {s : State} {m : MethodId} {b : Nat} {below : List Frame} {meth : Method} {c : Code} {E : GE} {A : Nat → Prop} {z0 L o i j : Nat} {xs : Nat → Int32} {Q : State → Prop} (CC : LC p l s m b c E A z0 L xs) (hL9 : L ≤ 2560) (hi9 : i + 5 ≤ L) (hj9 : j ≤ 511) (KK : LK p l e s m b below meth c E A z0 o Q 1763 i (j + 1)) (a : Nat → Nat) (mc : Int32) (n now lim : Nat) (F : LR) (lit : Nat → Bool) (fo : Nat → Nat) (fn : Nat → Int64) (bb : Nat → Nat) (th : Int32) (kp : Nat → Int32) (H : Heap) (locs : List Loc) (ls : Array Slot) (cells slots : Nat) (hst : LSt E A s b z0 i j a mc n now lim F lit fo o fn bb th kp H locs ls cells slots) (x : Int32) (hx9 : lpB n x = false) (e1 : xs (i + 1) = x) : W p l e room_1 s m #[Value.ref b] below meth c H locs cells slots Q (F0 m 997 ls []) := by
  obtain ⟨hx, hb, hml, hown, hts, hK, hZ, hT, hA, hbA, hX, hbl, hl9⟩ := CC
  obtain ⟨hO, hnw, hz, hcl, hsl, hP, hD, hS, hl⟩ := hst
  refine lv_aload_n hx hb dL_law_997 rfl (lv_at hl 1 rfl) ?_
  refine lv_aload_n hx hb dL_law_998 rfl (lv_at hl 0 rfl) ?_
  refine lv_iload hx hb dL_law_999 (lv_at hl 4 rfl) ?_
  refine lv_iconst (v := (nI 1)) hx hb dL_law_1001 (by decide) ?_
  refine nq_add hx hb dL_law_1002 ?_
  refine va_sld hx hb hX hbl hbA hS (i := nI (i + 1)) (by exact vp_in_nI (by omega) (by omega)) dL_law_1003 ?_
  refine nq_top (show xs ((nI (i + 1)).toNatClampNeg) = x from by rw [nI_clamp (by omega)]; exact e1) ?_
  refine lv_aload_n hx hb dL_law_1004 rfl (lv_at hl 3 rfl) ?_
  refine lawS (S := Unit) (W1 := fun uQ => wC E a mc n now lim (LF F lit fo)) (f1 := fun uQ => fn) (rest := []) (As := [.ref (a 0), .int x, .ref o]) ⟨hx, hb, hml, hown, hts⟩ (w_L_stayedDark_x l hl9 E _ z0 a mc n now lim F lit fo hO o fn x hx9) (vx_cwSW 3 hts gL_law_L_stayedDark rfl rfl rfl (by decide +kernel) ⟨Nat.le_of_ble_eq_true rfl, Nat.le_of_ble_eq_true rfl⟩) hP hK hD hZ hT hS hA rfl hl.1 rfl (Nat.le_of_ble_eq_true rfl) dL_law_1005 ⟨by show cells + 1 ≤ 601024; omega, by show slots + 6 ≤ 7293034; omega⟩ (fun r1 u1 H locs hr1 hP hD hS => ?_)
  subst hr1
  have hP : va_P E.1 vwCl (wG E (wC E a mc n now lim (LF F lit fo)) o (fn) (wM E bb (th) n lim F (NW now F) kp)) _ := hP
  have hD : va_D A (wG E (wC E a mc n now lim (LF F lit fo)) o (fn) (wM E bb (th) n lim F (NW now F) kp)) := hD
  refine lv_istore (lv' := [(5, .int (nI 1)), (0, .ref b), (1, .ref (a 0)), (2, .ref (bb 0)), (3, .ref o), (4, .int (nI i))]) hx hb dL_law_1008 hl (by decide) rfl (fun ls hl => ?_)
  refine lv_aload_n hx hb dL_law_1010 rfl (lv_at hl 3 rfl) ?_
  refine lv_aload_n hx hb dL_law_1011 rfl (lv_at hl 1 rfl) ?_
  refine lv_iload hx hb dL_law_1012 (lv_at hl 5 rfl) ?_
  refine lv_iconst (v := (nI 1)) hx hb dL_law_1014 (by decide) ?_
  refine nq_add hx hb dL_law_1015 ?_
  refine va_sld hx hb hX hbl hbA hS (i := nI (i + 1)) (by exact vp_in_nI (by omega) (by omega)) dL_law_1016 ?_
  refine nq_top (show xs ((nI (i + 1)).toNatClampNeg) = x from by rw [nI_clamp (by omega)]; exact e1) ?_
  refine lawM_i (S := Unit) (W1 := fun kQ => wM E bb (nI 1) n lim F (NW now F) kp) (rest := []) (As := [.int x]) ⟨hx, hb, hml, hown, hts⟩ (c_X2_stayedDark_x l E _ bb th n lim now F kp hO x hx9) (cwV 1 hts gL_law_X2_stayedDark rfl rfl rfl (by decide +kernel) ⟨Nat.le_of_ble_eq_true rfl, Nat.le_of_ble_eq_true rfl⟩) (va_recv hK hP (ci := 3) (q0 := (wC E a mc n now lim (LF F lit fo)).length + 1) rfl wG_m0) hP hK hD hS hA rfl hl.1 rfl (Nat.le_of_ble_eq_true rfl) dL_law_1017 ⟨by show cells + 1 + 0 ≤ 601024; omega, by show slots + 6 + 0 ≤ 7293034; omega⟩ (fun r2 u2 H locs hr2 hP hD hS => ?_)
  subst hr2
  have hP : va_P E.1 vwCl (wG E (wC E a mc n now lim (LF F lit fo)) o (fn) (wM E bb (nI 1) n lim F (NW now F) kp)) _ := hP
  have hD : va_D A (wG E (wC E a mc n now lim (LF F lit fo)) o (fn) (wM E bb (nI 1) n lim F (NW now F) kp)) := hD
  refine lv_istore (lv' := [(6, .int (nI 0)), (5, .int (nI 1)), (0, .ref b), (1, .ref (a 0)), (2, .ref (bb 0)), (3, .ref o), (4, .int (nI i))]) hx hb dL_law_1020 hl (by decide) rfl (fun ls hl => ?_)
  refine lv_aload_n hx hb dL_law_1022 rfl (lv_at hl 4 rfl) ?_
  refine lawM_i (S := Unit) (W1 := fun kQ => wM E bb (nI 1) n lim F (NW now F) kp) (rest := []) (As := []) ⟨hx, hb, hml, hown, hts⟩ (c_X2_thrown l E _ bb (nI 1) n lim now F kp) (cwV 0 hts gL_law_X2_thrown rfl rfl rfl (by decide +kernel) ⟨Nat.le_of_ble_eq_true rfl, Nat.le_of_ble_eq_true rfl⟩) (va_recv hK hP (ci := 3) (q0 := (wC E a mc n now lim (LF F lit fo)).length + 1) rfl wG_m0) hP hK hD hS hA rfl hl.1 rfl (Nat.le_of_ble_eq_true rfl) dL_law_1023 ⟨by show cells + 1 + 0 + 0 ≤ 601024; omega, by show slots + 6 + 0 + 0 ≤ 7293034; omega⟩ (fun r3 u3 H locs hr3 hP hD hS => ?_)
  subst hr3
  have hP : va_P E.1 vwCl (wG E (wC E a mc n now lim (LF F lit fo)) o (fn) (wM E bb (nI 1) n lim F (NW now F) kp)) _ := hP
  have hD : va_D A (wG E (wC E a mc n now lim (LF F lit fo)) o (fn) (wM E bb (nI 1) n lim F (NW now F) kp)) := hD
  refine lv_iload hx hb dL_law_1026 (lv_at hl 1 rfl) ?_
  refine nq_icmp_eq (tgt := 1033) hx hb dL_law_1028 (by decide) (by omega) (by omega) (fun h1028 => ?_) (fun h1028 => ?_)
  · skip
    refine lv_iload hx hb dL_law_1033 (lv_at hl 1 rfl) ?_
    refine nq_if_ne (tgt := 1050) hx hb dL_law_1035 (by decide) (by decide) (fun h1035 => ?_) (fun h1035 => ?_)
    · skip
      refine lv_goto (tgt := 1763) hx hb dL_law_1050 (by decide) ?_
      exact KK a mc n now lim F lit fo fn bb (nI 1) kp _ _ _ _ _ ⟨hO, by omega, hz, by omega, by omega, hP, hD, hS, (lv_sub hl [2, 3, 4, 5, 6] rfl)⟩
    · skip
      exact absurd h1035 (by decide)
  · skip
    exact absurd rfl h1028

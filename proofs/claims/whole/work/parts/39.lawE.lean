/-! the law, call by call -/
set_option maxHeartbeats 4000000 in
set_option maxRecDepth 100000 in
theorem law_dueIn {p : Program} {l : Launch} {e : Env} {s : State} {m : MethodId} {b : Nat} {below : List Frame} {meth : Method} {c : Code} {E : GE} {A : Nat → Prop} {z0 L o i j : Nat} {xs : Nat → Int32} {Q : State → Prop} (CC : LC p l s m b c E A z0 L xs) (hL9 : L ≤ 2560) (hi9 : i + 5 ≤ L) (hj9 : j ≤ 511) (KK : LK p l e s m b below meth c E A z0 o Q 1763 i (j + 1)) (a : Nat → Nat) (mc : Int32) (n now lim : Nat) (F : LR) (lit : Nat → Bool) (fo : Nat → Nat) (fn : Nat → Int64) (bb : Nat → Nat) (th : Int32) (kp : Nat → Int32) (H : Heap) (locs : List Loc) (ls : Array Slot) (cells slots : Nat) (hst : LSt E A s b z0 i j a mc n now lim F lit fo o fn bb th kp H locs ls cells slots) (k : Nat) (hk : k < n) (j0 : Nat) (hj : 1 ≤ j0 ∧ j0 ≤ 100000) (e1 : xs (i + 1) = (nI k)) (e2 : xs (i + 2) = (nI j0)) : W p l e room_1 s m #[Value.ref b] below meth c H locs cells slots Q (F0 m 1472 ls []) := by
  obtain ⟨hx, hb, hml, hown, hts, hK, hZ, hT, hA, hbA, hX, hbl, hl9⟩ := CC
  obtain ⟨hO, hnw, hz, hcl, hsl, hP, hD, hS, hl⟩ := hst
  refine lv_aload_n hx hb dL_law_1472 rfl (lv_at hl 1 rfl) ?_
  refine lv_aload_n hx hb dL_law_1473 rfl (lv_at hl 0 rfl) ?_
  refine lv_iload hx hb dL_law_1474 (lv_at hl 4 rfl) ?_
  refine lv_iconst (v := (nI 1)) hx hb dL_law_1476 (by decide) ?_
  refine nq_add hx hb dL_law_1477 ?_
  refine va_sld hx hb hX hbl hbA hS (i := nI (i + 1)) (by exact vp_in_nI (by omega) (by omega)) dL_law_1478 ?_
  refine nq_top (show xs ((nI (i + 1)).toNatClampNeg) = (nI k) from by rw [nI_clamp (by omega)]; exact e1) ?_
  refine lv_aload_n hx hb dL_law_1479 rfl (lv_at hl 0 rfl) ?_
  refine lv_iload hx hb dL_law_1480 (lv_at hl 4 rfl) ?_
  refine lv_iconst (v := (nI 2)) hx hb dL_law_1482 (by decide) ?_
  refine nq_add hx hb dL_law_1483 ?_
  refine va_sld hx hb hX hbl hbA hS (i := nI (i + 2)) (by exact vp_in_nI (by omega) (by omega)) dL_law_1484 ?_
  refine nq_top (show xs ((nI (i + 2)).toNatClampNeg) = (nI j0) from by rw [nI_clamp (by omega)]; exact e2) ?_
  refine lv_aload_n hx hb dL_law_1485 rfl (lv_at hl 3 rfl) ?_
  refine lawS (S := Unit) (W1 := fun uQ => wC E a mc n now lim (LF F lit fo)) (f1 := fun uQ => vp_updL fn 0 (((nI (mdS F k now j0))).toInt64)) (rest := []) (As := [.ref (a 0), .int (nI k), .int (nI j0), .ref o]) ⟨hx, hb, hml, hown, hts⟩ (w_L_dueIn l hl9 E _ z0 a mc n now lim F lit fo hO o fn k hk j0 hj) (vx_cwSW 4 hts gL_law_L_dueIn rfl rfl rfl (by decide +kernel) ⟨Nat.le_of_ble_eq_true rfl, Nat.le_of_ble_eq_true rfl⟩) hP hK hD hZ hT hS hA rfl hl.1 rfl (Nat.le_of_ble_eq_true rfl) dL_law_1486 ⟨by show cells + 0 ≤ 601024; omega, by show slots + 0 ≤ 7293034; omega⟩ (fun r1 u1 H locs hr1 hP hD hS => ?_)
  subst hr1
  have hP : va_P E.1 vwCl (wG E (wC E a mc n now lim (LF F lit fo)) o (vp_updL fn 0 (((nI (mdS F k now j0))).toInt64)) (wM E bb (th) n lim F (NW now F) kp)) _ := hP
  have hD : va_D A (wG E (wC E a mc n now lim (LF F lit fo)) o (vp_updL fn 0 (((nI (mdS F k now j0))).toInt64)) (wM E bb (th) n lim F (NW now F) kp)) := hD
  refine lv_istore (lv' := [(5, .int (nI 0)), (0, .ref b), (1, .ref (a 0)), (2, .ref (bb 0)), (3, .ref o), (4, .int (nI i))]) hx hb dL_law_1489 hl (by decide) rfl (fun ls hl => ?_)
  refine lv_aload_n hx hb dL_law_1491 rfl (lv_at hl 3 rfl) ?_
  refine lv_aload_n hx hb dL_law_1492 rfl (lv_at hl 1 rfl) ?_
  refine lv_iload hx hb dL_law_1493 (lv_at hl 5 rfl) ?_
  refine lv_iconst (v := (nI 1)) hx hb dL_law_1495 (by decide) ?_
  refine nq_add hx hb dL_law_1496 ?_
  refine va_sld hx hb hX hbl hbA hS (i := nI (i + 1)) (by exact vp_in_nI (by omega) (by omega)) dL_law_1497 ?_
  refine nq_top (show xs ((nI (i + 1)).toNatClampNeg) = (nI k) from by rw [nI_clamp (by omega)]; exact e1) ?_
  refine lv_aload_n hx hb dL_law_1498 rfl (lv_at hl 1 rfl) ?_
  refine lv_iload hx hb dL_law_1499 (lv_at hl 5 rfl) ?_
  refine lv_iconst (v := (nI 2)) hx hb dL_law_1501 (by decide) ?_
  refine nq_add hx hb dL_law_1502 ?_
  refine va_sld hx hb hX hbl hbA hS (i := nI (i + 2)) (by exact vp_in_nI (by omega) (by omega)) dL_law_1503 ?_
  refine nq_top (show xs ((nI (i + 2)).toNatClampNeg) = (nI j0) from by rw [nI_clamp (by omega)]; exact e2) ?_
  refine lawM_i (S := Unit) (W1 := fun kQ => wM E bb (nI 0) n lim F (NW now F) kp) (rest := []) (As := [.int (nI k), .int (nI j0)]) ⟨hx, hb, hml, hown, hts⟩ (c_X2_dueIn_ l E _ bb th n lim now F kp hO k hk j0 hj) (cwV 2 hts gL_law_X2_dueIn_ rfl rfl rfl (by decide +kernel) ⟨Nat.le_of_ble_eq_true rfl, Nat.le_of_ble_eq_true rfl⟩) (va_recv hK hP (ci := 3) (q0 := (wC E a mc n now lim (LF F lit fo)).length + 1) rfl wG_m0) hP hK hD hS hA rfl hl.1 rfl (Nat.le_of_ble_eq_true rfl) dL_law_1504 ⟨by show cells + 0 + 0 ≤ 601024; omega, by show slots + 0 + 0 ≤ 7293034; omega⟩ (fun r2 u2 H locs hr2 hP hD hS => ?_)
  subst hr2
  have hP : va_P E.1 vwCl (wG E (wC E a mc n now lim (LF F lit fo)) o (vp_updL fn 0 (((nI (mdS F k now j0))).toInt64)) (wM E bb (nI 0) n lim F (NW now F) kp)) _ := hP
  have hD : va_D A (wG E (wC E a mc n now lim (LF F lit fo)) o (vp_updL fn 0 (((nI (mdS F k now j0))).toInt64)) (wM E bb (nI 0) n lim F (NW now F) kp)) := hD
  refine lv_istore (lv' := [(6, .int (nI (mdS F k now j0))), (5, .int (nI 0)), (0, .ref b), (1, .ref (a 0)), (2, .ref (bb 0)), (3, .ref o), (4, .int (nI i))]) hx hb dL_law_1507 hl (by decide) rfl (fun ls hl => ?_)
  refine lv_aload_n hx hb dL_law_1509 rfl (lv_at hl 4 rfl) ?_
  refine lawM_i (S := Unit) (W1 := fun kQ => wM E bb (nI 0) n lim F (NW now F) kp) (rest := []) (As := []) ⟨hx, hb, hml, hown, hts⟩ (c_X2_thrown l E _ bb (nI 0) n lim now F kp) (cwV 0 hts gL_law_X2_thrown rfl rfl rfl (by decide +kernel) ⟨Nat.le_of_ble_eq_true rfl, Nat.le_of_ble_eq_true rfl⟩) (va_recv hK hP (ci := 3) (q0 := (wC E a mc n now lim (LF F lit fo)).length + 1) rfl wG_m0) hP hK hD hS hA rfl hl.1 rfl (Nat.le_of_ble_eq_true rfl) dL_law_1510 ⟨by show cells + 0 + 0 + 0 ≤ 601024; omega, by show slots + 0 + 0 + 0 ≤ 7293034; omega⟩ (fun r3 u3 H locs hr3 hP hD hS => ?_)
  subst hr3
  have hP : va_P E.1 vwCl (wG E (wC E a mc n now lim (LF F lit fo)) o (vp_updL fn 0 (((nI (mdS F k now j0))).toInt64)) (wM E bb (nI 0) n lim F (NW now F) kp)) _ := hP
  have hD : va_D A (wG E (wC E a mc n now lim (LF F lit fo)) o (vp_updL fn 0 (((nI (mdS F k now j0))).toInt64)) (wM E bb (nI 0) n lim F (NW now F) kp)) := hD
  refine lv_iload hx hb dL_law_1513 (lv_at hl 1 rfl) ?_
  refine nq_icmp_eq (tgt := 1520) hx hb dL_law_1515 (by decide) (by omega) (by omega) (fun h1515 => ?_) (fun h1515 => ?_)
  · skip
    refine lv_iload hx hb dL_law_1520 (lv_at hl 1 rfl) ?_
    refine nq_if_ne (tgt := 1537) hx hb dL_law_1522 (by decide) (by decide) (fun h1522 => ?_) (fun h1522 => ?_)
    · skip
      exact absurd h1522 (by decide)
    · skip
      refine lv_aload_n hx hb dL_law_1525 rfl (lv_at hl 5 rfl) ?_
      refine lv_iconst (v := (nI 0)) hx hb dL_law_1526 (by decide) ?_
      refine va_lald hx hb hK hP (wC E a mc n now lim (LF F lit fo)).length 2 wG_o rfl (i := nI 0) (by exact vp_in_nI (by omega) (by omega)) dL_law_1527 ?_
      refine nq_topl (show (vp_updL fn 0 (((nI (mdS F k now j0))).toInt64)) ((nI 0).toNatClampNeg) = ((nI (mdS F k now j0))).toInt64 from by rw [nI_clamp (by omega)]; exact if_pos rfl) ?_
      refine lv_iload hx hb dL_law_1528 (lv_at hl 0 rfl) ?_
      refine lv_i2l (v := (nI (mdS F k now j0)).toInt64) hx hb dL_law_1530 (rfl) ?_
      refine nq_topl (show (nI (mdS F k now j0)).toInt64 = ((nI (mdS F k now j0))).toInt64 from by first | rfl | (rw [h1522]; rfl)) ?_
      refine W.lcmp hx hb dL_law_1531 ?_
      refine lv_if_eq (tgt := 1537) hx hb dL_law_1532 (by decide) (fun h1532 => ?_) (fun h1532 => ?_)
      · skip
        refine lv_goto (tgt := 1763) hx hb dL_law_1537 (by decide) ?_
        exact KK a mc n now lim F lit fo (vp_updL fn 0 (((nI (mdS F k now j0))).toInt64)) bb (nI 0) kp _ _ _ _ _ ⟨hO, by omega, hz, by omega, by omega, hP, hD, hS, (lv_sub hl [2, 3, 4, 5, 6] rfl)⟩
      · skip
        exact absurd (lg_self _) h1532
  · skip
    exact absurd rfl h1515

set_option maxHeartbeats 4000000 in
set_option maxRecDepth 100000 in
theorem law_dueIn_x {p : Program} {l : Launch} {e : Env} {s : State} {m : MethodId} {b : Nat} {below : List Frame} {meth : Method} {c : Code} {E : GE} {A : Nat → Prop} {z0 L o i j : Nat} {xs : Nat → Int32} {Q : State → Prop} (CC : LC p l s m b c E A z0 L xs) (hL9 : L ≤ 2560) (hi9 : i + 5 ≤ L) (hj9 : j ≤ 511) (KK : LK p l e s m b below meth c E A z0 o Q 1763 i (j + 1)) (a : Nat → Nat) (mc : Int32) (n now lim : Nat) (F : LR) (lit : Nat → Bool) (fo : Nat → Nat) (fn : Nat → Int64) (bb : Nat → Nat) (th : Int32) (kp : Nat → Int32) (H : Heap) (locs : List Loc) (ls : Array Slot) (cells slots : Nat) (hst : LSt E A s b z0 i j a mc n now lim F lit fo o fn bb th kp H locs ls cells slots) (x : Int32) (hx9 : lpB n x = false) (z : Int32) (e1 : xs (i + 1) = x) (e2 : xs (i + 2) = z) : W p l e room_1 s m #[Value.ref b] below meth c H locs cells slots Q (F0 m 1472 ls []) := by
  obtain ⟨hx, hb, hml, hown, hts, hK, hZ, hT, hA, hbA, hX, hbl, hl9⟩ := CC
  obtain ⟨hO, hnw, hz, hcl, hsl, hP, hD, hS, hl⟩ := hst
  refine lv_aload_n hx hb dL_law_1472 rfl (lv_at hl 1 rfl) ?_
  refine lv_aload_n hx hb dL_law_1473 rfl (lv_at hl 0 rfl) ?_
  refine lv_iload hx hb dL_law_1474 (lv_at hl 4 rfl) ?_
  refine lv_iconst (v := (nI 1)) hx hb dL_law_1476 (by decide) ?_
  refine nq_add hx hb dL_law_1477 ?_
  refine va_sld hx hb hX hbl hbA hS (i := nI (i + 1)) (by exact vp_in_nI (by omega) (by omega)) dL_law_1478 ?_
  refine nq_top (show xs ((nI (i + 1)).toNatClampNeg) = x from by rw [nI_clamp (by omega)]; exact e1) ?_
  refine lv_aload_n hx hb dL_law_1479 rfl (lv_at hl 0 rfl) ?_
  refine lv_iload hx hb dL_law_1480 (lv_at hl 4 rfl) ?_
  refine lv_iconst (v := (nI 2)) hx hb dL_law_1482 (by decide) ?_
  refine nq_add hx hb dL_law_1483 ?_
  refine va_sld hx hb hX hbl hbA hS (i := nI (i + 2)) (by exact vp_in_nI (by omega) (by omega)) dL_law_1484 ?_
  refine nq_top (show xs ((nI (i + 2)).toNatClampNeg) = z from by rw [nI_clamp (by omega)]; exact e2) ?_
  refine lv_aload_n hx hb dL_law_1485 rfl (lv_at hl 3 rfl) ?_
  refine lawS (S := Unit) (W1 := fun uQ => wC E a mc n now lim (LF F lit fo)) (f1 := fun uQ => fn) (rest := []) (As := [.ref (a 0), .int x, .int z, .ref o]) ⟨hx, hb, hml, hown, hts⟩ (w_L_dueIn_x l hl9 E _ z0 a mc n now lim F lit fo hO o fn x hx9 z) (vx_cwSW 4 hts gL_law_L_dueIn rfl rfl rfl (by decide +kernel) ⟨Nat.le_of_ble_eq_true rfl, Nat.le_of_ble_eq_true rfl⟩) hP hK hD hZ hT hS hA rfl hl.1 rfl (Nat.le_of_ble_eq_true rfl) dL_law_1486 ⟨by show cells + 1 ≤ 601024; omega, by show slots + 6 ≤ 7293034; omega⟩ (fun r1 u1 H locs hr1 hP hD hS => ?_)
  subst hr1
  have hP : va_P E.1 vwCl (wG E (wC E a mc n now lim (LF F lit fo)) o (fn) (wM E bb (th) n lim F (NW now F) kp)) _ := hP
  have hD : va_D A (wG E (wC E a mc n now lim (LF F lit fo)) o (fn) (wM E bb (th) n lim F (NW now F) kp)) := hD
  refine lv_istore (lv' := [(5, .int (nI 1)), (0, .ref b), (1, .ref (a 0)), (2, .ref (bb 0)), (3, .ref o), (4, .int (nI i))]) hx hb dL_law_1489 hl (by decide) rfl (fun ls hl => ?_)
  refine lv_aload_n hx hb dL_law_1491 rfl (lv_at hl 3 rfl) ?_
  refine lv_aload_n hx hb dL_law_1492 rfl (lv_at hl 1 rfl) ?_
  refine lv_iload hx hb dL_law_1493 (lv_at hl 5 rfl) ?_
  refine lv_iconst (v := (nI 1)) hx hb dL_law_1495 (by decide) ?_
  refine nq_add hx hb dL_law_1496 ?_
  refine va_sld hx hb hX hbl hbA hS (i := nI (i + 1)) (by exact vp_in_nI (by omega) (by omega)) dL_law_1497 ?_
  refine nq_top (show xs ((nI (i + 1)).toNatClampNeg) = x from by rw [nI_clamp (by omega)]; exact e1) ?_
  refine lv_aload_n hx hb dL_law_1498 rfl (lv_at hl 1 rfl) ?_
  refine lv_iload hx hb dL_law_1499 (lv_at hl 5 rfl) ?_
  refine lv_iconst (v := (nI 2)) hx hb dL_law_1501 (by decide) ?_
  refine nq_add hx hb dL_law_1502 ?_
  refine va_sld hx hb hX hbl hbA hS (i := nI (i + 2)) (by exact vp_in_nI (by omega) (by omega)) dL_law_1503 ?_
  refine nq_top (show xs ((nI (i + 2)).toNatClampNeg) = z from by rw [nI_clamp (by omega)]; exact e2) ?_
  refine lawM_i (S := Unit) (W1 := fun kQ => wM E bb (nI 1) n lim F (NW now F) kp) (rest := []) (As := [.int x, .int z]) ⟨hx, hb, hml, hown, hts⟩ (c_X2_dueIn__x l E _ bb th n lim now F kp hO x hx9 z) (cwV 2 hts gL_law_X2_dueIn_ rfl rfl rfl (by decide +kernel) ⟨Nat.le_of_ble_eq_true rfl, Nat.le_of_ble_eq_true rfl⟩) (va_recv hK hP (ci := 3) (q0 := (wC E a mc n now lim (LF F lit fo)).length + 1) rfl wG_m0) hP hK hD hS hA rfl hl.1 rfl (Nat.le_of_ble_eq_true rfl) dL_law_1504 ⟨by show cells + 1 + 0 ≤ 601024; omega, by show slots + 6 + 0 ≤ 7293034; omega⟩ (fun r2 u2 H locs hr2 hP hD hS => ?_)
  subst hr2
  have hP : va_P E.1 vwCl (wG E (wC E a mc n now lim (LF F lit fo)) o (fn) (wM E bb (nI 1) n lim F (NW now F) kp)) _ := hP
  have hD : va_D A (wG E (wC E a mc n now lim (LF F lit fo)) o (fn) (wM E bb (nI 1) n lim F (NW now F) kp)) := hD
  refine lv_istore (lv' := [(6, .int (nI 0)), (5, .int (nI 1)), (0, .ref b), (1, .ref (a 0)), (2, .ref (bb 0)), (3, .ref o), (4, .int (nI i))]) hx hb dL_law_1507 hl (by decide) rfl (fun ls hl => ?_)
  refine lv_aload_n hx hb dL_law_1509 rfl (lv_at hl 4 rfl) ?_
  refine lawM_i (S := Unit) (W1 := fun kQ => wM E bb (nI 1) n lim F (NW now F) kp) (rest := []) (As := []) ⟨hx, hb, hml, hown, hts⟩ (c_X2_thrown l E _ bb (nI 1) n lim now F kp) (cwV 0 hts gL_law_X2_thrown rfl rfl rfl (by decide +kernel) ⟨Nat.le_of_ble_eq_true rfl, Nat.le_of_ble_eq_true rfl⟩) (va_recv hK hP (ci := 3) (q0 := (wC E a mc n now lim (LF F lit fo)).length + 1) rfl wG_m0) hP hK hD hS hA rfl hl.1 rfl (Nat.le_of_ble_eq_true rfl) dL_law_1510 ⟨by show cells + 1 + 0 + 0 ≤ 601024; omega, by show slots + 6 + 0 + 0 ≤ 7293034; omega⟩ (fun r3 u3 H locs hr3 hP hD hS => ?_)
  subst hr3
  have hP : va_P E.1 vwCl (wG E (wC E a mc n now lim (LF F lit fo)) o (fn) (wM E bb (nI 1) n lim F (NW now F) kp)) _ := hP
  have hD : va_D A (wG E (wC E a mc n now lim (LF F lit fo)) o (fn) (wM E bb (nI 1) n lim F (NW now F) kp)) := hD
  refine lv_iload hx hb dL_law_1513 (lv_at hl 1 rfl) ?_
  refine nq_icmp_eq (tgt := 1520) hx hb dL_law_1515 (by decide) (by omega) (by omega) (fun h1515 => ?_) (fun h1515 => ?_)
  · skip
    refine lv_iload hx hb dL_law_1520 (lv_at hl 1 rfl) ?_
    refine nq_if_ne (tgt := 1537) hx hb dL_law_1522 (by decide) (by decide) (fun h1522 => ?_) (fun h1522 => ?_)
    · skip
      refine lv_goto (tgt := 1763) hx hb dL_law_1537 (by decide) ?_
      exact KK a mc n now lim F lit fo fn bb (nI 1) kp _ _ _ _ _ ⟨hO, by omega, hz, by omega, by omega, hP, hD, hS, (lv_sub hl [2, 3, 4, 5, 6] rfl)⟩
    · skip
      exact absurd h1522 (by decide)
  · skip
    exact absurd rfl h1515

set_option maxHeartbeats 4000000 in
set_option maxRecDepth 100000 in
theorem law_dueIn_y {p : Program} {l : Launch} {e : Env} {s : State} {m : MethodId} {b : Nat} {below : List Frame} {meth : Method} {c : Code} {E : GE} {A : Nat → Prop} {z0 L o i j : Nat} {xs : Nat → Int32} {Q : State → Prop} (CC : LC p l s m b c E A z0 L xs) (hL9 : L ≤ 2560) (hi9 : i + 5 ≤ L) (hj9 : j ≤ 511) (KK : LK p l e s m b below meth c E A z0 o Q 1763 i (j + 1)) (a : Nat → Nat) (mc : Int32) (n now lim : Nat) (F : LR) (lit : Nat → Bool) (fo : Nat → Nat) (fn : Nat → Int64) (bb : Nat → Nat) (th : Int32) (kp : Nat → Int32) (H : Heap) (locs : List Loc) (ls : Array Slot) (cells slots : Nat) (hst : LSt E A s b z0 i j a mc n now lim F lit fo o fn bb th kp H locs ls cells slots) (k : Nat) (hk : k < n) (z : Int32) (hz9 : inB z (nI 1) (nI 100000) = false) (e1 : xs (i + 1) = (nI k)) (e2 : xs (i + 2) = z) : W p l e room_1 s m #[Value.ref b] below meth c H locs cells slots Q (F0 m 1472 ls []) := by
  obtain ⟨hx, hb, hml, hown, hts, hK, hZ, hT, hA, hbA, hX, hbl, hl9⟩ := CC
  obtain ⟨hO, hnw, hz, hcl, hsl, hP, hD, hS, hl⟩ := hst
  refine lv_aload_n hx hb dL_law_1472 rfl (lv_at hl 1 rfl) ?_
  refine lv_aload_n hx hb dL_law_1473 rfl (lv_at hl 0 rfl) ?_
  refine lv_iload hx hb dL_law_1474 (lv_at hl 4 rfl) ?_
  refine lv_iconst (v := (nI 1)) hx hb dL_law_1476 (by decide) ?_
  refine nq_add hx hb dL_law_1477 ?_
  refine va_sld hx hb hX hbl hbA hS (i := nI (i + 1)) (by exact vp_in_nI (by omega) (by omega)) dL_law_1478 ?_
  refine nq_top (show xs ((nI (i + 1)).toNatClampNeg) = (nI k) from by rw [nI_clamp (by omega)]; exact e1) ?_
  refine lv_aload_n hx hb dL_law_1479 rfl (lv_at hl 0 rfl) ?_
  refine lv_iload hx hb dL_law_1480 (lv_at hl 4 rfl) ?_
  refine lv_iconst (v := (nI 2)) hx hb dL_law_1482 (by decide) ?_
  refine nq_add hx hb dL_law_1483 ?_
  refine va_sld hx hb hX hbl hbA hS (i := nI (i + 2)) (by exact vp_in_nI (by omega) (by omega)) dL_law_1484 ?_
  refine nq_top (show xs ((nI (i + 2)).toNatClampNeg) = z from by rw [nI_clamp (by omega)]; exact e2) ?_
  refine lv_aload_n hx hb dL_law_1485 rfl (lv_at hl 3 rfl) ?_
  refine lawS (S := Unit) (W1 := fun uQ => wC E a mc n now lim (LF F lit fo)) (f1 := fun uQ => fn) (rest := []) (As := [.ref (a 0), .int (nI k), .int z, .ref o]) ⟨hx, hb, hml, hown, hts⟩ (w_L_dueIn_y l hl9 E _ z0 a mc n now lim F lit fo hO o fn k hk z hz9) (vx_cwSW 4 hts gL_law_L_dueIn rfl rfl rfl (by decide +kernel) ⟨Nat.le_of_ble_eq_true rfl, Nat.le_of_ble_eq_true rfl⟩) hP hK hD hZ hT hS hA rfl hl.1 rfl (Nat.le_of_ble_eq_true rfl) dL_law_1486 ⟨by show cells + 1 ≤ 601024; omega, by show slots + 6 ≤ 7293034; omega⟩ (fun r1 u1 H locs hr1 hP hD hS => ?_)
  subst hr1
  have hP : va_P E.1 vwCl (wG E (wC E a mc n now lim (LF F lit fo)) o (fn) (wM E bb (th) n lim F (NW now F) kp)) _ := hP
  have hD : va_D A (wG E (wC E a mc n now lim (LF F lit fo)) o (fn) (wM E bb (th) n lim F (NW now F) kp)) := hD
  refine lv_istore (lv' := [(5, .int (nI 2)), (0, .ref b), (1, .ref (a 0)), (2, .ref (bb 0)), (3, .ref o), (4, .int (nI i))]) hx hb dL_law_1489 hl (by decide) rfl (fun ls hl => ?_)
  refine lv_aload_n hx hb dL_law_1491 rfl (lv_at hl 3 rfl) ?_
  refine lv_aload_n hx hb dL_law_1492 rfl (lv_at hl 1 rfl) ?_
  refine lv_iload hx hb dL_law_1493 (lv_at hl 5 rfl) ?_
  refine lv_iconst (v := (nI 1)) hx hb dL_law_1495 (by decide) ?_
  refine nq_add hx hb dL_law_1496 ?_
  refine va_sld hx hb hX hbl hbA hS (i := nI (i + 1)) (by exact vp_in_nI (by omega) (by omega)) dL_law_1497 ?_
  refine nq_top (show xs ((nI (i + 1)).toNatClampNeg) = (nI k) from by rw [nI_clamp (by omega)]; exact e1) ?_
  refine lv_aload_n hx hb dL_law_1498 rfl (lv_at hl 1 rfl) ?_
  refine lv_iload hx hb dL_law_1499 (lv_at hl 5 rfl) ?_
  refine lv_iconst (v := (nI 2)) hx hb dL_law_1501 (by decide) ?_
  refine nq_add hx hb dL_law_1502 ?_
  refine va_sld hx hb hX hbl hbA hS (i := nI (i + 2)) (by exact vp_in_nI (by omega) (by omega)) dL_law_1503 ?_
  refine nq_top (show xs ((nI (i + 2)).toNatClampNeg) = z from by rw [nI_clamp (by omega)]; exact e2) ?_
  refine lawM_i (S := Unit) (W1 := fun kQ => wM E bb (nI 2) n lim F (NW now F) kp) (rest := []) (As := [.int (nI k), .int z]) ⟨hx, hb, hml, hown, hts⟩ (c_X2_dueIn__y l E _ bb th n lim now F kp hO k hk z hz9) (cwV 2 hts gL_law_X2_dueIn_ rfl rfl rfl (by decide +kernel) ⟨Nat.le_of_ble_eq_true rfl, Nat.le_of_ble_eq_true rfl⟩) (va_recv hK hP (ci := 3) (q0 := (wC E a mc n now lim (LF F lit fo)).length + 1) rfl wG_m0) hP hK hD hS hA rfl hl.1 rfl (Nat.le_of_ble_eq_true rfl) dL_law_1504 ⟨by show cells + 1 + 0 ≤ 601024; omega, by show slots + 6 + 0 ≤ 7293034; omega⟩ (fun r2 u2 H locs hr2 hP hD hS => ?_)
  subst hr2
  have hP : va_P E.1 vwCl (wG E (wC E a mc n now lim (LF F lit fo)) o (fn) (wM E bb (nI 2) n lim F (NW now F) kp)) _ := hP
  have hD : va_D A (wG E (wC E a mc n now lim (LF F lit fo)) o (fn) (wM E bb (nI 2) n lim F (NW now F) kp)) := hD
  refine lv_istore (lv' := [(6, .int (nI 0)), (5, .int (nI 2)), (0, .ref b), (1, .ref (a 0)), (2, .ref (bb 0)), (3, .ref o), (4, .int (nI i))]) hx hb dL_law_1507 hl (by decide) rfl (fun ls hl => ?_)
  refine lv_aload_n hx hb dL_law_1509 rfl (lv_at hl 4 rfl) ?_
  refine lawM_i (S := Unit) (W1 := fun kQ => wM E bb (nI 2) n lim F (NW now F) kp) (rest := []) (As := []) ⟨hx, hb, hml, hown, hts⟩ (c_X2_thrown l E _ bb (nI 2) n lim now F kp) (cwV 0 hts gL_law_X2_thrown rfl rfl rfl (by decide +kernel) ⟨Nat.le_of_ble_eq_true rfl, Nat.le_of_ble_eq_true rfl⟩) (va_recv hK hP (ci := 3) (q0 := (wC E a mc n now lim (LF F lit fo)).length + 1) rfl wG_m0) hP hK hD hS hA rfl hl.1 rfl (Nat.le_of_ble_eq_true rfl) dL_law_1510 ⟨by show cells + 1 + 0 + 0 ≤ 601024; omega, by show slots + 6 + 0 + 0 ≤ 7293034; omega⟩ (fun r3 u3 H locs hr3 hP hD hS => ?_)
  subst hr3
  have hP : va_P E.1 vwCl (wG E (wC E a mc n now lim (LF F lit fo)) o (fn) (wM E bb (nI 2) n lim F (NW now F) kp)) _ := hP
  have hD : va_D A (wG E (wC E a mc n now lim (LF F lit fo)) o (fn) (wM E bb (nI 2) n lim F (NW now F) kp)) := hD
  refine lv_iload hx hb dL_law_1513 (lv_at hl 1 rfl) ?_
  refine nq_icmp_eq (tgt := 1520) hx hb dL_law_1515 (by decide) (by omega) (by omega) (fun h1515 => ?_) (fun h1515 => ?_)
  · skip
    refine lv_iload hx hb dL_law_1520 (lv_at hl 1 rfl) ?_
    refine nq_if_ne (tgt := 1537) hx hb dL_law_1522 (by decide) (by decide) (fun h1522 => ?_) (fun h1522 => ?_)
    · skip
      refine lv_goto (tgt := 1763) hx hb dL_law_1537 (by decide) ?_
      exact KK a mc n now lim F lit fo fn bb (nI 2) kp _ _ _ _ _ ⟨hO, by omega, hz, by omega, by omega, hP, hD, hS, (lv_sub hl [2, 3, 4, 5, 6] rfl)⟩
    · skip
      exact absurd h1522 (by decide)
  · skip
    exact absurd rfl h1515

set_option maxHeartbeats 4000000 in
set_option maxRecDepth 100000 in
theorem law_brightest {p : Program} {l : Launch} {e : Env} {s : State} {m : MethodId} {b : Nat} {below : List Frame} {meth : Method} {c : Code} {E : GE} {A : Nat → Prop} {z0 L o i j : Nat} {xs : Nat → Int32} {Q : State → Prop} (CC : LC p l s m b c E A z0 L xs) (hL9 : L ≤ 2560) (hi9 : i + 5 ≤ L) (hj9 : j ≤ 511) (KK : LK p l e s m b below meth c E A z0 o Q 1763 i (j + 1)) (a : Nat → Nat) (mc : Int32) (n now lim : Nat) (F : LR) (lit : Nat → Bool) (fo : Nat → Nat) (fn : Nat → Int64) (bb : Nat → Nat) (th : Int32) (kp : Nat → Int32) (H : Heap) (locs : List Loc) (ls : Array Slot) (cells slots : Nat) (hst : LSt E A s b z0 i j a mc n now lim F lit fo o fn bb th kp H locs ls cells slots) (k : Nat) (hk : 1 ≤ k ∧ k ≤ 200) (e1 : xs (i + 1) = (nI k)) : W p l e room_1 s m #[Value.ref b] below meth c H locs cells slots Q (F0 m 1540 ls []) := by
  obtain ⟨hx, hb, hml, hown, hts, hK, hZ, hT, hA, hbA, hX, hbl, hl9⟩ := CC
  obtain ⟨hO, hnw, hz, hcl, hsl, hP, hD, hS, hl⟩ := hst
  refine lv_aload_n hx hb dL_law_1540 rfl (lv_at hl 1 rfl) ?_
  refine lv_aload_n hx hb dL_law_1541 rfl (lv_at hl 0 rfl) ?_
  refine lv_iload hx hb dL_law_1542 (lv_at hl 4 rfl) ?_
  refine lv_iconst (v := (nI 1)) hx hb dL_law_1544 (by decide) ?_
  refine nq_add hx hb dL_law_1545 ?_
  refine va_sld hx hb hX hbl hbA hS (i := nI (i + 1)) (by exact vp_in_nI (by omega) (by omega)) dL_law_1546 ?_
  refine nq_top (show xs ((nI (i + 1)).toNatClampNeg) = (nI k) from by rw [nI_clamp (by omega)]; exact e1) ?_
  refine lv_aload_n hx hb dL_law_1547 rfl (lv_at hl 3 rfl) ?_
  refine lawS (S := Nat → Bool) (W1 := fun uQ => wC E a mc n now lim (LF F uQ fo)) (f1 := fun uQ => vp_updL fn 0 (((nI (mxA F lim now n k))).toInt64)) (rest := []) (As := [.ref (a 0), .int (nI k), .ref o]) ⟨hx, hb, hml, hown, hts⟩ (w_L_brightest l hl9 E _ z0 a mc n now lim F lit fo hO o fn k hk) (vx_cwSW 3 hts gL_law_L_brightest rfl rfl rfl (by decide +kernel) ⟨Nat.le_of_ble_eq_true rfl, Nat.le_of_ble_eq_true rfl⟩) hP hK hD hZ hT hS hA rfl hl.1 rfl (Nat.le_of_ble_eq_true rfl) dL_law_1548 ⟨by show cells + 0 ≤ 601024; omega, by show slots + 0 ≤ 7293034; omega⟩ (fun r1 u1 H locs hr1 hP hD hS => ?_)
  subst hr1
  have hP : va_P E.1 vwCl (wG E (wC E a mc n now lim (LF F u1 fo)) o (vp_updL fn 0 (((nI (mxA F lim now n k))).toInt64)) (wM E bb (th) n lim F (NW now F) kp)) _ := hP
  have hD : va_D A (wG E (wC E a mc n now lim (LF F u1 fo)) o (vp_updL fn 0 (((nI (mxA F lim now n k))).toInt64)) (wM E bb (th) n lim F (NW now F) kp)) := hD
  refine lv_istore (lv' := [(5, .int (nI 0)), (0, .ref b), (1, .ref (a 0)), (2, .ref (bb 0)), (3, .ref o), (4, .int (nI i))]) hx hb dL_law_1551 hl (by decide) rfl (fun ls hl => ?_)
  refine lv_aload_n hx hb dL_law_1553 rfl (lv_at hl 3 rfl) ?_
  refine lv_aload_n hx hb dL_law_1554 rfl (lv_at hl 1 rfl) ?_
  refine lv_iload hx hb dL_law_1555 (lv_at hl 5 rfl) ?_
  refine lv_iconst (v := (nI 1)) hx hb dL_law_1557 (by decide) ?_
  refine nq_add hx hb dL_law_1558 ?_
  refine va_sld hx hb hX hbl hbA hS (i := nI (i + 1)) (by exact vp_in_nI (by omega) (by omega)) dL_law_1559 ?_
  refine nq_top (show xs ((nI (i + 1)).toNatClampNeg) = (nI k) from by rw [nI_clamp (by omega)]; exact e1) ?_
  refine lawM_i (S := Unit) (W1 := fun kQ => wM E bb (nI 0) n lim F (NW now F) (va_cpy (NW now F) kp 0 0 17)) (rest := []) (As := [.int (nI k)]) ⟨hx, hb, hml, hown, hts⟩ (c_X2_brightest l E _ bb th n lim now F kp hO k hk (by omega)) (cwV 1 hts gL_law_X2_brightest rfl rfl rfl (by decide +kernel) ⟨Nat.le_of_ble_eq_true rfl, Nat.le_of_ble_eq_true rfl⟩) (va_recv hK hP (ci := 3) (q0 := (wC E a mc n now lim (LF F u1 fo)).length + 1) rfl wG_m0) hP hK hD hS hA rfl hl.1 rfl (Nat.le_of_ble_eq_true rfl) dL_law_1560 ⟨by show cells + 0 + 0 ≤ 601024; omega, by show slots + 0 + 0 ≤ 7293034; omega⟩ (fun r2 u2 H locs hr2 hP hD hS => ?_)
  subst hr2
  have hP : va_P E.1 vwCl (wG E (wC E a mc n now lim (LF F u1 fo)) o (vp_updL fn 0 (((nI (mxA F lim now n k))).toInt64)) (wM E bb (nI 0) n lim F (NW now F) (va_cpy (NW now F) kp 0 0 17))) _ := hP
  have hD : va_D A (wG E (wC E a mc n now lim (LF F u1 fo)) o (vp_updL fn 0 (((nI (mxA F lim now n k))).toInt64)) (wM E bb (nI 0) n lim F (NW now F) (va_cpy (NW now F) kp 0 0 17))) := hD
  refine lv_istore (lv' := [(6, .int (nI (mxA F lim now n k))), (5, .int (nI 0)), (0, .ref b), (1, .ref (a 0)), (2, .ref (bb 0)), (3, .ref o), (4, .int (nI i))]) hx hb dL_law_1563 hl (by decide) rfl (fun ls hl => ?_)
  refine lv_aload_n hx hb dL_law_1565 rfl (lv_at hl 4 rfl) ?_
  refine lawM_i (S := Unit) (W1 := fun kQ => wM E bb (nI 0) n lim F (NW now F) (va_cpy (NW now F) kp 0 0 17)) (rest := []) (As := []) ⟨hx, hb, hml, hown, hts⟩ (c_X2_thrown l E _ bb (nI 0) n lim now F (va_cpy (NW now F) kp 0 0 17)) (cwV 0 hts gL_law_X2_thrown rfl rfl rfl (by decide +kernel) ⟨Nat.le_of_ble_eq_true rfl, Nat.le_of_ble_eq_true rfl⟩) (va_recv hK hP (ci := 3) (q0 := (wC E a mc n now lim (LF F u1 fo)).length + 1) rfl wG_m0) hP hK hD hS hA rfl hl.1 rfl (Nat.le_of_ble_eq_true rfl) dL_law_1566 ⟨by show cells + 0 + 0 + 0 ≤ 601024; omega, by show slots + 0 + 0 + 0 ≤ 7293034; omega⟩ (fun r3 u3 H locs hr3 hP hD hS => ?_)
  subst hr3
  have hP : va_P E.1 vwCl (wG E (wC E a mc n now lim (LF F u1 fo)) o (vp_updL fn 0 (((nI (mxA F lim now n k))).toInt64)) (wM E bb (nI 0) n lim F (NW now F) (va_cpy (NW now F) kp 0 0 17))) _ := hP
  have hD : va_D A (wG E (wC E a mc n now lim (LF F u1 fo)) o (vp_updL fn 0 (((nI (mxA F lim now n k))).toInt64)) (wM E bb (nI 0) n lim F (NW now F) (va_cpy (NW now F) kp 0 0 17))) := hD
  refine lv_iload hx hb dL_law_1569 (lv_at hl 1 rfl) ?_
  refine nq_icmp_eq (tgt := 1576) hx hb dL_law_1571 (by decide) (by omega) (by omega) (fun h1571 => ?_) (fun h1571 => ?_)
  · skip
    refine lv_iload hx hb dL_law_1576 (lv_at hl 1 rfl) ?_
    refine nq_if_ne (tgt := 1593) hx hb dL_law_1578 (by decide) (by decide) (fun h1578 => ?_) (fun h1578 => ?_)
    · skip
      exact absurd h1578 (by decide)
    · skip
      refine lv_aload_n hx hb dL_law_1581 rfl (lv_at hl 5 rfl) ?_
      refine lv_iconst (v := (nI 0)) hx hb dL_law_1582 (by decide) ?_
      refine va_lald hx hb hK hP (wC E a mc n now lim (LF F u1 fo)).length 2 wG_o rfl (i := nI 0) (by exact vp_in_nI (by omega) (by omega)) dL_law_1583 ?_
      refine nq_topl (show (vp_updL fn 0 (((nI (mxA F lim now n k))).toInt64)) ((nI 0).toNatClampNeg) = ((nI (mxA F lim now n k))).toInt64 from by rw [nI_clamp (by omega)]; exact if_pos rfl) ?_
      refine lv_iload hx hb dL_law_1584 (lv_at hl 0 rfl) ?_
      refine lv_i2l (v := (nI (mxA F lim now n k)).toInt64) hx hb dL_law_1586 (rfl) ?_
      refine nq_topl (show (nI (mxA F lim now n k)).toInt64 = ((nI (mxA F lim now n k))).toInt64 from by first | rfl | (rw [h1578]; rfl)) ?_
      refine W.lcmp hx hb dL_law_1587 ?_
      refine lv_if_eq (tgt := 1593) hx hb dL_law_1588 (by decide) (fun h1588 => ?_) (fun h1588 => ?_)
      · skip
        refine lv_goto (tgt := 1763) hx hb dL_law_1593 (by decide) ?_
        exact KK a mc n now lim F u1 fo (vp_updL fn 0 (((nI (mxA F lim now n k))).toInt64)) bb (nI 0) (va_cpy (NW now F) kp 0 0 17) _ _ _ _ _ ⟨hO, by omega, hz, by omega, by omega, hP, hD, hS, (lv_sub hl [2, 3, 4, 5, 6] rfl)⟩
      · skip
        exact absurd (lg_self _) h1588
  · skip
    exact absurd rfl h1571

set_option maxHeartbeats 4000000 in
set_option maxRecDepth 100000 in
theorem law_brightest_x {p : Program} {l : Launch} {e : Env} {s : State} {m : MethodId} {b : Nat} {below : List Frame} {meth : Method} {c : Code} {E : GE} {A : Nat → Prop} {z0 L o i j : Nat} {xs : Nat → Int32} {Q : State → Prop} (CC : LC p l s m b c E A z0 L xs) (hL9 : L ≤ 2560) (hi9 : i + 5 ≤ L) (hj9 : j ≤ 511) (KK : LK p l e s m b below meth c E A z0 o Q 1763 i (j + 1)) (a : Nat → Nat) (mc : Int32) (n now lim : Nat) (F : LR) (lit : Nat → Bool) (fo : Nat → Nat) (fn : Nat → Int64) (bb : Nat → Nat) (th : Int32) (kp : Nat → Int32) (H : Heap) (locs : List Loc) (ls : Array Slot) (cells slots : Nat) (hst : LSt E A s b z0 i j a mc n now lim F lit fo o fn bb th kp H locs ls cells slots) (x : Int32) (hx9 : inB x (nI 1) (nI 200) = false) (e1 : xs (i + 1) = x) : W p l e room_1 s m #[Value.ref b] below meth c H locs cells slots Q (F0 m 1540 ls []) := by
  obtain ⟨hx, hb, hml, hown, hts, hK, hZ, hT, hA, hbA, hX, hbl, hl9⟩ := CC
  obtain ⟨hO, hnw, hz, hcl, hsl, hP, hD, hS, hl⟩ := hst
  refine lv_aload_n hx hb dL_law_1540 rfl (lv_at hl 1 rfl) ?_
  refine lv_aload_n hx hb dL_law_1541 rfl (lv_at hl 0 rfl) ?_
  refine lv_iload hx hb dL_law_1542 (lv_at hl 4 rfl) ?_
  refine lv_iconst (v := (nI 1)) hx hb dL_law_1544 (by decide) ?_
  refine nq_add hx hb dL_law_1545 ?_
  refine va_sld hx hb hX hbl hbA hS (i := nI (i + 1)) (by exact vp_in_nI (by omega) (by omega)) dL_law_1546 ?_
  refine nq_top (show xs ((nI (i + 1)).toNatClampNeg) = x from by rw [nI_clamp (by omega)]; exact e1) ?_
  refine lv_aload_n hx hb dL_law_1547 rfl (lv_at hl 3 rfl) ?_
  refine lawS (S := Unit) (W1 := fun uQ => wC E a mc n now lim (LF F lit fo)) (f1 := fun uQ => fn) (rest := []) (As := [.ref (a 0), .int x, .ref o]) ⟨hx, hb, hml, hown, hts⟩ (w_L_brightest_x l hl9 E _ z0 a mc n now lim F lit fo hO o fn x hx9) (vx_cwSW 3 hts gL_law_L_brightest rfl rfl rfl (by decide +kernel) ⟨Nat.le_of_ble_eq_true rfl, Nat.le_of_ble_eq_true rfl⟩) hP hK hD hZ hT hS hA rfl hl.1 rfl (Nat.le_of_ble_eq_true rfl) dL_law_1548 ⟨by show cells + 1 ≤ 601024; omega, by show slots + 6 ≤ 7293034; omega⟩ (fun r1 u1 H locs hr1 hP hD hS => ?_)
  subst hr1
  have hP : va_P E.1 vwCl (wG E (wC E a mc n now lim (LF F lit fo)) o (fn) (wM E bb (th) n lim F (NW now F) kp)) _ := hP
  have hD : va_D A (wG E (wC E a mc n now lim (LF F lit fo)) o (fn) (wM E bb (th) n lim F (NW now F) kp)) := hD
  refine lv_istore (lv' := [(5, .int (nI 1)), (0, .ref b), (1, .ref (a 0)), (2, .ref (bb 0)), (3, .ref o), (4, .int (nI i))]) hx hb dL_law_1551 hl (by decide) rfl (fun ls hl => ?_)
  refine lv_aload_n hx hb dL_law_1553 rfl (lv_at hl 3 rfl) ?_
  refine lv_aload_n hx hb dL_law_1554 rfl (lv_at hl 1 rfl) ?_
  refine lv_iload hx hb dL_law_1555 (lv_at hl 5 rfl) ?_
  refine lv_iconst (v := (nI 1)) hx hb dL_law_1557 (by decide) ?_
  refine nq_add hx hb dL_law_1558 ?_
  refine va_sld hx hb hX hbl hbA hS (i := nI (i + 1)) (by exact vp_in_nI (by omega) (by omega)) dL_law_1559 ?_
  refine nq_top (show xs ((nI (i + 1)).toNatClampNeg) = x from by rw [nI_clamp (by omega)]; exact e1) ?_
  refine lawM_i (S := Unit) (W1 := fun kQ => wM E bb (nI 1) n lim F (NW now F) kp) (rest := []) (As := [.int x]) ⟨hx, hb, hml, hown, hts⟩ (c_X2_brightest_x l E _ bb th n lim now F kp hO x hx9) (cwV 1 hts gL_law_X2_brightest rfl rfl rfl (by decide +kernel) ⟨Nat.le_of_ble_eq_true rfl, Nat.le_of_ble_eq_true rfl⟩) (va_recv hK hP (ci := 3) (q0 := (wC E a mc n now lim (LF F lit fo)).length + 1) rfl wG_m0) hP hK hD hS hA rfl hl.1 rfl (Nat.le_of_ble_eq_true rfl) dL_law_1560 ⟨by show cells + 1 + 0 ≤ 601024; omega, by show slots + 6 + 0 ≤ 7293034; omega⟩ (fun r2 u2 H locs hr2 hP hD hS => ?_)
  subst hr2
  have hP : va_P E.1 vwCl (wG E (wC E a mc n now lim (LF F lit fo)) o (fn) (wM E bb (nI 1) n lim F (NW now F) kp)) _ := hP
  have hD : va_D A (wG E (wC E a mc n now lim (LF F lit fo)) o (fn) (wM E bb (nI 1) n lim F (NW now F) kp)) := hD
  refine lv_istore (lv' := [(6, .int (nI 0)), (5, .int (nI 1)), (0, .ref b), (1, .ref (a 0)), (2, .ref (bb 0)), (3, .ref o), (4, .int (nI i))]) hx hb dL_law_1563 hl (by decide) rfl (fun ls hl => ?_)
  refine lv_aload_n hx hb dL_law_1565 rfl (lv_at hl 4 rfl) ?_
  refine lawM_i (S := Unit) (W1 := fun kQ => wM E bb (nI 1) n lim F (NW now F) kp) (rest := []) (As := []) ⟨hx, hb, hml, hown, hts⟩ (c_X2_thrown l E _ bb (nI 1) n lim now F kp) (cwV 0 hts gL_law_X2_thrown rfl rfl rfl (by decide +kernel) ⟨Nat.le_of_ble_eq_true rfl, Nat.le_of_ble_eq_true rfl⟩) (va_recv hK hP (ci := 3) (q0 := (wC E a mc n now lim (LF F lit fo)).length + 1) rfl wG_m0) hP hK hD hS hA rfl hl.1 rfl (Nat.le_of_ble_eq_true rfl) dL_law_1566 ⟨by show cells + 1 + 0 + 0 ≤ 601024; omega, by show slots + 6 + 0 + 0 ≤ 7293034; omega⟩ (fun r3 u3 H locs hr3 hP hD hS => ?_)
  subst hr3
  have hP : va_P E.1 vwCl (wG E (wC E a mc n now lim (LF F lit fo)) o (fn) (wM E bb (nI 1) n lim F (NW now F) kp)) _ := hP
  have hD : va_D A (wG E (wC E a mc n now lim (LF F lit fo)) o (fn) (wM E bb (nI 1) n lim F (NW now F) kp)) := hD
  refine lv_iload hx hb dL_law_1569 (lv_at hl 1 rfl) ?_
  refine nq_icmp_eq (tgt := 1576) hx hb dL_law_1571 (by decide) (by omega) (by omega) (fun h1571 => ?_) (fun h1571 => ?_)
  · skip
    refine lv_iload hx hb dL_law_1576 (lv_at hl 1 rfl) ?_
    refine nq_if_ne (tgt := 1593) hx hb dL_law_1578 (by decide) (by decide) (fun h1578 => ?_) (fun h1578 => ?_)
    · skip
      refine lv_goto (tgt := 1763) hx hb dL_law_1593 (by decide) ?_
      exact KK a mc n now lim F lit fo fn bb (nI 1) kp _ _ _ _ _ ⟨hO, by omega, hz, by omega, by omega, hP, hD, hS, (lv_sub hl [2, 3, 4, 5, 6] rfl)⟩
    · skip
      exact absurd h1578 (by decide)
  · skip
    exact absurd rfl h1571

set_option maxHeartbeats 4000000 in
set_option maxRecDepth 100000 in
theorem law_unfairnessIn {p : Program} {l : Launch} {e : Env} {s : State} {m : MethodId} {b : Nat} {below : List Frame} {meth : Method} {c : Code} {E : GE} {A : Nat → Prop} {z0 L o i j : Nat} {xs : Nat → Int32} {Q : State → Prop} (CC : LC p l s m b c E A z0 L xs) (hL9 : L ≤ 2560) (hi9 : i + 5 ≤ L) (hj9 : j ≤ 511) (KK : LK p l e s m b below meth c E A z0 o Q 1763 i (j + 1)) (a : Nat → Nat) (mc : Int32) (n now lim : Nat) (F : LR) (lit : Nat → Bool) (fo : Nat → Nat) (fn : Nat → Int64) (bb : Nat → Nat) (th : Int32) (kp : Nat → Int32) (H : Heap) (locs : List Loc) (ls : Array Slot) (cells slots : Nat) (hst : LSt E A s b z0 i j a mc n now lim F lit fo o fn bb th kp H locs ls cells slots) (k : Nat) (hk : 1 ≤ k ∧ k ≤ 200) (e1 : xs (i + 1) = (nI k)) : W p l e room_1 s m #[Value.ref b] below meth c H locs cells slots Q (F0 m 1596 ls []) := by
  obtain ⟨hx, hb, hml, hown, hts, hK, hZ, hT, hA, hbA, hX, hbl, hl9⟩ := CC
  obtain ⟨hO, hnw, hz, hcl, hsl, hP, hD, hS, hl⟩ := hst
  refine lv_aload_n hx hb dL_law_1596 rfl (lv_at hl 1 rfl) ?_
  refine lv_aload_n hx hb dL_law_1597 rfl (lv_at hl 0 rfl) ?_
  refine lv_iload hx hb dL_law_1598 (lv_at hl 4 rfl) ?_
  refine lv_iconst (v := (nI 1)) hx hb dL_law_1600 (by decide) ?_
  refine nq_add hx hb dL_law_1601 ?_
  refine va_sld hx hb hX hbl hbA hS (i := nI (i + 1)) (by exact vp_in_nI (by omega) (by omega)) dL_law_1602 ?_
  refine nq_top (show xs ((nI (i + 1)).toNatClampNeg) = (nI k) from by rw [nI_clamp (by omega)]; exact e1) ?_
  refine lv_aload_n hx hb dL_law_1603 rfl (lv_at hl 3 rfl) ?_
  refine lawS (S := (Nat → Bool) × (Nat → Nat)) (W1 := fun uQ => wC E a mc n now lim (LF F uQ.1 uQ.2)) (f1 := fun uQ => vp_updL fn 0 (((nI (unfS (passF F lim now n k) n))).toInt64)) (rest := []) (As := [.ref (a 0), .int (nI k), .ref o]) ⟨hx, hb, hml, hown, hts⟩ (w_L_unfairnessIn l hl9 E _ z0 a mc n now lim F lit fo hO o fn k hk (by omega)) (vx_cwSW 3 hts gL_law_L_unfairnessIn rfl rfl rfl (by decide +kernel) ⟨Nat.le_of_ble_eq_true rfl, Nat.le_of_ble_eq_true rfl⟩) hP hK hD hZ hT hS hA rfl hl.1 rfl (Nat.le_of_ble_eq_true rfl) dL_law_1604 ⟨by show cells + 0 ≤ 601024; omega, by show slots + 0 ≤ 7293034; omega⟩ (fun r1 u1 H locs hr1 hP hD hS => ?_)
  subst hr1
  have hP : va_P E.1 vwCl (wG E (wC E a mc n now lim (LF F u1.1 u1.2)) o (vp_updL fn 0 (((nI (unfS (passF F lim now n k) n))).toInt64)) (wM E bb (th) n lim F (NW now F) kp)) _ := hP
  have hD : va_D A (wG E (wC E a mc n now lim (LF F u1.1 u1.2)) o (vp_updL fn 0 (((nI (unfS (passF F lim now n k) n))).toInt64)) (wM E bb (th) n lim F (NW now F) kp)) := hD
  refine lv_istore (lv' := [(5, .int (nI 0)), (0, .ref b), (1, .ref (a 0)), (2, .ref (bb 0)), (3, .ref o), (4, .int (nI i))]) hx hb dL_law_1607 hl (by decide) rfl (fun ls hl => ?_)
  refine lv_aload_n hx hb dL_law_1609 rfl (lv_at hl 3 rfl) ?_
  refine lv_aload_n hx hb dL_law_1610 rfl (lv_at hl 1 rfl) ?_
  refine lv_iload hx hb dL_law_1611 (lv_at hl 5 rfl) ?_
  refine lv_iconst (v := (nI 1)) hx hb dL_law_1613 (by decide) ?_
  refine nq_add hx hb dL_law_1614 ?_
  refine va_sld hx hb hX hbl hbA hS (i := nI (i + 1)) (by exact vp_in_nI (by omega) (by omega)) dL_law_1615 ?_
  refine nq_top (show xs ((nI (i + 1)).toNatClampNeg) = (nI k) from by rw [nI_clamp (by omega)]; exact e1) ?_
  refine lawM_i (S := Unit) (W1 := fun kQ => wM E bb (nI 0) n lim F (NW now F) (va_cpy (NW now F) kp 0 0 17)) (rest := []) (As := [.int (nI k)]) ⟨hx, hb, hml, hown, hts⟩ (c_X2_unfairnessIn l E _ bb th n lim now F kp hO k hk (by omega)) (cwV 1 hts gL_law_X2_unfairnessIn rfl rfl rfl (by decide +kernel) ⟨Nat.le_of_ble_eq_true rfl, Nat.le_of_ble_eq_true rfl⟩) (va_recv hK hP (ci := 3) (q0 := (wC E a mc n now lim (LF F u1.1 u1.2)).length + 1) rfl wG_m0) hP hK hD hS hA rfl hl.1 rfl (Nat.le_of_ble_eq_true rfl) dL_law_1616 ⟨by show cells + 0 + 0 ≤ 601024; omega, by show slots + 0 + 0 ≤ 7293034; omega⟩ (fun r2 u2 H locs hr2 hP hD hS => ?_)
  subst hr2
  have hP : va_P E.1 vwCl (wG E (wC E a mc n now lim (LF F u1.1 u1.2)) o (vp_updL fn 0 (((nI (unfS (passF F lim now n k) n))).toInt64)) (wM E bb (nI 0) n lim F (NW now F) (va_cpy (NW now F) kp 0 0 17))) _ := hP
  have hD : va_D A (wG E (wC E a mc n now lim (LF F u1.1 u1.2)) o (vp_updL fn 0 (((nI (unfS (passF F lim now n k) n))).toInt64)) (wM E bb (nI 0) n lim F (NW now F) (va_cpy (NW now F) kp 0 0 17))) := hD
  refine lv_istore (lv' := [(6, .int (nI (unfS (passF F lim now n k) n))), (5, .int (nI 0)), (0, .ref b), (1, .ref (a 0)), (2, .ref (bb 0)), (3, .ref o), (4, .int (nI i))]) hx hb dL_law_1619 hl (by decide) rfl (fun ls hl => ?_)
  refine lv_aload_n hx hb dL_law_1621 rfl (lv_at hl 4 rfl) ?_
  refine lawM_i (S := Unit) (W1 := fun kQ => wM E bb (nI 0) n lim F (NW now F) (va_cpy (NW now F) kp 0 0 17)) (rest := []) (As := []) ⟨hx, hb, hml, hown, hts⟩ (c_X2_thrown l E _ bb (nI 0) n lim now F (va_cpy (NW now F) kp 0 0 17)) (cwV 0 hts gL_law_X2_thrown rfl rfl rfl (by decide +kernel) ⟨Nat.le_of_ble_eq_true rfl, Nat.le_of_ble_eq_true rfl⟩) (va_recv hK hP (ci := 3) (q0 := (wC E a mc n now lim (LF F u1.1 u1.2)).length + 1) rfl wG_m0) hP hK hD hS hA rfl hl.1 rfl (Nat.le_of_ble_eq_true rfl) dL_law_1622 ⟨by show cells + 0 + 0 + 0 ≤ 601024; omega, by show slots + 0 + 0 + 0 ≤ 7293034; omega⟩ (fun r3 u3 H locs hr3 hP hD hS => ?_)
  subst hr3
  have hP : va_P E.1 vwCl (wG E (wC E a mc n now lim (LF F u1.1 u1.2)) o (vp_updL fn 0 (((nI (unfS (passF F lim now n k) n))).toInt64)) (wM E bb (nI 0) n lim F (NW now F) (va_cpy (NW now F) kp 0 0 17))) _ := hP
  have hD : va_D A (wG E (wC E a mc n now lim (LF F u1.1 u1.2)) o (vp_updL fn 0 (((nI (unfS (passF F lim now n k) n))).toInt64)) (wM E bb (nI 0) n lim F (NW now F) (va_cpy (NW now F) kp 0 0 17))) := hD
  refine lv_iload hx hb dL_law_1625 (lv_at hl 1 rfl) ?_
  refine nq_icmp_eq (tgt := 1632) hx hb dL_law_1627 (by decide) (by omega) (by omega) (fun h1627 => ?_) (fun h1627 => ?_)
  · skip
    refine lv_iload hx hb dL_law_1632 (lv_at hl 1 rfl) ?_
    refine nq_if_ne (tgt := 1649) hx hb dL_law_1634 (by decide) (by decide) (fun h1634 => ?_) (fun h1634 => ?_)
    · skip
      exact absurd h1634 (by decide)
    · skip
      refine lv_aload_n hx hb dL_law_1637 rfl (lv_at hl 5 rfl) ?_
      refine lv_iconst (v := (nI 0)) hx hb dL_law_1638 (by decide) ?_
      refine va_lald hx hb hK hP (wC E a mc n now lim (LF F u1.1 u1.2)).length 2 wG_o rfl (i := nI 0) (by exact vp_in_nI (by omega) (by omega)) dL_law_1639 ?_
      refine nq_topl (show (vp_updL fn 0 (((nI (unfS (passF F lim now n k) n))).toInt64)) ((nI 0).toNatClampNeg) = ((nI (unfS (passF F lim now n k) n))).toInt64 from by rw [nI_clamp (by omega)]; exact if_pos rfl) ?_
      refine lv_iload hx hb dL_law_1640 (lv_at hl 0 rfl) ?_
      refine lv_i2l (v := (nI (unfS (passF F lim now n k) n)).toInt64) hx hb dL_law_1642 (rfl) ?_
      refine nq_topl (show (nI (unfS (passF F lim now n k) n)).toInt64 = ((nI (unfS (passF F lim now n k) n))).toInt64 from by first | rfl | (rw [h1634]; rfl)) ?_
      refine W.lcmp hx hb dL_law_1643 ?_
      refine lv_if_eq (tgt := 1649) hx hb dL_law_1644 (by decide) (fun h1644 => ?_) (fun h1644 => ?_)
      · skip
        refine lv_goto (tgt := 1763) hx hb dL_law_1649 (by decide) ?_
        exact KK a mc n now lim F u1.1 u1.2 (vp_updL fn 0 (((nI (unfS (passF F lim now n k) n))).toInt64)) bb (nI 0) (va_cpy (NW now F) kp 0 0 17) _ _ _ _ _ ⟨hO, by omega, hz, by omega, by omega, hP, hD, hS, (lv_sub hl [2, 3, 4, 5, 6] rfl)⟩
      · skip
        exact absurd (lg_self _) h1644
  · skip
    exact absurd rfl h1627

set_option maxHeartbeats 4000000 in
set_option maxRecDepth 100000 in
theorem law_unfairnessIn_x {p : Program} {l : Launch} {e : Env} {s : State} {m : MethodId} {b : Nat} {below : List Frame} {meth : Method} {c : Code} {E : GE} {A : Nat → Prop} {z0 L o i j : Nat} {xs : Nat → Int32} {Q : State → Prop} (CC : LC p l s m b c E A z0 L xs) (hL9 : L ≤ 2560) (hi9 : i + 5 ≤ L) (hj9 : j ≤ 511) (KK : LK p l e s m b below meth c E A z0 o Q 1763 i (j + 1)) (a : Nat → Nat) (mc : Int32) (n now lim : Nat) (F : LR) (lit : Nat → Bool) (fo : Nat → Nat) (fn : Nat → Int64) (bb : Nat → Nat) (th : Int32) (kp : Nat → Int32) (H : Heap) (locs : List Loc) (ls : Array Slot) (cells slots : Nat) (hst : LSt E A s b z0 i j a mc n now lim F lit fo o fn bb th kp H locs ls cells slots) (x : Int32) (hx9 : inB x (nI 1) (nI 200) = false) (e1 : xs (i + 1) = x) : W p l e room_1 s m #[Value.ref b] below meth c H locs cells slots Q (F0 m 1596 ls []) := by
  obtain ⟨hx, hb, hml, hown, hts, hK, hZ, hT, hA, hbA, hX, hbl, hl9⟩ := CC
  obtain ⟨hO, hnw, hz, hcl, hsl, hP, hD, hS, hl⟩ := hst
  refine lv_aload_n hx hb dL_law_1596 rfl (lv_at hl 1 rfl) ?_
  refine lv_aload_n hx hb dL_law_1597 rfl (lv_at hl 0 rfl) ?_
  refine lv_iload hx hb dL_law_1598 (lv_at hl 4 rfl) ?_
  refine lv_iconst (v := (nI 1)) hx hb dL_law_1600 (by decide) ?_
  refine nq_add hx hb dL_law_1601 ?_
  refine va_sld hx hb hX hbl hbA hS (i := nI (i + 1)) (by exact vp_in_nI (by omega) (by omega)) dL_law_1602 ?_
  refine nq_top (show xs ((nI (i + 1)).toNatClampNeg) = x from by rw [nI_clamp (by omega)]; exact e1) ?_
  refine lv_aload_n hx hb dL_law_1603 rfl (lv_at hl 3 rfl) ?_
  refine lawS (S := Unit) (W1 := fun uQ => wC E a mc n now lim (LF F lit fo)) (f1 := fun uQ => fn) (rest := []) (As := [.ref (a 0), .int x, .ref o]) ⟨hx, hb, hml, hown, hts⟩ (w_L_unfairnessIn_x l hl9 E _ z0 a mc n now lim F lit fo hO o fn x hx9) (vx_cwSW 3 hts gL_law_L_unfairnessIn rfl rfl rfl (by decide +kernel) ⟨Nat.le_of_ble_eq_true rfl, Nat.le_of_ble_eq_true rfl⟩) hP hK hD hZ hT hS hA rfl hl.1 rfl (Nat.le_of_ble_eq_true rfl) dL_law_1604 ⟨by show cells + 1 ≤ 601024; omega, by show slots + 6 ≤ 7293034; omega⟩ (fun r1 u1 H locs hr1 hP hD hS => ?_)
  subst hr1
  have hP : va_P E.1 vwCl (wG E (wC E a mc n now lim (LF F lit fo)) o (fn) (wM E bb (th) n lim F (NW now F) kp)) _ := hP
  have hD : va_D A (wG E (wC E a mc n now lim (LF F lit fo)) o (fn) (wM E bb (th) n lim F (NW now F) kp)) := hD
  refine lv_istore (lv' := [(5, .int (nI 1)), (0, .ref b), (1, .ref (a 0)), (2, .ref (bb 0)), (3, .ref o), (4, .int (nI i))]) hx hb dL_law_1607 hl (by decide) rfl (fun ls hl => ?_)
  refine lv_aload_n hx hb dL_law_1609 rfl (lv_at hl 3 rfl) ?_
  refine lv_aload_n hx hb dL_law_1610 rfl (lv_at hl 1 rfl) ?_
  refine lv_iload hx hb dL_law_1611 (lv_at hl 5 rfl) ?_
  refine lv_iconst (v := (nI 1)) hx hb dL_law_1613 (by decide) ?_
  refine nq_add hx hb dL_law_1614 ?_
  refine va_sld hx hb hX hbl hbA hS (i := nI (i + 1)) (by exact vp_in_nI (by omega) (by omega)) dL_law_1615 ?_
  refine nq_top (show xs ((nI (i + 1)).toNatClampNeg) = x from by rw [nI_clamp (by omega)]; exact e1) ?_
  refine lawM_i (S := Unit) (W1 := fun kQ => wM E bb (nI 1) n lim F (NW now F) kp) (rest := []) (As := [.int x]) ⟨hx, hb, hml, hown, hts⟩ (c_X2_unfairnessIn_x l E _ bb th n lim now F kp hO x hx9) (cwV 1 hts gL_law_X2_unfairnessIn rfl rfl rfl (by decide +kernel) ⟨Nat.le_of_ble_eq_true rfl, Nat.le_of_ble_eq_true rfl⟩) (va_recv hK hP (ci := 3) (q0 := (wC E a mc n now lim (LF F lit fo)).length + 1) rfl wG_m0) hP hK hD hS hA rfl hl.1 rfl (Nat.le_of_ble_eq_true rfl) dL_law_1616 ⟨by show cells + 1 + 0 ≤ 601024; omega, by show slots + 6 + 0 ≤ 7293034; omega⟩ (fun r2 u2 H locs hr2 hP hD hS => ?_)
  subst hr2
  have hP : va_P E.1 vwCl (wG E (wC E a mc n now lim (LF F lit fo)) o (fn) (wM E bb (nI 1) n lim F (NW now F) kp)) _ := hP
  have hD : va_D A (wG E (wC E a mc n now lim (LF F lit fo)) o (fn) (wM E bb (nI 1) n lim F (NW now F) kp)) := hD
  refine lv_istore (lv' := [(6, .int (nI 0)), (5, .int (nI 1)), (0, .ref b), (1, .ref (a 0)), (2, .ref (bb 0)), (3, .ref o), (4, .int (nI i))]) hx hb dL_law_1619 hl (by decide) rfl (fun ls hl => ?_)
  refine lv_aload_n hx hb dL_law_1621 rfl (lv_at hl 4 rfl) ?_
  refine lawM_i (S := Unit) (W1 := fun kQ => wM E bb (nI 1) n lim F (NW now F) kp) (rest := []) (As := []) ⟨hx, hb, hml, hown, hts⟩ (c_X2_thrown l E _ bb (nI 1) n lim now F kp) (cwV 0 hts gL_law_X2_thrown rfl rfl rfl (by decide +kernel) ⟨Nat.le_of_ble_eq_true rfl, Nat.le_of_ble_eq_true rfl⟩) (va_recv hK hP (ci := 3) (q0 := (wC E a mc n now lim (LF F lit fo)).length + 1) rfl wG_m0) hP hK hD hS hA rfl hl.1 rfl (Nat.le_of_ble_eq_true rfl) dL_law_1622 ⟨by show cells + 1 + 0 + 0 ≤ 601024; omega, by show slots + 6 + 0 + 0 ≤ 7293034; omega⟩ (fun r3 u3 H locs hr3 hP hD hS => ?_)
  subst hr3
  have hP : va_P E.1 vwCl (wG E (wC E a mc n now lim (LF F lit fo)) o (fn) (wM E bb (nI 1) n lim F (NW now F) kp)) _ := hP
  have hD : va_D A (wG E (wC E a mc n now lim (LF F lit fo)) o (fn) (wM E bb (nI 1) n lim F (NW now F) kp)) := hD
  refine lv_iload hx hb dL_law_1625 (lv_at hl 1 rfl) ?_
  refine nq_icmp_eq (tgt := 1632) hx hb dL_law_1627 (by decide) (by omega) (by omega) (fun h1627 => ?_) (fun h1627 => ?_)
  · skip
    refine lv_iload hx hb dL_law_1632 (lv_at hl 1 rfl) ?_
    refine nq_if_ne (tgt := 1649) hx hb dL_law_1634 (by decide) (by decide) (fun h1634 => ?_) (fun h1634 => ?_)
    · skip
      refine lv_goto (tgt := 1763) hx hb dL_law_1649 (by decide) ?_
      exact KK a mc n now lim F lit fo fn bb (nI 1) kp _ _ _ _ _ ⟨hO, by omega, hz, by omega, by omega, hP, hD, hS, (lv_sub hl [2, 3, 4, 5, 6] rfl)⟩
    · skip
      exact absurd h1634 (by decide)
  · skip
    exact absurd rfl h1627

set_option maxHeartbeats 4000000 in
set_option maxRecDepth 100000 in
theorem law_limitWanted {p : Program} {l : Launch} {e : Env} {s : State} {m : MethodId} {b : Nat} {below : List Frame} {meth : Method} {c : Code} {E : GE} {A : Nat → Prop} {z0 L o i j : Nat} {xs : Nat → Int32} {Q : State → Prop} (CC : LC p l s m b c E A z0 L xs) (hL9 : L ≤ 2560) (hi9 : i + 5 ≤ L) (hj9 : j ≤ 511) (KK : LK p l e s m b below meth c E A z0 o Q 1763 i (j + 1)) (a : Nat → Nat) (mc : Int32) (n now lim : Nat) (F : LR) (lit : Nat → Bool) (fo : Nat → Nat) (fn : Nat → Int64) (bb : Nat → Nat) (th : Int32) (kp : Nat → Int32) (H : Heap) (locs : List Loc) (ls : Array Slot) (cells slots : Nat) (hst : LSt E A s b z0 i j a mc n now lim F lit fo o fn bb th kp H locs ls cells slots) (k : Nat) (hk : 1 ≤ k ∧ k ≤ 200) (e1 : xs (i + 1) = (nI k)) : W p l e room_1 s m #[Value.ref b] below meth c H locs cells slots Q (F0 m 1652 ls []) := by
  obtain ⟨hx, hb, hml, hown, hts, hK, hZ, hT, hA, hbA, hX, hbl, hl9⟩ := CC
  obtain ⟨hO, hnw, hz, hcl, hsl, hP, hD, hS, hl⟩ := hst
  refine lv_aload_n hx hb dL_law_1652 rfl (lv_at hl 1 rfl) ?_
  refine lv_aload_n hx hb dL_law_1653 rfl (lv_at hl 0 rfl) ?_
  refine lv_iload hx hb dL_law_1654 (lv_at hl 4 rfl) ?_
  refine lv_iconst (v := (nI 1)) hx hb dL_law_1656 (by decide) ?_
  refine nq_add hx hb dL_law_1657 ?_
  refine va_sld hx hb hX hbl hbA hS (i := nI (i + 1)) (by exact vp_in_nI (by omega) (by omega)) dL_law_1658 ?_
  refine nq_top (show xs ((nI (i + 1)).toNatClampNeg) = (nI k) from by rw [nI_clamp (by omega)]; exact e1) ?_
  refine lv_aload_n hx hb dL_law_1659 rfl (lv_at hl 3 rfl) ?_
  refine lawS (S := Unit) (W1 := fun uQ => wC E a mc n now lim (LF F lit fo)) (f1 := fun uQ => vp_updL fn 0 (((nI (mxD F now n k))).toInt64)) (rest := []) (As := [.ref (a 0), .int (nI k), .ref o]) ⟨hx, hb, hml, hown, hts⟩ (w_L_limitWanted l hl9 E _ z0 a mc n now lim F lit fo hO o fn k hk) (vx_cwSW 3 hts gL_law_L_limitWanted rfl rfl rfl (by decide +kernel) ⟨Nat.le_of_ble_eq_true rfl, Nat.le_of_ble_eq_true rfl⟩) hP hK hD hZ hT hS hA rfl hl.1 rfl (Nat.le_of_ble_eq_true rfl) dL_law_1660 ⟨by show cells + 0 ≤ 601024; omega, by show slots + 0 ≤ 7293034; omega⟩ (fun r1 u1 H locs hr1 hP hD hS => ?_)
  subst hr1
  have hP : va_P E.1 vwCl (wG E (wC E a mc n now lim (LF F lit fo)) o (vp_updL fn 0 (((nI (mxD F now n k))).toInt64)) (wM E bb (th) n lim F (NW now F) kp)) _ := hP
  have hD : va_D A (wG E (wC E a mc n now lim (LF F lit fo)) o (vp_updL fn 0 (((nI (mxD F now n k))).toInt64)) (wM E bb (th) n lim F (NW now F) kp)) := hD
  refine lv_istore (lv' := [(5, .int (nI 0)), (0, .ref b), (1, .ref (a 0)), (2, .ref (bb 0)), (3, .ref o), (4, .int (nI i))]) hx hb dL_law_1663 hl (by decide) rfl (fun ls hl => ?_)
  refine lv_aload_n hx hb dL_law_1665 rfl (lv_at hl 3 rfl) ?_
  refine lv_aload_n hx hb dL_law_1666 rfl (lv_at hl 1 rfl) ?_
  refine lv_iload hx hb dL_law_1667 (lv_at hl 5 rfl) ?_
  refine lv_iconst (v := (nI 1)) hx hb dL_law_1669 (by decide) ?_
  refine nq_add hx hb dL_law_1670 ?_
  refine va_sld hx hb hX hbl hbA hS (i := nI (i + 1)) (by exact vp_in_nI (by omega) (by omega)) dL_law_1671 ?_
  refine nq_top (show xs ((nI (i + 1)).toNatClampNeg) = (nI k) from by rw [nI_clamp (by omega)]; exact e1) ?_
  refine lawM_i (S := Unit) (W1 := fun kQ => wM E bb (nI 0) n lim F (NW now F) (va_cpy (NW now F) kp 0 0 17)) (rest := []) (As := [.int (nI k)]) ⟨hx, hb, hml, hown, hts⟩ (c_X2_limitWanted l E _ bb th n lim now F kp hO k hk (by omega)) (cwV 1 hts gL_law_X2_limitWanted rfl rfl rfl (by decide +kernel) ⟨Nat.le_of_ble_eq_true rfl, Nat.le_of_ble_eq_true rfl⟩) (va_recv hK hP (ci := 3) (q0 := (wC E a mc n now lim (LF F lit fo)).length + 1) rfl wG_m0) hP hK hD hS hA rfl hl.1 rfl (Nat.le_of_ble_eq_true rfl) dL_law_1672 ⟨by show cells + 0 + 0 ≤ 601024; omega, by show slots + 0 + 0 ≤ 7293034; omega⟩ (fun r2 u2 H locs hr2 hP hD hS => ?_)
  subst hr2
  have hP : va_P E.1 vwCl (wG E (wC E a mc n now lim (LF F lit fo)) o (vp_updL fn 0 (((nI (mxD F now n k))).toInt64)) (wM E bb (nI 0) n lim F (NW now F) (va_cpy (NW now F) kp 0 0 17))) _ := hP
  have hD : va_D A (wG E (wC E a mc n now lim (LF F lit fo)) o (vp_updL fn 0 (((nI (mxD F now n k))).toInt64)) (wM E bb (nI 0) n lim F (NW now F) (va_cpy (NW now F) kp 0 0 17))) := hD
  refine nq_top (show nI (mxA F 99 now n k) = nI (mxD F now n k) from congrArg nI (mxA_99 hO now k)) ?_
  refine lv_istore (lv' := [(6, .int (nI (mxD F now n k))), (5, .int (nI 0)), (0, .ref b), (1, .ref (a 0)), (2, .ref (bb 0)), (3, .ref o), (4, .int (nI i))]) hx hb dL_law_1675 hl (by decide) rfl (fun ls hl => ?_)
  refine lv_aload_n hx hb dL_law_1677 rfl (lv_at hl 4 rfl) ?_
  refine lawM_i (S := Unit) (W1 := fun kQ => wM E bb (nI 0) n lim F (NW now F) (va_cpy (NW now F) kp 0 0 17)) (rest := []) (As := []) ⟨hx, hb, hml, hown, hts⟩ (c_X2_thrown l E _ bb (nI 0) n lim now F (va_cpy (NW now F) kp 0 0 17)) (cwV 0 hts gL_law_X2_thrown rfl rfl rfl (by decide +kernel) ⟨Nat.le_of_ble_eq_true rfl, Nat.le_of_ble_eq_true rfl⟩) (va_recv hK hP (ci := 3) (q0 := (wC E a mc n now lim (LF F lit fo)).length + 1) rfl wG_m0) hP hK hD hS hA rfl hl.1 rfl (Nat.le_of_ble_eq_true rfl) dL_law_1678 ⟨by show cells + 0 + 0 + 0 ≤ 601024; omega, by show slots + 0 + 0 + 0 ≤ 7293034; omega⟩ (fun r3 u3 H locs hr3 hP hD hS => ?_)
  subst hr3
  have hP : va_P E.1 vwCl (wG E (wC E a mc n now lim (LF F lit fo)) o (vp_updL fn 0 (((nI (mxD F now n k))).toInt64)) (wM E bb (nI 0) n lim F (NW now F) (va_cpy (NW now F) kp 0 0 17))) _ := hP
  have hD : va_D A (wG E (wC E a mc n now lim (LF F lit fo)) o (vp_updL fn 0 (((nI (mxD F now n k))).toInt64)) (wM E bb (nI 0) n lim F (NW now F) (va_cpy (NW now F) kp 0 0 17))) := hD
  refine lv_iload hx hb dL_law_1681 (lv_at hl 1 rfl) ?_
  refine nq_icmp_eq (tgt := 1688) hx hb dL_law_1683 (by decide) (by omega) (by omega) (fun h1683 => ?_) (fun h1683 => ?_)
  · skip
    refine lv_iload hx hb dL_law_1688 (lv_at hl 1 rfl) ?_
    refine nq_if_ne (tgt := 1705) hx hb dL_law_1690 (by decide) (by decide) (fun h1690 => ?_) (fun h1690 => ?_)
    · skip
      exact absurd h1690 (by decide)
    · skip
      refine lv_aload_n hx hb dL_law_1693 rfl (lv_at hl 5 rfl) ?_
      refine lv_iconst (v := (nI 0)) hx hb dL_law_1694 (by decide) ?_
      refine va_lald hx hb hK hP (wC E a mc n now lim (LF F lit fo)).length 2 wG_o rfl (i := nI 0) (by exact vp_in_nI (by omega) (by omega)) dL_law_1695 ?_
      refine nq_topl (show (vp_updL fn 0 (((nI (mxD F now n k))).toInt64)) ((nI 0).toNatClampNeg) = ((nI (mxD F now n k))).toInt64 from by rw [nI_clamp (by omega)]; exact if_pos rfl) ?_
      refine lv_iload hx hb dL_law_1696 (lv_at hl 0 rfl) ?_
      refine lv_i2l (v := (nI (mxD F now n k)).toInt64) hx hb dL_law_1698 (rfl) ?_
      refine nq_topl (show (nI (mxD F now n k)).toInt64 = ((nI (mxD F now n k))).toInt64 from by first | rfl | (rw [h1690]; rfl)) ?_
      refine W.lcmp hx hb dL_law_1699 ?_
      refine lv_if_eq (tgt := 1705) hx hb dL_law_1700 (by decide) (fun h1700 => ?_) (fun h1700 => ?_)
      · skip
        refine lv_goto (tgt := 1763) hx hb dL_law_1705 (by decide) ?_
        exact KK a mc n now lim F lit fo (vp_updL fn 0 (((nI (mxD F now n k))).toInt64)) bb (nI 0) (va_cpy (NW now F) kp 0 0 17) _ _ _ _ _ ⟨hO, by omega, hz, by omega, by omega, hP, hD, hS, (lv_sub hl [2, 3, 4, 5, 6] rfl)⟩
      · skip
        exact absurd (lg_self _) h1700
  · skip
    exact absurd rfl h1683

set_option maxHeartbeats 4000000 in
set_option maxRecDepth 100000 in
theorem law_limitWanted_x {p : Program} {l : Launch} {e : Env} {s : State} {m : MethodId} {b : Nat} {below : List Frame} {meth : Method} {c : Code} {E : GE} {A : Nat → Prop} {z0 L o i j : Nat} {xs : Nat → Int32} {Q : State → Prop} (CC : LC p l s m b c E A z0 L xs) (hL9 : L ≤ 2560) (hi9 : i + 5 ≤ L) (hj9 : j ≤ 511) (KK : LK p l e s m b below meth c E A z0 o Q 1763 i (j + 1)) (a : Nat → Nat) (mc : Int32) (n now lim : Nat) (F : LR) (lit : Nat → Bool) (fo : Nat → Nat) (fn : Nat → Int64) (bb : Nat → Nat) (th : Int32) (kp : Nat → Int32) (H : Heap) (locs : List Loc) (ls : Array Slot) (cells slots : Nat) (hst : LSt E A s b z0 i j a mc n now lim F lit fo o fn bb th kp H locs ls cells slots) (x : Int32) (hx9 : inB x (nI 1) (nI 200) = false) (e1 : xs (i + 1) = x) : W p l e room_1 s m #[Value.ref b] below meth c H locs cells slots Q (F0 m 1652 ls []) := by
  obtain ⟨hx, hb, hml, hown, hts, hK, hZ, hT, hA, hbA, hX, hbl, hl9⟩ := CC
  obtain ⟨hO, hnw, hz, hcl, hsl, hP, hD, hS, hl⟩ := hst
  refine lv_aload_n hx hb dL_law_1652 rfl (lv_at hl 1 rfl) ?_
  refine lv_aload_n hx hb dL_law_1653 rfl (lv_at hl 0 rfl) ?_
  refine lv_iload hx hb dL_law_1654 (lv_at hl 4 rfl) ?_
  refine lv_iconst (v := (nI 1)) hx hb dL_law_1656 (by decide) ?_
  refine nq_add hx hb dL_law_1657 ?_
  refine va_sld hx hb hX hbl hbA hS (i := nI (i + 1)) (by exact vp_in_nI (by omega) (by omega)) dL_law_1658 ?_
  refine nq_top (show xs ((nI (i + 1)).toNatClampNeg) = x from by rw [nI_clamp (by omega)]; exact e1) ?_
  refine lv_aload_n hx hb dL_law_1659 rfl (lv_at hl 3 rfl) ?_
  refine lawS (S := Unit) (W1 := fun uQ => wC E a mc n now lim (LF F lit fo)) (f1 := fun uQ => fn) (rest := []) (As := [.ref (a 0), .int x, .ref o]) ⟨hx, hb, hml, hown, hts⟩ (w_L_limitWanted_x l hl9 E _ z0 a mc n now lim F lit fo hO o fn x hx9) (vx_cwSW 3 hts gL_law_L_limitWanted rfl rfl rfl (by decide +kernel) ⟨Nat.le_of_ble_eq_true rfl, Nat.le_of_ble_eq_true rfl⟩) hP hK hD hZ hT hS hA rfl hl.1 rfl (Nat.le_of_ble_eq_true rfl) dL_law_1660 ⟨by show cells + 1 ≤ 601024; omega, by show slots + 6 ≤ 7293034; omega⟩ (fun r1 u1 H locs hr1 hP hD hS => ?_)
  subst hr1
  have hP : va_P E.1 vwCl (wG E (wC E a mc n now lim (LF F lit fo)) o (fn) (wM E bb (th) n lim F (NW now F) kp)) _ := hP
  have hD : va_D A (wG E (wC E a mc n now lim (LF F lit fo)) o (fn) (wM E bb (th) n lim F (NW now F) kp)) := hD
  refine lv_istore (lv' := [(5, .int (nI 1)), (0, .ref b), (1, .ref (a 0)), (2, .ref (bb 0)), (3, .ref o), (4, .int (nI i))]) hx hb dL_law_1663 hl (by decide) rfl (fun ls hl => ?_)
  refine lv_aload_n hx hb dL_law_1665 rfl (lv_at hl 3 rfl) ?_
  refine lv_aload_n hx hb dL_law_1666 rfl (lv_at hl 1 rfl) ?_
  refine lv_iload hx hb dL_law_1667 (lv_at hl 5 rfl) ?_
  refine lv_iconst (v := (nI 1)) hx hb dL_law_1669 (by decide) ?_
  refine nq_add hx hb dL_law_1670 ?_
  refine va_sld hx hb hX hbl hbA hS (i := nI (i + 1)) (by exact vp_in_nI (by omega) (by omega)) dL_law_1671 ?_
  refine nq_top (show xs ((nI (i + 1)).toNatClampNeg) = x from by rw [nI_clamp (by omega)]; exact e1) ?_
  refine lawM_i (S := Unit) (W1 := fun kQ => wM E bb (nI 1) n lim F (NW now F) kp) (rest := []) (As := [.int x]) ⟨hx, hb, hml, hown, hts⟩ (c_X2_limitWanted_x l E _ bb th n lim now F kp hO x hx9) (cwV 1 hts gL_law_X2_limitWanted rfl rfl rfl (by decide +kernel) ⟨Nat.le_of_ble_eq_true rfl, Nat.le_of_ble_eq_true rfl⟩) (va_recv hK hP (ci := 3) (q0 := (wC E a mc n now lim (LF F lit fo)).length + 1) rfl wG_m0) hP hK hD hS hA rfl hl.1 rfl (Nat.le_of_ble_eq_true rfl) dL_law_1672 ⟨by show cells + 1 + 0 ≤ 601024; omega, by show slots + 6 + 0 ≤ 7293034; omega⟩ (fun r2 u2 H locs hr2 hP hD hS => ?_)
  subst hr2
  have hP : va_P E.1 vwCl (wG E (wC E a mc n now lim (LF F lit fo)) o (fn) (wM E bb (nI 1) n lim F (NW now F) kp)) _ := hP
  have hD : va_D A (wG E (wC E a mc n now lim (LF F lit fo)) o (fn) (wM E bb (nI 1) n lim F (NW now F) kp)) := hD
  refine lv_istore (lv' := [(6, .int (nI 0)), (5, .int (nI 1)), (0, .ref b), (1, .ref (a 0)), (2, .ref (bb 0)), (3, .ref o), (4, .int (nI i))]) hx hb dL_law_1675 hl (by decide) rfl (fun ls hl => ?_)
  refine lv_aload_n hx hb dL_law_1677 rfl (lv_at hl 4 rfl) ?_
  refine lawM_i (S := Unit) (W1 := fun kQ => wM E bb (nI 1) n lim F (NW now F) kp) (rest := []) (As := []) ⟨hx, hb, hml, hown, hts⟩ (c_X2_thrown l E _ bb (nI 1) n lim now F kp) (cwV 0 hts gL_law_X2_thrown rfl rfl rfl (by decide +kernel) ⟨Nat.le_of_ble_eq_true rfl, Nat.le_of_ble_eq_true rfl⟩) (va_recv hK hP (ci := 3) (q0 := (wC E a mc n now lim (LF F lit fo)).length + 1) rfl wG_m0) hP hK hD hS hA rfl hl.1 rfl (Nat.le_of_ble_eq_true rfl) dL_law_1678 ⟨by show cells + 1 + 0 + 0 ≤ 601024; omega, by show slots + 6 + 0 + 0 ≤ 7293034; omega⟩ (fun r3 u3 H locs hr3 hP hD hS => ?_)
  subst hr3
  have hP : va_P E.1 vwCl (wG E (wC E a mc n now lim (LF F lit fo)) o (fn) (wM E bb (nI 1) n lim F (NW now F) kp)) _ := hP
  have hD : va_D A (wG E (wC E a mc n now lim (LF F lit fo)) o (fn) (wM E bb (nI 1) n lim F (NW now F) kp)) := hD
  refine lv_iload hx hb dL_law_1681 (lv_at hl 1 rfl) ?_
  refine nq_icmp_eq (tgt := 1688) hx hb dL_law_1683 (by decide) (by omega) (by omega) (fun h1683 => ?_) (fun h1683 => ?_)
  · skip
    refine lv_iload hx hb dL_law_1688 (lv_at hl 1 rfl) ?_
    refine nq_if_ne (tgt := 1705) hx hb dL_law_1690 (by decide) (by decide) (fun h1690 => ?_) (fun h1690 => ?_)
    · skip
      refine lv_goto (tgt := 1763) hx hb dL_law_1705 (by decide) ?_
      exact KK a mc n now lim F lit fo fn bb (nI 1) kp _ _ _ _ _ ⟨hO, by omega, hz, by omega, by omega, hP, hD, hS, (lv_sub hl [2, 3, 4, 5, 6] rfl)⟩
    · skip
      exact absurd h1690 (by decide)
  · skip
    exact absurd rfl h1683

set_option maxHeartbeats 4000000 in
set_option maxRecDepth 100000 in
theorem law_meanShone {p : Program} {l : Launch} {e : Env} {s : State} {m : MethodId} {b : Nat} {below : List Frame} {meth : Method} {c : Code} {E : GE} {A : Nat → Prop} {z0 L o i j : Nat} {xs : Nat → Int32} {Q : State → Prop} (CC : LC p l s m b c E A z0 L xs) (hL9 : L ≤ 2560) (hi9 : i + 5 ≤ L) (hj9 : j ≤ 511) (KK : LK p l e s m b below meth c E A z0 o Q 1763 i (j + 1)) (a : Nat → Nat) (mc : Int32) (n now lim : Nat) (F : LR) (lit : Nat → Bool) (fo : Nat → Nat) (fn : Nat → Int64) (bb : Nat → Nat) (th : Int32) (kp : Nat → Int32) (H : Heap) (locs : List Loc) (ls : Array Slot) (cells slots : Nat) (hst : LSt E A s b z0 i j a mc n now lim F lit fo o fn bb th kp H locs ls cells slots) : W p l e room_1 s m #[Value.ref b] below meth c H locs cells slots Q (F0 m 1708 ls []) := by
  obtain ⟨hx, hb, hml, hown, hts, hK, hZ, hT, hA, hbA, hX, hbl, hl9⟩ := CC
  obtain ⟨hO, hnw, hz, hcl, hsl, hP, hD, hS, hl⟩ := hst
  refine lv_aload_n hx hb dL_law_1708 rfl (lv_at hl 1 rfl) ?_
  refine lawC_d (S := Unit) (W1 := fun uQ => wC E a mc n now lim (LF F lit fo)) (rest := []) (As := []) ⟨hx, hb, hml, hown, hts⟩ (c_X1_meanShone l E _ a mc n now lim F lit fo hO ) (cwV 0 hts gL_law_X1_meanShone rfl rfl rfl (by decide +kernel) ⟨Nat.le_of_ble_eq_true rfl, Nat.le_of_ble_eq_true rfl⟩) (va_recv hK hP (ci := 2) (q0 := 0) rfl (list_app wC_x)) hP hK hD hS hA rfl hl.1 rfl (Nat.le_of_ble_eq_true rfl) dL_law_1709 ⟨by show cells + 0 ≤ 601024; omega, by show slots + 0 ≤ 7293034; omega⟩ (fun r1 u1 H locs hr1 hP hD hS => ?_)
  subst hr1
  have hP : va_P E.1 vwCl (wG E (wC E a mc n now lim (LF F lit fo)) o (fn) (wM E bb (th) n lim F (NW now F) kp)) _ := hP
  have hD : va_D A (wG E (wC E a mc n now lim (LF F lit fo)) o (fn) (wM E bb (th) n lim F (NW now F) kp)) := hD
  refine lv_dstore (lv' := [(5, .double (mnD F n)), (0, .ref b), (1, .ref (a 0)), (2, .ref (bb 0)), (3, .ref o), (4, .int (nI i))]) hx hb dL_law_1712 hl (by decide) rfl (fun ls hl => ?_)
  refine lv_aload_n hx hb dL_law_1714 rfl (lv_at hl 3 rfl) ?_
  refine lawM_d (S := Unit) (W1 := fun kQ => wM E bb (nI 0) n lim F (NW now F) kp) (rest := []) (As := []) ⟨hx, hb, hml, hown, hts⟩ (c_X2_meanShone l E _ bb th n lim now F kp hO ) (cwV 0 hts gL_law_X2_meanShone rfl rfl rfl (by decide +kernel) ⟨Nat.le_of_ble_eq_true rfl, Nat.le_of_ble_eq_true rfl⟩) (va_recv hK hP (ci := 3) (q0 := (wC E a mc n now lim (LF F lit fo)).length + 1) rfl wG_m0) hP hK hD hS hA rfl hl.1 rfl (Nat.le_of_ble_eq_true rfl) dL_law_1715 ⟨by show cells + 0 + 0 ≤ 601024; omega, by show slots + 0 + 0 ≤ 7293034; omega⟩ (fun r2 u2 H locs hr2 hP hD hS => ?_)
  subst hr2
  have hP : va_P E.1 vwCl (wG E (wC E a mc n now lim (LF F lit fo)) o (fn) (wM E bb (nI 0) n lim F (NW now F) kp)) _ := hP
  have hD : va_D A (wG E (wC E a mc n now lim (LF F lit fo)) o (fn) (wM E bb (nI 0) n lim F (NW now F) kp)) := hD
  refine lv_dstore (lv' := [(7, .double (mnD F n)), (5, .double (mnD F n)), (0, .ref b), (1, .ref (a 0)), (2, .ref (bb 0)), (3, .ref o), (4, .int (nI i))]) hx hb dL_law_1718 hl (by decide) rfl (fun ls hl => ?_)
  refine lv_dload hx hb dL_law_1720 (lv_at hl 1 rfl) ?_
  refine lv_dload hx hb dL_law_1722 (lv_at hl 0 rfl) ?_
  refine lv_dcmp hx hb dL_law_1724 ?_
  refine lv_if_eq (tgt := 1746) hx hb dL_law_1725 (by decide) (fun h1725 => ?_) (fun h1725 => ?_)
  · skip
    refine lv_goto (tgt := 1763) hx hb dL_law_1746 (by decide) ?_
    exact KK a mc n now lim F lit fo fn bb (nI 0) kp _ _ _ _ _ ⟨hO, by omega, hz, by omega, by omega, hP, hD, hS, (lv_sub hl [2, 3, 4, 5, 6] rfl)⟩
  · skip
    refine lv_dload hx hb dL_law_1728 (lv_at hl 1 rfl) ?_
    refine lv_dload hx hb dL_law_1730 (lv_at hl 1 rfl) ?_
    refine lv_dcmp hx hb dL_law_1732 ?_
    refine lv_if_eq (tgt := 1744) hx hb dL_law_1733 (by decide) (fun h1733 => ?_) (fun h1733 => ?_)
    · skip
      exact absurd h1733 h1725
    · skip
      refine lv_dload hx hb dL_law_1736 (lv_at hl 0 rfl) ?_
      refine lv_dload hx hb dL_law_1738 (lv_at hl 0 rfl) ?_
      refine lv_dcmp hx hb dL_law_1740 ?_
      refine lv_if_ne (tgt := 1746) hx hb dL_law_1741 (by decide) (fun h1741 => ?_) (fun h1741 => ?_)
      · skip
        refine lv_goto (tgt := 1763) hx hb dL_law_1746 (by decide) ?_
        exact KK a mc n now lim F lit fo fn bb (nI 0) kp _ _ _ _ _ ⟨hO, by omega, hz, by omega, by omega, hP, hD, hS, (lv_sub hl [2, 3, 4, 5, 6] rfl)⟩
      · skip
        exact absurd h1741 h1725

set_option maxHeartbeats 4000000 in
set_option maxRecDepth 100000 in
theorem law_digest {p : Program} {l : Launch} {e : Env} {s : State} {m : MethodId} {b : Nat} {below : List Frame} {meth : Method} {c : Code} {E : GE} {A : Nat → Prop} {z0 L o i j : Nat} {xs : Nat → Int32} {Q : State → Prop} (CC : LC p l s m b c E A z0 L xs) (hL9 : L ≤ 2560) (hi9 : i + 5 ≤ L) (hj9 : j ≤ 511) (KK : LK p l e s m b below meth c E A z0 o Q 1763 i (j + 1)) (a : Nat → Nat) (mc : Int32) (n now lim : Nat) (F : LR) (lit : Nat → Bool) (fo : Nat → Nat) (fn : Nat → Int64) (bb : Nat → Nat) (th : Int32) (kp : Nat → Int32) (H : Heap) (locs : List Loc) (ls : Array Slot) (cells slots : Nat) (hst : LSt E A s b z0 i j a mc n now lim F lit fo o fn bb th kp H locs ls cells slots) : W p l e room_1 s m #[Value.ref b] below meth c H locs cells slots Q (F0 m 1749 ls []) := by
  obtain ⟨hx, hb, hml, hown, hts, hK, hZ, hT, hA, hbA, hX, hbl, hl9⟩ := CC
  obtain ⟨hO, hnw, hz, hcl, hsl, hP, hD, hS, hl⟩ := hst
  refine lv_aload_n hx hb dL_law_1749 rfl (lv_at hl 1 rfl) ?_
  refine lawC_l (S := (Nat → Bool) × (Nat → Nat)) (W1 := fun uQ => wC E a mc n now lim (LF F uQ.1 uQ.2)) (rest := []) (As := []) ⟨hx, hb, hml, hown, hts⟩ (c_X1_digest l E _ a mc n now lim F lit fo hO (by omega)) (cwV 0 hts gL_law_X1_digest rfl rfl rfl (by decide +kernel) ⟨Nat.le_of_ble_eq_true rfl, Nat.le_of_ble_eq_true rfl⟩) (va_recv hK hP (ci := 2) (q0 := 0) rfl (list_app wC_x)) hP hK hD hS hA rfl hl.1 rfl (Nat.le_of_ble_eq_true rfl) dL_law_1750 ⟨by show cells + 0 ≤ 601024; omega, by show slots + 0 ≤ 7293034; omega⟩ (fun r1 u1 H locs hr1 hP hD hS => ?_)
  subst hr1
  have hP : va_P E.1 vwCl (wG E (wC E a mc n now lim (LF F u1.1 u1.2)) o (fn) (wM E bb (th) n lim F (NW now F) kp)) _ := hP
  have hD : va_D A (wG E (wC E a mc n now lim (LF F u1.1 u1.2)) o (fn) (wM E bb (th) n lim F (NW now F) kp)) := hD
  refine lv_aload_n hx hb dL_law_1753 rfl (lv_at hl 2 rfl) ?_
  refine lawM_l (S := Nat → Int32) (W1 := fun kQ => wM E bb (nI 0) n lim F (NW now F) kQ) (rest := [.long (digS F n now lim)]) (As := []) ⟨hx, hb, hml, hown, hts⟩ (c_X2_digest l E _ bb th n lim now F kp hO (by omega)) (cwV 0 hts gL_law_X2_digest rfl rfl rfl (by decide +kernel) ⟨Nat.le_of_ble_eq_true rfl, Nat.le_of_ble_eq_true rfl⟩) (va_recv hK hP (ci := 3) (q0 := (wC E a mc n now lim (LF F u1.1 u1.2)).length + 1) rfl wG_m0) hP hK hD hS hA rfl hl.1 rfl (Nat.le_of_ble_eq_true rfl) dL_law_1754 ⟨by show cells + 0 + 10 ≤ 601024; omega, by show slots + 0 + 73 ≤ 7293034; omega⟩ (fun r2 u2 H locs hr2 hP hD hS => ?_)
  subst hr2
  have hP : va_P E.1 vwCl (wG E (wC E a mc n now lim (LF F u1.1 u1.2)) o (fn) (wM E bb (nI 0) n lim F (NW now F) u2)) _ := hP
  have hD : va_D A (wG E (wC E a mc n now lim (LF F u1.1 u1.2)) o (fn) (wM E bb (nI 0) n lim F (NW now F) u2)) := hD
  refine W.lcmp hx hb dL_law_1757 ?_
  refine lv_if_eq (tgt := 1763) hx hb dL_law_1758 (by decide) (fun h1758 => ?_) (fun h1758 => ?_)
  · skip
    exact KK a mc n now lim F u1.1 u1.2 fn bb (nI 0) u2 _ _ _ _ _ ⟨hO, by omega, hz, by omega, by omega, hP, hD, hS, (lv_sub hl [0, 1, 2, 3, 4] rfl)⟩
  · skip
    exact absurd (lg_self _) h1758

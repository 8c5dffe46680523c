/-! the law, call by call -/
set_option maxHeartbeats 4000000 in
set_option maxRecDepth 100000 in
theorem law_seen {p : Program} {l : Launch} {e : Env} {s : State} {m : MethodId} {b : Nat} {below : List Frame} {meth : Method} {c : Code} {E : GE} {A : Nat → Prop} {z0 L o i j : Nat} {xs : Nat → Int32} {Q : State → Prop} (CC : LC p l s m b c E A z0 L xs) (hL9 : L ≤ 2560) (hi9 : i + 5 ≤ L) (hj9 : j ≤ 511) (KK : LK p l e s m b below meth c E A z0 o Q 1763 i (j + 1)) (a : Nat → Nat) (mc : Int32) (n now lim : Nat) (F : LR) (lit : Nat → Bool) (fo : Nat → Nat) (fn : Nat → Int64) (bb : Nat → Nat) (th : Int32) (kp : Nat → Int32) (H : Heap) (locs : List Loc) (ls : Array Slot) (cells slots : Nat) (hst : LSt E A s b z0 i j a mc n now lim F lit fo o fn bb th kp H locs ls cells slots) (k : Nat) (hk : k ≤ 5) (e1 : xs (i + 1) = (nI k)) : W p l e room_1 s m #[Value.ref b] below meth c H locs cells slots Q (F0 m 1053 ls []) := by
  obtain ⟨hx, hb, hml, hown, hts, hK, hZ, hT, hA, hbA, hX, hbl, hl9⟩ := CC
  obtain ⟨hO, hnw, hz, hcl, hsl, hP, hD, hS, hl⟩ := hst
  refine lv_aload_n hx hb dL_law_1053 rfl (lv_at hl 1 rfl) ?_
  refine lv_aload_n hx hb dL_law_1054 rfl (lv_at hl 0 rfl) ?_
  refine lv_iload hx hb dL_law_1055 (lv_at hl 4 rfl) ?_
  refine lv_iconst (v := (nI 1)) hx hb dL_law_1057 (by decide) ?_
  refine nq_add hx hb dL_law_1058 ?_
  refine va_sld hx hb hX hbl hbA hS (i := nI (i + 1)) (by exact vp_in_nI (by omega) (by omega)) dL_law_1059 ?_
  refine nq_top (show xs ((nI (i + 1)).toNatClampNeg) = (nI k) from by rw [nI_clamp (by omega)]; exact e1) ?_
  refine lv_aload_n hx hb dL_law_1060 rfl (lv_at hl 3 rfl) ?_
  refine lawS (S := Unit) (W1 := fun uQ => wC E a mc n now lim (LF F lit fo)) (f1 := fun uQ => vp_updL fn 0 (((nI (seenS F k n))).toInt64)) (rest := []) (As := [.ref (a 0), .int (nI k), .ref o]) ⟨hx, hb, hml, hown, hts⟩ (w_L_seen l hl9 E _ z0 a mc n now lim F lit fo hO o fn k hk) (vx_cwSW 3 hts gL_law_L_seen rfl rfl rfl (by decide +kernel) ⟨Nat.le_of_ble_eq_true rfl, Nat.le_of_ble_eq_true rfl⟩) hP hK hD hZ hT hS hA rfl hl.1 rfl (Nat.le_of_ble_eq_true rfl) dL_law_1061 ⟨by show cells + 0 ≤ 601024; omega, by show slots + 0 ≤ 7293034; omega⟩ (fun r1 u1 H locs hr1 hP hD hS => ?_)
  subst hr1
  have hP : va_P E.1 vwCl (wG E (wC E a mc n now lim (LF F lit fo)) o (vp_updL fn 0 (((nI (seenS F k n))).toInt64)) (wM E bb (th) n lim F (NW now F) kp)) _ := hP
  have hD : va_D A (wG E (wC E a mc n now lim (LF F lit fo)) o (vp_updL fn 0 (((nI (seenS F k n))).toInt64)) (wM E bb (th) n lim F (NW now F) kp)) := hD
  refine lv_istore (lv' := [(5, .int (nI 0)), (0, .ref b), (1, .ref (a 0)), (2, .ref (bb 0)), (3, .ref o), (4, .int (nI i))]) hx hb dL_law_1064 hl (by decide) rfl (fun ls hl => ?_)
  refine lv_aload_n hx hb dL_law_1066 rfl (lv_at hl 3 rfl) ?_
  refine lv_aload_n hx hb dL_law_1067 rfl (lv_at hl 1 rfl) ?_
  refine lv_iload hx hb dL_law_1068 (lv_at hl 5 rfl) ?_
  refine lv_iconst (v := (nI 1)) hx hb dL_law_1070 (by decide) ?_
  refine nq_add hx hb dL_law_1071 ?_
  refine va_sld hx hb hX hbl hbA hS (i := nI (i + 1)) (by exact vp_in_nI (by omega) (by omega)) dL_law_1072 ?_
  refine nq_top (show xs ((nI (i + 1)).toNatClampNeg) = (nI k) from by rw [nI_clamp (by omega)]; exact e1) ?_
  refine lawM_i (S := Unit) (W1 := fun kQ => wM E bb (nI 0) n lim F (NW now F) kp) (rest := []) (As := [.int (nI k)]) ⟨hx, hb, hml, hown, hts⟩ (c_X2_seen l E _ bb th n lim now F kp hO k hk) (cwV 1 hts gL_law_X2_seen rfl rfl rfl (by decide +kernel) ⟨Nat.le_of_ble_eq_true rfl, Nat.le_of_ble_eq_true rfl⟩) (va_recv hK hP (ci := 3) (q0 := (wC E a mc n now lim (LF F lit fo)).length + 1) rfl wG_m0) hP hK hD hS hA rfl hl.1 rfl (Nat.le_of_ble_eq_true rfl) dL_law_1073 ⟨by show cells + 0 + 0 ≤ 601024; omega, by show slots + 0 + 0 ≤ 7293034; omega⟩ (fun r2 u2 H locs hr2 hP hD hS => ?_)
  subst hr2
  have hP : va_P E.1 vwCl (wG E (wC E a mc n now lim (LF F lit fo)) o (vp_updL fn 0 (((nI (seenS F k n))).toInt64)) (wM E bb (nI 0) n lim F (NW now F) kp)) _ := hP
  have hD : va_D A (wG E (wC E a mc n now lim (LF F lit fo)) o (vp_updL fn 0 (((nI (seenS F k n))).toInt64)) (wM E bb (nI 0) n lim F (NW now F) kp)) := hD
  refine lv_istore (lv' := [(6, .int (nI (seenS F k n))), (5, .int (nI 0)), (0, .ref b), (1, .ref (a 0)), (2, .ref (bb 0)), (3, .ref o), (4, .int (nI i))]) hx hb dL_law_1076 hl (by decide) rfl (fun ls hl => ?_)
  refine lv_aload_n hx hb dL_law_1078 rfl (lv_at hl 4 rfl) ?_
  refine lawM_i (S := Unit) (W1 := fun kQ => wM E bb (nI 0) n lim F (NW now F) kp) (rest := []) (As := []) ⟨hx, hb, hml, hown, hts⟩ (c_X2_thrown l E _ bb (nI 0) n lim now F kp) (cwV 0 hts gL_law_X2_thrown rfl rfl rfl (by decide +kernel) ⟨Nat.le_of_ble_eq_true rfl, Nat.le_of_ble_eq_true rfl⟩) (va_recv hK hP (ci := 3) (q0 := (wC E a mc n now lim (LF F lit fo)).length + 1) rfl wG_m0) hP hK hD hS hA rfl hl.1 rfl (Nat.le_of_ble_eq_true rfl) dL_law_1079 ⟨by show cells + 0 + 0 + 0 ≤ 601024; omega, by show slots + 0 + 0 + 0 ≤ 7293034; omega⟩ (fun r3 u3 H locs hr3 hP hD hS => ?_)
  subst hr3
  have hP : va_P E.1 vwCl (wG E (wC E a mc n now lim (LF F lit fo)) o (vp_updL fn 0 (((nI (seenS F k n))).toInt64)) (wM E bb (nI 0) n lim F (NW now F) kp)) _ := hP
  have hD : va_D A (wG E (wC E a mc n now lim (LF F lit fo)) o (vp_updL fn 0 (((nI (seenS F k n))).toInt64)) (wM E bb (nI 0) n lim F (NW now F) kp)) := hD
  refine lv_iload hx hb dL_law_1082 (lv_at hl 1 rfl) ?_
  refine nq_icmp_eq (tgt := 1089) hx hb dL_law_1084 (by decide) (by omega) (by omega) (fun h1084 => ?_) (fun h1084 => ?_)
  · skip
    refine lv_iload hx hb dL_law_1089 (lv_at hl 1 rfl) ?_
    refine nq_if_ne (tgt := 1106) hx hb dL_law_1091 (by decide) (by decide) (fun h1091 => ?_) (fun h1091 => ?_)
    · skip
      exact absurd h1091 (by decide)
    · skip
      refine lv_aload_n hx hb dL_law_1094 rfl (lv_at hl 5 rfl) ?_
      refine lv_iconst (v := (nI 0)) hx hb dL_law_1095 (by decide) ?_
      refine va_lald hx hb hK hP (wC E a mc n now lim (LF F lit fo)).length 2 wG_o rfl (i := nI 0) (by exact vp_in_nI (by omega) (by omega)) dL_law_1096 ?_
      refine nq_topl (show (vp_updL fn 0 (((nI (seenS F k n))).toInt64)) ((nI 0).toNatClampNeg) = ((nI (seenS F k n))).toInt64 from by rw [nI_clamp (by omega)]; exact if_pos rfl) ?_
      refine lv_iload hx hb dL_law_1097 (lv_at hl 0 rfl) ?_
      refine lv_i2l (v := (nI (seenS F k n)).toInt64) hx hb dL_law_1099 (rfl) ?_
      refine nq_topl (show (nI (seenS F k n)).toInt64 = ((nI (seenS F k n))).toInt64 from by first | rfl | (rw [h1091]; rfl)) ?_
      refine W.lcmp hx hb dL_law_1100 ?_
      refine lv_if_eq (tgt := 1106) hx hb dL_law_1101 (by decide) (fun h1101 => ?_) (fun h1101 => ?_)
      · skip
        refine lv_goto (tgt := 1763) hx hb dL_law_1106 (by decide) ?_
        exact KK a mc n now lim F lit fo (vp_updL fn 0 (((nI (seenS F k n))).toInt64)) bb (nI 0) kp _ _ _ _ _ ⟨hO, by omega, hz, by omega, by omega, hP, hD, hS, (lv_sub hl [2, 3, 4, 5, 6] rfl)⟩
      · skip
        exact absurd (lg_self _) h1101
  · skip
    exact absurd rfl h1084

set_option maxHeartbeats 4000000 in
set_option maxRecDepth 100000 in
theorem law_seen_x {p : Program} {l : Launch} {e : Env} {s : State} {m : MethodId} {b : Nat} {below : List Frame} {meth : Method} {c : Code} {E : GE} {A : Nat → Prop} {z0 L o i j : Nat} {xs : Nat → Int32} {Q : State → Prop} (CC : LC p l s m b c E A z0 L xs) (hL9 : L ≤ 2560) (hi9 : i + 5 ≤ L) (hj9 : j ≤ 511) (KK : LK p l e s m b below meth c E A z0 o Q 1763 i (j + 1)) (a : Nat → Nat) (mc : Int32) (n now lim : Nat) (F : LR) (lit : Nat → Bool) (fo : Nat → Nat) (fn : Nat → Int64) (bb : Nat → Nat) (th : Int32) (kp : Nat → Int32) (H : Heap) (locs : List Loc) (ls : Array Slot) (cells slots : Nat) (hst : LSt E A s b z0 i j a mc n now lim F lit fo o fn bb th kp H locs ls cells slots) (x : Int32) (hx9 : inB x (nI 0) (nI 5) = false) (e1 : xs (i + 1) = x) : W p l e room_1 s m #[Value.ref b] below meth c H locs cells slots Q (F0 m 1053 ls []) := by
  obtain ⟨hx, hb, hml, hown, hts, hK, hZ, hT, hA, hbA, hX, hbl, hl9⟩ := CC
  obtain ⟨hO, hnw, hz, hcl, hsl, hP, hD, hS, hl⟩ := hst
  refine lv_aload_n hx hb dL_law_1053 rfl (lv_at hl 1 rfl) ?_
  refine lv_aload_n hx hb dL_law_1054 rfl (lv_at hl 0 rfl) ?_
  refine lv_iload hx hb dL_law_1055 (lv_at hl 4 rfl) ?_
  refine lv_iconst (v := (nI 1)) hx hb dL_law_1057 (by decide) ?_
  refine nq_add hx hb dL_law_1058 ?_
  refine va_sld hx hb hX hbl hbA hS (i := nI (i + 1)) (by exact vp_in_nI (by omega) (by omega)) dL_law_1059 ?_
  refine nq_top (show xs ((nI (i + 1)).toNatClampNeg) = x from by rw [nI_clamp (by omega)]; exact e1) ?_
  refine lv_aload_n hx hb dL_law_1060 rfl (lv_at hl 3 rfl) ?_
  refine lawS (S := Unit) (W1 := fun uQ => wC E a mc n now lim (LF F lit fo)) (f1 := fun uQ => fn) (rest := []) (As := [.ref (a 0), .int x, .ref o]) ⟨hx, hb, hml, hown, hts⟩ (w_L_seen_x l hl9 E _ z0 a mc n now lim F lit fo hO o fn x hx9) (vx_cwSW 3 hts gL_law_L_seen rfl rfl rfl (by decide +kernel) ⟨Nat.le_of_ble_eq_true rfl, Nat.le_of_ble_eq_true rfl⟩) hP hK hD hZ hT hS hA rfl hl.1 rfl (Nat.le_of_ble_eq_true rfl) dL_law_1061 ⟨by show cells + 1 ≤ 601024; omega, by show slots + 6 ≤ 7293034; omega⟩ (fun r1 u1 H locs hr1 hP hD hS => ?_)
  subst hr1
  have hP : va_P E.1 vwCl (wG E (wC E a mc n now lim (LF F lit fo)) o (fn) (wM E bb (th) n lim F (NW now F) kp)) _ := hP
  have hD : va_D A (wG E (wC E a mc n now lim (LF F lit fo)) o (fn) (wM E bb (th) n lim F (NW now F) kp)) := hD
  refine lv_istore (lv' := [(5, .int (nI 1)), (0, .ref b), (1, .ref (a 0)), (2, .ref (bb 0)), (3, .ref o), (4, .int (nI i))]) hx hb dL_law_1064 hl (by decide) rfl (fun ls hl => ?_)
  refine lv_aload_n hx hb dL_law_1066 rfl (lv_at hl 3 rfl) ?_
  refine lv_aload_n hx hb dL_law_1067 rfl (lv_at hl 1 rfl) ?_
  refine lv_iload hx hb dL_law_1068 (lv_at hl 5 rfl) ?_
  refine lv_iconst (v := (nI 1)) hx hb dL_law_1070 (by decide) ?_
  refine nq_add hx hb dL_law_1071 ?_
  refine va_sld hx hb hX hbl hbA hS (i := nI (i + 1)) (by exact vp_in_nI (by omega) (by omega)) dL_law_1072 ?_
  refine nq_top (show xs ((nI (i + 1)).toNatClampNeg) = x from by rw [nI_clamp (by omega)]; exact e1) ?_
  refine lawM_i (S := Unit) (W1 := fun kQ => wM E bb (nI 1) n lim F (NW now F) kp) (rest := []) (As := [.int x]) ⟨hx, hb, hml, hown, hts⟩ (c_X2_seen_x l E _ bb th n lim now F kp hO x hx9) (cwV 1 hts gL_law_X2_seen rfl rfl rfl (by decide +kernel) ⟨Nat.le_of_ble_eq_true rfl, Nat.le_of_ble_eq_true rfl⟩) (va_recv hK hP (ci := 3) (q0 := (wC E a mc n now lim (LF F lit fo)).length + 1) rfl wG_m0) hP hK hD hS hA rfl hl.1 rfl (Nat.le_of_ble_eq_true rfl) dL_law_1073 ⟨by show cells + 1 + 0 ≤ 601024; omega, by show slots + 6 + 0 ≤ 7293034; omega⟩ (fun r2 u2 H locs hr2 hP hD hS => ?_)
  subst hr2
  have hP : va_P E.1 vwCl (wG E (wC E a mc n now lim (LF F lit fo)) o (fn) (wM E bb (nI 1) n lim F (NW now F) kp)) _ := hP
  have hD : va_D A (wG E (wC E a mc n now lim (LF F lit fo)) o (fn) (wM E bb (nI 1) n lim F (NW now F) kp)) := hD
  refine lv_istore (lv' := [(6, .int (nI 0)), (5, .int (nI 1)), (0, .ref b), (1, .ref (a 0)), (2, .ref (bb 0)), (3, .ref o), (4, .int (nI i))]) hx hb dL_law_1076 hl (by decide) rfl (fun ls hl => ?_)
  refine lv_aload_n hx hb dL_law_1078 rfl (lv_at hl 4 rfl) ?_
  refine lawM_i (S := Unit) (W1 := fun kQ => wM E bb (nI 1) n lim F (NW now F) kp) (rest := []) (As := []) ⟨hx, hb, hml, hown, hts⟩ (c_X2_thrown l E _ bb (nI 1) n lim now F kp) (cwV 0 hts gL_law_X2_thrown rfl rfl rfl (by decide +kernel) ⟨Nat.le_of_ble_eq_true rfl, Nat.le_of_ble_eq_true rfl⟩) (va_recv hK hP (ci := 3) (q0 := (wC E a mc n now lim (LF F lit fo)).length + 1) rfl wG_m0) hP hK hD hS hA rfl hl.1 rfl (Nat.le_of_ble_eq_true rfl) dL_law_1079 ⟨by show cells + 1 + 0 + 0 ≤ 601024; omega, by show slots + 6 + 0 + 0 ≤ 7293034; omega⟩ (fun r3 u3 H locs hr3 hP hD hS => ?_)
  subst hr3
  have hP : va_P E.1 vwCl (wG E (wC E a mc n now lim (LF F lit fo)) o (fn) (wM E bb (nI 1) n lim F (NW now F) kp)) _ := hP
  have hD : va_D A (wG E (wC E a mc n now lim (LF F lit fo)) o (fn) (wM E bb (nI 1) n lim F (NW now F) kp)) := hD
  refine lv_iload hx hb dL_law_1082 (lv_at hl 1 rfl) ?_
  refine nq_icmp_eq (tgt := 1089) hx hb dL_law_1084 (by decide) (by omega) (by omega) (fun h1084 => ?_) (fun h1084 => ?_)
  · skip
    refine lv_iload hx hb dL_law_1089 (lv_at hl 1 rfl) ?_
    refine nq_if_ne (tgt := 1106) hx hb dL_law_1091 (by decide) (by decide) (fun h1091 => ?_) (fun h1091 => ?_)
    · skip
      refine lv_goto (tgt := 1763) hx hb dL_law_1106 (by decide) ?_
      exact KK a mc n now lim F lit fo fn bb (nI 1) kp _ _ _ _ _ ⟨hO, by omega, hz, by omega, by omega, hP, hD, hS, (lv_sub hl [2, 3, 4, 5, 6] rfl)⟩
    · skip
      exact absurd h1091 (by decide)
  · skip
    exact absurd rfl h1084

set_option maxHeartbeats 4000000 in
set_option maxRecDepth 100000 in
theorem law_unfairness {p : Program} {l : Launch} {e : Env} {s : State} {m : MethodId} {b : Nat} {below : List Frame} {meth : Method} {c : Code} {E : GE} {A : Nat → Prop} {z0 L o i j : Nat} {xs : Nat → Int32} {Q : State → Prop} (CC : LC p l s m b c E A z0 L xs) (hL9 : L ≤ 2560) (hi9 : i + 5 ≤ L) (hj9 : j ≤ 511) (KK : LK p l e s m b below meth c E A z0 o Q 1763 i (j + 1)) (a : Nat → Nat) (mc : Int32) (n now lim : Nat) (F : LR) (lit : Nat → Bool) (fo : Nat → Nat) (fn : Nat → Int64) (bb : Nat → Nat) (th : Int32) (kp : Nat → Int32) (H : Heap) (locs : List Loc) (ls : Array Slot) (cells slots : Nat) (hst : LSt E A s b z0 i j a mc n now lim F lit fo o fn bb th kp H locs ls cells slots) : W p l e room_1 s m #[Value.ref b] below meth c H locs cells slots Q (F0 m 1109 ls []) := by
  obtain ⟨hx, hb, hml, hown, hts, hK, hZ, hT, hA, hbA, hX, hbl, hl9⟩ := CC
  obtain ⟨hO, hnw, hz, hcl, hsl, hP, hD, hS, hl⟩ := hst
  refine lv_aload_n hx hb dL_law_1109 rfl (lv_at hl 1 rfl) ?_
  refine lawC_i (S := (Nat → Bool) × (Nat → Nat)) (W1 := fun uQ => wC E a mc n now lim (LF F uQ.1 uQ.2)) (rest := []) (As := []) ⟨hx, hb, hml, hown, hts⟩ (c_X1_unfairness l E _ a mc n now lim F lit fo hO (by omega)) (cwV 0 hts gL_law_X1_unfairness rfl rfl rfl (by decide +kernel) ⟨Nat.le_of_ble_eq_true rfl, Nat.le_of_ble_eq_true rfl⟩) (va_recv hK hP (ci := 2) (q0 := 0) rfl (list_app wC_x)) hP hK hD hS hA rfl hl.1 rfl (Nat.le_of_ble_eq_true rfl) dL_law_1110 ⟨by show cells + 0 ≤ 601024; omega, by show slots + 0 ≤ 7293034; omega⟩ (fun r1 u1 H locs hr1 hP hD hS => ?_)
  subst hr1
  have hP : va_P E.1 vwCl (wG E (wC E a mc n now lim (LF F u1.1 u1.2)) o (fn) (wM E bb (th) n lim F (NW now F) kp)) _ := hP
  have hD : va_D A (wG E (wC E a mc n now lim (LF F u1.1 u1.2)) o (fn) (wM E bb (th) n lim F (NW now F) kp)) := hD
  refine lv_aload_n hx hb dL_law_1113 rfl (lv_at hl 2 rfl) ?_
  refine lawM_i (S := Unit) (W1 := fun kQ => wM E bb (nI 0) n lim F (NW now F) kp) (rest := [.int (nI (unfS F n))]) (As := []) ⟨hx, hb, hml, hown, hts⟩ (c_X2_unfairness l E _ bb th n lim now F kp hO ) (cwV 0 hts gL_law_X2_unfairness rfl rfl rfl (by decide +kernel) ⟨Nat.le_of_ble_eq_true rfl, Nat.le_of_ble_eq_true rfl⟩) (va_recv hK hP (ci := 3) (q0 := (wC E a mc n now lim (LF F u1.1 u1.2)).length + 1) rfl wG_m0) hP hK hD hS hA rfl hl.1 rfl (Nat.le_of_ble_eq_true rfl) dL_law_1114 ⟨by show cells + 0 + 0 ≤ 601024; omega, by show slots + 0 + 0 ≤ 7293034; omega⟩ (fun r2 u2 H locs hr2 hP hD hS => ?_)
  subst hr2
  have hP : va_P E.1 vwCl (wG E (wC E a mc n now lim (LF F u1.1 u1.2)) o (fn) (wM E bb (nI 0) n lim F (NW now F) kp)) _ := hP
  have hD : va_D A (wG E (wC E a mc n now lim (LF F u1.1 u1.2)) o (fn) (wM E bb (nI 0) n lim F (NW now F) kp)) := hD
  refine lv_icmp_eq (tgt := 1763) hx hb dL_law_1117 (by decide) (fun h1117 => ?_) (fun h1117 => ?_)
  · skip
    exact KK a mc n now lim F u1.1 u1.2 fn bb (nI 0) kp _ _ _ _ _ ⟨hO, by omega, hz, by omega, by omega, hP, hD, hS, (lv_sub hl [0, 1, 2, 3, 4] rfl)⟩
  · skip
    exact absurd rfl h1117

set_option maxHeartbeats 4000000 in
set_option maxRecDepth 100000 in
theorem law_together {p : Program} {l : Launch} {e : Env} {s : State} {m : MethodId} {b : Nat} {below : List Frame} {meth : Method} {c : Code} {E : GE} {A : Nat → Prop} {z0 L o i j : Nat} {xs : Nat → Int32} {Q : State → Prop} (CC : LC p l s m b c E A z0 L xs) (hL9 : L ≤ 2560) (hi9 : i + 5 ≤ L) (hj9 : j ≤ 511) (KK : LK p l e s m b below meth c E A z0 o Q 1763 i (j + 1)) (a : Nat → Nat) (mc : Int32) (n now lim : Nat) (F : LR) (lit : Nat → Bool) (fo : Nat → Nat) (fn : Nat → Int64) (bb : Nat → Nat) (th : Int32) (kp : Nat → Int32) (H : Heap) (locs : List Loc) (ls : Array Slot) (cells slots : Nat) (hst : LSt E A s b z0 i j a mc n now lim F lit fo o fn bb th kp H locs ls cells slots) : W p l e room_1 s m #[Value.ref b] below meth c H locs cells slots Q (F0 m 1122 ls []) := by
  obtain ⟨hx, hb, hml, hown, hts, hK, hZ, hT, hA, hbA, hX, hbl, hl9⟩ := CC
  obtain ⟨hO, hnw, hz, hcl, hsl, hP, hD, hS, hl⟩ := hst
  refine lv_aload_n hx hb dL_law_1122 rfl (lv_at hl 1 rfl) ?_
  refine csV_l (rest := []) (As := []) ⟨hx, hb, hml, hown, hts⟩ (c_X1_together l E _ a n now lim F lit fo CV_app hO ) (cwV 0 hts gL_law_X1_together rfl rfl rfl (by decide +kernel) ⟨Nat.le_of_ble_eq_true rfl, Nat.le_of_ble_eq_true rfl⟩) (va_recv hK hP (ci := 2) (q0 := 0) rfl (list_app wC_x)) hP hK rfl hl.1 rfl (Nat.le_of_ble_eq_true rfl) dL_law_1123 (by show cells ≤ 601024; omega) (by show slots ≤ 7293034; omega) (fun r1 hr1 => ?_)
  subst hr1
  refine lv_aload_n hx hb dL_law_1126 rfl (lv_at hl 2 rfl) ?_
  refine lawM_l (S := Unit) (W1 := fun kQ => wM E bb (nI 0) n lim F (NW now F) kp) (rest := [.long (lN (lcmS F n))]) (As := []) ⟨hx, hb, hml, hown, hts⟩ (c_X2_together l E _ bb th n lim now F kp hO ) (cwV 0 hts gL_law_X2_together rfl rfl rfl (by decide +kernel) ⟨Nat.le_of_ble_eq_true rfl, Nat.le_of_ble_eq_true rfl⟩) (va_recv hK hP (ci := 3) (q0 := (wC E a mc n now lim (LF F lit fo)).length + 1) rfl wG_m0) hP hK hD hS hA rfl hl.1 rfl (Nat.le_of_ble_eq_true rfl) dL_law_1127 ⟨by show cells + 0 ≤ 601024; omega, by show slots + 0 ≤ 7293034; omega⟩ (fun r2 u2 H locs hr2 hP hD hS => ?_)
  subst hr2
  have hP : va_P E.1 vwCl (wG E (wC E a mc n now lim (LF F lit fo)) o (fn) (wM E bb (nI 0) n lim F (NW now F) kp)) _ := hP
  have hD : va_D A (wG E (wC E a mc n now lim (LF F lit fo)) o (fn) (wM E bb (nI 0) n lim F (NW now F) kp)) := hD
  refine W.lcmp hx hb dL_law_1130 ?_
  refine lv_if_eq (tgt := 1763) hx hb dL_law_1131 (by decide) (fun h1131 => ?_) (fun h1131 => ?_)
  · skip
    exact KK a mc n now lim F lit fo fn bb (nI 0) kp _ _ _ _ _ ⟨hO, by omega, hz, by omega, by omega, hP, hD, hS, (lv_sub hl [0, 1, 2, 3, 4] rfl)⟩
  · skip
    exact absurd (lg_self _) h1131

set_option maxHeartbeats 4000000 in
set_option maxRecDepth 100000 in
theorem law_divisor {p : Program} {l : Launch} {e : Env} {s : State} {m : MethodId} {b : Nat} {below : List Frame} {meth : Method} {c : Code} {E : GE} {A : Nat → Prop} {z0 L o i j : Nat} {xs : Nat → Int32} {Q : State → Prop} (CC : LC p l s m b c E A z0 L xs) (hL9 : L ≤ 2560) (hi9 : i + 5 ≤ L) (hj9 : j ≤ 511) (KK : LK p l e s m b below meth c E A z0 o Q 1763 i (j + 1)) (a : Nat → Nat) (mc : Int32) (n now lim : Nat) (F : LR) (lit : Nat → Bool) (fo : Nat → Nat) (fn : Nat → Int64) (bb : Nat → Nat) (th : Int32) (kp : Nat → Int32) (H : Heap) (locs : List Loc) (ls : Array Slot) (cells slots : Nat) (hst : LSt E A s b z0 i j a mc n now lim F lit fo o fn bb th kp H locs ls cells slots) (k j0 : Nat) (hk : k < n) (hj : j0 < n) (e1 : xs (i + 1) = (nI k)) (e2 : xs (i + 2) = (nI j0)) : W p l e room_1 s m #[Value.ref b] below meth c H locs cells slots Q (F0 m 1136 ls []) := by
  obtain ⟨hx, hb, hml, hown, hts, hK, hZ, hT, hA, hbA, hX, hbl, hl9⟩ := CC
  obtain ⟨hO, hnw, hz, hcl, hsl, hP, hD, hS, hl⟩ := hst
  refine lv_aload_n hx hb dL_law_1136 rfl (lv_at hl 1 rfl) ?_
  refine lv_aload_n hx hb dL_law_1137 rfl (lv_at hl 0 rfl) ?_
  refine lv_iload hx hb dL_law_1138 (lv_at hl 4 rfl) ?_
  refine lv_iconst (v := (nI 1)) hx hb dL_law_1140 (by decide) ?_
  refine nq_add hx hb dL_law_1141 ?_
  refine va_sld hx hb hX hbl hbA hS (i := nI (i + 1)) (by exact vp_in_nI (by omega) (by omega)) dL_law_1142 ?_
  refine nq_top (show xs ((nI (i + 1)).toNatClampNeg) = (nI k) from by rw [nI_clamp (by omega)]; exact e1) ?_
  refine lv_aload_n hx hb dL_law_1143 rfl (lv_at hl 0 rfl) ?_
  refine lv_iload hx hb dL_law_1144 (lv_at hl 4 rfl) ?_
  refine lv_iconst (v := (nI 2)) hx hb dL_law_1146 (by decide) ?_
  refine nq_add hx hb dL_law_1147 ?_
  refine va_sld hx hb hX hbl hbA hS (i := nI (i + 2)) (by exact vp_in_nI (by omega) (by omega)) dL_law_1148 ?_
  refine nq_top (show xs ((nI (i + 2)).toNatClampNeg) = (nI j0) from by rw [nI_clamp (by omega)]; exact e2) ?_
  refine lv_aload_n hx hb dL_law_1149 rfl (lv_at hl 3 rfl) ?_
  refine lawS (S := Unit) (W1 := fun uQ => wC E a mc n now lim (LF F lit fo)) (f1 := fun uQ => vp_updL fn 0 (((nI (Nat.gcd (F k 0) (F j0 0)))).toInt64)) (rest := []) (As := [.ref (a 0), .int (nI k), .int (nI j0), .ref o]) ⟨hx, hb, hml, hown, hts⟩ (w_L_divisor l hl9 E _ z0 a mc n now lim F lit fo hO o fn k j0 hk hj) (vx_cwSW 4 hts gL_law_L_divisor rfl rfl rfl (by decide +kernel) ⟨Nat.le_of_ble_eq_true rfl, Nat.le_of_ble_eq_true rfl⟩) hP hK hD hZ hT hS hA rfl hl.1 rfl (Nat.le_of_ble_eq_true rfl) dL_law_1150 ⟨by show cells + 0 ≤ 601024; omega, by show slots + 0 ≤ 7293034; omega⟩ (fun r1 u1 H locs hr1 hP hD hS => ?_)
  subst hr1
  have hP : va_P E.1 vwCl (wG E (wC E a mc n now lim (LF F lit fo)) o (vp_updL fn 0 (((nI (Nat.gcd (F k 0) (F j0 0)))).toInt64)) (wM E bb (th) n lim F (NW now F) kp)) _ := hP
  have hD : va_D A (wG E (wC E a mc n now lim (LF F lit fo)) o (vp_updL fn 0 (((nI (Nat.gcd (F k 0) (F j0 0)))).toInt64)) (wM E bb (th) n lim F (NW now F) kp)) := hD
  refine lv_istore (lv' := [(5, .int (nI 0)), (0, .ref b), (1, .ref (a 0)), (2, .ref (bb 0)), (3, .ref o), (4, .int (nI i))]) hx hb dL_law_1153 hl (by decide) rfl (fun ls hl => ?_)
  refine lv_aload_n hx hb dL_law_1155 rfl (lv_at hl 3 rfl) ?_
  refine lv_aload_n hx hb dL_law_1156 rfl (lv_at hl 1 rfl) ?_
  refine lv_iload hx hb dL_law_1157 (lv_at hl 5 rfl) ?_
  refine lv_iconst (v := (nI 1)) hx hb dL_law_1159 (by decide) ?_
  refine nq_add hx hb dL_law_1160 ?_
  refine va_sld hx hb hX hbl hbA hS (i := nI (i + 1)) (by exact vp_in_nI (by omega) (by omega)) dL_law_1161 ?_
  refine nq_top (show xs ((nI (i + 1)).toNatClampNeg) = (nI k) from by rw [nI_clamp (by omega)]; exact e1) ?_
  refine lv_aload_n hx hb dL_law_1162 rfl (lv_at hl 1 rfl) ?_
  refine lv_iload hx hb dL_law_1163 (lv_at hl 5 rfl) ?_
  refine lv_iconst (v := (nI 2)) hx hb dL_law_1165 (by decide) ?_
  refine nq_add hx hb dL_law_1166 ?_
  refine va_sld hx hb hX hbl hbA hS (i := nI (i + 2)) (by exact vp_in_nI (by omega) (by omega)) dL_law_1167 ?_
  refine nq_top (show xs ((nI (i + 2)).toNatClampNeg) = (nI j0) from by rw [nI_clamp (by omega)]; exact e2) ?_
  refine lawM_i (S := Unit) (W1 := fun kQ => wM E bb (nI 0) n lim F (NW now F) kp) (rest := []) (As := [.int (nI k), .int (nI j0)]) ⟨hx, hb, hml, hown, hts⟩ (c_X2_divisor l E _ bb th n lim now F kp hO k j0 hk hj) (cwV 2 hts gL_law_X2_divisor rfl rfl rfl (by decide +kernel) ⟨Nat.le_of_ble_eq_true rfl, Nat.le_of_ble_eq_true rfl⟩) (va_recv hK hP (ci := 3) (q0 := (wC E a mc n now lim (LF F lit fo)).length + 1) rfl wG_m0) hP hK hD hS hA rfl hl.1 rfl (Nat.le_of_ble_eq_true rfl) dL_law_1168 ⟨by show cells + 0 + 0 ≤ 601024; omega, by show slots + 0 + 0 ≤ 7293034; omega⟩ (fun r2 u2 H locs hr2 hP hD hS => ?_)
  subst hr2
  have hP : va_P E.1 vwCl (wG E (wC E a mc n now lim (LF F lit fo)) o (vp_updL fn 0 (((nI (Nat.gcd (F k 0) (F j0 0)))).toInt64)) (wM E bb (nI 0) n lim F (NW now F) kp)) _ := hP
  have hD : va_D A (wG E (wC E a mc n now lim (LF F lit fo)) o (vp_updL fn 0 (((nI (Nat.gcd (F k 0) (F j0 0)))).toInt64)) (wM E bb (nI 0) n lim F (NW now F) kp)) := hD
  refine lv_istore (lv' := [(6, .int (nI (Nat.gcd (F k 0) (F j0 0)))), (5, .int (nI 0)), (0, .ref b), (1, .ref (a 0)), (2, .ref (bb 0)), (3, .ref o), (4, .int (nI i))]) hx hb dL_law_1171 hl (by decide) rfl (fun ls hl => ?_)
  refine lv_aload_n hx hb dL_law_1173 rfl (lv_at hl 4 rfl) ?_
  refine lawM_i (S := Unit) (W1 := fun kQ => wM E bb (nI 0) n lim F (NW now F) kp) (rest := []) (As := []) ⟨hx, hb, hml, hown, hts⟩ (c_X2_thrown l E _ bb (nI 0) n lim now F kp) (cwV 0 hts gL_law_X2_thrown rfl rfl rfl (by decide +kernel) ⟨Nat.le_of_ble_eq_true rfl, Nat.le_of_ble_eq_true rfl⟩) (va_recv hK hP (ci := 3) (q0 := (wC E a mc n now lim (LF F lit fo)).length + 1) rfl wG_m0) hP hK hD hS hA rfl hl.1 rfl (Nat.le_of_ble_eq_true rfl) dL_law_1174 ⟨by show cells + 0 + 0 + 0 ≤ 601024; omega, by show slots + 0 + 0 + 0 ≤ 7293034; omega⟩ (fun r3 u3 H locs hr3 hP hD hS => ?_)
  subst hr3
  have hP : va_P E.1 vwCl (wG E (wC E a mc n now lim (LF F lit fo)) o (vp_updL fn 0 (((nI (Nat.gcd (F k 0) (F j0 0)))).toInt64)) (wM E bb (nI 0) n lim F (NW now F) kp)) _ := hP
  have hD : va_D A (wG E (wC E a mc n now lim (LF F lit fo)) o (vp_updL fn 0 (((nI (Nat.gcd (F k 0) (F j0 0)))).toInt64)) (wM E bb (nI 0) n lim F (NW now F) kp)) := hD
  refine lv_iload hx hb dL_law_1177 (lv_at hl 1 rfl) ?_
  refine nq_icmp_eq (tgt := 1184) hx hb dL_law_1179 (by decide) (by omega) (by omega) (fun h1179 => ?_) (fun h1179 => ?_)
  · skip
    refine lv_iload hx hb dL_law_1184 (lv_at hl 1 rfl) ?_
    refine nq_if_ne (tgt := 1201) hx hb dL_law_1186 (by decide) (by decide) (fun h1186 => ?_) (fun h1186 => ?_)
    · skip
      exact absurd h1186 (by decide)
    · skip
      refine lv_aload_n hx hb dL_law_1189 rfl (lv_at hl 5 rfl) ?_
      refine lv_iconst (v := (nI 0)) hx hb dL_law_1190 (by decide) ?_
      refine va_lald hx hb hK hP (wC E a mc n now lim (LF F lit fo)).length 2 wG_o rfl (i := nI 0) (by exact vp_in_nI (by omega) (by omega)) dL_law_1191 ?_
      refine nq_topl (show (vp_updL fn 0 (((nI (Nat.gcd (F k 0) (F j0 0)))).toInt64)) ((nI 0).toNatClampNeg) = ((nI (Nat.gcd (F k 0) (F j0 0)))).toInt64 from by rw [nI_clamp (by omega)]; exact if_pos rfl) ?_
      refine lv_iload hx hb dL_law_1192 (lv_at hl 0 rfl) ?_
      refine lv_i2l (v := (nI (Nat.gcd (F k 0) (F j0 0))).toInt64) hx hb dL_law_1194 (rfl) ?_
      refine nq_topl (show (nI (Nat.gcd (F k 0) (F j0 0))).toInt64 = ((nI (Nat.gcd (F k 0) (F j0 0)))).toInt64 from by first | rfl | (rw [h1186]; rfl)) ?_
      refine W.lcmp hx hb dL_law_1195 ?_
      refine lv_if_eq (tgt := 1201) hx hb dL_law_1196 (by decide) (fun h1196 => ?_) (fun h1196 => ?_)
      · skip
        refine lv_goto (tgt := 1763) hx hb dL_law_1201 (by decide) ?_
        exact KK a mc n now lim F lit fo (vp_updL fn 0 (((nI (Nat.gcd (F k 0) (F j0 0)))).toInt64)) bb (nI 0) kp _ _ _ _ _ ⟨hO, by omega, hz, by omega, by omega, hP, hD, hS, (lv_sub hl [2, 3, 4, 5, 6] rfl)⟩
      · skip
        exact absurd (lg_self _) h1196
  · skip
    exact absurd rfl h1179

set_option maxHeartbeats 4000000 in
set_option maxRecDepth 100000 in
theorem law_divisor_x {p : Program} {l : Launch} {e : Env} {s : State} {m : MethodId} {b : Nat} {below : List Frame} {meth : Method} {c : Code} {E : GE} {A : Nat → Prop} {z0 L o i j : Nat} {xs : Nat → Int32} {Q : State → Prop} (CC : LC p l s m b c E A z0 L xs) (hL9 : L ≤ 2560) (hi9 : i + 5 ≤ L) (hj9 : j ≤ 511) (KK : LK p l e s m b below meth c E A z0 o Q 1763 i (j + 1)) (a : Nat → Nat) (mc : Int32) (n now lim : Nat) (F : LR) (lit : Nat → Bool) (fo : Nat → Nat) (fn : Nat → Int64) (bb : Nat → Nat) (th : Int32) (kp : Nat → Int32) (H : Heap) (locs : List Loc) (ls : Array Slot) (cells slots : Nat) (hst : LSt E A s b z0 i j a mc n now lim F lit fo o fn bb th kp H locs ls cells slots) (x z : Int32) (hx9 : (lpB n x && lpB n z) = false) (e1 : xs (i + 1) = x) (e2 : xs (i + 2) = z) : W p l e room_1 s m #[Value.ref b] below meth c H locs cells slots Q (F0 m 1136 ls []) := by
  obtain ⟨hx, hb, hml, hown, hts, hK, hZ, hT, hA, hbA, hX, hbl, hl9⟩ := CC
  obtain ⟨hO, hnw, hz, hcl, hsl, hP, hD, hS, hl⟩ := hst
  refine lv_aload_n hx hb dL_law_1136 rfl (lv_at hl 1 rfl) ?_
  refine lv_aload_n hx hb dL_law_1137 rfl (lv_at hl 0 rfl) ?_
  refine lv_iload hx hb dL_law_1138 (lv_at hl 4 rfl) ?_
  refine lv_iconst (v := (nI 1)) hx hb dL_law_1140 (by decide) ?_
  refine nq_add hx hb dL_law_1141 ?_
  refine va_sld hx hb hX hbl hbA hS (i := nI (i + 1)) (by exact vp_in_nI (by omega) (by omega)) dL_law_1142 ?_
  refine nq_top (show xs ((nI (i + 1)).toNatClampNeg) = x from by rw [nI_clamp (by omega)]; exact e1) ?_
  refine lv_aload_n hx hb dL_law_1143 rfl (lv_at hl 0 rfl) ?_
  refine lv_iload hx hb dL_law_1144 (lv_at hl 4 rfl) ?_
  refine lv_iconst (v := (nI 2)) hx hb dL_law_1146 (by decide) ?_
  refine nq_add hx hb dL_law_1147 ?_
  refine va_sld hx hb hX hbl hbA hS (i := nI (i + 2)) (by exact vp_in_nI (by omega) (by omega)) dL_law_1148 ?_
  refine nq_top (show xs ((nI (i + 2)).toNatClampNeg) = z from by rw [nI_clamp (by omega)]; exact e2) ?_
  refine lv_aload_n hx hb dL_law_1149 rfl (lv_at hl 3 rfl) ?_
  refine lawS (S := Unit) (W1 := fun uQ => wC E a mc n now lim (LF F lit fo)) (f1 := fun uQ => fn) (rest := []) (As := [.ref (a 0), .int x, .int z, .ref o]) ⟨hx, hb, hml, hown, hts⟩ (w_L_divisor_x l hl9 E _ z0 a mc n now lim F lit fo hO o fn x z hx9) (vx_cwSW 4 hts gL_law_L_divisor rfl rfl rfl (by decide +kernel) ⟨Nat.le_of_ble_eq_true rfl, Nat.le_of_ble_eq_true rfl⟩) hP hK hD hZ hT hS hA rfl hl.1 rfl (Nat.le_of_ble_eq_true rfl) dL_law_1150 ⟨by show cells + 1 ≤ 601024; omega, by show slots + 6 ≤ 7293034; omega⟩ (fun r1 u1 H locs hr1 hP hD hS => ?_)
  subst hr1
  have hP : va_P E.1 vwCl (wG E (wC E a mc n now lim (LF F lit fo)) o (fn) (wM E bb (th) n lim F (NW now F) kp)) _ := hP
  have hD : va_D A (wG E (wC E a mc n now lim (LF F lit fo)) o (fn) (wM E bb (th) n lim F (NW now F) kp)) := hD
  refine lv_istore (lv' := [(5, .int (nI 1)), (0, .ref b), (1, .ref (a 0)), (2, .ref (bb 0)), (3, .ref o), (4, .int (nI i))]) hx hb dL_law_1153 hl (by decide) rfl (fun ls hl => ?_)
  refine lv_aload_n hx hb dL_law_1155 rfl (lv_at hl 3 rfl) ?_
  refine lv_aload_n hx hb dL_law_1156 rfl (lv_at hl 1 rfl) ?_
  refine lv_iload hx hb dL_law_1157 (lv_at hl 5 rfl) ?_
  refine lv_iconst (v := (nI 1)) hx hb dL_law_1159 (by decide) ?_
  refine nq_add hx hb dL_law_1160 ?_
  refine va_sld hx hb hX hbl hbA hS (i := nI (i + 1)) (by exact vp_in_nI (by omega) (by omega)) dL_law_1161 ?_
  refine nq_top (show xs ((nI (i + 1)).toNatClampNeg) = x from by rw [nI_clamp (by omega)]; exact e1) ?_
  refine lv_aload_n hx hb dL_law_1162 rfl (lv_at hl 1 rfl) ?_
  refine lv_iload hx hb dL_law_1163 (lv_at hl 5 rfl) ?_
  refine lv_iconst (v := (nI 2)) hx hb dL_law_1165 (by decide) ?_
  refine nq_add hx hb dL_law_1166 ?_
  refine va_sld hx hb hX hbl hbA hS (i := nI (i + 2)) (by exact vp_in_nI (by omega) (by omega)) dL_law_1167 ?_
  refine nq_top (show xs ((nI (i + 2)).toNatClampNeg) = z from by rw [nI_clamp (by omega)]; exact e2) ?_
  refine lawM_i (S := Unit) (W1 := fun kQ => wM E bb (nI 1) n lim F (NW now F) kp) (rest := []) (As := [.int x, .int z]) ⟨hx, hb, hml, hown, hts⟩ (c_X2_divisor_x l E _ bb th n lim now F kp hO x z hx9) (cwV 2 hts gL_law_X2_divisor rfl rfl rfl (by decide +kernel) ⟨Nat.le_of_ble_eq_true rfl, Nat.le_of_ble_eq_true rfl⟩) (va_recv hK hP (ci := 3) (q0 := (wC E a mc n now lim (LF F lit fo)).length + 1) rfl wG_m0) hP hK hD hS hA rfl hl.1 rfl (Nat.le_of_ble_eq_true rfl) dL_law_1168 ⟨by show cells + 1 + 0 ≤ 601024; omega, by show slots + 6 + 0 ≤ 7293034; omega⟩ (fun r2 u2 H locs hr2 hP hD hS => ?_)
  subst hr2
  have hP : va_P E.1 vwCl (wG E (wC E a mc n now lim (LF F lit fo)) o (fn) (wM E bb (nI 1) n lim F (NW now F) kp)) _ := hP
  have hD : va_D A (wG E (wC E a mc n now lim (LF F lit fo)) o (fn) (wM E bb (nI 1) n lim F (NW now F) kp)) := hD
  refine lv_istore (lv' := [(6, .int (nI 0)), (5, .int (nI 1)), (0, .ref b), (1, .ref (a 0)), (2, .ref (bb 0)), (3, .ref o), (4, .int (nI i))]) hx hb dL_law_1171 hl (by decide) rfl (fun ls hl => ?_)
  refine lv_aload_n hx hb dL_law_1173 rfl (lv_at hl 4 rfl) ?_
  refine lawM_i (S := Unit) (W1 := fun kQ => wM E bb (nI 1) n lim F (NW now F) kp) (rest := []) (As := []) ⟨hx, hb, hml, hown, hts⟩ (c_X2_thrown l E _ bb (nI 1) n lim now F kp) (cwV 0 hts gL_law_X2_thrown rfl rfl rfl (by decide +kernel) ⟨Nat.le_of_ble_eq_true rfl, Nat.le_of_ble_eq_true rfl⟩) (va_recv hK hP (ci := 3) (q0 := (wC E a mc n now lim (LF F lit fo)).length + 1) rfl wG_m0) hP hK hD hS hA rfl hl.1 rfl (Nat.le_of_ble_eq_true rfl) dL_law_1174 ⟨by show cells + 1 + 0 + 0 ≤ 601024; omega, by show slots + 6 + 0 + 0 ≤ 7293034; omega⟩ (fun r3 u3 H locs hr3 hP hD hS => ?_)
  subst hr3
  have hP : va_P E.1 vwCl (wG E (wC E a mc n now lim (LF F lit fo)) o (fn) (wM E bb (nI 1) n lim F (NW now F) kp)) _ := hP
  have hD : va_D A (wG E (wC E a mc n now lim (LF F lit fo)) o (fn) (wM E bb (nI 1) n lim F (NW now F) kp)) := hD
  refine lv_iload hx hb dL_law_1177 (lv_at hl 1 rfl) ?_
  refine nq_icmp_eq (tgt := 1184) hx hb dL_law_1179 (by decide) (by omega) (by omega) (fun h1179 => ?_) (fun h1179 => ?_)
  · skip
    refine lv_iload hx hb dL_law_1184 (lv_at hl 1 rfl) ?_
    refine nq_if_ne (tgt := 1201) hx hb dL_law_1186 (by decide) (by decide) (fun h1186 => ?_) (fun h1186 => ?_)
    · skip
      refine lv_goto (tgt := 1763) hx hb dL_law_1201 (by decide) ?_
      exact KK a mc n now lim F lit fo fn bb (nI 1) kp _ _ _ _ _ ⟨hO, by omega, hz, by omega, by omega, hP, hD, hS, (lv_sub hl [2, 3, 4, 5, 6] rfl)⟩
    · skip
      exact absurd h1186 (by decide)
  · skip
    exact absurd rfl h1179

set_option maxHeartbeats 4000000 in
set_option maxRecDepth 100000 in
theorem law_meet {p : Program} {l : Launch} {e : Env} {s : State} {m : MethodId} {b : Nat} {below : List Frame} {meth : Method} {c : Code} {E : GE} {A : Nat → Prop} {z0 L o i j : Nat} {xs : Nat → Int32} {Q : State → Prop} (CC : LC p l s m b c E A z0 L xs) (hL9 : L ≤ 2560) (hi9 : i + 5 ≤ L) (hj9 : j ≤ 511) (KK : LK p l e s m b below meth c E A z0 o Q 1763 i (j + 1)) (a : Nat → Nat) (mc : Int32) (n now lim : Nat) (F : LR) (lit : Nat → Bool) (fo : Nat → Nat) (fn : Nat → Int64) (bb : Nat → Nat) (th : Int32) (kp : Nat → Int32) (H : Heap) (locs : List Loc) (ls : Array Slot) (cells slots : Nat) (hst : LSt E A s b z0 i j a mc n now lim F lit fo o fn bb th kp H locs ls cells slots) (k j0 : Nat) (hk : k < n) (hj : j0 < n) (e1 : xs (i + 1) = (nI k)) (e2 : xs (i + 2) = (nI j0)) : W p l e room_1 s m #[Value.ref b] below meth c H locs cells slots Q (F0 m 1204 ls []) := by
  obtain ⟨hx, hb, hml, hown, hts, hK, hZ, hT, hA, hbA, hX, hbl, hl9⟩ := CC
  obtain ⟨hO, hnw, hz, hcl, hsl, hP, hD, hS, hl⟩ := hst
  refine lv_aload_n hx hb dL_law_1204 rfl (lv_at hl 1 rfl) ?_
  refine lv_aload_n hx hb dL_law_1205 rfl (lv_at hl 0 rfl) ?_
  refine lv_iload hx hb dL_law_1206 (lv_at hl 4 rfl) ?_
  refine lv_iconst (v := (nI 1)) hx hb dL_law_1208 (by decide) ?_
  refine nq_add hx hb dL_law_1209 ?_
  refine va_sld hx hb hX hbl hbA hS (i := nI (i + 1)) (by exact vp_in_nI (by omega) (by omega)) dL_law_1210 ?_
  refine nq_top (show xs ((nI (i + 1)).toNatClampNeg) = (nI k) from by rw [nI_clamp (by omega)]; exact e1) ?_
  refine lv_aload_n hx hb dL_law_1211 rfl (lv_at hl 0 rfl) ?_
  refine lv_iload hx hb dL_law_1212 (lv_at hl 4 rfl) ?_
  refine lv_iconst (v := (nI 2)) hx hb dL_law_1214 (by decide) ?_
  refine nq_add hx hb dL_law_1215 ?_
  refine va_sld hx hb hX hbl hbA hS (i := nI (i + 2)) (by exact vp_in_nI (by omega) (by omega)) dL_law_1216 ?_
  refine nq_top (show xs ((nI (i + 2)).toNatClampNeg) = (nI j0) from by rw [nI_clamp (by omega)]; exact e2) ?_
  refine lv_aload_n hx hb dL_law_1217 rfl (lv_at hl 3 rfl) ?_
  refine lawS (S := Unit) (W1 := fun uQ => wC E a mc n now lim (LF F lit fo)) (f1 := fun uQ => vp_updL fn 0 (bL (meetS F k ((F k 3 : Nat) : Int) j0))) (rest := []) (As := [.ref (a 0), .int (nI k), .int (nI j0), .ref o]) ⟨hx, hb, hml, hown, hts⟩ (w_L_meet l hl9 E _ z0 a mc n now lim F lit fo hO o fn k j0 hk hj) (vx_cwSW 4 hts gL_law_L_meet rfl rfl rfl (by decide +kernel) ⟨Nat.le_of_ble_eq_true rfl, Nat.le_of_ble_eq_true rfl⟩) hP hK hD hZ hT hS hA rfl hl.1 rfl (Nat.le_of_ble_eq_true rfl) dL_law_1218 ⟨by show cells + 0 ≤ 601024; omega, by show slots + 0 ≤ 7293034; omega⟩ (fun r1 u1 H locs hr1 hP hD hS => ?_)
  subst hr1
  have hP : va_P E.1 vwCl (wG E (wC E a mc n now lim (LF F lit fo)) o (vp_updL fn 0 (bL (meetS F k ((F k 3 : Nat) : Int) j0))) (wM E bb (th) n lim F (NW now F) kp)) _ := hP
  have hD : va_D A (wG E (wC E a mc n now lim (LF F lit fo)) o (vp_updL fn 0 (bL (meetS F k ((F k 3 : Nat) : Int) j0))) (wM E bb (th) n lim F (NW now F) kp)) := hD
  refine lv_istore (lv' := [(5, .int (nI 0)), (0, .ref b), (1, .ref (a 0)), (2, .ref (bb 0)), (3, .ref o), (4, .int (nI i))]) hx hb dL_law_1221 hl (by decide) rfl (fun ls hl => ?_)
  refine lv_aload_n hx hb dL_law_1223 rfl (lv_at hl 3 rfl) ?_
  refine lv_aload_n hx hb dL_law_1224 rfl (lv_at hl 1 rfl) ?_
  refine lv_iload hx hb dL_law_1225 (lv_at hl 5 rfl) ?_
  refine lv_iconst (v := (nI 1)) hx hb dL_law_1227 (by decide) ?_
  refine nq_add hx hb dL_law_1228 ?_
  refine va_sld hx hb hX hbl hbA hS (i := nI (i + 1)) (by exact vp_in_nI (by omega) (by omega)) dL_law_1229 ?_
  refine nq_top (show xs ((nI (i + 1)).toNatClampNeg) = (nI k) from by rw [nI_clamp (by omega)]; exact e1) ?_
  refine lv_aload_n hx hb dL_law_1230 rfl (lv_at hl 1 rfl) ?_
  refine lv_iload hx hb dL_law_1231 (lv_at hl 5 rfl) ?_
  refine lv_iconst (v := (nI 2)) hx hb dL_law_1233 (by decide) ?_
  refine nq_add hx hb dL_law_1234 ?_
  refine va_sld hx hb hX hbl hbA hS (i := nI (i + 2)) (by exact vp_in_nI (by omega) (by omega)) dL_law_1235 ?_
  refine nq_top (show xs ((nI (i + 2)).toNatClampNeg) = (nI j0) from by rw [nI_clamp (by omega)]; exact e2) ?_
  refine lawM_i (S := Unit) (W1 := fun kQ => wM E bb (nI 0) n lim F (NW now F) kp) (rest := []) (As := [.int (nI k), .int (nI j0)]) ⟨hx, hb, hml, hown, hts⟩ (c_X2_meet l E _ bb th n lim now F kp hO k j0 hk hj) (cwV 2 hts gL_law_X2_meet rfl rfl rfl (by decide +kernel) ⟨Nat.le_of_ble_eq_true rfl, Nat.le_of_ble_eq_true rfl⟩) (va_recv hK hP (ci := 3) (q0 := (wC E a mc n now lim (LF F lit fo)).length + 1) rfl wG_m0) hP hK hD hS hA rfl hl.1 rfl (Nat.le_of_ble_eq_true rfl) dL_law_1236 ⟨by show cells + 0 + 0 ≤ 601024; omega, by show slots + 0 + 0 ≤ 7293034; omega⟩ (fun r2 u2 H locs hr2 hP hD hS => ?_)
  subst hr2
  have hP : va_P E.1 vwCl (wG E (wC E a mc n now lim (LF F lit fo)) o (vp_updL fn 0 (bL (meetS F k ((F k 3 : Nat) : Int) j0))) (wM E bb (nI 0) n lim F (NW now F) kp)) _ := hP
  have hD : va_D A (wG E (wC E a mc n now lim (LF F lit fo)) o (vp_updL fn 0 (bL (meetS F k ((F k 3 : Nat) : Int) j0))) (wM E bb (nI 0) n lim F (NW now F) kp)) := hD
  refine lv_istore (lv' := [(6, .int (bI (meetS F k ((F k 3 : Nat) : Int) j0))), (5, .int (nI 0)), (0, .ref b), (1, .ref (a 0)), (2, .ref (bb 0)), (3, .ref o), (4, .int (nI i))]) hx hb dL_law_1239 hl (by decide) rfl (fun ls hl => ?_)
  refine lv_aload_n hx hb dL_law_1241 rfl (lv_at hl 4 rfl) ?_
  refine lawM_i (S := Unit) (W1 := fun kQ => wM E bb (nI 0) n lim F (NW now F) kp) (rest := []) (As := []) ⟨hx, hb, hml, hown, hts⟩ (c_X2_thrown l E _ bb (nI 0) n lim now F kp) (cwV 0 hts gL_law_X2_thrown rfl rfl rfl (by decide +kernel) ⟨Nat.le_of_ble_eq_true rfl, Nat.le_of_ble_eq_true rfl⟩) (va_recv hK hP (ci := 3) (q0 := (wC E a mc n now lim (LF F lit fo)).length + 1) rfl wG_m0) hP hK hD hS hA rfl hl.1 rfl (Nat.le_of_ble_eq_true rfl) dL_law_1242 ⟨by show cells + 0 + 0 + 0 ≤ 601024; omega, by show slots + 0 + 0 + 0 ≤ 7293034; omega⟩ (fun r3 u3 H locs hr3 hP hD hS => ?_)
  subst hr3
  have hP : va_P E.1 vwCl (wG E (wC E a mc n now lim (LF F lit fo)) o (vp_updL fn 0 (bL (meetS F k ((F k 3 : Nat) : Int) j0))) (wM E bb (nI 0) n lim F (NW now F) kp)) _ := hP
  have hD : va_D A (wG E (wC E a mc n now lim (LF F lit fo)) o (vp_updL fn 0 (bL (meetS F k ((F k 3 : Nat) : Int) j0))) (wM E bb (nI 0) n lim F (NW now F) kp)) := hD
  refine lv_iload hx hb dL_law_1245 (lv_at hl 1 rfl) ?_
  refine nq_icmp_eq (tgt := 1252) hx hb dL_law_1247 (by decide) (by omega) (by omega) (fun h1247 => ?_) (fun h1247 => ?_)
  · skip
    refine lv_iload hx hb dL_law_1252 (lv_at hl 1 rfl) ?_
    refine nq_if_ne (tgt := 1276) hx hb dL_law_1254 (by decide) (by decide) (fun h1254 => ?_) (fun h1254 => ?_)
    · skip
      exact absurd h1254 (by decide)
    · skip
      refine lv_aload_n hx hb dL_law_1257 rfl (lv_at hl 5 rfl) ?_
      refine lv_iconst (v := (nI 0)) hx hb dL_law_1258 (by decide) ?_
      refine va_lald hx hb hK hP (wC E a mc n now lim (LF F lit fo)).length 2 wG_o rfl (i := nI 0) (by exact vp_in_nI (by omega) (by omega)) dL_law_1259 ?_
      refine nq_topl (show (vp_updL fn 0 (bL (meetS F k ((F k 3 : Nat) : Int) j0))) ((nI 0).toNatClampNeg) = bL (meetS F k ((F k 3 : Nat) : Int) j0) from by rw [nI_clamp (by omega)]; exact if_pos rfl) ?_
      refine lv_iload hx hb dL_law_1260 (lv_at hl 0 rfl) ?_
      refine bq_if_eq (tgt := 1269) hx hb dL_law_1262 (by decide) (fun h1262 => ?_) (fun h1262 => ?_)
      · skip
        refine lv_lconst (v := 0) hx hb dL_law_1269 (by decide) ?_
        refine nq_topl (show 0 = bL (meetS F k ((F k 3 : Nat) : Int) j0) from by first | rfl | (rw [h1262]; rfl)) ?_
        refine W.lcmp hx hb dL_law_1270 ?_
        refine lv_if_eq (tgt := 1276) hx hb dL_law_1271 (by decide) (fun h1271 => ?_) (fun h1271 => ?_)
        · skip
          refine lv_goto (tgt := 1763) hx hb dL_law_1276 (by decide) ?_
          exact KK a mc n now lim F lit fo (vp_updL fn 0 (bL (meetS F k ((F k 3 : Nat) : Int) j0))) bb (nI 0) kp _ _ _ _ _ ⟨hO, by omega, hz, by omega, by omega, hP, hD, hS, (lv_sub hl [2, 3, 4, 5, 6] rfl)⟩
        · skip
          exact absurd (lg_self _) h1271
      · skip
        refine lv_lconst (v := 1) hx hb dL_law_1265 (by decide) ?_
        refine lv_goto (tgt := 1270) hx hb dL_law_1266 (by decide) ?_
        refine nq_topl (show 1 = bL (meetS F k ((F k 3 : Nat) : Int) j0) from by first | rfl | (rw [h1262]; rfl)) ?_
        refine W.lcmp hx hb dL_law_1270 ?_
        refine lv_if_eq (tgt := 1276) hx hb dL_law_1271 (by decide) (fun h1271 => ?_) (fun h1271 => ?_)
        · skip
          refine lv_goto (tgt := 1763) hx hb dL_law_1276 (by decide) ?_
          exact KK a mc n now lim F lit fo (vp_updL fn 0 (bL (meetS F k ((F k 3 : Nat) : Int) j0))) bb (nI 0) kp _ _ _ _ _ ⟨hO, by omega, hz, by omega, by omega, hP, hD, hS, (lv_sub hl [2, 3, 4, 5, 6] rfl)⟩
        · skip
          exact absurd (lg_self _) h1271
  · skip
    exact absurd rfl h1247

set_option maxHeartbeats 4000000 in
set_option maxRecDepth 100000 in
theorem law_meet_x {p : Program} {l : Launch} {e : Env} {s : State} {m : MethodId} {b : Nat} {below : List Frame} {meth : Method} {c : Code} {E : GE} {A : Nat → Prop} {z0 L o i j : Nat} {xs : Nat → Int32} {Q : State → Prop} (CC : LC p l s m b c E A z0 L xs) (hL9 : L ≤ 2560) (hi9 : i + 5 ≤ L) (hj9 : j ≤ 511) (KK : LK p l e s m b below meth c E A z0 o Q 1763 i (j + 1)) (a : Nat → Nat) (mc : Int32) (n now lim : Nat) (F : LR) (lit : Nat → Bool) (fo : Nat → Nat) (fn : Nat → Int64) (bb : Nat → Nat) (th : Int32) (kp : Nat → Int32) (H : Heap) (locs : List Loc) (ls : Array Slot) (cells slots : Nat) (hst : LSt E A s b z0 i j a mc n now lim F lit fo o fn bb th kp H locs ls cells slots) (x z : Int32) (hx9 : (lpB n x && lpB n z) = false) (e1 : xs (i + 1) = x) (e2 : xs (i + 2) = z) : W p l e room_1 s m #[Value.ref b] below meth c H locs cells slots Q (F0 m 1204 ls []) := by
  obtain ⟨hx, hb, hml, hown, hts, hK, hZ, hT, hA, hbA, hX, hbl, hl9⟩ := CC
  obtain ⟨hO, hnw, hz, hcl, hsl, hP, hD, hS, hl⟩ := hst
  refine lv_aload_n hx hb dL_law_1204 rfl (lv_at hl 1 rfl) ?_
  refine lv_aload_n hx hb dL_law_1205 rfl (lv_at hl 0 rfl) ?_
  refine lv_iload hx hb dL_law_1206 (lv_at hl 4 rfl) ?_
  refine lv_iconst (v := (nI 1)) hx hb dL_law_1208 (by decide) ?_
  refine nq_add hx hb dL_law_1209 ?_
  refine va_sld hx hb hX hbl hbA hS (i := nI (i + 1)) (by exact vp_in_nI (by omega) (by omega)) dL_law_1210 ?_
  refine nq_top (show xs ((nI (i + 1)).toNatClampNeg) = x from by rw [nI_clamp (by omega)]; exact e1) ?_
  refine lv_aload_n hx hb dL_law_1211 rfl (lv_at hl 0 rfl) ?_
  refine lv_iload hx hb dL_law_1212 (lv_at hl 4 rfl) ?_
  refine lv_iconst (v := (nI 2)) hx hb dL_law_1214 (by decide) ?_
  refine nq_add hx hb dL_law_1215 ?_
  refine va_sld hx hb hX hbl hbA hS (i := nI (i + 2)) (by exact vp_in_nI (by omega) (by omega)) dL_law_1216 ?_
  refine nq_top (show xs ((nI (i + 2)).toNatClampNeg) = z from by rw [nI_clamp (by omega)]; exact e2) ?_
  refine lv_aload_n hx hb dL_law_1217 rfl (lv_at hl 3 rfl) ?_
  refine lawS (S := Unit) (W1 := fun uQ => wC E a mc n now lim (LF F lit fo)) (f1 := fun uQ => fn) (rest := []) (As := [.ref (a 0), .int x, .int z, .ref o]) ⟨hx, hb, hml, hown, hts⟩ (w_L_meet_x l hl9 E _ z0 a mc n now lim F lit fo hO o fn x z hx9) (vx_cwSW 4 hts gL_law_L_meet rfl rfl rfl (by decide +kernel) ⟨Nat.le_of_ble_eq_true rfl, Nat.le_of_ble_eq_true rfl⟩) hP hK hD hZ hT hS hA rfl hl.1 rfl (Nat.le_of_ble_eq_true rfl) dL_law_1218 ⟨by show cells + 1 ≤ 601024; omega, by show slots + 6 ≤ 7293034; omega⟩ (fun r1 u1 H locs hr1 hP hD hS => ?_)
  subst hr1
  have hP : va_P E.1 vwCl (wG E (wC E a mc n now lim (LF F lit fo)) o (fn) (wM E bb (th) n lim F (NW now F) kp)) _ := hP
  have hD : va_D A (wG E (wC E a mc n now lim (LF F lit fo)) o (fn) (wM E bb (th) n lim F (NW now F) kp)) := hD
  refine lv_istore (lv' := [(5, .int (nI 1)), (0, .ref b), (1, .ref (a 0)), (2, .ref (bb 0)), (3, .ref o), (4, .int (nI i))]) hx hb dL_law_1221 hl (by decide) rfl (fun ls hl => ?_)
  refine lv_aload_n hx hb dL_law_1223 rfl (lv_at hl 3 rfl) ?_
  refine lv_aload_n hx hb dL_law_1224 rfl (lv_at hl 1 rfl) ?_
  refine lv_iload hx hb dL_law_1225 (lv_at hl 5 rfl) ?_
  refine lv_iconst (v := (nI 1)) hx hb dL_law_1227 (by decide) ?_
  refine nq_add hx hb dL_law_1228 ?_
  refine va_sld hx hb hX hbl hbA hS (i := nI (i + 1)) (by exact vp_in_nI (by omega) (by omega)) dL_law_1229 ?_
  refine nq_top (show xs ((nI (i + 1)).toNatClampNeg) = x from by rw [nI_clamp (by omega)]; exact e1) ?_
  refine lv_aload_n hx hb dL_law_1230 rfl (lv_at hl 1 rfl) ?_
  refine lv_iload hx hb dL_law_1231 (lv_at hl 5 rfl) ?_
  refine lv_iconst (v := (nI 2)) hx hb dL_law_1233 (by decide) ?_
  refine nq_add hx hb dL_law_1234 ?_
  refine va_sld hx hb hX hbl hbA hS (i := nI (i + 2)) (by exact vp_in_nI (by omega) (by omega)) dL_law_1235 ?_
  refine nq_top (show xs ((nI (i + 2)).toNatClampNeg) = z from by rw [nI_clamp (by omega)]; exact e2) ?_
  refine lawM_i (S := Unit) (W1 := fun kQ => wM E bb (nI 1) n lim F (NW now F) kp) (rest := []) (As := [.int x, .int z]) ⟨hx, hb, hml, hown, hts⟩ (c_X2_meet_x l E _ bb th n lim now F kp hO x z hx9) (cwV 2 hts gL_law_X2_meet rfl rfl rfl (by decide +kernel) ⟨Nat.le_of_ble_eq_true rfl, Nat.le_of_ble_eq_true rfl⟩) (va_recv hK hP (ci := 3) (q0 := (wC E a mc n now lim (LF F lit fo)).length + 1) rfl wG_m0) hP hK hD hS hA rfl hl.1 rfl (Nat.le_of_ble_eq_true rfl) dL_law_1236 ⟨by show cells + 1 + 0 ≤ 601024; omega, by show slots + 6 + 0 ≤ 7293034; omega⟩ (fun r2 u2 H locs hr2 hP hD hS => ?_)
  subst hr2
  have hP : va_P E.1 vwCl (wG E (wC E a mc n now lim (LF F lit fo)) o (fn) (wM E bb (nI 1) n lim F (NW now F) kp)) _ := hP
  have hD : va_D A (wG E (wC E a mc n now lim (LF F lit fo)) o (fn) (wM E bb (nI 1) n lim F (NW now F) kp)) := hD
  refine lv_istore (lv' := [(6, .int (bI false)), (5, .int (nI 1)), (0, .ref b), (1, .ref (a 0)), (2, .ref (bb 0)), (3, .ref o), (4, .int (nI i))]) hx hb dL_law_1239 hl (by decide) rfl (fun ls hl => ?_)
  refine lv_aload_n hx hb dL_law_1241 rfl (lv_at hl 4 rfl) ?_
  refine lawM_i (S := Unit) (W1 := fun kQ => wM E bb (nI 1) n lim F (NW now F) kp) (rest := []) (As := []) ⟨hx, hb, hml, hown, hts⟩ (c_X2_thrown l E _ bb (nI 1) n lim now F kp) (cwV 0 hts gL_law_X2_thrown rfl rfl rfl (by decide +kernel) ⟨Nat.le_of_ble_eq_true rfl, Nat.le_of_ble_eq_true rfl⟩) (va_recv hK hP (ci := 3) (q0 := (wC E a mc n now lim (LF F lit fo)).length + 1) rfl wG_m0) hP hK hD hS hA rfl hl.1 rfl (Nat.le_of_ble_eq_true rfl) dL_law_1242 ⟨by show cells + 1 + 0 + 0 ≤ 601024; omega, by show slots + 6 + 0 + 0 ≤ 7293034; omega⟩ (fun r3 u3 H locs hr3 hP hD hS => ?_)
  subst hr3
  have hP : va_P E.1 vwCl (wG E (wC E a mc n now lim (LF F lit fo)) o (fn) (wM E bb (nI 1) n lim F (NW now F) kp)) _ := hP
  have hD : va_D A (wG E (wC E a mc n now lim (LF F lit fo)) o (fn) (wM E bb (nI 1) n lim F (NW now F) kp)) := hD
  refine lv_iload hx hb dL_law_1245 (lv_at hl 1 rfl) ?_
  refine nq_icmp_eq (tgt := 1252) hx hb dL_law_1247 (by decide) (by omega) (by omega) (fun h1247 => ?_) (fun h1247 => ?_)
  · skip
    refine lv_iload hx hb dL_law_1252 (lv_at hl 1 rfl) ?_
    refine nq_if_ne (tgt := 1276) hx hb dL_law_1254 (by decide) (by decide) (fun h1254 => ?_) (fun h1254 => ?_)
    · skip
      refine lv_goto (tgt := 1763) hx hb dL_law_1276 (by decide) ?_
      exact KK a mc n now lim F lit fo fn bb (nI 1) kp _ _ _ _ _ ⟨hO, by omega, hz, by omega, by omega, hP, hD, hS, (lv_sub hl [2, 3, 4, 5, 6] rfl)⟩
    · skip
      exact absurd h1254 (by decide)
  · skip
    exact absurd rfl h1247

set_option maxHeartbeats 4000000 in
set_option maxRecDepth 100000 in
theorem law_beatsUntilMeet {p : Program} {l : Launch} {e : Env} {s : State} {m : MethodId} {b : Nat} {below : List Frame} {meth : Method} {c : Code} {E : GE} {A : Nat → Prop} {z0 L o i j : Nat} {xs : Nat → Int32} {Q : State → Prop} (CC : LC p l s m b c E A z0 L xs) (hL9 : L ≤ 2560) (hi9 : i + 5 ≤ L) (hj9 : j ≤ 511) (KK : LK p l e s m b below meth c E A z0 o Q 1763 i (j + 1)) (a : Nat → Nat) (mc : Int32) (n now lim : Nat) (F : LR) (lit : Nat → Bool) (fo : Nat → Nat) (fn : Nat → Int64) (bb : Nat → Nat) (th : Int32) (kp : Nat → Int32) (H : Heap) (locs : List Loc) (ls : Array Slot) (cells slots : Nat) (hst : LSt E A s b z0 i j a mc n now lim F lit fo o fn bb th kp H locs ls cells slots) (k j0 : Nat) (hk : k < n) (hj : j0 < n) (e1 : xs (i + 1) = (nI k)) (e2 : xs (i + 2) = (nI j0)) : W p l e room_1 s m #[Value.ref b] below meth c H locs cells slots Q (F0 m 1279 ls []) := by
  obtain ⟨hx, hb, hml, hown, hts, hK, hZ, hT, hA, hbA, hX, hbl, hl9⟩ := CC
  obtain ⟨hO, hnw, hz, hcl, hsl, hP, hD, hS, hl⟩ := hst
  refine lv_aload_n hx hb dL_law_1279 rfl (lv_at hl 1 rfl) ?_
  refine lv_aload_n hx hb dL_law_1280 rfl (lv_at hl 0 rfl) ?_
  refine lv_iload hx hb dL_law_1281 (lv_at hl 4 rfl) ?_
  refine lv_iconst (v := (nI 1)) hx hb dL_law_1283 (by decide) ?_
  refine nq_add hx hb dL_law_1284 ?_
  refine va_sld hx hb hX hbl hbA hS (i := nI (i + 1)) (by exact vp_in_nI (by omega) (by omega)) dL_law_1285 ?_
  refine nq_top (show xs ((nI (i + 1)).toNatClampNeg) = (nI k) from by rw [nI_clamp (by omega)]; exact e1) ?_
  refine lv_aload_n hx hb dL_law_1286 rfl (lv_at hl 0 rfl) ?_
  refine lv_iload hx hb dL_law_1287 (lv_at hl 4 rfl) ?_
  refine lv_iconst (v := (nI 2)) hx hb dL_law_1289 (by decide) ?_
  refine nq_add hx hb dL_law_1290 ?_
  refine va_sld hx hb hX hbl hbA hS (i := nI (i + 2)) (by exact vp_in_nI (by omega) (by omega)) dL_law_1291 ?_
  refine nq_top (show xs ((nI (i + 2)).toNatClampNeg) = (nI j0) from by rw [nI_clamp (by omega)]; exact e2) ?_
  refine lv_aload_n hx hb dL_law_1292 rfl (lv_at hl 3 rfl) ?_
  refine lawS (S := Unit) (W1 := fun uQ => wC E a mc n now lim (LF F lit fo)) (f1 := fun uQ => vp_updL fn 0 (((iI (untilS F now k j0))).toInt64)) (rest := []) (As := [.ref (a 0), .int (nI k), .int (nI j0), .ref o]) ⟨hx, hb, hml, hown, hts⟩ (w_L_beatsUntilMeet l hl9 E _ z0 a mc n now lim F lit fo hO o fn k j0 hk hj) (vx_cwSW 4 hts gL_law_L_beatsUntilMeet rfl rfl rfl (by decide +kernel) ⟨Nat.le_of_ble_eq_true rfl, Nat.le_of_ble_eq_true rfl⟩) hP hK hD hZ hT hS hA rfl hl.1 rfl (Nat.le_of_ble_eq_true rfl) dL_law_1293 ⟨by show cells + 0 ≤ 601024; omega, by show slots + 0 ≤ 7293034; omega⟩ (fun r1 u1 H locs hr1 hP hD hS => ?_)
  subst hr1
  have hP : va_P E.1 vwCl (wG E (wC E a mc n now lim (LF F lit fo)) o (vp_updL fn 0 (((iI (untilS F now k j0))).toInt64)) (wM E bb (th) n lim F (NW now F) kp)) _ := hP
  have hD : va_D A (wG E (wC E a mc n now lim (LF F lit fo)) o (vp_updL fn 0 (((iI (untilS F now k j0))).toInt64)) (wM E bb (th) n lim F (NW now F) kp)) := hD
  refine lv_istore (lv' := [(5, .int (nI 0)), (0, .ref b), (1, .ref (a 0)), (2, .ref (bb 0)), (3, .ref o), (4, .int (nI i))]) hx hb dL_law_1296 hl (by decide) rfl (fun ls hl => ?_)
  refine lv_aload_n hx hb dL_law_1298 rfl (lv_at hl 3 rfl) ?_
  refine lv_aload_n hx hb dL_law_1299 rfl (lv_at hl 1 rfl) ?_
  refine lv_iload hx hb dL_law_1300 (lv_at hl 5 rfl) ?_
  refine lv_iconst (v := (nI 1)) hx hb dL_law_1302 (by decide) ?_
  refine nq_add hx hb dL_law_1303 ?_
  refine va_sld hx hb hX hbl hbA hS (i := nI (i + 1)) (by exact vp_in_nI (by omega) (by omega)) dL_law_1304 ?_
  refine nq_top (show xs ((nI (i + 1)).toNatClampNeg) = (nI k) from by rw [nI_clamp (by omega)]; exact e1) ?_
  refine lv_aload_n hx hb dL_law_1305 rfl (lv_at hl 1 rfl) ?_
  refine lv_iload hx hb dL_law_1306 (lv_at hl 5 rfl) ?_
  refine lv_iconst (v := (nI 2)) hx hb dL_law_1308 (by decide) ?_
  refine nq_add hx hb dL_law_1309 ?_
  refine va_sld hx hb hX hbl hbA hS (i := nI (i + 2)) (by exact vp_in_nI (by omega) (by omega)) dL_law_1310 ?_
  refine nq_top (show xs ((nI (i + 2)).toNatClampNeg) = (nI j0) from by rw [nI_clamp (by omega)]; exact e2) ?_
  refine lawM_i (S := Unit) (W1 := fun kQ => wM E bb (nI 0) n lim F (NW now F) kp) (rest := []) (As := [.int (nI k), .int (nI j0)]) ⟨hx, hb, hml, hown, hts⟩ (c_X2_beatsUntilMeet l E _ bb th n lim now F kp hO k j0 hk hj) (cwV 2 hts gL_law_X2_beatsUntilMeet rfl rfl rfl (by decide +kernel) ⟨Nat.le_of_ble_eq_true rfl, Nat.le_of_ble_eq_true rfl⟩) (va_recv hK hP (ci := 3) (q0 := (wC E a mc n now lim (LF F lit fo)).length + 1) rfl wG_m0) hP hK hD hS hA rfl hl.1 rfl (Nat.le_of_ble_eq_true rfl) dL_law_1311 ⟨by show cells + 0 + 0 ≤ 601024; omega, by show slots + 0 + 0 ≤ 7293034; omega⟩ (fun r2 u2 H locs hr2 hP hD hS => ?_)
  subst hr2
  have hP : va_P E.1 vwCl (wG E (wC E a mc n now lim (LF F lit fo)) o (vp_updL fn 0 (((iI (untilS F now k j0))).toInt64)) (wM E bb (nI 0) n lim F (NW now F) kp)) _ := hP
  have hD : va_D A (wG E (wC E a mc n now lim (LF F lit fo)) o (vp_updL fn 0 (((iI (untilS F now k j0))).toInt64)) (wM E bb (nI 0) n lim F (NW now F) kp)) := hD
  refine lv_istore (lv' := [(6, .int (iI (untilS F now k j0))), (5, .int (nI 0)), (0, .ref b), (1, .ref (a 0)), (2, .ref (bb 0)), (3, .ref o), (4, .int (nI i))]) hx hb dL_law_1314 hl (by decide) rfl (fun ls hl => ?_)
  refine lv_aload_n hx hb dL_law_1316 rfl (lv_at hl 4 rfl) ?_
  refine lawM_i (S := Unit) (W1 := fun kQ => wM E bb (nI 0) n lim F (NW now F) kp) (rest := []) (As := []) ⟨hx, hb, hml, hown, hts⟩ (c_X2_thrown l E _ bb (nI 0) n lim now F kp) (cwV 0 hts gL_law_X2_thrown rfl rfl rfl (by decide +kernel) ⟨Nat.le_of_ble_eq_true rfl, Nat.le_of_ble_eq_true rfl⟩) (va_recv hK hP (ci := 3) (q0 := (wC E a mc n now lim (LF F lit fo)).length + 1) rfl wG_m0) hP hK hD hS hA rfl hl.1 rfl (Nat.le_of_ble_eq_true rfl) dL_law_1317 ⟨by show cells + 0 + 0 + 0 ≤ 601024; omega, by show slots + 0 + 0 + 0 ≤ 7293034; omega⟩ (fun r3 u3 H locs hr3 hP hD hS => ?_)
  subst hr3
  have hP : va_P E.1 vwCl (wG E (wC E a mc n now lim (LF F lit fo)) o (vp_updL fn 0 (((iI (untilS F now k j0))).toInt64)) (wM E bb (nI 0) n lim F (NW now F) kp)) _ := hP
  have hD : va_D A (wG E (wC E a mc n now lim (LF F lit fo)) o (vp_updL fn 0 (((iI (untilS F now k j0))).toInt64)) (wM E bb (nI 0) n lim F (NW now F) kp)) := hD
  refine lv_iload hx hb dL_law_1320 (lv_at hl 1 rfl) ?_
  refine nq_icmp_eq (tgt := 1327) hx hb dL_law_1322 (by decide) (by omega) (by omega) (fun h1322 => ?_) (fun h1322 => ?_)
  · skip
    refine lv_iload hx hb dL_law_1327 (lv_at hl 1 rfl) ?_
    refine nq_if_ne (tgt := 1344) hx hb dL_law_1329 (by decide) (by decide) (fun h1329 => ?_) (fun h1329 => ?_)
    · skip
      exact absurd h1329 (by decide)
    · skip
      refine lv_aload_n hx hb dL_law_1332 rfl (lv_at hl 5 rfl) ?_
      refine lv_iconst (v := (nI 0)) hx hb dL_law_1333 (by decide) ?_
      refine va_lald hx hb hK hP (wC E a mc n now lim (LF F lit fo)).length 2 wG_o rfl (i := nI 0) (by exact vp_in_nI (by omega) (by omega)) dL_law_1334 ?_
      refine nq_topl (show (vp_updL fn 0 (((iI (untilS F now k j0))).toInt64)) ((nI 0).toNatClampNeg) = ((iI (untilS F now k j0))).toInt64 from by rw [nI_clamp (by omega)]; exact if_pos rfl) ?_
      refine lv_iload hx hb dL_law_1335 (lv_at hl 0 rfl) ?_
      refine lv_i2l (v := (iI (untilS F now k j0)).toInt64) hx hb dL_law_1337 (rfl) ?_
      refine nq_topl (show (iI (untilS F now k j0)).toInt64 = ((iI (untilS F now k j0))).toInt64 from by first | rfl | (rw [h1329]; rfl)) ?_
      refine W.lcmp hx hb dL_law_1338 ?_
      refine lv_if_eq (tgt := 1344) hx hb dL_law_1339 (by decide) (fun h1339 => ?_) (fun h1339 => ?_)
      · skip
        refine lv_goto (tgt := 1763) hx hb dL_law_1344 (by decide) ?_
        exact KK a mc n now lim F lit fo (vp_updL fn 0 (((iI (untilS F now k j0))).toInt64)) bb (nI 0) kp _ _ _ _ _ ⟨hO, by omega, hz, by omega, by omega, hP, hD, hS, (lv_sub hl [2, 3, 4, 5, 6] rfl)⟩
      · skip
        exact absurd (lg_self _) h1339
  · skip
    exact absurd rfl h1322

set_option maxHeartbeats 4000000 in
set_option maxRecDepth 100000 in
theorem law_beatsUntilMeet_x {p : Program} {l : Launch} {e : Env} {s : State} {m : MethodId} {b : Nat} {below : List Frame} {meth : Method} {c : Code} {E : GE} {A : Nat → Prop} {z0 L o i j : Nat} {xs : Nat → Int32} {Q : State → Prop} (CC : LC p l s m b c E A z0 L xs) (hL9 : L ≤ 2560) (hi9 : i + 5 ≤ L) (hj9 : j ≤ 511) (KK : LK p l e s m b below meth c E A z0 o Q 1763 i (j + 1)) (a : Nat → Nat) (mc : Int32) (n now lim : Nat) (F : LR) (lit : Nat → Bool) (fo : Nat → Nat) (fn : Nat → Int64) (bb : Nat → Nat) (th : Int32) (kp : Nat → Int32) (H : Heap) (locs : List Loc) (ls : Array Slot) (cells slots : Nat) (hst : LSt E A s b z0 i j a mc n now lim F lit fo o fn bb th kp H locs ls cells slots) (x z : Int32) (hx9 : (lpB n x && lpB n z) = false) (e1 : xs (i + 1) = x) (e2 : xs (i + 2) = z) : W p l e room_1 s m #[Value.ref b] below meth c H locs cells slots Q (F0 m 1279 ls []) := by
  obtain ⟨hx, hb, hml, hown, hts, hK, hZ, hT, hA, hbA, hX, hbl, hl9⟩ := CC
  obtain ⟨hO, hnw, hz, hcl, hsl, hP, hD, hS, hl⟩ := hst
  refine lv_aload_n hx hb dL_law_1279 rfl (lv_at hl 1 rfl) ?_
  refine lv_aload_n hx hb dL_law_1280 rfl (lv_at hl 0 rfl) ?_
  refine lv_iload hx hb dL_law_1281 (lv_at hl 4 rfl) ?_
  refine lv_iconst (v := (nI 1)) hx hb dL_law_1283 (by decide) ?_
  refine nq_add hx hb dL_law_1284 ?_
  refine va_sld hx hb hX hbl hbA hS (i := nI (i + 1)) (by exact vp_in_nI (by omega) (by omega)) dL_law_1285 ?_
  refine nq_top (show xs ((nI (i + 1)).toNatClampNeg) = x from by rw [nI_clamp (by omega)]; exact e1) ?_
  refine lv_aload_n hx hb dL_law_1286 rfl (lv_at hl 0 rfl) ?_
  refine lv_iload hx hb dL_law_1287 (lv_at hl 4 rfl) ?_
  refine lv_iconst (v := (nI 2)) hx hb dL_law_1289 (by decide) ?_
  refine nq_add hx hb dL_law_1290 ?_
  refine va_sld hx hb hX hbl hbA hS (i := nI (i + 2)) (by exact vp_in_nI (by omega) (by omega)) dL_law_1291 ?_
  refine nq_top (show xs ((nI (i + 2)).toNatClampNeg) = z from by rw [nI_clamp (by omega)]; exact e2) ?_
  refine lv_aload_n hx hb dL_law_1292 rfl (lv_at hl 3 rfl) ?_
  refine lawS (S := Unit) (W1 := fun uQ => wC E a mc n now lim (LF F lit fo)) (f1 := fun uQ => fn) (rest := []) (As := [.ref (a 0), .int x, .int z, .ref o]) ⟨hx, hb, hml, hown, hts⟩ (w_L_beatsUntilMeet_x l hl9 E _ z0 a mc n now lim F lit fo hO o fn x z hx9) (vx_cwSW 4 hts gL_law_L_beatsUntilMeet rfl rfl rfl (by decide +kernel) ⟨Nat.le_of_ble_eq_true rfl, Nat.le_of_ble_eq_true rfl⟩) hP hK hD hZ hT hS hA rfl hl.1 rfl (Nat.le_of_ble_eq_true rfl) dL_law_1293 ⟨by show cells + 1 ≤ 601024; omega, by show slots + 6 ≤ 7293034; omega⟩ (fun r1 u1 H locs hr1 hP hD hS => ?_)
  subst hr1
  have hP : va_P E.1 vwCl (wG E (wC E a mc n now lim (LF F lit fo)) o (fn) (wM E bb (th) n lim F (NW now F) kp)) _ := hP
  have hD : va_D A (wG E (wC E a mc n now lim (LF F lit fo)) o (fn) (wM E bb (th) n lim F (NW now F) kp)) := hD
  refine lv_istore (lv' := [(5, .int (nI 1)), (0, .ref b), (1, .ref (a 0)), (2, .ref (bb 0)), (3, .ref o), (4, .int (nI i))]) hx hb dL_law_1296 hl (by decide) rfl (fun ls hl => ?_)
  refine lv_aload_n hx hb dL_law_1298 rfl (lv_at hl 3 rfl) ?_
  refine lv_aload_n hx hb dL_law_1299 rfl (lv_at hl 1 rfl) ?_
  refine lv_iload hx hb dL_law_1300 (lv_at hl 5 rfl) ?_
  refine lv_iconst (v := (nI 1)) hx hb dL_law_1302 (by decide) ?_
  refine nq_add hx hb dL_law_1303 ?_
  refine va_sld hx hb hX hbl hbA hS (i := nI (i + 1)) (by exact vp_in_nI (by omega) (by omega)) dL_law_1304 ?_
  refine nq_top (show xs ((nI (i + 1)).toNatClampNeg) = x from by rw [nI_clamp (by omega)]; exact e1) ?_
  refine lv_aload_n hx hb dL_law_1305 rfl (lv_at hl 1 rfl) ?_
  refine lv_iload hx hb dL_law_1306 (lv_at hl 5 rfl) ?_
  refine lv_iconst (v := (nI 2)) hx hb dL_law_1308 (by decide) ?_
  refine nq_add hx hb dL_law_1309 ?_
  refine va_sld hx hb hX hbl hbA hS (i := nI (i + 2)) (by exact vp_in_nI (by omega) (by omega)) dL_law_1310 ?_
  refine nq_top (show xs ((nI (i + 2)).toNatClampNeg) = z from by rw [nI_clamp (by omega)]; exact e2) ?_
  refine lawM_i (S := Unit) (W1 := fun kQ => wM E bb (nI 1) n lim F (NW now F) kp) (rest := []) (As := [.int x, .int z]) ⟨hx, hb, hml, hown, hts⟩ (c_X2_beatsUntilMeet_x l E _ bb th n lim now F kp hO x z hx9) (cwV 2 hts gL_law_X2_beatsUntilMeet rfl rfl rfl (by decide +kernel) ⟨Nat.le_of_ble_eq_true rfl, Nat.le_of_ble_eq_true rfl⟩) (va_recv hK hP (ci := 3) (q0 := (wC E a mc n now lim (LF F lit fo)).length + 1) rfl wG_m0) hP hK hD hS hA rfl hl.1 rfl (Nat.le_of_ble_eq_true rfl) dL_law_1311 ⟨by show cells + 1 + 0 ≤ 601024; omega, by show slots + 6 + 0 ≤ 7293034; omega⟩ (fun r2 u2 H locs hr2 hP hD hS => ?_)
  subst hr2
  have hP : va_P E.1 vwCl (wG E (wC E a mc n now lim (LF F lit fo)) o (fn) (wM E bb (nI 1) n lim F (NW now F) kp)) _ := hP
  have hD : va_D A (wG E (wC E a mc n now lim (LF F lit fo)) o (fn) (wM E bb (nI 1) n lim F (NW now F) kp)) := hD
  refine lv_istore (lv' := [(6, .int (nI 0)), (5, .int (nI 1)), (0, .ref b), (1, .ref (a 0)), (2, .ref (bb 0)), (3, .ref o), (4, .int (nI i))]) hx hb dL_law_1314 hl (by decide) rfl (fun ls hl => ?_)
  refine lv_aload_n hx hb dL_law_1316 rfl (lv_at hl 4 rfl) ?_
  refine lawM_i (S := Unit) (W1 := fun kQ => wM E bb (nI 1) n lim F (NW now F) kp) (rest := []) (As := []) ⟨hx, hb, hml, hown, hts⟩ (c_X2_thrown l E _ bb (nI 1) n lim now F kp) (cwV 0 hts gL_law_X2_thrown rfl rfl rfl (by decide +kernel) ⟨Nat.le_of_ble_eq_true rfl, Nat.le_of_ble_eq_true rfl⟩) (va_recv hK hP (ci := 3) (q0 := (wC E a mc n now lim (LF F lit fo)).length + 1) rfl wG_m0) hP hK hD hS hA rfl hl.1 rfl (Nat.le_of_ble_eq_true rfl) dL_law_1317 ⟨by show cells + 1 + 0 + 0 ≤ 601024; omega, by show slots + 6 + 0 + 0 ≤ 7293034; omega⟩ (fun r3 u3 H locs hr3 hP hD hS => ?_)
  subst hr3
  have hP : va_P E.1 vwCl (wG E (wC E a mc n now lim (LF F lit fo)) o (fn) (wM E bb (nI 1) n lim F (NW now F) kp)) _ := hP
  have hD : va_D A (wG E (wC E a mc n now lim (LF F lit fo)) o (fn) (wM E bb (nI 1) n lim F (NW now F) kp)) := hD
  refine lv_iload hx hb dL_law_1320 (lv_at hl 1 rfl) ?_
  refine nq_icmp_eq (tgt := 1327) hx hb dL_law_1322 (by decide) (by omega) (by omega) (fun h1322 => ?_) (fun h1322 => ?_)
  · skip
    refine lv_iload hx hb dL_law_1327 (lv_at hl 1 rfl) ?_
    refine nq_if_ne (tgt := 1344) hx hb dL_law_1329 (by decide) (by decide) (fun h1329 => ?_) (fun h1329 => ?_)
    · skip
      refine lv_goto (tgt := 1763) hx hb dL_law_1344 (by decide) ?_
      exact KK a mc n now lim F lit fo fn bb (nI 1) kp _ _ _ _ _ ⟨hO, by omega, hz, by omega, by omega, hP, hD, hS, (lv_sub hl [2, 3, 4, 5, 6] rfl)⟩
    · skip
      exact absurd h1329 (by decide)
  · skip
    exact absurd rfl h1322

set_option maxHeartbeats 4000000 in
set_option maxRecDepth 100000 in
theorem law_meets {p : Program} {l : Launch} {e : Env} {s : State} {m : MethodId} {b : Nat} {below : List Frame} {meth : Method} {c : Code} {E : GE} {A : Nat → Prop} {z0 L o i j : Nat} {xs : Nat → Int32} {Q : State → Prop} (CC : LC p l s m b c E A z0 L xs) (hL9 : L ≤ 2560) (hi9 : i + 5 ≤ L) (hj9 : j ≤ 511) (KK : LK p l e s m b below meth c E A z0 o Q 1763 i (j + 1)) (a : Nat → Nat) (mc : Int32) (n now lim : Nat) (F : LR) (lit : Nat → Bool) (fo : Nat → Nat) (fn : Nat → Int64) (bb : Nat → Nat) (th : Int32) (kp : Nat → Int32) (H : Heap) (locs : List Loc) (ls : Array Slot) (cells slots : Nat) (hst : LSt E A s b z0 i j a mc n now lim F lit fo o fn bb th kp H locs ls cells slots) (k : Nat) (hk : k < n) (e1 : xs (i + 1) = (nI k)) : W p l e room_1 s m #[Value.ref b] below meth c H locs cells slots Q (F0 m 1347 ls []) := by
  obtain ⟨hx, hb, hml, hown, hts, hK, hZ, hT, hA, hbA, hX, hbl, hl9⟩ := CC
  obtain ⟨hO, hnw, hz, hcl, hsl, hP, hD, hS, hl⟩ := hst
  refine lv_aload_n hx hb dL_law_1347 rfl (lv_at hl 1 rfl) ?_
  refine lv_aload_n hx hb dL_law_1348 rfl (lv_at hl 0 rfl) ?_
  refine lv_iload hx hb dL_law_1349 (lv_at hl 4 rfl) ?_
  refine lv_iconst (v := (nI 1)) hx hb dL_law_1351 (by decide) ?_
  refine nq_add hx hb dL_law_1352 ?_
  refine va_sld hx hb hX hbl hbA hS (i := nI (i + 1)) (by exact vp_in_nI (by omega) (by omega)) dL_law_1353 ?_
  refine nq_top (show xs ((nI (i + 1)).toNatClampNeg) = (nI k) from by rw [nI_clamp (by omega)]; exact e1) ?_
  refine lv_aload_n hx hb dL_law_1354 rfl (lv_at hl 3 rfl) ?_
  refine lawS (S := Unit) (W1 := fun uQ => wC E a mc n now lim (LF F lit fo)) (f1 := fun uQ => vp_updL fn 0 (((nI (mtS F k ((F k 3 : Nat) : Int) n))).toInt64)) (rest := []) (As := [.ref (a 0), .int (nI k), .ref o]) ⟨hx, hb, hml, hown, hts⟩ (w_L_meets l hl9 E _ z0 a mc n now lim F lit fo hO o fn k hk) (vx_cwSW 3 hts gL_law_L_meets rfl rfl rfl (by decide +kernel) ⟨Nat.le_of_ble_eq_true rfl, Nat.le_of_ble_eq_true rfl⟩) hP hK hD hZ hT hS hA rfl hl.1 rfl (Nat.le_of_ble_eq_true rfl) dL_law_1355 ⟨by show cells + 0 ≤ 601024; omega, by show slots + 0 ≤ 7293034; omega⟩ (fun r1 u1 H locs hr1 hP hD hS => ?_)
  subst hr1
  have hP : va_P E.1 vwCl (wG E (wC E a mc n now lim (LF F lit fo)) o (vp_updL fn 0 (((nI (mtS F k ((F k 3 : Nat) : Int) n))).toInt64)) (wM E bb (th) n lim F (NW now F) kp)) _ := hP
  have hD : va_D A (wG E (wC E a mc n now lim (LF F lit fo)) o (vp_updL fn 0 (((nI (mtS F k ((F k 3 : Nat) : Int) n))).toInt64)) (wM E bb (th) n lim F (NW now F) kp)) := hD
  refine lv_istore (lv' := [(5, .int (nI 0)), (0, .ref b), (1, .ref (a 0)), (2, .ref (bb 0)), (3, .ref o), (4, .int (nI i))]) hx hb dL_law_1358 hl (by decide) rfl (fun ls hl => ?_)
  refine lv_aload_n hx hb dL_law_1360 rfl (lv_at hl 3 rfl) ?_
  refine lv_aload_n hx hb dL_law_1361 rfl (lv_at hl 1 rfl) ?_
  refine lv_iload hx hb dL_law_1362 (lv_at hl 5 rfl) ?_
  refine lv_iconst (v := (nI 1)) hx hb dL_law_1364 (by decide) ?_
  refine nq_add hx hb dL_law_1365 ?_
  refine va_sld hx hb hX hbl hbA hS (i := nI (i + 1)) (by exact vp_in_nI (by omega) (by omega)) dL_law_1366 ?_
  refine nq_top (show xs ((nI (i + 1)).toNatClampNeg) = (nI k) from by rw [nI_clamp (by omega)]; exact e1) ?_
  refine lawM_i (S := Unit) (W1 := fun kQ => wM E bb (nI 0) n lim F (NW now F) kp) (rest := []) (As := [.int (nI k)]) ⟨hx, hb, hml, hown, hts⟩ (c_X2_meets l E _ bb th n lim now F kp hO k hk) (cwV 1 hts gL_law_X2_meets rfl rfl rfl (by decide +kernel) ⟨Nat.le_of_ble_eq_true rfl, Nat.le_of_ble_eq_true rfl⟩) (va_recv hK hP (ci := 3) (q0 := (wC E a mc n now lim (LF F lit fo)).length + 1) rfl wG_m0) hP hK hD hS hA rfl hl.1 rfl (Nat.le_of_ble_eq_true rfl) dL_law_1367 ⟨by show cells + 0 + 0 ≤ 601024; omega, by show slots + 0 + 0 ≤ 7293034; omega⟩ (fun r2 u2 H locs hr2 hP hD hS => ?_)
  subst hr2
  have hP : va_P E.1 vwCl (wG E (wC E a mc n now lim (LF F lit fo)) o (vp_updL fn 0 (((nI (mtS F k ((F k 3 : Nat) : Int) n))).toInt64)) (wM E bb (nI 0) n lim F (NW now F) kp)) _ := hP
  have hD : va_D A (wG E (wC E a mc n now lim (LF F lit fo)) o (vp_updL fn 0 (((nI (mtS F k ((F k 3 : Nat) : Int) n))).toInt64)) (wM E bb (nI 0) n lim F (NW now F) kp)) := hD
  refine lv_istore (lv' := [(6, .int (nI (mtS F k ((F k 3 : Nat) : Int) n))), (5, .int (nI 0)), (0, .ref b), (1, .ref (a 0)), (2, .ref (bb 0)), (3, .ref o), (4, .int (nI i))]) hx hb dL_law_1370 hl (by decide) rfl (fun ls hl => ?_)
  refine lv_aload_n hx hb dL_law_1372 rfl (lv_at hl 4 rfl) ?_
  refine lawM_i (S := Unit) (W1 := fun kQ => wM E bb (nI 0) n lim F (NW now F) kp) (rest := []) (As := []) ⟨hx, hb, hml, hown, hts⟩ (c_X2_thrown l E _ bb (nI 0) n lim now F kp) (cwV 0 hts gL_law_X2_thrown rfl rfl rfl (by decide +kernel) ⟨Nat.le_of_ble_eq_true rfl, Nat.le_of_ble_eq_true rfl⟩) (va_recv hK hP (ci := 3) (q0 := (wC E a mc n now lim (LF F lit fo)).length + 1) rfl wG_m0) hP hK hD hS hA rfl hl.1 rfl (Nat.le_of_ble_eq_true rfl) dL_law_1373 ⟨by show cells + 0 + 0 + 0 ≤ 601024; omega, by show slots + 0 + 0 + 0 ≤ 7293034; omega⟩ (fun r3 u3 H locs hr3 hP hD hS => ?_)
  subst hr3
  have hP : va_P E.1 vwCl (wG E (wC E a mc n now lim (LF F lit fo)) o (vp_updL fn 0 (((nI (mtS F k ((F k 3 : Nat) : Int) n))).toInt64)) (wM E bb (nI 0) n lim F (NW now F) kp)) _ := hP
  have hD : va_D A (wG E (wC E a mc n now lim (LF F lit fo)) o (vp_updL fn 0 (((nI (mtS F k ((F k 3 : Nat) : Int) n))).toInt64)) (wM E bb (nI 0) n lim F (NW now F) kp)) := hD
  refine lv_iload hx hb dL_law_1376 (lv_at hl 1 rfl) ?_
  refine nq_icmp_eq (tgt := 1383) hx hb dL_law_1378 (by decide) (by omega) (by omega) (fun h1378 => ?_) (fun h1378 => ?_)
  · skip
    refine lv_iload hx hb dL_law_1383 (lv_at hl 1 rfl) ?_
    refine nq_if_ne (tgt := 1400) hx hb dL_law_1385 (by decide) (by decide) (fun h1385 => ?_) (fun h1385 => ?_)
    · skip
      exact absurd h1385 (by decide)
    · skip
      refine lv_aload_n hx hb dL_law_1388 rfl (lv_at hl 5 rfl) ?_
      refine lv_iconst (v := (nI 0)) hx hb dL_law_1389 (by decide) ?_
      refine va_lald hx hb hK hP (wC E a mc n now lim (LF F lit fo)).length 2 wG_o rfl (i := nI 0) (by exact vp_in_nI (by omega) (by omega)) dL_law_1390 ?_
      refine nq_topl (show (vp_updL fn 0 (((nI (mtS F k ((F k 3 : Nat) : Int) n))).toInt64)) ((nI 0).toNatClampNeg) = ((nI (mtS F k ((F k 3 : Nat) : Int) n))).toInt64 from by rw [nI_clamp (by omega)]; exact if_pos rfl) ?_
      refine lv_iload hx hb dL_law_1391 (lv_at hl 0 rfl) ?_
      refine lv_i2l (v := (nI (mtS F k ((F k 3 : Nat) : Int) n)).toInt64) hx hb dL_law_1393 (rfl) ?_
      refine nq_topl (show (nI (mtS F k ((F k 3 : Nat) : Int) n)).toInt64 = ((nI (mtS F k ((F k 3 : Nat) : Int) n))).toInt64 from by first | rfl | (rw [h1385]; rfl)) ?_
      refine W.lcmp hx hb dL_law_1394 ?_
      refine lv_if_eq (tgt := 1400) hx hb dL_law_1395 (by decide) (fun h1395 => ?_) (fun h1395 => ?_)
      · skip
        refine lv_goto (tgt := 1763) hx hb dL_law_1400 (by decide) ?_
        exact KK a mc n now lim F lit fo (vp_updL fn 0 (((nI (mtS F k ((F k 3 : Nat) : Int) n))).toInt64)) bb (nI 0) kp _ _ _ _ _ ⟨hO, by omega, hz, by omega, by omega, hP, hD, hS, (lv_sub hl [2, 3, 4, 5, 6] rfl)⟩
      · skip
        exact absurd (lg_self _) h1395
  · skip
    exact absurd rfl h1378

set_option maxHeartbeats 4000000 in
set_option maxRecDepth 100000 in
theorem law_meets_x {p : Program} {l : Launch} {e : Env} {s : State} {m : MethodId} {b : Nat} {below : List Frame} {meth : Method} {c : Code} {E : GE} {A : Nat → Prop} {z0 L o i j : Nat} {xs : Nat → Int32} {Q : State → Prop} (CC : LC p l s m b c E A z0 L xs) (hL9 : L ≤ 2560) (hi9 : i + 5 ≤ L) (hj9 : j ≤ 511) (KK : LK p l e s m b below meth c E A z0 o Q 1763 i (j + 1)) (a : Nat → Nat) (mc : Int32) (n now lim : Nat) (F : LR) (lit : Nat → Bool) (fo : Nat → Nat) (fn : Nat → Int64) (bb : Nat → Nat) (th : Int32) (kp : Nat → Int32) (H : Heap) (locs : List Loc) (ls : Array Slot) (cells slots : Nat) (hst : LSt E A s b z0 i j a mc n now lim F lit fo o fn bb th kp H locs ls cells slots) (x : Int32) (hx9 : lpB n x = false) (e1 : xs (i + 1) = x) : W p l e room_1 s m #[Value.ref b] below meth c H locs cells slots Q (F0 m 1347 ls []) := by
  obtain ⟨hx, hb, hml, hown, hts, hK, hZ, hT, hA, hbA, hX, hbl, hl9⟩ := CC
  obtain ⟨hO, hnw, hz, hcl, hsl, hP, hD, hS, hl⟩ := hst
  refine lv_aload_n hx hb dL_law_1347 rfl (lv_at hl 1 rfl) ?_
  refine lv_aload_n hx hb dL_law_1348 rfl (lv_at hl 0 rfl) ?_
  refine lv_iload hx hb dL_law_1349 (lv_at hl 4 rfl) ?_
  refine lv_iconst (v := (nI 1)) hx hb dL_law_1351 (by decide) ?_
  refine nq_add hx hb dL_law_1352 ?_
  refine va_sld hx hb hX hbl hbA hS (i := nI (i + 1)) (by exact vp_in_nI (by omega) (by omega)) dL_law_1353 ?_
  refine nq_top (show xs ((nI (i + 1)).toNatClampNeg) = x from by rw [nI_clamp (by omega)]; exact e1) ?_
  refine lv_aload_n hx hb dL_law_1354 rfl (lv_at hl 3 rfl) ?_
  refine lawS (S := Unit) (W1 := fun uQ => wC E a mc n now lim (LF F lit fo)) (f1 := fun uQ => fn) (rest := []) (As := [.ref (a 0), .int x, .ref o]) ⟨hx, hb, hml, hown, hts⟩ (w_L_meets_x l hl9 E _ z0 a mc n now lim F lit fo hO o fn x hx9) (vx_cwSW 3 hts gL_law_L_meets rfl rfl rfl (by decide +kernel) ⟨Nat.le_of_ble_eq_true rfl, Nat.le_of_ble_eq_true rfl⟩) hP hK hD hZ hT hS hA rfl hl.1 rfl (Nat.le_of_ble_eq_true rfl) dL_law_1355 ⟨by show cells + 1 ≤ 601024; omega, by show slots + 6 ≤ 7293034; omega⟩ (fun r1 u1 H locs hr1 hP hD hS => ?_)
  subst hr1
  have hP : va_P E.1 vwCl (wG E (wC E a mc n now lim (LF F lit fo)) o (fn) (wM E bb (th) n lim F (NW now F) kp)) _ := hP
  have hD : va_D A (wG E (wC E a mc n now lim (LF F lit fo)) o (fn) (wM E bb (th) n lim F (NW now F) kp)) := hD
  refine lv_istore (lv' := [(5, .int (nI 1)), (0, .ref b), (1, .ref (a 0)), (2, .ref (bb 0)), (3, .ref o), (4, .int (nI i))]) hx hb dL_law_1358 hl (by decide) rfl (fun ls hl => ?_)
  refine lv_aload_n hx hb dL_law_1360 rfl (lv_at hl 3 rfl) ?_
  refine lv_aload_n hx hb dL_law_1361 rfl (lv_at hl 1 rfl) ?_
  refine lv_iload hx hb dL_law_1362 (lv_at hl 5 rfl) ?_
  refine lv_iconst (v := (nI 1)) hx hb dL_law_1364 (by decide) ?_
  refine nq_add hx hb dL_law_1365 ?_
  refine va_sld hx hb hX hbl hbA hS (i := nI (i + 1)) (by exact vp_in_nI (by omega) (by omega)) dL_law_1366 ?_
  refine nq_top (show xs ((nI (i + 1)).toNatClampNeg) = x from by rw [nI_clamp (by omega)]; exact e1) ?_
  refine lawM_i (S := Unit) (W1 := fun kQ => wM E bb (nI 1) n lim F (NW now F) kp) (rest := []) (As := [.int x]) ⟨hx, hb, hml, hown, hts⟩ (c_X2_meets_x l E _ bb th n lim now F kp hO x hx9) (cwV 1 hts gL_law_X2_meets rfl rfl rfl (by decide +kernel) ⟨Nat.le_of_ble_eq_true rfl, Nat.le_of_ble_eq_true rfl⟩) (va_recv hK hP (ci := 3) (q0 := (wC E a mc n now lim (LF F lit fo)).length + 1) rfl wG_m0) hP hK hD hS hA rfl hl.1 rfl (Nat.le_of_ble_eq_true rfl) dL_law_1367 ⟨by show cells + 1 + 0 ≤ 601024; omega, by show slots + 6 + 0 ≤ 7293034; omega⟩ (fun r2 u2 H locs hr2 hP hD hS => ?_)
  subst hr2
  have hP : va_P E.1 vwCl (wG E (wC E a mc n now lim (LF F lit fo)) o (fn) (wM E bb (nI 1) n lim F (NW now F) kp)) _ := hP
  have hD : va_D A (wG E (wC E a mc n now lim (LF F lit fo)) o (fn) (wM E bb (nI 1) n lim F (NW now F) kp)) := hD
  refine lv_istore (lv' := [(6, .int (nI 0)), (5, .int (nI 1)), (0, .ref b), (1, .ref (a 0)), (2, .ref (bb 0)), (3, .ref o), (4, .int (nI i))]) hx hb dL_law_1370 hl (by decide) rfl (fun ls hl => ?_)
  refine lv_aload_n hx hb dL_law_1372 rfl (lv_at hl 4 rfl) ?_
  refine lawM_i (S := Unit) (W1 := fun kQ => wM E bb (nI 1) n lim F (NW now F) kp) (rest := []) (As := []) ⟨hx, hb, hml, hown, hts⟩ (c_X2_thrown l E _ bb (nI 1) n lim now F kp) (cwV 0 hts gL_law_X2_thrown rfl rfl rfl (by decide +kernel) ⟨Nat.le_of_ble_eq_true rfl, Nat.le_of_ble_eq_true rfl⟩) (va_recv hK hP (ci := 3) (q0 := (wC E a mc n now lim (LF F lit fo)).length + 1) rfl wG_m0) hP hK hD hS hA rfl hl.1 rfl (Nat.le_of_ble_eq_true rfl) dL_law_1373 ⟨by show cells + 1 + 0 + 0 ≤ 601024; omega, by show slots + 6 + 0 + 0 ≤ 7293034; omega⟩ (fun r3 u3 H locs hr3 hP hD hS => ?_)
  subst hr3
  have hP : va_P E.1 vwCl (wG E (wC E a mc n now lim (LF F lit fo)) o (fn) (wM E bb (nI 1) n lim F (NW now F) kp)) _ := hP
  have hD : va_D A (wG E (wC E a mc n now lim (LF F lit fo)) o (fn) (wM E bb (nI 1) n lim F (NW now F) kp)) := hD
  refine lv_iload hx hb dL_law_1376 (lv_at hl 1 rfl) ?_
  refine nq_icmp_eq (tgt := 1383) hx hb dL_law_1378 (by decide) (by omega) (by omega) (fun h1378 => ?_) (fun h1378 => ?_)
  · skip
    refine lv_iload hx hb dL_law_1383 (lv_at hl 1 rfl) ?_
    refine nq_if_ne (tgt := 1400) hx hb dL_law_1385 (by decide) (by decide) (fun h1385 => ?_) (fun h1385 => ?_)
    · skip
      refine lv_goto (tgt := 1763) hx hb dL_law_1400 (by decide) ?_
      exact KK a mc n now lim F lit fo fn bb (nI 1) kp _ _ _ _ _ ⟨hO, by omega, hz, by omega, by omega, hP, hD, hS, (lv_sub hl [2, 3, 4, 5, 6] rfl)⟩
    · skip
      exact absurd h1385 (by decide)
  · skip
    exact absurd rfl h1378

set_option maxHeartbeats 4000000 in
set_option maxRecDepth 100000 in
theorem law_apart {p : Program} {l : Launch} {e : Env} {s : State} {m : MethodId} {b : Nat} {below : List Frame} {meth : Method} {c : Code} {E : GE} {A : Nat → Prop} {z0 L o i j : Nat} {xs : Nat → Int32} {Q : State → Prop} (CC : LC p l s m b c E A z0 L xs) (hL9 : L ≤ 2560) (hi9 : i + 5 ≤ L) (hj9 : j ≤ 511) (KK : LK p l e s m b below meth c E A z0 o Q 1763 i (j + 1)) (a : Nat → Nat) (mc : Int32) (n now lim : Nat) (F : LR) (lit : Nat → Bool) (fo : Nat → Nat) (fn : Nat → Int64) (bb : Nat → Nat) (th : Int32) (kp : Nat → Int32) (H : Heap) (locs : List Loc) (ls : Array Slot) (cells slots : Nat) (hst : LSt E A s b z0 i j a mc n now lim F lit fo o fn bb th kp H locs ls cells slots) : W p l e room_1 s m #[Value.ref b] below meth c H locs cells slots Q (F0 m 1403 ls []) := by
  obtain ⟨hx, hb, hml, hown, hts, hK, hZ, hT, hA, hbA, hX, hbl, hl9⟩ := CC
  obtain ⟨hO, hnw, hz, hcl, hsl, hP, hD, hS, hl⟩ := hst
  refine lv_aload_n hx hb dL_law_1403 rfl (lv_at hl 1 rfl) ?_
  refine csV_i (rest := []) (As := []) ⟨hx, hb, hml, hown, hts⟩ (c_X1_apart l E _ a n now lim F lit fo CV_app hO ) (cwV 0 hts gL_law_X1_apart rfl rfl rfl (by decide +kernel) ⟨Nat.le_of_ble_eq_true rfl, Nat.le_of_ble_eq_true rfl⟩) (va_recv hK hP (ci := 2) (q0 := 0) rfl (list_app wC_x)) hP hK rfl hl.1 rfl (Nat.le_of_ble_eq_true rfl) dL_law_1404 (by show cells ≤ 601024; omega) (by show slots ≤ 7293034; omega) (fun r1 hr1 => ?_)
  subst hr1
  refine lv_aload_n hx hb dL_law_1407 rfl (lv_at hl 2 rfl) ?_
  refine lawM_i (S := Unit) (W1 := fun kQ => wM E bb (nI 0) n lim F (NW now F) kp) (rest := [.int (nI (apS F n n))]) (As := []) ⟨hx, hb, hml, hown, hts⟩ (c_X2_apart l E _ bb th n lim now F kp hO ) (cwV 0 hts gL_law_X2_apart rfl rfl rfl (by decide +kernel) ⟨Nat.le_of_ble_eq_true rfl, Nat.le_of_ble_eq_true rfl⟩) (va_recv hK hP (ci := 3) (q0 := (wC E a mc n now lim (LF F lit fo)).length + 1) rfl wG_m0) hP hK hD hS hA rfl hl.1 rfl (Nat.le_of_ble_eq_true rfl) dL_law_1408 ⟨by show cells + 0 ≤ 601024; omega, by show slots + 0 ≤ 7293034; omega⟩ (fun r2 u2 H locs hr2 hP hD hS => ?_)
  subst hr2
  have hP : va_P E.1 vwCl (wG E (wC E a mc n now lim (LF F lit fo)) o (fn) (wM E bb (nI 0) n lim F (NW now F) kp)) _ := hP
  have hD : va_D A (wG E (wC E a mc n now lim (LF F lit fo)) o (fn) (wM E bb (nI 0) n lim F (NW now F) kp)) := hD
  refine lv_icmp_eq (tgt := 1763) hx hb dL_law_1411 (by decide) (fun h1411 => ?_) (fun h1411 => ?_)
  · skip
    exact KK a mc n now lim F lit fo fn bb (nI 0) kp _ _ _ _ _ ⟨hO, by omega, hz, by omega, by omega, hP, hD, hS, (lv_sub hl [0, 1, 2, 3, 4] rfl)⟩
  · skip
    exact absurd rfl h1411

set_option maxHeartbeats 4000000 in
set_option maxRecDepth 100000 in
theorem law_bestShift {p : Program} {l : Launch} {e : Env} {s : State} {m : MethodId} {b : Nat} {below : List Frame} {meth : Method} {c : Code} {E : GE} {A : Nat → Prop} {z0 L o i j : Nat} {xs : Nat → Int32} {Q : State → Prop} (CC : LC p l s m b c E A z0 L xs) (hL9 : L ≤ 2560) (hi9 : i + 5 ≤ L) (hj9 : j ≤ 511) (KK : LK p l e s m b below meth c E A z0 o Q 1763 i (j + 1)) (a : Nat → Nat) (mc : Int32) (n now lim : Nat) (F : LR) (lit : Nat → Bool) (fo : Nat → Nat) (fn : Nat → Int64) (bb : Nat → Nat) (th : Int32) (kp : Nat → Int32) (H : Heap) (locs : List Loc) (ls : Array Slot) (cells slots : Nat) (hst : LSt E A s b z0 i j a mc n now lim F lit fo o fn bb th kp H locs ls cells slots) (k : Nat) (hk : k < n) (e1 : xs (i + 1) = (nI k)) : W p l e room_1 s m #[Value.ref b] below meth c H locs cells slots Q (F0 m 1416 ls []) := by
  obtain ⟨hx, hb, hml, hown, hts, hK, hZ, hT, hA, hbA, hX, hbl, hl9⟩ := CC
  obtain ⟨hO, hnw, hz, hcl, hsl, hP, hD, hS, hl⟩ := hst
  refine lv_aload_n hx hb dL_law_1416 rfl (lv_at hl 1 rfl) ?_
  refine lv_aload_n hx hb dL_law_1417 rfl (lv_at hl 0 rfl) ?_
  refine lv_iload hx hb dL_law_1418 (lv_at hl 4 rfl) ?_
  refine lv_iconst (v := (nI 1)) hx hb dL_law_1420 (by decide) ?_
  refine nq_add hx hb dL_law_1421 ?_
  refine va_sld hx hb hX hbl hbA hS (i := nI (i + 1)) (by exact vp_in_nI (by omega) (by omega)) dL_law_1422 ?_
  refine nq_top (show xs ((nI (i + 1)).toNatClampNeg) = (nI k) from by rw [nI_clamp (by omega)]; exact e1) ?_
  refine lv_aload_n hx hb dL_law_1423 rfl (lv_at hl 3 rfl) ?_
  refine lawS (S := Unit) (W1 := fun uQ => wC E a mc n now lim (LF F lit fo)) (f1 := fun uQ => vp_updL fn 0 (((nI (bestS F n k (F k 0 - 1)))).toInt64)) (rest := []) (As := [.ref (a 0), .int (nI k), .ref o]) ⟨hx, hb, hml, hown, hts⟩ (w_L_bestShift l hl9 E _ z0 a mc n now lim F lit fo hO o fn k hk) (vx_cwSW 3 hts gL_law_L_bestShift rfl rfl rfl (by decide +kernel) ⟨Nat.le_of_ble_eq_true rfl, Nat.le_of_ble_eq_true rfl⟩) hP hK hD hZ hT hS hA rfl hl.1 rfl (Nat.le_of_ble_eq_true rfl) dL_law_1424 ⟨by show cells + 0 ≤ 601024; omega, by show slots + 0 ≤ 7293034; omega⟩ (fun r1 u1 H locs hr1 hP hD hS => ?_)
  subst hr1
  have hP : va_P E.1 vwCl (wG E (wC E a mc n now lim (LF F lit fo)) o (vp_updL fn 0 (((nI (bestS F n k (F k 0 - 1)))).toInt64)) (wM E bb (th) n lim F (NW now F) kp)) _ := hP
  have hD : va_D A (wG E (wC E a mc n now lim (LF F lit fo)) o (vp_updL fn 0 (((nI (bestS F n k (F k 0 - 1)))).toInt64)) (wM E bb (th) n lim F (NW now F) kp)) := hD
  refine lv_istore (lv' := [(5, .int (nI 0)), (0, .ref b), (1, .ref (a 0)), (2, .ref (bb 0)), (3, .ref o), (4, .int (nI i))]) hx hb dL_law_1427 hl (by decide) rfl (fun ls hl => ?_)
  refine lv_aload_n hx hb dL_law_1429 rfl (lv_at hl 3 rfl) ?_
  refine lv_aload_n hx hb dL_law_1430 rfl (lv_at hl 1 rfl) ?_
  refine lv_iload hx hb dL_law_1431 (lv_at hl 5 rfl) ?_
  refine lv_iconst (v := (nI 1)) hx hb dL_law_1433 (by decide) ?_
  refine nq_add hx hb dL_law_1434 ?_
  refine va_sld hx hb hX hbl hbA hS (i := nI (i + 1)) (by exact vp_in_nI (by omega) (by omega)) dL_law_1435 ?_
  refine nq_top (show xs ((nI (i + 1)).toNatClampNeg) = (nI k) from by rw [nI_clamp (by omega)]; exact e1) ?_
  refine lawM_i (S := Unit) (W1 := fun kQ => wM E bb (nI 0) n lim F (NW now F) kp) (rest := []) (As := [.int (nI k)]) ⟨hx, hb, hml, hown, hts⟩ (c_X2_bestShift l E _ bb th n lim now F kp hO k hk) (cwV 1 hts gL_law_X2_bestShift rfl rfl rfl (by decide +kernel) ⟨Nat.le_of_ble_eq_true rfl, Nat.le_of_ble_eq_true rfl⟩) (va_recv hK hP (ci := 3) (q0 := (wC E a mc n now lim (LF F lit fo)).length + 1) rfl wG_m0) hP hK hD hS hA rfl hl.1 rfl (Nat.le_of_ble_eq_true rfl) dL_law_1436 ⟨by show cells + 0 + 0 ≤ 601024; omega, by show slots + 0 + 0 ≤ 7293034; omega⟩ (fun r2 u2 H locs hr2 hP hD hS => ?_)
  subst hr2
  have hP : va_P E.1 vwCl (wG E (wC E a mc n now lim (LF F lit fo)) o (vp_updL fn 0 (((nI (bestS F n k (F k 0 - 1)))).toInt64)) (wM E bb (nI 0) n lim F (NW now F) kp)) _ := hP
  have hD : va_D A (wG E (wC E a mc n now lim (LF F lit fo)) o (vp_updL fn 0 (((nI (bestS F n k (F k 0 - 1)))).toInt64)) (wM E bb (nI 0) n lim F (NW now F) kp)) := hD
  refine lv_istore (lv' := [(6, .int (nI (bestS F n k (F k 0 - 1)))), (5, .int (nI 0)), (0, .ref b), (1, .ref (a 0)), (2, .ref (bb 0)), (3, .ref o), (4, .int (nI i))]) hx hb dL_law_1439 hl (by decide) rfl (fun ls hl => ?_)
  refine lv_aload_n hx hb dL_law_1441 rfl (lv_at hl 4 rfl) ?_
  refine lawM_i (S := Unit) (W1 := fun kQ => wM E bb (nI 0) n lim F (NW now F) kp) (rest := []) (As := []) ⟨hx, hb, hml, hown, hts⟩ (c_X2_thrown l E _ bb (nI 0) n lim now F kp) (cwV 0 hts gL_law_X2_thrown rfl rfl rfl (by decide +kernel) ⟨Nat.le_of_ble_eq_true rfl, Nat.le_of_ble_eq_true rfl⟩) (va_recv hK hP (ci := 3) (q0 := (wC E a mc n now lim (LF F lit fo)).length + 1) rfl wG_m0) hP hK hD hS hA rfl hl.1 rfl (Nat.le_of_ble_eq_true rfl) dL_law_1442 ⟨by show cells + 0 + 0 + 0 ≤ 601024; omega, by show slots + 0 + 0 + 0 ≤ 7293034; omega⟩ (fun r3 u3 H locs hr3 hP hD hS => ?_)
  subst hr3
  have hP : va_P E.1 vwCl (wG E (wC E a mc n now lim (LF F lit fo)) o (vp_updL fn 0 (((nI (bestS F n k (F k 0 - 1)))).toInt64)) (wM E bb (nI 0) n lim F (NW now F) kp)) _ := hP
  have hD : va_D A (wG E (wC E a mc n now lim (LF F lit fo)) o (vp_updL fn 0 (((nI (bestS F n k (F k 0 - 1)))).toInt64)) (wM E bb (nI 0) n lim F (NW now F) kp)) := hD
  refine lv_iload hx hb dL_law_1445 (lv_at hl 1 rfl) ?_
  refine nq_icmp_eq (tgt := 1452) hx hb dL_law_1447 (by decide) (by omega) (by omega) (fun h1447 => ?_) (fun h1447 => ?_)
  · skip
    refine lv_iload hx hb dL_law_1452 (lv_at hl 1 rfl) ?_
    refine nq_if_ne (tgt := 1469) hx hb dL_law_1454 (by decide) (by decide) (fun h1454 => ?_) (fun h1454 => ?_)
    · skip
      exact absurd h1454 (by decide)
    · skip
      refine lv_aload_n hx hb dL_law_1457 rfl (lv_at hl 5 rfl) ?_
      refine lv_iconst (v := (nI 0)) hx hb dL_law_1458 (by decide) ?_
      refine va_lald hx hb hK hP (wC E a mc n now lim (LF F lit fo)).length 2 wG_o rfl (i := nI 0) (by exact vp_in_nI (by omega) (by omega)) dL_law_1459 ?_
      refine nq_topl (show (vp_updL fn 0 (((nI (bestS F n k (F k 0 - 1)))).toInt64)) ((nI 0).toNatClampNeg) = ((nI (bestS F n k (F k 0 - 1)))).toInt64 from by rw [nI_clamp (by omega)]; exact if_pos rfl) ?_
      refine lv_iload hx hb dL_law_1460 (lv_at hl 0 rfl) ?_
      refine lv_i2l (v := (nI (bestS F n k (F k 0 - 1))).toInt64) hx hb dL_law_1462 (rfl) ?_
      refine nq_topl (show (nI (bestS F n k (F k 0 - 1))).toInt64 = ((nI (bestS F n k (F k 0 - 1)))).toInt64 from by first | rfl | (rw [h1454]; rfl)) ?_
      refine W.lcmp hx hb dL_law_1463 ?_
      refine lv_if_eq (tgt := 1469) hx hb dL_law_1464 (by decide) (fun h1464 => ?_) (fun h1464 => ?_)
      · skip
        refine lv_goto (tgt := 1763) hx hb dL_law_1469 (by decide) ?_
        exact KK a mc n now lim F lit fo (vp_updL fn 0 (((nI (bestS F n k (F k 0 - 1)))).toInt64)) bb (nI 0) kp _ _ _ _ _ ⟨hO, by omega, hz, by omega, by omega, hP, hD, hS, (lv_sub hl [2, 3, 4, 5, 6] rfl)⟩
      · skip
        exact absurd (lg_self _) h1464
  · skip
    exact absurd rfl h1447

set_option maxHeartbeats 4000000 in
set_option maxRecDepth 100000 in
theorem law_bestShift_x {p : Program} {l : Launch} {e : Env} {s : State} {m : MethodId} {b : Nat} {below : List Frame} {meth : Method} {c : Code} {E : GE} {A : Nat → Prop} {z0 L o i j : Nat} {xs : Nat → Int32} {Q : State → Prop} (CC : LC p l s m b c E A z0 L xs) (hL9 : L ≤ 2560) (hi9 : i + 5 ≤ L) (hj9 : j ≤ 511) (KK : LK p l e s m b below meth c E A z0 o Q 1763 i (j + 1)) (a : Nat → Nat) (mc : Int32) (n now lim : Nat) (F : LR) (lit : Nat → Bool) (fo : Nat → Nat) (fn : Nat → Int64) (bb : Nat → Nat) (th : Int32) (kp : Nat → Int32) (H : Heap) (locs : List Loc) (ls : Array Slot) (cells slots : Nat) (hst : LSt E A s b z0 i j a mc n now lim F lit fo o fn bb th kp H locs ls cells slots) (x : Int32) (hx9 : lpB n x = false) (e1 : xs (i + 1) = x) : W p l e room_1 s m #[Value.ref b] below meth c H locs cells slots Q (F0 m 1416 ls []) := by
  obtain ⟨hx, hb, hml, hown, hts, hK, hZ, hT, hA, hbA, hX, hbl, hl9⟩ := CC
  obtain ⟨hO, hnw, hz, hcl, hsl, hP, hD, hS, hl⟩ := hst
  refine lv_aload_n hx hb dL_law_1416 rfl (lv_at hl 1 rfl) ?_
  refine lv_aload_n hx hb dL_law_1417 rfl (lv_at hl 0 rfl) ?_
  refine lv_iload hx hb dL_law_1418 (lv_at hl 4 rfl) ?_
  refine lv_iconst (v := (nI 1)) hx hb dL_law_1420 (by decide) ?_
  refine nq_add hx hb dL_law_1421 ?_
  refine va_sld hx hb hX hbl hbA hS (i := nI (i + 1)) (by exact vp_in_nI (by omega) (by omega)) dL_law_1422 ?_
  refine nq_top (show xs ((nI (i + 1)).toNatClampNeg) = x from by rw [nI_clamp (by omega)]; exact e1) ?_
  refine lv_aload_n hx hb dL_law_1423 rfl (lv_at hl 3 rfl) ?_
  refine lawS (S := Unit) (W1 := fun uQ => wC E a mc n now lim (LF F lit fo)) (f1 := fun uQ => fn) (rest := []) (As := [.ref (a 0), .int x, .ref o]) ⟨hx, hb, hml, hown, hts⟩ (w_L_bestShift_x l hl9 E _ z0 a mc n now lim F lit fo hO o fn x hx9) (vx_cwSW 3 hts gL_law_L_bestShift rfl rfl rfl (by decide +kernel) ⟨Nat.le_of_ble_eq_true rfl, Nat.le_of_ble_eq_true rfl⟩) hP hK hD hZ hT hS hA rfl hl.1 rfl (Nat.le_of_ble_eq_true rfl) dL_law_1424 ⟨by show cells + 1 ≤ 601024; omega, by show slots + 6 ≤ 7293034; omega⟩ (fun r1 u1 H locs hr1 hP hD hS => ?_)
  subst hr1
  have hP : va_P E.1 vwCl (wG E (wC E a mc n now lim (LF F lit fo)) o (fn) (wM E bb (th) n lim F (NW now F) kp)) _ := hP
  have hD : va_D A (wG E (wC E a mc n now lim (LF F lit fo)) o (fn) (wM E bb (th) n lim F (NW now F) kp)) := hD
  refine lv_istore (lv' := [(5, .int (nI 1)), (0, .ref b), (1, .ref (a 0)), (2, .ref (bb 0)), (3, .ref o), (4, .int (nI i))]) hx hb dL_law_1427 hl (by decide) rfl (fun ls hl => ?_)
  refine lv_aload_n hx hb dL_law_1429 rfl (lv_at hl 3 rfl) ?_
  refine lv_aload_n hx hb dL_law_1430 rfl (lv_at hl 1 rfl) ?_
  refine lv_iload hx hb dL_law_1431 (lv_at hl 5 rfl) ?_
  refine lv_iconst (v := (nI 1)) hx hb dL_law_1433 (by decide) ?_
  refine nq_add hx hb dL_law_1434 ?_
  refine va_sld hx hb hX hbl hbA hS (i := nI (i + 1)) (by exact vp_in_nI (by omega) (by omega)) dL_law_1435 ?_
  refine nq_top (show xs ((nI (i + 1)).toNatClampNeg) = x from by rw [nI_clamp (by omega)]; exact e1) ?_
  refine lawM_i (S := Unit) (W1 := fun kQ => wM E bb (nI 1) n lim F (NW now F) kp) (rest := []) (As := [.int x]) ⟨hx, hb, hml, hown, hts⟩ (c_X2_bestShift_x l E _ bb th n lim now F kp hO x hx9) (cwV 1 hts gL_law_X2_bestShift rfl rfl rfl (by decide +kernel) ⟨Nat.le_of_ble_eq_true rfl, Nat.le_of_ble_eq_true rfl⟩) (va_recv hK hP (ci := 3) (q0 := (wC E a mc n now lim (LF F lit fo)).length + 1) rfl wG_m0) hP hK hD hS hA rfl hl.1 rfl (Nat.le_of_ble_eq_true rfl) dL_law_1436 ⟨by show cells + 1 + 0 ≤ 601024; omega, by show slots + 6 + 0 ≤ 7293034; omega⟩ (fun r2 u2 H locs hr2 hP hD hS => ?_)
  subst hr2
  have hP : va_P E.1 vwCl (wG E (wC E a mc n now lim (LF F lit fo)) o (fn) (wM E bb (nI 1) n lim F (NW now F) kp)) _ := hP
  have hD : va_D A (wG E (wC E a mc n now lim (LF F lit fo)) o (fn) (wM E bb (nI 1) n lim F (NW now F) kp)) := hD
  refine lv_istore (lv' := [(6, .int (nI 0)), (5, .int (nI 1)), (0, .ref b), (1, .ref (a 0)), (2, .ref (bb 0)), (3, .ref o), (4, .int (nI i))]) hx hb dL_law_1439 hl (by decide) rfl (fun ls hl => ?_)
  refine lv_aload_n hx hb dL_law_1441 rfl (lv_at hl 4 rfl) ?_
  refine lawM_i (S := Unit) (W1 := fun kQ => wM E bb (nI 1) n lim F (NW now F) kp) (rest := []) (As := []) ⟨hx, hb, hml, hown, hts⟩ (c_X2_thrown l E _ bb (nI 1) n lim now F kp) (cwV 0 hts gL_law_X2_thrown rfl rfl rfl (by decide +kernel) ⟨Nat.le_of_ble_eq_true rfl, Nat.le_of_ble_eq_true rfl⟩) (va_recv hK hP (ci := 3) (q0 := (wC E a mc n now lim (LF F lit fo)).length + 1) rfl wG_m0) hP hK hD hS hA rfl hl.1 rfl (Nat.le_of_ble_eq_true rfl) dL_law_1442 ⟨by show cells + 1 + 0 + 0 ≤ 601024; omega, by show slots + 6 + 0 + 0 ≤ 7293034; omega⟩ (fun r3 u3 H locs hr3 hP hD hS => ?_)
  subst hr3
  have hP : va_P E.1 vwCl (wG E (wC E a mc n now lim (LF F lit fo)) o (fn) (wM E bb (nI 1) n lim F (NW now F) kp)) _ := hP
  have hD : va_D A (wG E (wC E a mc n now lim (LF F lit fo)) o (fn) (wM E bb (nI 1) n lim F (NW now F) kp)) := hD
  refine lv_iload hx hb dL_law_1445 (lv_at hl 1 rfl) ?_
  refine nq_icmp_eq (tgt := 1452) hx hb dL_law_1447 (by decide) (by omega) (by omega) (fun h1447 => ?_) (fun h1447 => ?_)
  · skip
    refine lv_iload hx hb dL_law_1452 (lv_at hl 1 rfl) ?_
    refine nq_if_ne (tgt := 1469) hx hb dL_law_1454 (by decide) (by decide) (fun h1454 => ?_) (fun h1454 => ?_)
    · skip
      refine lv_goto (tgt := 1763) hx hb dL_law_1469 (by decide) ?_
      exact KK a mc n now lim F lit fo fn bb (nI 1) kp _ _ _ _ _ ⟨hO, by omega, hz, by omega, by omega, hP, hD, hS, (lv_sub hl [2, 3, 4, 5, 6] rfl)⟩
    · skip
      exact absurd h1454 (by decide)
  · skip
    exact absurd rfl h1447

/-! lamps by hand: who shines, beats that go by -/
set_option maxHeartbeats 4000000 in
set_option maxRecDepth 100000 in
/-- shining() -/
theorem c_X2_shining (l : Launch) (E : GE) (sz : Nat) (b : Nat → Nat) (n now lim : Nat) (F : LR) (hO : OkS n now lim F) : Met l yX2_shining wsX2_shining ({ frames := 2, cells := 1, slots := 8, locals := 42 } : Room) (va_Pc [.ref (b 0)] (pcM E (wS E b n now lim F) sz)) (va_Qr (S := Unit) (fun _ => True) (fun _ aQ tQ => atM E (va_A (wS E b n now lim F) sz) ((fun r => wS E b n now lim F ++ [(r, .inl (E.2.2.2.1, n, .inl (liF F lim now n)))]) aQ) tQ) (va_A (wS E b n now lim F) sz)) 1 8 (va_A (wS E b n now lim F) sz) := by
  refine metM (by decide) rfl (Nat.le_of_ble_eq_true rfl) ?_
  intro p e s m args below meth c ls A hAe hA hx hb hr hml hts hown hlocks hin hP hK hD hS hl
  rw [hAe]
  have hiX2 : ∀ q ∈ wsX20, q ∈ wsX2_shining := by decide +kernel
  obtain ⟨QQ, hQ⟩ : ∃ zQ, zQ = MQ below (va_Qr (S := Unit) (fun _ => True) (fun _ aQ tQ => atM E A ((fun r => wS E b n now lim F ++ [(r, .inl (E.2.2.2.1, n, .inl (liF F lim now n)))]) aQ) tQ) A) args s 1 8 A := ⟨_, rfl⟩
  rw [← hQ]
  obtain ⟨hO1, hO2, hO3, hO4, hO5⟩ := id hO
  refine lv_aload_n hx hb dX2_shining_0 rfl (lv_at hl 0 rfl) ?_
  refine va_get (D := E.1) (ci := 3) (v := .ref (b 1)) (C := RX2) (T := TX2) (N := 3) hx hb hts hiX2 hown hK hP 0 wS_0 rfl 0 (by decide) (hts (.fieldLink RX2 9 "PulseLoomLaw$Sim" "lamps" "[[I") (List.mem_of_getElem? (i := 1) (by rfl))) (fun _ h9 => h9) rfl dX2_shining_1 ?_
  refine va_alen hx hb hK hP 1 3 wS_1 rfl (v := nI n) rfl dX2_shining_4 ?_
  refine nz_newz (atype := .boolean) (N := n) hx hb (hts (.arrayClass .boolean) (List.mem_of_getElem? (i := 2) (by rfl))) rfl hK hP hD hS hA (by omega) (by show 0 + 1 ≤ 1; omega) (by show 0 + n ≤ 8; omega) dX2_shining_5 (fun q5 H hP hD hS => ?_)
  rw [liF_0 F lim now] at hP hD
  refine lv_astore_n (lv' := [(1, .ref q5), (0, .ref (b 0))]) hx hb dX2_shining_7 rfl hl (by decide) rfl (fun ls hl => ?_)
  refine lv_aload_n hx hb dX2_shining_8 rfl (lv_at hl 1 rfl) ?_
  refine va_get (D := E.1) (ci := 3) (v := .int (nI lim)) (C := RX2) (T := TX2) (N := 3) hx hb hts hiX2 hown hK hP 0 (list_app wS_0) rfl 1 (by decide) (hts (.fieldLink RX2 15 "PulseLoomLaw$Sim" "limit" "I") (List.mem_of_getElem? (i := 3) (by rfl))) (fun _ h9 => h9) rfl dX2_shining_9 ?_
  refine lv_istore_n (lv' := [(2, .int (nI lim)), (1, .ref q5), (0, .ref (b 0))]) hx hb dX2_shining_12 rfl hl (by decide) rfl (fun ls hl => ?_)
  refine lv_iconst (v := (nI 0)) hx hb dX2_shining_13 (by decide) ?_
  refine lv_istore_n (lv' := [(3, .int (nI 0)), (2, .int (nI lim)), (1, .ref q5), (0, .ref (b 0))]) hx hb dX2_shining_14 rfl hl (by decide) rfl (fun ls hl => ?_)
  have loop15 : ∀ (tk : Nat) (i : Nat) (H : Heap) (locs : List Loc) (ls : Array Slot), (i ≤ n) → (n - i) < tk → va_P E.1 vwCl (wS E b n now lim F ++ [(q5, .inl (E.2.2.2.1, n, .inl (liF F lim now i)))]) H → va_D A (wS E b n now lim F ++ [(q5, .inl (E.2.2.2.1, n, .inl (liF F lim now i)))]) → va_S A s.heap H locs → lv_has ls 4 [(3, .int (nI i)), (2, .int (nI (lim - acS F lim now i))), (1, .ref q5), (0, .ref (b 0))] → W p l e ({ frames := 2, cells := 1, slots := 8, locals := 42 } : Room) s m args below meth c H locs (0 + 1) (0 + n) QQ (F0 m 15 ls []) := by
    intro tk
    induction tk with
    | zero => intro i H locs ls hi hk hP hD hS hl; exact absurd hk (Nat.not_lt_zero _)
    | succ tk ih15 =>
      intro i H locs ls hi hk hP hD hS hl
      have hac := acS_lim F lim now i
      refine lv_iload_n hx hb dX2_shining_15 rfl (lv_at hl 0 rfl) ?_
      refine lv_aload_n hx hb dX2_shining_16 rfl (lv_at hl 3 rfl) ?_
      refine va_get (D := E.1) (ci := 3) (v := .ref (b 1)) (C := RX2) (T := TX2) (N := 3) hx hb hts hiX2 hown hK hP 0 (list_app wS_0) rfl 0 (by decide) (hts (.fieldLink RX2 9 "PulseLoomLaw$Sim" "lamps" "[[I") (List.mem_of_getElem? (i := 1) (by rfl))) (fun _ h9 => h9) rfl dX2_shining_17 ?_
      refine va_alen hx hb hK hP 1 3 (list_app wS_1) rfl (v := nI n) rfl dX2_shining_20 ?_
      refine nq_icmp_ge (tgt := 79) hx hb dX2_shining_21 (by decide) (by omega) (by omega) (fun h21 => ?_) (fun h21 => ?_)
      · skip
        rw [show i = n by omega] at hP hD
        refine lv_aload_n hx hb dX2_shining_79 rfl (lv_at hl 2 rfl) ?_
        rw [hQ]
        refine W.widen (k := 1) (n := 8) (by omega) (by omega) ?_
        exact retM_r (E := E) (A0 := A) (v := q5) (W1 := fun r => wS E b n now lim F ++ [(r, .inl (E.2.2.2.1, n, .inl (liF F lim now n)))]) hx hb hr hlocks hP hK hD hS dX2_shining_80
      · skip
        have join52 : ∀  (H : Heap) (locs : List Loc) (ls : Array Slot), va_P E.1 vwCl (wS E b n now lim F ++ [(q5, .inl (E.2.2.2.1, n, .inl (liF F lim now (i + 1))))]) H → va_D A (wS E b n now lim F ++ [(q5, .inl (E.2.2.2.1, n, .inl (liF F lim now (i + 1))))]) → va_S A s.heap H locs → lv_has ls 4 [(3, .int (nI i)), (2, .int (nI (lim - acS F lim now i))), (1, .ref q5), (0, .ref (b 0))] → W p l e ({ frames := 2, cells := 1, slots := 8, locals := 42 } : Room) s m args below meth c H locs (0 + 1) (0 + n) QQ (F0 m 52 ls []) := by
          intro H locs ls hP hD hS hl
          refine lv_iload_n hx hb dX2_shining_52 rfl (lv_at hl 1 rfl) ?_
          refine lv_aload_n hx hb dX2_shining_53 rfl (lv_at hl 2 rfl) ?_
          refine lv_iload_n hx hb dX2_shining_54 rfl (lv_at hl 0 rfl) ?_
          refine va_zald hx hb hK hP (2 + n) 2 wS_e rfl (by exact vp_in_nI (by omega) (by omega)) dX2_shining_55 ?_
          refine nq_top (show (liF F lim now (i + 1) (((nI i)).toNatClampNeg)) = (bI (litS F lim now i)) from liF_at (by omega) (by omega)) ?_
          refine bq_if_eq (tgt := 70) hx hb dX2_shining_56 (by decide) (fun h56 => ?_) (fun h56 => ?_)
          · skip
            refine lv_iconst (v := (nI 0)) hx hb dX2_shining_70 (by decide) ?_
            refine nq_sub hx hb dX2_shining_71 (by omega) ?_
            refine lv_istore_n (lv' := [(2, .int (nI ((lim - acS F lim now i) - 0))), (3, .int (nI i)), (1, .ref q5), (0, .ref (b 0))]) hx hb dX2_shining_72 rfl hl (by decide) rfl (fun ls hl => ?_)
            refine nq_inc (lv' := [(3, .int (nI (i + 1))), (2, .int (nI ((lim - acS F lim now i) - 0))), (1, .ref q5), (0, .ref (b 0))]) hx hb dX2_shining_73 (d := 1) rfl hl (k := 1) rfl (by decide) rfl (fun ls hl => ?_)
            refine lv_goto (tgt := 15) hx hb dX2_shining_76 (by decide) ?_
            have hl : lv_has ls 4 [(3, .int (nI (i + 1))), (2, .int (nI (lim - acS F lim now (i + 1)))), (1, .ref q5), (0, .ref (b 0))] := lv_rep hl 1 rfl (congrArg Value.int (show (nI ((lim - acS F lim now i) - 0)) = (nI (lim - acS F lim now (i + 1))) from congrArg nI (by rw [acS_s, h56]; simp <;> omega)))
            exact ih15 (i + 1) _ _ ls (by omega) (by omega) hP hD hS (lv_sub hl [0, 1, 2, 3] rfl)
          · skip
            have hL : acS F lim now i + F i 1 ≤ lim := by simp only [litS, Bool.and_eq_true, decide_eq_true_eq] at h56; exact h56.2
            refine lv_aload_n hx hb dX2_shining_59 rfl (lv_at hl 3 rfl) ?_
            refine va_get (D := E.1) (ci := 3) (v := .ref (b 1)) (C := RX2) (T := TX2) (N := 3) hx hb hts hiX2 hown hK hP 0 (list_app wS_0) rfl 0 (by decide) (hts (.fieldLink RX2 9 "PulseLoomLaw$Sim" "lamps" "[[I") (List.mem_of_getElem? (i := 1) (by rfl))) (fun _ h9 => h9) rfl dX2_shining_60 ?_
            refine lv_iload_n hx hb dX2_shining_63 rfl (lv_at hl 0 rfl) ?_
            refine nz_aald hx hb hK hP 1 (list_app wS_1) (by exact vp_in_nI (by omega) (by omega)) dX2_shining_64 ?_
            refine nq_topv (show va_rf ((arS b n) ((nI i)).toNatClampNeg) = .ref (b (2 + i)) from by rw [nI_clamp (by omega)]; exact congrArg va_rf (arS_at (by omega))) ?_
            refine lv_iconst (v := (nI 4)) hx hb dX2_shining_65 (by decide) ?_
            refine va_iald hx hb hK hP (2 + i) 0 (list_app (wS_r (by omega))) rfl (by exact vp_in_nI (by omega) (by omega)) dX2_shining_66 ?_
            refine nq_top (show (rwF F i (((nI 4)).toNatClampNeg)) = (nI (F i 1)) from by rw [nI_clamp (by omega)]; rfl) ?_
            refine lv_goto (tgt := 71) hx hb dX2_shining_67 (by decide) ?_
            refine nq_sub hx hb dX2_shining_71 (by omega) ?_
            refine lv_istore_n (lv' := [(2, .int (nI ((lim - acS F lim now i) - (F i 1)))), (3, .int (nI i)), (1, .ref q5), (0, .ref (b 0))]) hx hb dX2_shining_72 rfl hl (by decide) rfl (fun ls hl => ?_)
            refine nq_inc (lv' := [(3, .int (nI (i + 1))), (2, .int (nI ((lim - acS F lim now i) - (F i 1)))), (1, .ref q5), (0, .ref (b 0))]) hx hb dX2_shining_73 (d := 1) rfl hl (k := 1) rfl (by decide) rfl (fun ls hl => ?_)
            refine lv_goto (tgt := 15) hx hb dX2_shining_76 (by decide) ?_
            have hl : lv_has ls 4 [(3, .int (nI (i + 1))), (2, .int (nI (lim - acS F lim now (i + 1)))), (1, .ref q5), (0, .ref (b 0))] := lv_rep hl 1 rfl (congrArg Value.int (show (nI ((lim - acS F lim now i) - (F i 1))) = (nI (lim - acS F lim now (i + 1))) from congrArg nI (by rw [acS_s, h56]; simp <;> omega)))
            exact ih15 (i + 1) _ _ ls (by omega) (by omega) hP hD hS (lv_sub hl [0, 1, 2, 3] rfl)
        have hi9 := hO4 i (by omega)
        refine lv_aload_n hx hb dX2_shining_24 rfl (lv_at hl 2 rfl) ?_
        refine lv_iload_n hx hb dX2_shining_25 rfl (lv_at hl 0 rfl) ?_
        refine lv_aload_n hx hb dX2_shining_26 rfl (lv_at hl 3 rfl) ?_
        refine lv_iload_n hx hb dX2_shining_27 rfl (lv_at hl 0 rfl) ?_
        refine csV_i (rest := [.int (nI i), .ref q5]) (As := [.int (nI i)]) ⟨hx, hb, hml, hown, hts⟩ (c_X2_isDue l E _ 0 b n now lim F SV_app (by omega) i (by omega) (okp hO (i := i) (by omega)) (by omega) (okl hO (i := i) (by omega))) (cwV 1 hts gX2_shining_X2_isDue rfl rfl rfl (by decide +kernel) ⟨Nat.le_of_ble_eq_true rfl, Nat.le_of_ble_eq_true rfl⟩) (va_recv hK hP (ci := 3) (q0 := 0) rfl (list_app wS_0)) hP hK rfl hl.1 rfl (Nat.le_of_ble_eq_true rfl) dX2_shining_28 (Nat.le_of_ble_eq_true rfl) (by show (0 + n) ≤ 8; omega) (fun r28 hr28 => ?_)
        subst hr28
        refine bq_if_eq (tgt := 50) hx hb dX2_shining_31 (by decide) (fun h31 => ?_) (fun h31 => ?_)
        · skip
          refine lv_iconst (v := (nI 0)) hx hb dX2_shining_50 (by decide) ?_
          refine nq_top (show (nI 0) = (bI (litS F lim now i)) from (by first | rw [show litS F lim now i = false from by first | (simp [litS, h31]; done) | (simp [litS, h31]; omega)]; rfl | rw [show litS F lim now i = true from by simp [litS, h31]; omega]; rfl)) ?_
          refine va_zast hx hb hK hP hD hS (2 + n) 2 wS_e rfl (by exact vp_in_nI (by omega) (by omega)) dX2_shining_51 (fun H locs hP hD hS => ?_)
          rw [wS_es, liF_s (by omega)] at hP hD
          exact join52 _ _ ls hP hD hS (lv_sub hl [0, 1, 2, 3] rfl)
        · skip
          refine lv_aload_n hx hb dX2_shining_34 rfl (lv_at hl 3 rfl) ?_
          refine va_get (D := E.1) (ci := 3) (v := .ref (b 1)) (C := RX2) (T := TX2) (N := 3) hx hb hts hiX2 hown hK hP 0 (list_app wS_0) rfl 0 (by decide) (hts (.fieldLink RX2 9 "PulseLoomLaw$Sim" "lamps" "[[I") (List.mem_of_getElem? (i := 1) (by rfl))) (fun _ h9 => h9) rfl dX2_shining_35 ?_
          refine lv_iload_n hx hb dX2_shining_38 rfl (lv_at hl 0 rfl) ?_
          refine nz_aald hx hb hK hP 1 (list_app wS_1) (by exact vp_in_nI (by omega) (by omega)) dX2_shining_39 ?_
          refine nq_topv (show va_rf ((arS b n) ((nI i)).toNatClampNeg) = .ref (b (2 + i)) from by rw [nI_clamp (by omega)]; exact congrArg va_rf (arS_at (by omega))) ?_
          refine lv_iconst (v := (nI 4)) hx hb dX2_shining_40 (by decide) ?_
          refine va_iald hx hb hK hP (2 + i) 0 (list_app (wS_r (by omega))) rfl (by exact vp_in_nI (by omega) (by omega)) dX2_shining_41 ?_
          refine nq_top (show (rwF F i (((nI 4)).toNatClampNeg)) = (nI (F i 1)) from by rw [nI_clamp (by omega)]; rfl) ?_
          refine lv_iload_n hx hb dX2_shining_42 rfl (lv_at hl 1 rfl) ?_
          refine nq_icmp_gt (tgt := 50) hx hb dX2_shining_43 (by decide) (by omega) (by omega) (fun h43 => ?_) (fun h43 => ?_)
          · skip
            refine lv_iconst (v := (nI 0)) hx hb dX2_shining_50 (by decide) ?_
            refine nq_top (show (nI 0) = (bI (litS F lim now i)) from (by first | rw [show litS F lim now i = false from by first | (simp [litS, h31]; done) | (simp [litS, h31]; omega)]; rfl | rw [show litS F lim now i = true from by simp [litS, h31]; omega]; rfl)) ?_
            refine va_zast hx hb hK hP hD hS (2 + n) 2 wS_e rfl (by exact vp_in_nI (by omega) (by omega)) dX2_shining_51 (fun H locs hP hD hS => ?_)
            rw [wS_es, liF_s (by omega)] at hP hD
            exact join52 _ _ ls hP hD hS (lv_sub hl [0, 1, 2, 3] rfl)
          · skip
            refine lv_iconst (v := (nI 1)) hx hb dX2_shining_46 (by decide) ?_
            refine lv_goto (tgt := 51) hx hb dX2_shining_47 (by decide) ?_
            refine nq_top (show (nI 1) = (bI (litS F lim now i)) from (by first | rw [show litS F lim now i = false from by first | (simp [litS, h31]; done) | (simp [litS, h31]; omega)]; rfl | rw [show litS F lim now i = true from by simp [litS, h31]; omega]; rfl)) ?_
            refine va_zast hx hb hK hP hD hS (2 + n) 2 wS_e rfl (by exact vp_in_nI (by omega) (by omega)) dX2_shining_51 (fun H locs hP hD hS => ?_)
            rw [wS_es, liF_s (by omega)] at hP hD
            exact join52 _ _ ls hP hD hS (lv_sub hl [0, 1, 2, 3] rfl)
  have hl : lv_has ls 4 [(3, .int (nI 0)), (2, .int (nI (lim - acS F lim now 0))), (1, .ref q5), (0, .ref (b 0))] := lv_rep hl 1 rfl (congrArg Value.int (show (nI lim) = (nI (lim - acS F lim now 0)) from rfl))
  exact loop15 ((n - 0) + 1) 0 _ _ ls (by omega) (Nat.lt_succ_self _) hP hD hS (lv_sub hl [0, 1, 2, 3] rfl)

set_option maxHeartbeats 4000000 in
set_option maxRecDepth 100000 in
/-- power() -/
theorem c_X2_power (l : Launch) (E : GE) (sz : Nat) (b : Nat → Nat) (n now lim : Nat) (F : LR) (hO : OkS n now lim F) : Met l yX2_power wsX2_power ({ frames := 3, cells := 1, slots := 8, locals := 65 } : Room) (va_Pc [.ref (b 0)] (pcM E (wS E b n now lim F) sz)) (va_Qi (S := Unit) (fun r _ => r = nI (acS F lim now n)) (fun uQ tQ => atM E (va_A (wS E b n now lim F) sz) ((fun _ => wS E b n now lim F) uQ) tQ) (va_A (wS E b n now lim F) sz)) 1 8 (va_A (wS E b n now lim F) sz) := by
  refine metM (by decide) rfl (Nat.le_of_ble_eq_true rfl) ?_
  intro p e s m args below meth c ls A hAe hA hx hb hr hml hts hown hlocks hin hP hK hD hS hl
  rw [hAe]
  have hiX2 : ∀ q ∈ wsX20, q ∈ wsX2_power := by decide +kernel
  obtain ⟨QQ, hQ⟩ : ∃ zQ, zQ = MQ below (va_Qi (S := Unit) (fun r _ => r = nI (acS F lim now n)) (fun uQ tQ => atM E A ((fun _ => wS E b n now lim F) uQ) tQ) A) args s 1 8 A := ⟨_, rfl⟩
  rw [← hQ]
  obtain ⟨hO1, hO2, hO3, hO4, hO5⟩ := id hO
  refine lv_aload_n hx hb dX2_power_0 rfl (lv_at hl 0 rfl) ?_
  refine cmV_r (rest := []) (As := []) ⟨hx, hb, hml, hown, hts⟩ (c_X2_shining l E _ b n now lim F hO) (cwV 0 hts gX2_power_X2_shining rfl rfl rfl (by decide +kernel) ⟨Nat.le_of_ble_eq_true rfl, Nat.le_of_ble_eq_true rfl⟩) (va_recv hK hP (ci := 3) (q0 := 0) rfl wS_0) hP hK hD hS hA rfl hl.1 rfl (Nat.le_of_ble_eq_true rfl) dX2_power_1 ⟨by show 0 + 1 ≤ 1; omega, by show 0 + 8 ≤ 8; omega⟩ (fun q1 H locs hP hD hS => ?_)
  have hP : va_P E.1 vwCl (wS E b n now lim F ++ [(q1, .inl (E.2.2.2.1, n, .inl (liF F lim now n)))]) _ := hP
  have hD : va_D A (wS E b n now lim F ++ [(q1, .inl (E.2.2.2.1, n, .inl (liF F lim now n)))]) := hD
  refine lv_astore_n (lv' := [(1, .ref q1), (0, .ref (b 0))]) hx hb dX2_power_4 rfl hl (by decide) rfl (fun ls hl => ?_)
  refine lv_iconst (v := (nI 0)) hx hb dX2_power_5 (by decide) ?_
  refine lv_istore_n (lv' := [(2, .int (nI 0)), (1, .ref q1), (0, .ref (b 0))]) hx hb dX2_power_6 rfl hl (by decide) rfl (fun ls hl => ?_)
  refine lv_iconst (v := (nI 0)) hx hb dX2_power_7 (by decide) ?_
  refine lv_istore_n (lv' := [(3, .int (nI 0)), (2, .int (nI 0)), (1, .ref q1), (0, .ref (b 0))]) hx hb dX2_power_8 rfl hl (by decide) rfl (fun ls hl => ?_)
  have loop9 : ∀ (tk : Nat) (i : Nat) (H : Heap) (locs : List Loc) (ls : Array Slot), (i ≤ n) → (n - i) < tk → va_P E.1 vwCl (wS E b n now lim F ++ [(q1, .inl (E.2.2.2.1, n, .inl (liF F lim now n)))]) H → va_D A (wS E b n now lim F ++ [(q1, .inl (E.2.2.2.1, n, .inl (liF F lim now n)))]) → va_S A s.heap H locs → lv_has ls 4 [(3, .int (nI i)), (2, .int (nI (acS F lim now i))), (1, .ref q1), (0, .ref (b 0))] → W p l e ({ frames := 3, cells := 1, slots := 8, locals := 65 } : Room) s m args below meth c H locs (0 + 1) (0 + 8) QQ (F0 m 9 ls []) := by
    intro tk
    induction tk with
    | zero => intro i H locs ls hi hk hP hD hS hl; exact absurd hk (Nat.not_lt_zero _)
    | succ tk ih9 =>
      intro i H locs ls hi hk hP hD hS hl
      have hac := acS_le hO lim now i hi
      refine lv_iload_n hx hb dX2_power_9 rfl (lv_at hl 0 rfl) ?_
      refine lv_aload_n hx hb dX2_power_10 rfl (lv_at hl 3 rfl) ?_
      refine va_get (D := E.1) (ci := 3) (v := .ref (b 1)) (C := RX2) (T := TX2) (N := 3) hx hb hts hiX2 hown hK hP 0 (list_app wS_0) rfl 0 (by decide) (hts (.fieldLink RX2 9 "PulseLoomLaw$Sim" "lamps" "[[I") (List.mem_of_getElem? (i := 1) (by rfl))) (fun _ h9 => h9) rfl dX2_power_11 ?_
      refine va_alen hx hb hK hP 1 3 (list_app wS_1) rfl (v := nI n) rfl dX2_power_14 ?_
      refine nq_icmp_ge (tgt := 45) hx hb dX2_power_15 (by decide) (by omega) (by omega) (fun h15 => ?_) (fun h15 => ?_)
      · skip
        have hP : va_P E.1 vwCl (wS E b n now lim F) H := va_Pl hP
        have hD : va_D A (wS E b n now lim F) := va_Dl hD
        skip
        refine lv_iload_n hx hb dX2_power_45 rfl (lv_at hl 1 rfl) ?_
        rw [hQ]
        refine W.widen (k := 1) (n := 8) (by omega) (by omega) ?_
        exact retM_i (E := E) (A0 := A) (v := (nI (acS F lim now i))) (post := fun r _ => r = nI (acS F lim now n)) (u := ()) (W1 := fun _ => wS E b n now lim F) hx hb hr hlocks hP hK hD hS (congrArg nI (by rw [show i = n by omega])) dX2_power_46
      · skip
        have hi9 := hO4 i (by omega)
        refine lv_iload_n hx hb dX2_power_18 rfl (lv_at hl 1 rfl) ?_
        refine lv_aload_n hx hb dX2_power_19 rfl (lv_at hl 2 rfl) ?_
        refine lv_iload_n hx hb dX2_power_20 rfl (lv_at hl 0 rfl) ?_
        refine va_zald hx hb hK hP (2 + n) 2 wS_e rfl (by exact vp_in_nI (by omega) (by omega)) dX2_power_21 ?_
        refine nq_top (show (liF F lim now n (((nI i)).toNatClampNeg)) = (bI (litS F lim now i)) from liF_at (by omega) (by omega)) ?_
        refine bq_if_eq (tgt := 36) hx hb dX2_power_22 (by decide) (fun h22 => ?_) (fun h22 => ?_)
        · skip
          refine lv_iconst (v := (nI 0)) hx hb dX2_power_36 (by decide) ?_
          refine nq_add hx hb dX2_power_37 ?_
          refine lv_istore_n (lv' := [(2, .int (nI ((acS F lim now i) + 0))), (3, .int (nI i)), (1, .ref q1), (0, .ref (b 0))]) hx hb dX2_power_38 rfl hl (by decide) rfl (fun ls hl => ?_)
          refine nq_inc (lv' := [(3, .int (nI (i + 1))), (2, .int (nI ((acS F lim now i) + 0))), (1, .ref q1), (0, .ref (b 0))]) hx hb dX2_power_39 (d := 1) rfl hl (k := 1) rfl (by decide) rfl (fun ls hl => ?_)
          refine lv_goto (tgt := 9) hx hb dX2_power_42 (by decide) ?_
          have hl : lv_has ls 4 [(3, .int (nI (i + 1))), (2, .int (nI (acS F lim now (i + 1)))), (1, .ref q1), (0, .ref (b 0))] := lv_rep hl 1 rfl (congrArg Value.int (show (nI ((acS F lim now i) + 0)) = (nI (acS F lim now (i + 1))) from congrArg nI (by rw [acS_s, h22]; rfl)))
          exact ih9 (i + 1) _ _ ls (by omega) (by omega) hP hD hS (lv_sub hl [0, 1, 2, 3] rfl)
        · skip
          refine lv_aload_n hx hb dX2_power_25 rfl (lv_at hl 3 rfl) ?_
          refine va_get (D := E.1) (ci := 3) (v := .ref (b 1)) (C := RX2) (T := TX2) (N := 3) hx hb hts hiX2 hown hK hP 0 (list_app wS_0) rfl 0 (by decide) (hts (.fieldLink RX2 9 "PulseLoomLaw$Sim" "lamps" "[[I") (List.mem_of_getElem? (i := 1) (by rfl))) (fun _ h9 => h9) rfl dX2_power_26 ?_
          refine lv_iload_n hx hb dX2_power_29 rfl (lv_at hl 0 rfl) ?_
          refine nz_aald hx hb hK hP 1 (list_app wS_1) (by exact vp_in_nI (by omega) (by omega)) dX2_power_30 ?_
          refine nq_topv (show va_rf ((arS b n) ((nI i)).toNatClampNeg) = .ref (b (2 + i)) from by rw [nI_clamp (by omega)]; exact congrArg va_rf (arS_at (by omega))) ?_
          refine lv_iconst (v := (nI 4)) hx hb dX2_power_31 (by decide) ?_
          refine va_iald hx hb hK hP (2 + i) 0 (list_app (wS_r (by omega))) rfl (by exact vp_in_nI (by omega) (by omega)) dX2_power_32 ?_
          refine nq_top (show (rwF F i (((nI 4)).toNatClampNeg)) = (nI (F i 1)) from by rw [nI_clamp (by omega)]; rfl) ?_
          refine lv_goto (tgt := 37) hx hb dX2_power_33 (by decide) ?_
          refine nq_add hx hb dX2_power_37 ?_
          refine lv_istore_n (lv' := [(2, .int (nI ((acS F lim now i) + (F i 1)))), (3, .int (nI i)), (1, .ref q1), (0, .ref (b 0))]) hx hb dX2_power_38 rfl hl (by decide) rfl (fun ls hl => ?_)
          refine nq_inc (lv' := [(3, .int (nI (i + 1))), (2, .int (nI ((acS F lim now i) + (F i 1)))), (1, .ref q1), (0, .ref (b 0))]) hx hb dX2_power_39 (d := 1) rfl hl (k := 1) rfl (by decide) rfl (fun ls hl => ?_)
          refine lv_goto (tgt := 9) hx hb dX2_power_42 (by decide) ?_
          have hl : lv_has ls 4 [(3, .int (nI (i + 1))), (2, .int (nI (acS F lim now (i + 1)))), (1, .ref q1), (0, .ref (b 0))] := lv_rep hl 1 rfl (congrArg Value.int (show (nI ((acS F lim now i) + (F i 1))) = (nI (acS F lim now (i + 1))) from congrArg nI (by rw [acS_s, h22]; rfl)))
          exact ih9 (i + 1) _ _ ls (by omega) (by omega) hP hD hS (lv_sub hl [0, 1, 2, 3] rfl)
  have hl : lv_has ls 4 [(3, .int (nI 0)), (2, .int (nI (acS F lim now 0))), (1, .ref q1), (0, .ref (b 0))] := lv_rep hl 1 rfl (congrArg Value.int (show (nI 0) = (nI (acS F lim now 0)) from rfl))
  exact loop9 ((n - 0) + 1) 0 _ _ ls (by omega) (Nat.lt_succ_self _) hP hD hS (lv_sub hl [0, 1, 2, 3] rfl)

set_option maxHeartbeats 4000000 in
set_option maxRecDepth 100000 in
/-- pass() -/
theorem c_X2_pass (l : Launch) (E : GE) (sz : Nat) (b : Nat → Nat) (n now lim : Nat) (F : LR) (hO : OkS n now lim F) (hnow : now < 100000000) : Met l yX2_pass wsX2_pass ({ frames := 3, cells := 1, slots := 8, locals := 65 } : Room) (va_Pc [.ref (b 0)] (pcM E (wS E b n now lim F) sz)) (va_Qi (S := Unit) (fun r _ => r = bI (drkS F lim now n)) (fun uQ tQ => atM E (va_A (wS E b n now lim F) sz) ((fun _ => wS E b n (now + 1) lim (stepF F lim now n)) uQ) tQ) (va_A (wS E b n now lim F) sz)) 1 8 (va_A (wS E b n now lim F) sz) := by
  refine metM (by decide) rfl (Nat.le_of_ble_eq_true rfl) ?_
  intro p e s m args below meth c ls A hAe hA hx hb hr hml hts hown hlocks hin hP hK hD hS hl
  rw [hAe]
  have hiX2 : ∀ q ∈ wsX20, q ∈ wsX2_pass := by decide +kernel
  obtain ⟨QQ, hQ⟩ : ∃ zQ, zQ = MQ below (va_Qi (S := Unit) (fun r _ => r = bI (drkS F lim now n)) (fun uQ tQ => atM E A ((fun _ => wS E b n (now + 1) lim (stepF F lim now n)) uQ) tQ) A) args s 1 8 A := ⟨_, rfl⟩
  rw [← hQ]
  obtain ⟨hO1, hO2, hO3, hO4, hO5⟩ := id hO
  refine lv_aload_n hx hb dX2_pass_0 rfl (lv_at hl 0 rfl) ?_
  refine cmV_r (rest := []) (As := []) ⟨hx, hb, hml, hown, hts⟩ (c_X2_shining l E _ b n now lim F hO) (cwV 0 hts gX2_pass_X2_shining rfl rfl rfl (by decide +kernel) ⟨Nat.le_of_ble_eq_true rfl, Nat.le_of_ble_eq_true rfl⟩) (va_recv hK hP (ci := 3) (q0 := 0) rfl wS_0) hP hK hD hS hA rfl hl.1 rfl (Nat.le_of_ble_eq_true rfl) dX2_pass_1 ⟨by show 0 + 1 ≤ 1; omega, by show 0 + 8 ≤ 8; omega⟩ (fun q1 H locs hP hD hS => ?_)
  have hP : va_P E.1 vwCl (wS E b n now lim F ++ [(q1, .inl (E.2.2.2.1, n, .inl (liF F lim now n)))]) _ := hP
  have hD : va_D A (wS E b n now lim F ++ [(q1, .inl (E.2.2.2.1, n, .inl (liF F lim now n)))]) := hD
  refine lv_astore_n (lv' := [(1, .ref q1), (0, .ref (b 0))]) hx hb dX2_pass_4 rfl hl (by decide) rfl (fun ls hl => ?_)
  refine lv_iconst (v := (nI 0)) hx hb dX2_pass_5 (by decide) ?_
  refine lv_istore_n (lv' := [(2, .int (nI 0)), (1, .ref q1), (0, .ref (b 0))]) hx hb dX2_pass_6 rfl hl (by decide) rfl (fun ls hl => ?_)
  refine lv_iconst (v := (nI 0)) hx hb dX2_pass_7 (by decide) ?_
  refine lv_istore_n (lv' := [(3, .int (nI 0)), (2, .int (nI 0)), (1, .ref q1), (0, .ref (b 0))]) hx hb dX2_pass_8 rfl hl (by decide) rfl (fun ls hl => ?_)
  have loop9 : ∀ (tk : Nat) (i : Nat) (H : Heap) (locs : List Loc) (ls : Array Slot), (i ≤ n) → (n - i) < tk → va_P E.1 vwCl (wS E b n now lim (stepF F lim now i) ++ [(q1, .inl (E.2.2.2.1, n, .inl (liF F lim now n)))]) H → va_D A (wS E b n now lim (stepF F lim now i) ++ [(q1, .inl (E.2.2.2.1, n, .inl (liF F lim now n)))]) → va_S A s.heap H locs → lv_has ls 4 [(3, .int (nI i)), (2, .int (bI (drkS F lim now i))), (1, .ref q1), (0, .ref (b 0))] → W p l e ({ frames := 3, cells := 1, slots := 8, locals := 65 } : Room) s m args below meth c H locs (0 + 1) (0 + 8) QQ (F0 m 9 ls []) := by
    intro tk
    induction tk with
    | zero => intro i H locs ls hi hk hP hD hS hl; exact absurd hk (Nat.not_lt_zero _)
    | succ tk ih9 =>
      intro i H locs ls hi hk hP hD hS hl
      have hF5 : stepF F lim now i i 5 = F i 5 := stepF_at F lim now i 5
      have hF6 : stepF F lim now i i 6 = F i 6 := stepF_at F lim now i 6
      refine lv_iload_n hx hb dX2_pass_9 rfl (lv_at hl 0 rfl) ?_
      refine lv_aload_n hx hb dX2_pass_10 rfl (lv_at hl 3 rfl) ?_
      refine va_get (D := E.1) (ci := 3) (v := .ref (b 1)) (C := RX2) (T := TX2) (N := 3) hx hb hts hiX2 hown hK hP 0 (list_app wS_0) rfl 0 (by decide) (hts (.fieldLink RX2 9 "PulseLoomLaw$Sim" "lamps" "[[I") (List.mem_of_getElem? (i := 1) (by rfl))) (fun _ h9 => h9) rfl dX2_pass_11 ?_
      refine va_alen hx hb hK hP 1 3 (list_app wS_1) rfl (v := nI n) rfl dX2_pass_14 ?_
      refine nq_icmp_ge (tgt := 71) hx hb dX2_pass_15 (by decide) (by omega) (by omega) (fun h15 => ?_) (fun h15 => ?_)
      · skip
        rw [show i = n by omega] at hP hD
        skip
        have hP : va_P E.1 vwCl (wS E b n now lim (stepF F lim now n)) H := va_Pl hP
        have hD : va_D A (wS E b n now lim (stepF F lim now n)) := va_Dl hD
        skip
        refine lv_aload_n hx hb dX2_pass_71 rfl (lv_at hl 3 rfl) ?_
        refine lv_dup hx hb dX2_pass_72 rfl ?_
        refine va_get (D := E.1) (ci := 3) (v := .int (nI now)) (C := RX2) (T := TX2) (N := 3) hx hb hts hiX2 hown hK hP 0 wS_0 rfl 2 (by decide) (hts (.fieldLink RX2 24 "PulseLoomLaw$Sim" "beat" "I") (List.mem_of_getElem? (i := 2) (by rfl))) (fun _ h9 => h9) rfl dX2_pass_73 ?_
        refine lv_iconst (v := (nI 1)) hx hb dX2_pass_76 (by decide) ?_
        refine nq_add hx hb dX2_pass_77 ?_
        refine va_put (D := E.1) (ci := 3) (v := .int (nI (now + 1))) (ty := .int) (C := RX2) (T := TX2) (N := 3) hx hb hts hiX2 tyX2 tyX2_ok nmX2 hown hK hP hD hS 0 wS_0 rfl 2 (by decide) (hts (.fieldLink RX2 24 "PulseLoomLaw$Sim" "beat" "I") (List.mem_of_getElem? (i := 2) (by rfl))) (fun _ h9 => h9) rfl (by decide +kernel) rfl (by rfl) (Nat.le_of_ble_eq_true rfl) dX2_pass_78 (fun H locs hP hD hS => ?_)
        have hP : va_P E.1 vwCl (wS E b n (now + 1) lim (stepF F lim now n)) H := hP
        have hD : va_D A (wS E b n (now + 1) lim (stepF F lim now n)) := hD
        refine lv_iload_n hx hb dX2_pass_81 rfl (lv_at hl 1 rfl) ?_
        rw [hQ]
        refine W.widen (k := 1) (n := 8) (by omega) (by omega) ?_
        exact retM_z (E := E) (A0 := A) (b := drkS F lim now i) (post := fun r _ => r = bI (drkS F lim now n)) (u := ()) (W1 := fun _ => wS E b n (now + 1) lim (stepF F lim now n)) hx hb hr hlocks hP hK hD hS (congrArg bI (by rw [show i = n by omega])) dX2_pass_82
      · skip
        have hi9 := hO4 i (by omega)
        refine lv_aload_n hx hb dX2_pass_18 rfl (lv_at hl 2 rfl) ?_
        refine lv_iload_n hx hb dX2_pass_19 rfl (lv_at hl 0 rfl) ?_
        refine va_zald hx hb hK hP (2 + n) 2 wS_e rfl (by exact vp_in_nI (by omega) (by omega)) dX2_pass_20 ?_
        refine nq_top (show (liF F lim now n (((nI i)).toNatClampNeg)) = (bI (litS F lim now i)) from liF_at (by omega) (by omega)) ?_
        refine bq_if_eq (tgt := 36) hx hb dX2_pass_21 (by decide) (fun h21 => ?_) (fun h21 => ?_)
        · skip
          refine lv_aload_n hx hb dX2_pass_36 rfl (lv_at hl 3 rfl) ?_
          refine lv_iload_n hx hb dX2_pass_37 rfl (lv_at hl 0 rfl) ?_
          refine csV_i (rest := []) (As := [.int (nI i)]) ⟨hx, hb, hml, hown, hts⟩ (c_X2_isDue l E _ 0 b n now lim (stepF F lim now i) SV_app (by omega) i (by omega) (by rw [stepF_q (q := 0) (by decide) (by decide), stepF_q (q := 3) (by decide) (by decide)]; exact okp hO (i := i) (by omega)) (by omega) (by rw [stepF_q (q := 4) (by decide) (by decide), stepF_q (q := 0) (by decide) (by decide)]; exact okl hO (i := i) (by omega))) (cwV 1 hts gX2_pass_X2_isDue rfl rfl rfl (by decide +kernel) ⟨Nat.le_of_ble_eq_true rfl, Nat.le_of_ble_eq_true rfl⟩) (va_recv hK hP (ci := 3) (q0 := 0) rfl (list_app wS_0)) hP hK rfl hl.1 rfl (Nat.le_of_ble_eq_true rfl) dX2_pass_38 (Nat.le_of_ble_eq_true rfl) (Nat.le_of_ble_eq_true rfl) (fun r38 hr38 => ?_)
          subst hr38
          refine nq_top (show (bI (due (stepF F lim now i) i now)) = (bI (due F i now)) from congrArg bI (step_due F lim now _ i now)) ?_
          refine bq_if_eq (tgt := 65) hx hb dX2_pass_41 (by decide) (fun h41 => ?_) (fun h41 => ?_)
          · skip
            refine nq_inc (lv' := [(3, .int (nI (i + 1))), (2, .int (bI (drkS F lim now i))), (1, .ref q1), (0, .ref (b 0))]) hx hb dX2_pass_65 (d := 1) rfl hl (k := 0) rfl (by decide) rfl (fun ls hl => ?_)
            refine lv_goto (tgt := 9) hx hb dX2_pass_68 (by decide) ?_
            have hl : lv_has ls 4 [(3, .int (nI (i + 1))), (2, .int (bI (drkS F lim now (i + 1)))), (1, .ref q1), (0, .ref (b 0))] := lv_rep hl 1 rfl (congrArg Value.int (show (bI (drkS F lim now i)) = (bI (drkS F lim now (i + 1))) from congrArg bI (by rw [drkS_s, h41]; simp)))
            rw [show wS E b n now lim (stepF F lim now i) ++ [(q1, .inl (E.2.2.2.1, n, .inl (liF F lim now n)))] = wS E b n now lim (stepF F lim now (i + 1)) ++ [(q1, .inl (E.2.2.2.1, n, .inl (liF F lim now n)))] from by rw [stepF_none h21 h41]] at hP hD
            exact ih9 (i + 1) _ _ ls (by omega) (by omega) hP hD hS (lv_sub hl [0, 1, 2, 3] rfl)
          · skip
            refine lv_aload_n hx hb dX2_pass_44 rfl (lv_at hl 2 rfl) ?_
            refine lv_iload_n hx hb dX2_pass_45 rfl (lv_at hl 0 rfl) ?_
            refine va_zald hx hb hK hP (2 + n) 2 wS_e rfl (by exact vp_in_nI (by omega) (by omega)) dX2_pass_46 ?_
            refine nq_top (show (liF F lim now n (((nI i)).toNatClampNeg)) = (bI (litS F lim now i)) from liF_at (by omega) (by omega)) ?_
            refine bq_if_ne (tgt := 65) hx hb dX2_pass_47 (by decide) (fun h47 => ?_) (fun h47 => ?_)
            · skip
              exact absurd (h21.symm.trans h47) (by decide)
            · skip
              refine lv_aload_n hx hb dX2_pass_50 rfl (lv_at hl 3 rfl) ?_
              refine va_get (D := E.1) (ci := 3) (v := .ref (b 1)) (C := RX2) (T := TX2) (N := 3) hx hb hts hiX2 hown hK hP 0 (list_app wS_0) rfl 0 (by decide) (hts (.fieldLink RX2 9 "PulseLoomLaw$Sim" "lamps" "[[I") (List.mem_of_getElem? (i := 1) (by rfl))) (fun _ h9 => h9) rfl dX2_pass_51 ?_
              refine lv_iload_n hx hb dX2_pass_54 rfl (lv_at hl 0 rfl) ?_
              refine nz_aald hx hb hK hP 1 (list_app wS_1) (by exact vp_in_nI (by omega) (by omega)) dX2_pass_55 ?_
              refine nq_topv (show va_rf ((arS b n) ((nI i)).toNatClampNeg) = .ref (b (2 + i)) from by rw [nI_clamp (by omega)]; exact congrArg va_rf (arS_at (by omega))) ?_
              refine lv_bipush (v := (nI 6)) hx hb dX2_pass_56 (by decide) ?_
              refine lv_dup2_11 hx hb dX2_pass_58 rfl rfl ?_
              refine va_iald hx hb hK hP (2 + i) 0 (list_app (wS_r (by omega))) rfl (by exact vp_in_nI (by omega) (by omega)) dX2_pass_59 ?_
              refine nq_top (show (rwF (stepF F lim now i) i (((nI 6)).toNatClampNeg)) = (nI ((stepF F lim now i) i 6)) from by rw [nI_clamp (by omega)]; rfl) ?_
              refine lv_iconst (v := (nI 1)) hx hb dX2_pass_60 (by decide) ?_
              refine nq_add hx hb dX2_pass_61 ?_
              refine va_iast hx hb hK hP hD hS (2 + i) 0 (list_app (wS_r (by omega))) rfl (by exact vp_in_nI (by omega) (by omega)) dX2_pass_62 (fun H locs hP hD hS => ?_)
              rw [wSa_set (q := 6) (v := ((stepF F lim now i) i 6) + 1) (by omega) rwF_6, stepF_dark h21 h41] at hP hD
              refine lv_iconst (v := (nI 1)) hx hb dX2_pass_63 (by decide) ?_
              refine lv_istore_n (lv' := [(2, .int (nI 1)), (3, .int (nI i)), (1, .ref q1), (0, .ref (b 0))]) hx hb dX2_pass_64 rfl hl (by decide) rfl (fun ls hl => ?_)
              refine nq_inc (lv' := [(3, .int (nI (i + 1))), (2, .int (nI 1)), (1, .ref q1), (0, .ref (b 0))]) hx hb dX2_pass_65 (d := 1) rfl hl (k := 1) rfl (by decide) rfl (fun ls hl => ?_)
              refine lv_goto (tgt := 9) hx hb dX2_pass_68 (by decide) ?_
              have hl : lv_has ls 4 [(3, .int (nI (i + 1))), (2, .int (bI (drkS F lim now (i + 1)))), (1, .ref q1), (0, .ref (b 0))] := lv_rep hl 1 rfl (congrArg Value.int (show (nI 1) = (bI (drkS F lim now (i + 1))) from by rw [show drkS F lim now (i + 1) = true from by rw [drkS_s, h21, h41]; simp]; rfl))
              exact ih9 (i + 1) _ _ ls (by omega) (by omega) hP hD hS (lv_sub hl [0, 1, 2, 3] rfl)
        · skip
          refine lv_aload_n hx hb dX2_pass_24 rfl (lv_at hl 3 rfl) ?_
          refine va_get (D := E.1) (ci := 3) (v := .ref (b 1)) (C := RX2) (T := TX2) (N := 3) hx hb hts hiX2 hown hK hP 0 (list_app wS_0) rfl 0 (by decide) (hts (.fieldLink RX2 9 "PulseLoomLaw$Sim" "lamps" "[[I") (List.mem_of_getElem? (i := 1) (by rfl))) (fun _ h9 => h9) rfl dX2_pass_25 ?_
          refine lv_iload_n hx hb dX2_pass_28 rfl (lv_at hl 0 rfl) ?_
          refine nz_aald hx hb hK hP 1 (list_app wS_1) (by exact vp_in_nI (by omega) (by omega)) dX2_pass_29 ?_
          refine nq_topv (show va_rf ((arS b n) ((nI i)).toNatClampNeg) = .ref (b (2 + i)) from by rw [nI_clamp (by omega)]; exact congrArg va_rf (arS_at (by omega))) ?_
          refine lv_iconst (v := (nI 5)) hx hb dX2_pass_30 (by decide) ?_
          refine lv_dup2_11 hx hb dX2_pass_31 rfl rfl ?_
          refine va_iald hx hb hK hP (2 + i) 0 (list_app (wS_r (by omega))) rfl (by exact vp_in_nI (by omega) (by omega)) dX2_pass_32 ?_
          refine nq_top (show (rwF (stepF F lim now i) i (((nI 5)).toNatClampNeg)) = (nI ((stepF F lim now i) i 5)) from by rw [nI_clamp (by omega)]; rfl) ?_
          refine lv_iconst (v := (nI 1)) hx hb dX2_pass_33 (by decide) ?_
          refine nq_add hx hb dX2_pass_34 ?_
          refine va_iast hx hb hK hP hD hS (2 + i) 0 (list_app (wS_r (by omega))) rfl (by exact vp_in_nI (by omega) (by omega)) dX2_pass_35 (fun H locs hP hD hS => ?_)
          rw [wSa_set (q := 5) (v := ((stepF F lim now i) i 5) + 1) (by omega) rwF_5, stepF_lit h21] at hP hD
          refine lv_aload_n hx hb dX2_pass_36 rfl (lv_at hl 3 rfl) ?_
          refine lv_iload_n hx hb dX2_pass_37 rfl (lv_at hl 0 rfl) ?_
          refine csV_i (rest := []) (As := [.int (nI i)]) ⟨hx, hb, hml, hown, hts⟩ (c_X2_isDue l E _ 0 b n now lim (stepF F lim now (i + 1)) SV_app (by omega) i (by omega) (by rw [stepF_q (q := 0) (by decide) (by decide), stepF_q (q := 3) (by decide) (by decide)]; exact okp hO (i := i) (by omega)) (by omega) (by rw [stepF_q (q := 4) (by decide) (by decide), stepF_q (q := 0) (by decide) (by decide)]; exact okl hO (i := i) (by omega))) (cwV 1 hts gX2_pass_X2_isDue rfl rfl rfl (by decide +kernel) ⟨Nat.le_of_ble_eq_true rfl, Nat.le_of_ble_eq_true rfl⟩) (va_recv hK hP (ci := 3) (q0 := 0) rfl (list_app wS_0)) hP hK rfl hl.1 rfl (Nat.le_of_ble_eq_true rfl) dX2_pass_38 (Nat.le_of_ble_eq_true rfl) (Nat.le_of_ble_eq_true rfl) (fun r38 hr38 => ?_)
          subst hr38
          refine nq_top (show (bI (due (stepF F lim now (i + 1)) i now)) = (bI (due F i now)) from congrArg bI (step_due F lim now _ i now)) ?_
          refine bq_if_eq (tgt := 65) hx hb dX2_pass_41 (by decide) (fun h41 => ?_) (fun h41 => ?_)
          · skip
            exact absurd h21 (by simp [litS, h41])
          · skip
            refine lv_aload_n hx hb dX2_pass_44 rfl (lv_at hl 2 rfl) ?_
            refine lv_iload_n hx hb dX2_pass_45 rfl (lv_at hl 0 rfl) ?_
            refine va_zald hx hb hK hP (2 + n) 2 wS_e rfl (by exact vp_in_nI (by omega) (by omega)) dX2_pass_46 ?_
            refine nq_top (show (liF F lim now n (((nI i)).toNatClampNeg)) = (bI (litS F lim now i)) from liF_at (by omega) (by omega)) ?_
            refine bq_if_ne (tgt := 65) hx hb dX2_pass_47 (by decide) (fun h47 => ?_) (fun h47 => ?_)
            · skip
              refine nq_inc (lv' := [(3, .int (nI (i + 1))), (2, .int (bI (drkS F lim now i))), (1, .ref q1), (0, .ref (b 0))]) hx hb dX2_pass_65 (d := 1) rfl hl (k := 0) rfl (by decide) rfl (fun ls hl => ?_)
              refine lv_goto (tgt := 9) hx hb dX2_pass_68 (by decide) ?_
              have hl : lv_has ls 4 [(3, .int (nI (i + 1))), (2, .int (bI (drkS F lim now (i + 1)))), (1, .ref q1), (0, .ref (b 0))] := lv_rep hl 1 rfl (congrArg Value.int (show (bI (drkS F lim now i)) = (bI (drkS F lim now (i + 1))) from congrArg bI (by rw [drkS_s, h21]; simp)))
              exact ih9 (i + 1) _ _ ls (by omega) (by omega) hP hD hS (lv_sub hl [0, 1, 2, 3] rfl)
            · skip
              exact absurd (h21.symm.trans h47) (by decide)
  have hl : lv_has ls 4 [(3, .int (nI 0)), (2, .int (bI (drkS F lim now 0))), (1, .ref q1), (0, .ref (b 0))] := lv_rep hl 1 rfl (congrArg Value.int (show (nI 0) = (bI (drkS F lim now 0)) from rfl))
  rw [show wS E b n now lim F ++ [(q1, .inl (E.2.2.2.1, n, .inl (liF F lim now n)))] = wS E b n now lim (stepF F lim now 0) ++ [(q1, .inl (E.2.2.2.1, n, .inl (liF F lim now n)))] from by rw [stepF_0]] at hP hD
  exact loop9 ((n - 0) + 1) 0 _ _ ls (by omega) (Nat.lt_succ_self _) hP hD hS (lv_sub hl [0, 1, 2, 3] rfl)

set_option maxHeartbeats 4000000 in
set_option maxRecDepth 100000 in
/-- pass(k) -/
theorem c_X2_pass_ (l : Launch) (E : GE) (sz : Nat) (b : Nat → Nat) (n now lim : Nat) (F : LR) (hO : OkS n now lim F) (k : Nat) (hk : k ≤ 200) (hnow : now + 200 ≤ 100000000) : Met l yX2_pass_ wsX2_pass_ ({ frames := 4, cells := 200, slots := 1600, locals := 88 } : Room) (va_Pc [.ref (b 0), .int (nI k)] (pcM E (wS E b n now lim F) sz)) (va_Qi (S := Unit) (fun r _ => r = nI (passD F lim now n k)) (fun uQ tQ => atM E (va_A (wS E b n now lim F) sz) ((fun _ => wS E b n (now + k) lim (passF F lim now n k)) uQ) tQ) (va_A (wS E b n now lim F) sz)) 200 1600 (va_A (wS E b n now lim F) sz) := by
  refine metM (by decide) rfl (Nat.le_of_ble_eq_true rfl) ?_
  intro p e s m args below meth c ls A hAe hA hx hb hr hml hts hown hlocks hin hP hK hD hS hl
  rw [hAe]
  obtain ⟨QQ, hQ⟩ : ∃ zQ, zQ = MQ below (va_Qi (S := Unit) (fun r _ => r = nI (passD F lim now n k)) (fun uQ tQ => atM E A ((fun _ => wS E b n (now + k) lim (passF F lim now n k)) uQ) tQ) A) args s 200 1600 A := ⟨_, rfl⟩
  rw [← hQ]
  obtain ⟨hO1, hO2, hO3, hO4, hO5⟩ := id hO
  refine lv_iconst (v := (nI 0)) hx hb dX2_pass__0 (by decide) ?_
  refine lv_istore_n (lv' := [(2, .int (nI 0)), (0, .ref (b 0)), (1, .int (nI k))]) hx hb dX2_pass__1 rfl hl (by decide) rfl (fun ls hl => ?_)
  refine lv_iconst (v := (nI 0)) hx hb dX2_pass__2 (by decide) ?_
  refine lv_istore_n (lv' := [(3, .int (nI 0)), (2, .int (nI 0)), (0, .ref (b 0)), (1, .int (nI k))]) hx hb dX2_pass__3 rfl hl (by decide) rfl (fun ls hl => ?_)
  have loop4 : ∀ (tk : Nat) (t : Nat) (H : Heap) (locs : List Loc) (ls : Array Slot), (t ≤ k) → (k - t) < tk → va_P E.1 vwCl (wS E b n (now + t) lim (passF F lim now n t)) H → va_D A (wS E b n (now + t) lim (passF F lim now n t)) → va_S A s.heap H locs → lv_has ls 4 [(3, .int (nI t)), (2, .int (nI (passD F lim now n t))), (0, .ref (b 0)), (1, .int (nI k))] → W p l e ({ frames := 4, cells := 200, slots := 1600, locals := 88 } : Room) s m args below meth c H locs t (8 * t) QQ (F0 m 4 ls []) := by
    intro tk
    induction tk with
    | zero => intro t H locs ls ht hk hP hD hS hl; exact absurd hk (Nat.not_lt_zero _)
    | succ tk ih4 =>
      intro t H locs ls ht hk hP hD hS hl
      have hpd := passD_le F lim now n t
      refine lv_iload_n hx hb dX2_pass__4 rfl (lv_at hl 0 rfl) ?_
      refine lv_iload_n hx hb dX2_pass__5 rfl (lv_at hl 3 rfl) ?_
      refine nq_icmp_ge (tgt := 30) hx hb dX2_pass__6 (by decide) (by omega) (by omega) (fun h6 => ?_) (fun h6 => ?_)
      · skip
        have etk : t = k := by omega
        rw [etk] at hP hD
        refine lv_iload_n hx hb dX2_pass__30 rfl (lv_at hl 1 rfl) ?_
        rw [hQ]
        refine W.widen (k := 200) (n := 1600) (by omega) (by omega) ?_
        exact retM_i (E := E) (A0 := A) (v := (nI (passD F lim now n t))) (post := fun r _ => r = nI (passD F lim now n k)) (u := ()) (W1 := fun _ => wS E b n (now + k) lim (passF F lim now n k)) hx hb hr hlocks hP hK hD hS (congrArg nI (by rw [etk])) dX2_pass__31
      · skip
        refine lv_iload_n hx hb dX2_pass__9 rfl (lv_at hl 1 rfl) ?_
        refine lv_aload_n hx hb dX2_pass__10 rfl (lv_at hl 2 rfl) ?_
        refine cmV_i (rest := [.int (nI (passD F lim now n t))]) (As := []) ⟨hx, hb, hml, hown, hts⟩ (c_X2_pass l E _ b n (now + t) lim (passF F lim now n t) (pass_ok hO t (by omega)) (by omega)) (cwV 0 hts gX2_pass__X2_pass rfl rfl rfl (by decide +kernel) ⟨Nat.le_of_ble_eq_true rfl, Nat.le_of_ble_eq_true rfl⟩) (va_recv hK hP (ci := 3) (q0 := 0) rfl wS_0) hP hK hD hS hA rfl hl.1 rfl (Nat.le_of_ble_eq_true rfl) dX2_pass__11 ⟨by show t + 1 ≤ 200; omega, by show (8 * t) + 8 ≤ 1600; omega⟩ (fun r11 u11 H locs hr11 hP hD hS => ?_)
        subst hr11
        refine bq_if_eq (tgt := 21) hx hb dX2_pass__14 (by decide) (fun h14 => ?_) (fun h14 => ?_)
        · skip
          refine lv_iconst (v := (nI 0)) hx hb dX2_pass__21 (by decide) ?_
          refine nq_add hx hb dX2_pass__22 ?_
          refine lv_istore_n (lv' := [(2, .int (nI ((passD F lim now n t) + 0))), (3, .int (nI t)), (0, .ref (b 0)), (1, .int (nI k))]) hx hb dX2_pass__23 rfl hl (by decide) rfl (fun ls hl => ?_)
          refine nq_inc (lv' := [(3, .int (nI (t + 1))), (2, .int (nI ((passD F lim now n t) + 0))), (0, .ref (b 0)), (1, .int (nI k))]) hx hb dX2_pass__24 (d := 1) rfl hl (k := 1) rfl (by decide) rfl (fun ls hl => ?_)
          refine lv_goto (tgt := 4) hx hb dX2_pass__27 (by decide) ?_
          have hl : lv_has ls 4 [(3, .int (nI (t + 1))), (2, .int (nI (passD F lim now n (t + 1)))), (0, .ref (b 0)), (1, .int (nI k))] := lv_rep hl 1 rfl (congrArg Value.int (show (nI ((passD F lim now n t) + 0)) = (nI (passD F lim now n (t + 1))) from congrArg nI (by rw [passD_s, h14]; rfl)))
          rw [show wS E b n (now + t + 1) lim (stepF (passF F lim now n t) lim (now + t) n) = wS E b n (now + (t + 1)) lim (passF F lim now n (t + 1)) from rfl] at hP hD
          refine W.widen (k := t + 1) (n := 8 * (t + 1)) (by omega) (by omega) ?_
          exact ih4 (t + 1) _ _ ls (by omega) (by omega) hP hD hS (lv_sub hl [0, 1, 2, 3] rfl)
        · skip
          refine lv_iconst (v := (nI 1)) hx hb dX2_pass__17 (by decide) ?_
          refine lv_goto (tgt := 22) hx hb dX2_pass__18 (by decide) ?_
          refine nq_add hx hb dX2_pass__22 ?_
          refine lv_istore_n (lv' := [(2, .int (nI ((passD F lim now n t) + 1))), (3, .int (nI t)), (0, .ref (b 0)), (1, .int (nI k))]) hx hb dX2_pass__23 rfl hl (by decide) rfl (fun ls hl => ?_)
          refine nq_inc (lv' := [(3, .int (nI (t + 1))), (2, .int (nI ((passD F lim now n t) + 1))), (0, .ref (b 0)), (1, .int (nI k))]) hx hb dX2_pass__24 (d := 1) rfl hl (k := 1) rfl (by decide) rfl (fun ls hl => ?_)
          refine lv_goto (tgt := 4) hx hb dX2_pass__27 (by decide) ?_
          have hl : lv_has ls 4 [(3, .int (nI (t + 1))), (2, .int (nI (passD F lim now n (t + 1)))), (0, .ref (b 0)), (1, .int (nI k))] := lv_rep hl 1 rfl (congrArg Value.int (show (nI ((passD F lim now n t) + 1)) = (nI (passD F lim now n (t + 1))) from congrArg nI (by rw [passD_s, h14]; rfl)))
          rw [show wS E b n (now + t + 1) lim (stepF (passF F lim now n t) lim (now + t) n) = wS E b n (now + (t + 1)) lim (passF F lim now n (t + 1)) from rfl] at hP hD
          refine W.widen (k := t + 1) (n := 8 * (t + 1)) (by omega) (by omega) ?_
          exact ih4 (t + 1) _ _ ls (by omega) (by omega) hP hD hS (lv_sub hl [0, 1, 2, 3] rfl)
  have hl : lv_has ls 4 [(3, .int (nI 0)), (2, .int (nI (passD F lim now n 0))), (0, .ref (b 0)), (1, .int (nI k))] := lv_rep hl 1 rfl (congrArg Value.int (show (nI 0) = (nI (passD F lim now n 0)) from rfl))
  rw [show wS E b n now lim F = wS E b n (now + 0) lim (passF F lim now n 0) from rfl] at hP hD
  exact loop4 ((k - 0) + 1) 0 _ _ ls (by omega) (Nat.lt_succ_self _) hP hD hS (lv_sub hl [0, 1, 2, 3] rfl)

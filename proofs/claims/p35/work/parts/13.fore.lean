/-! a beat goes by; beats foreseen -/
set_option maxHeartbeats 4000000 in
set_option maxRecDepth 100000 in
/-- playBeat() -/
theorem c_X1_playBeat (l : Launch) (E : GE) (sz : Nat) (a : Nat → Nat) (mc : Int32) (n now lim : Nat) (F : LR) (lit : Nat → Bool) (fo : Nat → Nat) (hO : OkS n now lim F) (hnow : now < 100000000) : Met l yX1_playBeat wsX1_playBeat ({ frames := 4, cells := 0, slots := 0, locals := 88 } : Room) (va_Pc [.ref (a 0)] (pcM E (wC E a mc n now lim (LF F lit fo)) sz)) (va_Qi (S := Nat → Bool) (fun r _ => r = bI (drkS F lim now n)) (fun uQ tQ => atM E (va_A (wC E a mc n now lim (LF F lit fo)) sz) ((fun lt => wC E a mc n (now + 1) lim (LF (stepF F lim now n) lt fo)) uQ) tQ) (va_A (wC E a mc n now lim (LF F lit fo)) sz)) 0 0 (va_A (wC E a mc n now lim (LF F lit fo)) sz) := by
  refine metM (by decide) rfl (Nat.le_of_ble_eq_true rfl) ?_
  intro p e s m args below meth c ls A hAe hA hx hb hr hml hts hown hlocks hin hP hK hD hS hl
  rw [hAe]
  have hiX1 : ∀ q ∈ wsX10, q ∈ wsX1_playBeat := by decide +kernel
  have hiX0 : ∀ q ∈ wsX00, q ∈ wsX1_playBeat := by decide +kernel
  obtain ⟨QQ, hQ⟩ : ∃ zQ, zQ = MQ below (va_Qi (S := Nat → Bool) (fun r _ => r = bI (drkS F lim now n)) (fun uQ tQ => atM E A ((fun lt => wC E a mc n (now + 1) lim (LF (stepF F lim now n) lt fo)) uQ) tQ) A) args s 0 0 A := ⟨_, rfl⟩
  rw [← hQ]
  obtain ⟨hO1, hO2, hO3, hO4, hO5⟩ := id hO
  refine lv_aload_n hx hb dX1_playBeat_0 rfl (lv_at hl 0 rfl) ?_
  refine lv_aload_n hx hb dX1_playBeat_1 rfl (lv_at hl 0 rfl) ?_
  refine va_get (D := E.1) (ci := 2) (v := .int (nI now)) (C := RX1) (T := TX1) (N := 3) hx hb hts hiX1 hown hK hP 0 wC_x rfl 1 (by decide) (hts (.fieldLink RX1 16 "PulseLoom" "now" "I") (List.mem_of_getElem? (i := 1) (by rfl))) (fun _ h9 => h9) rfl dX1_playBeat_2 ?_
  refine cmV_i (rest := []) (As := [.int (nI now)]) ⟨hx, hb, hml, hown, hts⟩ (c_X1_lightLamps l E _ a mc n now lim F lit fo (hO) now (by omega)) (cwV 1 hts gX1_playBeat_X1_lightLamps rfl rfl rfl (by decide +kernel) ⟨Nat.le_of_ble_eq_true rfl, Nat.le_of_ble_eq_true rfl⟩) (va_recv hK hP (ci := 2) (q0 := 0) rfl wC_x) hP hK hD hS hA rfl hl.1 rfl (Nat.le_of_ble_eq_true rfl) dX1_playBeat_5 ⟨Nat.le_of_ble_eq_true rfl, Nat.le_of_ble_eq_true rfl⟩ (fun r5 u5 H locs hr5 hP hD hS => ?_)
  obtain ⟨hr5, hu5⟩ := hr5
  subst hr5
  refine lv_pop hx hb dX1_playBeat_8 rfl ?_
  refine lv_iconst (v := (nI 0)) hx hb dX1_playBeat_9 (by decide) ?_
  refine lv_istore_n (lv' := [(1, .int (nI 0)), (0, .ref (a 0))]) hx hb dX1_playBeat_10 rfl hl (by decide) rfl (fun ls hl => ?_)
  refine lv_iconst (v := (nI 0)) hx hb dX1_playBeat_11 (by decide) ?_
  refine lv_istore_n (lv' := [(2, .int (nI 0)), (1, .int (nI 0)), (0, .ref (a 0))]) hx hb dX1_playBeat_12 rfl hl (by decide) rfl (fun ls hl => ?_)
  have loop13 : ∀ (tk : Nat) (i : Nat) (H : Heap) (locs : List Loc) (ls : Array Slot), (i ≤ n) → (n - i) < tk → va_P E.1 vwCl (wC E a mc n now lim (LF (stepF F lim now i) u5 fo)) H → va_D A (wC E a mc n now lim (LF (stepF F lim now i) u5 fo)) → va_S A s.heap H locs → lv_has ls 4 [(0, .ref (a 0)), (1, .int (bI (drkS F lim now i))), (2, .int (nI i))] → W p l e ({ frames := 4, cells := 0, slots := 0, locals := 88 } : Room) s m args below meth c H locs 0 0 QQ (F0 m 13 ls []) := by
    intro tk
    induction tk with
    | zero => intro i H locs ls hi hk hP hD hS hl; exact absurd hk (Nat.not_lt_zero _)
    | succ tk ih13 =>
      intro i H locs ls hi hk hP hD hS hl
      refine lv_iload_n hx hb dX1_playBeat_13 rfl (lv_at hl 2 rfl) ?_
      refine lv_aload_n hx hb dX1_playBeat_14 rfl (lv_at hl 0 rfl) ?_
      refine va_get (D := E.1) (ci := 2) (v := .ref (a 1)) (C := RX1) (T := TX1) (N := 3) hx hb hts hiX1 hown hK hP 0 wC_x rfl 0 (by decide) (hts (.fieldLink RX1 10 "PulseLoom" "row" "Ljava/util/ArrayList;") (List.mem_of_getElem? (i := 2) (by rfl))) (fun _ h9 => h9) rfl dX1_playBeat_15 ?_
      refine csV_i (rest := [.int (nI i)]) (As := []) ⟨hx, hb, hml, hown, hts⟩ (c_Jx4a65c_size_8abf5 l E _ 1 _ _ _ n wC_row) (cwV 0 hts gX1_playBeat_Jx4a65c_size_8abf5 rfl rfl rfl (by decide +kernel) ⟨Nat.le_of_ble_eq_true rfl, Nat.le_of_ble_eq_true rfl⟩) (va_recv hK hP (ci := 0) (q0 := 1) rfl wC_row) hP hK rfl hl.1 rfl (Nat.le_of_ble_eq_true rfl) dX1_playBeat_18 (Nat.le_of_ble_eq_true rfl) (Nat.le_of_ble_eq_true rfl) (fun r18 hr18 => ?_)
      subst hr18
      refine nq_icmp_ge (tgt := 85) hx hb dX1_playBeat_21 (by decide) (by omega) (by omega) (fun h21 => ?_) (fun h21 => ?_)
      · skip
        rw [show i = n by omega] at hP hD
        refine lv_aload_n hx hb dX1_playBeat_85 rfl (lv_at hl 0 rfl) ?_
        refine lv_dup hx hb dX1_playBeat_86 rfl ?_
        refine va_get (D := E.1) (ci := 2) (v := .int (nI now)) (C := RX1) (T := TX1) (N := 3) hx hb hts hiX1 hown hK hP 0 wC_x rfl 1 (by decide) (hts (.fieldLink RX1 16 "PulseLoom" "now" "I") (List.mem_of_getElem? (i := 1) (by rfl))) (fun _ h9 => h9) rfl dX1_playBeat_87 ?_
        refine lv_iconst (v := (nI 1)) hx hb dX1_playBeat_90 (by decide) ?_
        refine nq_add hx hb dX1_playBeat_91 ?_
        refine va_put (D := E.1) (ci := 2) (v := .int (nI (now + 1))) (ty := .int) (C := RX1) (T := TX1) (N := 3) hx hb hts hiX1 tyX1 tyX1_ok nmX1 hown hK hP hD hS 0 wC_x rfl 1 (by decide) (hts (.fieldLink RX1 16 "PulseLoom" "now" "I") (List.mem_of_getElem? (i := 1) (by rfl))) (fun _ h9 => h9) rfl (by decide +kernel) rfl (by rfl) (Nat.le_of_ble_eq_true rfl) dX1_playBeat_92 (fun H locs hP hD hS => ?_)
        have hP : va_P E.1 vwCl (wC E a mc n (now + 1) lim (LF (stepF F lim now n) u5 fo)) H := hP
        have hD : va_D A (wC E a mc n (now + 1) lim (LF (stepF F lim now n) u5 fo)) := hD
        refine lv_iload_n hx hb dX1_playBeat_95 rfl (lv_at hl 1 rfl) ?_
        rw [hQ]
        exact retM_z (E := E) (A0 := A) (b := drkS F lim now i) (post := fun r _ => r = bI (drkS F lim now n)) (u := u5) (W1 := fun lt => wC E a mc n (now + 1) lim (LF (stepF F lim now n) lt fo)) hx hb hr hlocks hP hK hD hS (congrArg bI (by rw [show i = n by omega])) dX1_playBeat_96
      · skip
        have hi9 := hO4 i h21
        have hF5 : stepF F lim now i i 5 = F i 5 := stepF_at F lim now i 5
        have hF6 : stepF F lim now i i 6 = F i 6 := stepF_at F lim now i 6
        refine lv_aload_n hx hb dX1_playBeat_24 rfl (lv_at hl 0 rfl) ?_
        refine va_get (D := E.1) (ci := 2) (v := .ref (a 1)) (C := RX1) (T := TX1) (N := 3) hx hb hts hiX1 hown hK hP 0 wC_x rfl 0 (by decide) (hts (.fieldLink RX1 10 "PulseLoom" "row" "Ljava/util/ArrayList;") (List.mem_of_getElem? (i := 2) (by rfl))) (fun _ h9 => h9) rfl dX1_playBeat_25 ?_
        refine lv_iload_n hx hb dX1_playBeat_28 rfl (lv_at hl 2 rfl) ?_
        refine csV_r (rest := []) (As := [.int (nI i)]) ⟨hx, hb, hml, hown, hts⟩ (c_Jx4a65c_get_915e3 l E _ 1 _ _ _ n wC_row 2 (arF a n) (wC_arr (by omega)) i (a (3 + i)) (by omega) (by omega) (arF_at (by omega))) (cwV 1 hts gX1_playBeat_Jx4a65c_get_915e3 rfl rfl rfl (by decide +kernel) ⟨Nat.le_of_ble_eq_true rfl, Nat.le_of_ble_eq_true rfl⟩) (va_recv hK hP (ci := 0) (q0 := 1) rfl wC_row) hP hK rfl hl.1 rfl (Nat.le_of_ble_eq_true rfl) dX1_playBeat_29 (Nat.le_of_ble_eq_true rfl) (Nat.le_of_ble_eq_true rfl) (fun r29 hr29 => ?_)
        subst hr29
        refine va_castS hx hb hown (hts (.classLink RX1 38 "PulseLoom$Lamp") (List.mem_of_getElem? (i := 3) (by rfl))) (hK.1 1 _ rfl).2 (va_recv hK hP (ci := 1) (q0 := (3 + i)) rfl (wC_lamp (i := i) (by omega))) dX1_playBeat_32 ?_
        refine lv_astore_n (lv' := [(3, .ref (a (3 + i))), (0, .ref (a 0)), (1, .int (bI (drkS F lim now i))), (2, .int (nI i))]) hx hb dX1_playBeat_35 rfl hl (by decide) rfl (fun ls hl => ?_)
        refine lv_aload_n hx hb dX1_playBeat_36 rfl (lv_at hl 0 rfl) ?_
        refine va_get (D := E.1) (ci := 1) (v := .int (bI (u5 i))) (C := RX0) (T := TX0) (N := 9) hx hb hts hiX0 hown hK hP (3 + i) (wC_lamp (i := i) (by omega)) rfl 7 (by decide) (hts (.fieldLink RX1 83 "PulseLoom$Lamp" "lit" "Z") (List.mem_of_getElem? (i := 4) (by rfl))) (fun _ h9 => h9) rfl dX1_playBeat_37 ?_
        refine nq_top (show (bI (u5 i)) = (bI (litS F lim now i)) from congrArg bI (hu5 i (by omega))) ?_
        refine bq_if_eq (tgt := 56) hx hb dX1_playBeat_40 (by decide) (fun h40 => ?_) (fun h40 => ?_)
        · skip
          refine lv_aload_n hx hb dX1_playBeat_56 rfl (lv_at hl 0 rfl) ?_
          refine lv_aload_n hx hb dX1_playBeat_57 rfl (lv_at hl 1 rfl) ?_
          refine va_get (D := E.1) (ci := 2) (v := .int (nI now)) (C := RX1) (T := TX1) (N := 3) hx hb hts hiX1 hown hK hP 0 wC_x rfl 1 (by decide) (hts (.fieldLink RX1 16 "PulseLoom" "now" "I") (List.mem_of_getElem? (i := 1) (by rfl))) (fun _ h9 => h9) rfl dX1_playBeat_58 ?_
          refine csV_i (rest := []) (As := [.int (nI now)]) ⟨hx, hb, hml, hown, hts⟩ (c_X0_dueAt l E _ (3 + i) (a (3 + i)) (stepF F lim now i) _ _ i now (wC_lamp (i := i) (by omega)) ((by rw [stepF_q (q := 0) (by decide) (by decide), stepF_q (q := 3) (by decide) (by decide)]; exact okp hO (i := i) (by omega))) (by omega) ((by rw [stepF_q (q := 4) (by decide) (by decide), stepF_q (q := 0) (by decide) (by decide)]; exact okl hO (i := i) (by omega)))) (cwV 1 hts gX1_playBeat_X0_dueAt rfl rfl rfl (by decide +kernel) ⟨Nat.le_of_ble_eq_true rfl, Nat.le_of_ble_eq_true rfl⟩) (va_recv hK hP (ci := 1) (q0 := (3 + i)) rfl (wC_lamp (i := i) (by omega))) hP hK rfl hl.1 rfl (Nat.le_of_ble_eq_true rfl) dX1_playBeat_61 (Nat.le_of_ble_eq_true rfl) (Nat.le_of_ble_eq_true rfl) (fun r61 hr61 => ?_)
          subst hr61
          refine nq_top (show (bI (due (stepF F lim now i) i now)) = (bI (due F i now)) from congrArg bI (step_due F lim now i i now)) ?_
          refine bq_if_eq (tgt := 79) hx hb dX1_playBeat_64 (by decide) (fun h64 => ?_) (fun h64 => ?_)
          · skip
            refine nq_inc (lv' := [(2, .int (nI (i + 1))), (3, .ref (a (3 + i))), (0, .ref (a 0)), (1, .int (bI (drkS F lim now i)))]) hx hb dX1_playBeat_79 (d := 1) rfl hl (k := 3) rfl (by decide) rfl (fun ls hl => ?_)
            refine lv_goto (tgt := 13) hx hb dX1_playBeat_82 (by decide) ?_
            have hl : lv_has ls 4 [(2, .int (nI (i + 1))), (3, .ref (a (3 + i))), (0, .ref (a 0)), (1, .int (bI (drkS F lim now (i + 1))))] := lv_rep hl 3 rfl (congrArg Value.int (show (bI (drkS F lim now i)) = (bI (drkS F lim now (i + 1))) from congrArg bI (by rw [drkS_s, h40, h64]; simp)))
            rw [show wC E a mc n now lim (LF (stepF F lim now i) u5 fo) = wC E a mc n now lim (LF (stepF F lim now (i + 1)) u5 fo) from by rw [stepF_none h40 h64]] at hP hD
            exact ih13 (i + 1) _ _ ls (by omega) (by omega) hP hD hS (lv_sub hl [2, 3, 0] rfl)
          · skip
            refine lv_aload_n hx hb dX1_playBeat_67 rfl (lv_at hl 0 rfl) ?_
            refine lv_dup hx hb dX1_playBeat_68 rfl ?_
            refine va_get (D := E.1) (ci := 1) (v := .int (nI ((stepF F lim now i) i 6))) (C := RX0) (T := TX0) (N := 9) hx hb hts hiX0 hown hK hP (3 + i) (wC_lamp (i := i) (by omega)) rfl 6 (by decide) (hts (.fieldLink RX1 90 "PulseLoom$Lamp" "beatsDark" "I") (List.mem_of_getElem? (i := 6) (by rfl))) (fun _ h9 => h9) rfl dX1_playBeat_69 ?_
            refine lv_iconst (v := (nI 1)) hx hb dX1_playBeat_72 (by decide) ?_
            refine nq_add hx hb dX1_playBeat_73 ?_
            refine va_put (D := E.1) (ci := 1) (v := .int (nI (((stepF F lim now i) i 6) + 1))) (ty := .int) (C := RX0) (T := TX0) (N := 9) hx hb hts hiX0 tyX0 tyX0_ok nmX0 hown hK hP hD hS (3 + i) (wC_lamp (i := i) (by omega)) rfl 6 (by decide) (hts (.fieldLink RX1 90 "PulseLoom$Lamp" "beatsDark" "I") (List.mem_of_getElem? (i := 6) (by rfl))) (fun _ h9 => h9) rfl (by decide +kernel) rfl (by rfl) (Nat.le_of_ble_eq_true rfl) dX1_playBeat_74 (fun H locs hP hD hS => ?_)
            rw [wC_set (by omega), LF_6] at hP hD
            rw [stepF_dark h40 h64] at hP hD
            refine lv_iconst (v := (nI 1)) hx hb dX1_playBeat_77 (by decide) ?_
            refine lv_istore_n (lv' := [(1, .int (nI 1)), (3, .ref (a (3 + i))), (0, .ref (a 0)), (2, .int (nI i))]) hx hb dX1_playBeat_78 rfl hl (by decide) rfl (fun ls hl => ?_)
            refine nq_inc (lv' := [(2, .int (nI (i + 1))), (1, .int (nI 1)), (3, .ref (a (3 + i))), (0, .ref (a 0))]) hx hb dX1_playBeat_79 (d := 1) rfl hl (k := 3) rfl (by decide) rfl (fun ls hl => ?_)
            refine lv_goto (tgt := 13) hx hb dX1_playBeat_82 (by decide) ?_
            have hl : lv_has ls 4 [(2, .int (nI (i + 1))), (1, .int (bI (drkS F lim now (i + 1)))), (3, .ref (a (3 + i))), (0, .ref (a 0))] := lv_rep hl 1 rfl (congrArg Value.int (show (nI 1) = (bI (drkS F lim now (i + 1))) from by rw [show drkS F lim now (i + 1) = true from by rw [drkS_s, h40, h64]; simp]; rfl))
            exact ih13 (i + 1) _ _ ls (by omega) (by omega) hP hD hS (lv_sub hl [3, 1, 0] rfl)
        · skip
          refine lv_aload_n hx hb dX1_playBeat_43 rfl (lv_at hl 0 rfl) ?_
          refine lv_dup hx hb dX1_playBeat_44 rfl ?_
          refine va_get (D := E.1) (ci := 1) (v := .int (nI ((stepF F lim now i) i 5))) (C := RX0) (T := TX0) (N := 9) hx hb hts hiX0 hown hK hP (3 + i) (wC_lamp (i := i) (by omega)) rfl 5 (by decide) (hts (.fieldLink RX1 87 "PulseLoom$Lamp" "beatsShone" "I") (List.mem_of_getElem? (i := 5) (by rfl))) (fun _ h9 => h9) rfl dX1_playBeat_45 ?_
          refine lv_iconst (v := (nI 1)) hx hb dX1_playBeat_48 (by decide) ?_
          refine nq_add hx hb dX1_playBeat_49 ?_
          refine va_put (D := E.1) (ci := 1) (v := .int (nI (((stepF F lim now i) i 5) + 1))) (ty := .int) (C := RX0) (T := TX0) (N := 9) hx hb hts hiX0 tyX0 tyX0_ok nmX0 hown hK hP hD hS (3 + i) (wC_lamp (i := i) (by omega)) rfl 5 (by decide) (hts (.fieldLink RX1 87 "PulseLoom$Lamp" "beatsShone" "I") (List.mem_of_getElem? (i := 5) (by rfl))) (fun _ h9 => h9) rfl (by decide +kernel) rfl (by rfl) (Nat.le_of_ble_eq_true rfl) dX1_playBeat_50 (fun H locs hP hD hS => ?_)
          rw [wC_set (by omega), LF_5] at hP hD
          rw [stepF_lit h40] at hP hD
          refine lv_goto (tgt := 79) hx hb dX1_playBeat_53 (by decide) ?_
          refine nq_inc (lv' := [(2, .int (nI (i + 1))), (3, .ref (a (3 + i))), (0, .ref (a 0)), (1, .int (bI (drkS F lim now i)))]) hx hb dX1_playBeat_79 (d := 1) rfl hl (k := 3) rfl (by decide) rfl (fun ls hl => ?_)
          refine lv_goto (tgt := 13) hx hb dX1_playBeat_82 (by decide) ?_
          have hl : lv_has ls 4 [(2, .int (nI (i + 1))), (3, .ref (a (3 + i))), (0, .ref (a 0)), (1, .int (bI (drkS F lim now (i + 1))))] := lv_rep hl 3 rfl (congrArg Value.int (show (bI (drkS F lim now i)) = (bI (drkS F lim now (i + 1))) from congrArg bI (by rw [drkS_s, h40]; simp)))
          exact ih13 (i + 1) _ _ ls (by omega) (by omega) hP hD hS (lv_sub hl [2, 3, 0] rfl)
  have hl : lv_has ls 4 [(2, .int (nI 0)), (1, .int (bI (drkS F lim now 0))), (0, .ref (a 0))] := lv_rep hl 1 rfl (congrArg Value.int (show (nI 0) = (bI (drkS F lim now 0)) from rfl))
  rw [show wC E a mc n now lim (LF F u5 fo) = wC E a mc n now lim (LF (stepF F lim now 0) u5 fo) from by rw [stepF_0]] at hP hD
  exact loop13 ((n - 0) + 1) 0 _ _ ls (by omega) (Nat.lt_succ_self _) hP hD hS (lv_sub hl [2, 1, 0] rfl)

set_option maxHeartbeats 4000000 in
set_option maxRecDepth 100000 in
/-- foreseeBeat(b) -/
theorem c_X1_foreseeBeat (l : Launch) (E : GE) (sz : Nat) (a : Nat → Nat) (mc : Int32) (n now lim : Nat) (F : LR) (lit : Nat → Bool) (fo : Nat → Nat) (hO : OkS n now lim F) (b : Nat) (hb0 : b ≤ 1000000000) (hfo : ∀ j, j < n → fo j ≤ 1000000000) : Met l yX1_foreseeBeat wsX1_foreseeBeat ({ frames := 4, cells := 0, slots := 0, locals := 88 } : Room) (va_Pc [.ref (a 0), .int (nI b)] (pcM E (wC E a mc n now lim (LF F lit fo)) sz)) (va_Qv (S := (Nat → Bool) × (Nat → Nat)) (fun u => ∀ j, j < n → u.2 j = fo j + (litS F lim b j).toNat) (fun uQ tQ => atM E (va_A (wC E a mc n now lim (LF F lit fo)) sz) ((fun u => wC E a mc n now lim (LF F u.1 u.2)) uQ) tQ) (va_A (wC E a mc n now lim (LF F lit fo)) sz)) 0 0 (va_A (wC E a mc n now lim (LF F lit fo)) sz) := by
  refine metM (by decide) rfl (Nat.le_of_ble_eq_true rfl) ?_
  intro p e s m args below meth c ls A hAe hA hx hb hr hml hts hown hlocks hin hP hK hD hS hl
  rw [hAe]
  have hiX1 : ∀ q ∈ wsX10, q ∈ wsX1_foreseeBeat := by decide +kernel
  have hiX0 : ∀ q ∈ wsX00, q ∈ wsX1_foreseeBeat := by decide +kernel
  obtain ⟨QQ, hQ⟩ : ∃ zQ, zQ = MQ below (va_Qv (S := (Nat → Bool) × (Nat → Nat)) (fun u => ∀ j, j < n → u.2 j = fo j + (litS F lim b j).toNat) (fun uQ tQ => atM E A ((fun u => wC E a mc n now lim (LF F u.1 u.2)) uQ) tQ) A) args s 0 0 A := ⟨_, rfl⟩
  rw [← hQ]
  obtain ⟨hO1, hO2, hO3, hO4, hO5⟩ := id hO
  refine lv_aload_n hx hb dX1_foreseeBeat_0 rfl (lv_at hl 0 rfl) ?_
  refine lv_iload_n hx hb dX1_foreseeBeat_1 rfl (lv_at hl 1 rfl) ?_
  refine cmV_i (rest := []) (As := [.int (nI b)]) ⟨hx, hb, hml, hown, hts⟩ (c_X1_lightLamps l E _ a mc n now lim F lit fo (hO) b (by omega)) (cwV 1 hts gX1_foreseeBeat_X1_lightLamps rfl rfl rfl (by decide +kernel) ⟨Nat.le_of_ble_eq_true rfl, Nat.le_of_ble_eq_true rfl⟩) (va_recv hK hP (ci := 2) (q0 := 0) rfl wC_x) hP hK hD hS hA rfl hl.1 rfl (Nat.le_of_ble_eq_true rfl) dX1_foreseeBeat_2 ⟨Nat.le_of_ble_eq_true rfl, Nat.le_of_ble_eq_true rfl⟩ (fun r2 u2 H locs hr2 hP hD hS => ?_)
  obtain ⟨hr2, hu2⟩ := hr2
  subst hr2
  refine lv_pop hx hb dX1_foreseeBeat_5 rfl ?_
  refine lv_iconst (v := (nI 0)) hx hb dX1_foreseeBeat_6 (by decide) ?_
  refine lv_istore_n (lv' := [(2, .int (nI 0)), (0, .ref (a 0)), (1, .int (nI b))]) hx hb dX1_foreseeBeat_7 rfl hl (by decide) rfl (fun ls hl => ?_)
  have loop8 : ∀ (tk : Nat) (i : Nat) (f : Nat → Nat) (H : Heap) (locs : List Loc) (ls : Array Slot), (i ≤ n) → (∀ j, j < i → f j = fo j + (litS F lim b j).toNat) → (∀ j, i ≤ j → f j = fo j) → (n - i) < tk → va_P E.1 vwCl (wC E a mc n now lim (LF F u2 f)) H → va_D A (wC E a mc n now lim (LF F u2 f)) → va_S A s.heap H locs → lv_has ls 4 [(0, .ref (a 0)), (1, .int (nI b)), (2, .int (nI i))] → W p l e ({ frames := 4, cells := 0, slots := 0, locals := 88 } : Room) s m args below meth c H locs 0 0 QQ (F0 m 8 ls []) := by
    intro tk
    induction tk with
    | zero => intro i f H locs ls hi hf1 hf2 hk hP hD hS hl; exact absurd hk (Nat.not_lt_zero _)
    | succ tk ih8 =>
      intro i f H locs ls hi hf1 hf2 hk hP hD hS hl
      refine lv_iload_n hx hb dX1_foreseeBeat_8 rfl (lv_at hl 2 rfl) ?_
      refine lv_aload_n hx hb dX1_foreseeBeat_9 rfl (lv_at hl 0 rfl) ?_
      refine va_get (D := E.1) (ci := 2) (v := .ref (a 1)) (C := RX1) (T := TX1) (N := 3) hx hb hts hiX1 hown hK hP 0 wC_x rfl 0 (by decide) (hts (.fieldLink RX1 10 "PulseLoom" "row" "Ljava/util/ArrayList;") (List.mem_of_getElem? (i := 1) (by rfl))) (fun _ h9 => h9) rfl dX1_foreseeBeat_10 ?_
      refine csV_i (rest := [.int (nI i)]) (As := []) ⟨hx, hb, hml, hown, hts⟩ (c_Jx4a65c_size_8abf5 l E _ 1 _ _ _ n wC_row) (cwV 0 hts gX1_foreseeBeat_Jx4a65c_size_8abf5 rfl rfl rfl (by decide +kernel) ⟨Nat.le_of_ble_eq_true rfl, Nat.le_of_ble_eq_true rfl⟩) (va_recv hK hP (ci := 0) (q0 := 1) rfl wC_row) hP hK rfl hl.1 rfl (Nat.le_of_ble_eq_true rfl) dX1_foreseeBeat_13 (Nat.le_of_ble_eq_true rfl) (Nat.le_of_ble_eq_true rfl) (fun r13 hr13 => ?_)
      subst hr13
      refine nq_icmp_ge (tgt := 54) hx hb dX1_foreseeBeat_16 (by decide) (by omega) (by omega) (fun h16 => ?_) (fun h16 => ?_)
      · skip
        rw [hQ]
        exact retM_v (E := E) (A0 := A) (post := fun u => ∀ j, j < n → u.2 j = fo j + (litS F lim b j).toNat) (u := (u2, f)) (W1 := fun u => wC E a mc n now lim (LF F u.1 u.2)) hx hb hr hlocks hP hK hD hS (fun j hj => hf1 j (by omega)) dX1_foreseeBeat_54
      · skip
        have hi9 := hO4 i h16
        have hfi := hf2 i (Nat.le_refl _)
        have hfo9 := hfo i h16
        refine lv_aload_n hx hb dX1_foreseeBeat_19 rfl (lv_at hl 0 rfl) ?_
        refine va_get (D := E.1) (ci := 2) (v := .ref (a 1)) (C := RX1) (T := TX1) (N := 3) hx hb hts hiX1 hown hK hP 0 wC_x rfl 0 (by decide) (hts (.fieldLink RX1 10 "PulseLoom" "row" "Ljava/util/ArrayList;") (List.mem_of_getElem? (i := 1) (by rfl))) (fun _ h9 => h9) rfl dX1_foreseeBeat_20 ?_
        refine lv_iload_n hx hb dX1_foreseeBeat_23 rfl (lv_at hl 2 rfl) ?_
        refine csV_r (rest := []) (As := [.int (nI i)]) ⟨hx, hb, hml, hown, hts⟩ (c_Jx4a65c_get_915e3 l E _ 1 _ _ _ n wC_row 2 (arF a n) (wC_arr (by omega)) i (a (3 + i)) (by omega) (by omega) (arF_at (by omega))) (cwV 1 hts gX1_foreseeBeat_Jx4a65c_get_915e3 rfl rfl rfl (by decide +kernel) ⟨Nat.le_of_ble_eq_true rfl, Nat.le_of_ble_eq_true rfl⟩) (va_recv hK hP (ci := 0) (q0 := 1) rfl wC_row) hP hK rfl hl.1 rfl (Nat.le_of_ble_eq_true rfl) dX1_foreseeBeat_24 (Nat.le_of_ble_eq_true rfl) (Nat.le_of_ble_eq_true rfl) (fun r24 hr24 => ?_)
        subst hr24
        refine va_castS hx hb hown (hts (.classLink RX1 38 "PulseLoom$Lamp") (List.mem_of_getElem? (i := 2) (by rfl))) (hK.1 1 _ rfl).2 (va_recv hK hP (ci := 1) (q0 := (3 + i)) rfl (wC_lamp (i := i) (by omega))) dX1_foreseeBeat_27 ?_
        refine lv_astore_n (lv' := [(3, .ref (a (3 + i))), (0, .ref (a 0)), (1, .int (nI b)), (2, .int (nI i))]) hx hb dX1_foreseeBeat_30 rfl hl (by decide) rfl (fun ls hl => ?_)
        refine lv_aload_n hx hb dX1_foreseeBeat_31 rfl (lv_at hl 0 rfl) ?_
        refine va_get (D := E.1) (ci := 1) (v := .int (bI (u2 i))) (C := RX0) (T := TX0) (N := 9) hx hb hts hiX0 hown hK hP (3 + i) (wC_lamp (i := i) (by omega)) rfl 7 (by decide) (hts (.fieldLink RX1 83 "PulseLoom$Lamp" "lit" "Z") (List.mem_of_getElem? (i := 3) (by rfl))) (fun _ h9 => h9) rfl dX1_foreseeBeat_32 ?_
        refine nq_top (show (bI (u2 i)) = (bI (litS F lim b i)) from congrArg bI (hu2 i (by omega))) ?_
        refine bq_if_eq (tgt := 48) hx hb dX1_foreseeBeat_35 (by decide) (fun h35 => ?_) (fun h35 => ?_)
        · skip
          refine nq_inc (lv' := [(2, .int (nI (i + 1))), (3, .ref (a (3 + i))), (0, .ref (a 0)), (1, .int (nI b))]) hx hb dX1_foreseeBeat_48 (d := 1) rfl hl (k := 3) rfl (by decide) rfl (fun ls hl => ?_)
          refine lv_goto (tgt := 8) hx hb dX1_foreseeBeat_51 (by decide) ?_
          exact ih8 (i + 1) f _ _ ls (by omega) (by intro j hj; rcases Nat.lt_or_ge j i with z | z; exact hf1 j z; rw [show j = i by omega, hf2 i (Nat.le_refl _), h35]; rfl) (by intro j hj; exact hf2 j (by omega)) (by omega) hP hD hS (lv_sub hl [2, 3, 0] rfl)
        · skip
          refine lv_aload_n hx hb dX1_foreseeBeat_38 rfl (lv_at hl 0 rfl) ?_
          refine lv_dup hx hb dX1_foreseeBeat_39 rfl ?_
          refine va_get (D := E.1) (ci := 1) (v := .int (nI (f i))) (C := RX0) (T := TX0) (N := 9) hx hb hts hiX0 hown hK hP (3 + i) (wC_lamp (i := i) (by omega)) rfl 8 (by decide) (hts (.fieldLink RX1 186 "PulseLoom$Lamp" "foreseen" "I") (List.mem_of_getElem? (i := 4) (by rfl))) (fun _ h9 => h9) rfl dX1_foreseeBeat_40 ?_
          refine lv_iconst (v := (nI 1)) hx hb dX1_foreseeBeat_43 (by decide) ?_
          refine nq_add hx hb dX1_foreseeBeat_44 ?_
          refine va_put (D := E.1) (ci := 1) (v := .int (nI ((f i) + 1))) (ty := .int) (C := RX0) (T := TX0) (N := 9) hx hb hts hiX0 tyX0 tyX0_ok nmX0 hown hK hP hD hS (3 + i) (wC_lamp (i := i) (by omega)) rfl 8 (by decide) (hts (.fieldLink RX1 186 "PulseLoom$Lamp" "foreseen" "I") (List.mem_of_getElem? (i := 4) (by rfl))) (fun _ h9 => h9) rfl (by decide +kernel) rfl (by rfl) (Nat.le_of_ble_eq_true rfl) dX1_foreseeBeat_45 (fun H locs hP hD hS => ?_)
          rw [wC_set (by omega), LF_fo] at hP hD
          refine nq_inc (lv' := [(2, .int (nI (i + 1))), (3, .ref (a (3 + i))), (0, .ref (a 0)), (1, .int (nI b))]) hx hb dX1_foreseeBeat_48 (d := 1) rfl hl (k := 3) rfl (by decide) rfl (fun ls hl => ?_)
          refine lv_goto (tgt := 8) hx hb dX1_foreseeBeat_51 (by decide) ?_
          exact ih8 (i + 1) (va_up f i ((f i) + 1)) _ _ ls (by omega) (by intro j hj; rcases Nat.lt_or_ge j i with z | z; rw [up_n _ _ (by omega)]; exact hf1 j z; rw [show j = i by omega, up_s, hf2 i (Nat.le_refl _), h35]; rfl) (by intro j hj; rw [up_n _ _ (by omega)]; exact hf2 j (by omega)) (by omega) hP hD hS (lv_sub hl [2, 3, 0] rfl)
  exact loop8 ((n - 0) + 1) 0 fo _ _ ls (by omega) (fun j hj => absurd hj (by omega)) (fun j _ => rfl) (Nat.lt_succ_self _) hP hD hS (lv_sub hl [1, 2, 0] rfl)

set_option maxHeartbeats 4000000 in
set_option maxRecDepth 100000 in
/-- unfairnessBehind(k) -/
theorem c_X1_unfairnessBehind (l : Launch) (E : GE) (sz : Nat) (a : Nat → Nat) (mc : Int32) (n now lim : Nat) (F : LR) (lit : Nat → Bool) (fo : Nat → Nat) (hO : OkS n now lim F) (k : Nat) (hk : k ≤ 200) (hnow : now + 200 ≤ 100000000) : Met l yX1_unfairnessBehind wsX1_unfairnessBehind ({ frames := 5, cells := 0, slots := 0, locals := 112 } : Room) (va_Pc [.ref (a 0), .int (nI k)] (pcM E (wC E a mc n now lim (LF F lit fo)) sz)) (va_Qi (S := (Nat → Bool) × (Nat → Nat)) (fun r _ => r = nI (unfS (passF F lim now n k) n)) (fun uQ tQ => atM E (va_A (wC E a mc n now lim (LF F lit fo)) sz) ((fun u => wC E a mc n now lim (LF F u.1 u.2)) uQ) tQ) (va_A (wC E a mc n now lim (LF F lit fo)) sz)) 0 0 (va_A (wC E a mc n now lim (LF F lit fo)) sz) := by
  refine metM (by decide) rfl (Nat.le_of_ble_eq_true rfl) ?_
  intro p e s m args below meth c ls A hAe hA hx hb hr hml hts hown hlocks hin hP hK hD hS hl
  rw [hAe]
  have hiX1 : ∀ q ∈ wsX10, q ∈ wsX1_unfairnessBehind := by decide +kernel
  have hiX0 : ∀ q ∈ wsX00, q ∈ wsX1_unfairnessBehind := by decide +kernel
  obtain ⟨QQ, hQ⟩ : ∃ zQ, zQ = MQ below (va_Qi (S := (Nat → Bool) × (Nat → Nat)) (fun r _ => r = nI (unfS (passF F lim now n k) n)) (fun uQ tQ => atM E A ((fun u => wC E a mc n now lim (LF F u.1 u.2)) uQ) tQ) A) args s 0 0 A := ⟨_, rfl⟩
  rw [← hQ]
  obtain ⟨hO1, hO2, hO3, hO4, hO5⟩ := id hO
  refine lv_iconst (v := (nI 0)) hx hb dX1_unfairnessBehind_0 (by decide) ?_
  refine lv_istore_n (lv' := [(2, .int (nI 0)), (0, .ref (a 0)), (1, .int (nI k))]) hx hb dX1_unfairnessBehind_1 rfl hl (by decide) rfl (fun ls hl => ?_)
  have loop2 : ∀ (tk : Nat) (i : Nat) (f : Nat → Nat) (H : Heap) (locs : List Loc) (ls : Array Slot), (i ≤ n) → (∀ j, j < i → f j = F j 5) → (n - i) < tk → va_P E.1 vwCl (wC E a mc n now lim (LF F lit f)) H → va_D A (wC E a mc n now lim (LF F lit f)) → va_S A s.heap H locs → lv_has ls 4 [(0, .ref (a 0)), (1, .int (nI k)), (2, .int (nI i))] → W p l e ({ frames := 5, cells := 0, slots := 0, locals := 112 } : Room) s m args below meth c H locs 0 0 QQ (F0 m 2 ls []) := by
    intro tk
    induction tk with
    | zero => intro i f H locs ls hi hf1 hk hP hD hS hl; exact absurd hk (Nat.not_lt_zero _)
    | succ tk ih2 =>
      intro i f H locs ls hi hf1 hk hP hD hS hl
      refine lv_iload_n hx hb dX1_unfairnessBehind_2 rfl (lv_at hl 2 rfl) ?_
      refine lv_aload_n hx hb dX1_unfairnessBehind_3 rfl (lv_at hl 0 rfl) ?_
      refine va_get (D := E.1) (ci := 2) (v := .ref (a 1)) (C := RX1) (T := TX1) (N := 3) hx hb hts hiX1 hown hK hP 0 wC_x rfl 0 (by decide) (hts (.fieldLink RX1 10 "PulseLoom" "row" "Ljava/util/ArrayList;") (List.mem_of_getElem? (i := 1) (by rfl))) (fun _ h9 => h9) rfl dX1_unfairnessBehind_4 ?_
      refine csV_i (rest := [.int (nI i)]) (As := []) ⟨hx, hb, hml, hown, hts⟩ (c_Jx4a65c_size_8abf5 l E _ 1 _ _ _ n wC_row) (cwV 0 hts gX1_unfairnessBehind_Jx4a65c_size_8abf5 rfl rfl rfl (by decide +kernel) ⟨Nat.le_of_ble_eq_true rfl, Nat.le_of_ble_eq_true rfl⟩) (va_recv hK hP (ci := 0) (q0 := 1) rfl wC_row) hP hK rfl hl.1 rfl (Nat.le_of_ble_eq_true rfl) dX1_unfairnessBehind_7 (Nat.le_of_ble_eq_true rfl) (Nat.le_of_ble_eq_true rfl) (fun r7 hr7 => ?_)
      subst hr7
      refine nq_icmp_ge (tgt := 39) hx hb dX1_unfairnessBehind_10 (by decide) (by omega) (by omega) (fun h10 => ?_) (fun h10 => ?_)
      · skip
        refine lv_iconst (v := (nI 0)) hx hb dX1_unfairnessBehind_39 (by decide) ?_
        refine lv_istore_n (lv' := [(2, .int (nI 0)), (0, .ref (a 0)), (1, .int (nI k))]) hx hb dX1_unfairnessBehind_40 rfl hl (by decide) rfl (fun ls hl => ?_)
        have loop41 : ∀ (tk : Nat) (t : Nat) (lt : Nat → Bool) (f2 : Nat → Nat) (H : Heap) (locs : List Loc) (ls : Array Slot), (t ≤ k) → (∀ j, j < n → f2 j = passF F lim now n t j 5) → (k - t) < tk → va_P E.1 vwCl (wC E a mc n now lim (LF F lt f2)) H → va_D A (wC E a mc n now lim (LF F lt f2)) → va_S A s.heap H locs → lv_has ls 4 [(0, .ref (a 0)), (1, .int (nI k)), (2, .int (nI t))] → W p l e ({ frames := 5, cells := 0, slots := 0, locals := 112 } : Room) s m args below meth c H locs 0 0 QQ (F0 m 41 ls []) := by
          intro tk
          induction tk with
          | zero => intro t lt f2 H locs ls ht hf3 hk hP hD hS hl; exact absurd hk (Nat.not_lt_zero _)
          | succ tk ih41 =>
            intro t lt f2 H locs ls ht hf3 hk hP hD hS hl
            have hpk := pass_ok hO t (by omega)
            have hf9 : ∀ j, j < n → f2 j ≤ 100000000 := fun j hj => by have z1 := hf3 j hj; have z2 := hpk.2.2.2.1 j hj; have z3 := hpk.2.1; omega
            refine lv_iload_n hx hb dX1_unfairnessBehind_41 rfl (lv_at hl 2 rfl) ?_
            refine lv_iload_n hx hb dX1_unfairnessBehind_42 rfl (lv_at hl 1 rfl) ?_
            refine nq_icmp_ge (tgt := 62) hx hb dX1_unfairnessBehind_43 (by decide) (by omega) (by omega) (fun h43 => ?_) (fun h43 => ?_)
            · skip
              refine lv_aload_n hx hb dX1_unfairnessBehind_62 rfl (lv_at hl 0 rfl) ?_
              refine csV_i (rest := []) (As := []) ⟨hx, hb, hml, hown, hts⟩ (c_X1_foreseenSpread l E _ a n now lim F lt f2 CV_self hO hf9) (cwV 0 hts gX1_unfairnessBehind_X1_foreseenSpread rfl rfl rfl (by decide +kernel) ⟨Nat.le_of_ble_eq_true rfl, Nat.le_of_ble_eq_true rfl⟩) (va_recv hK hP (ci := 2) (q0 := 0) rfl wC_x) hP hK rfl hl.1 rfl (Nat.le_of_ble_eq_true rfl) dX1_unfairnessBehind_63 (Nat.le_of_ble_eq_true rfl) (Nat.le_of_ble_eq_true rfl) (fun r63 hr63 => ?_)
              subst hr63
              rw [hQ]
              exact retM_i (E := E) (A0 := A) (v := (iI (mstS F f2 n 6 - lstS F f2 n 6))) (post := fun r _ => r = nI (unfS (passF F lim now n k) n)) (u := (lt, f2)) (W1 := fun u => wC E a mc n now lim (LF F u.1 u.2)) hx hb hr hlocks hP hK hD hS (by rw [spread_unf hf3 (fun j => pass_q (by decide) (by decide) t) (fun j hj => (hO4 j hj).2.2.2.2.1), show t = k by omega]; exact iI_n _) dX1_unfairnessBehind_66
            · skip
              refine lv_aload_n hx hb dX1_unfairnessBehind_46 rfl (lv_at hl 0 rfl) ?_
              refine lv_aload_n hx hb dX1_unfairnessBehind_47 rfl (lv_at hl 0 rfl) ?_
              refine va_get (D := E.1) (ci := 2) (v := .int (nI now)) (C := RX1) (T := TX1) (N := 3) hx hb hts hiX1 hown hK hP 0 wC_x rfl 1 (by decide) (hts (.fieldLink RX1 16 "PulseLoom" "now" "I") (List.mem_of_getElem? (i := 5) (by rfl))) (fun _ h9 => h9) rfl dX1_unfairnessBehind_48 ?_
              refine lv_iload_n hx hb dX1_unfairnessBehind_51 rfl (lv_at hl 2 rfl) ?_
              refine nq_add hx hb dX1_unfairnessBehind_52 ?_
              refine cmV_v (rest := []) (As := [.int (nI (now + t))]) ⟨hx, hb, hml, hown, hts⟩ (c_X1_foreseeBeat l E _ a mc n now lim F lt f2 hO (now + t) (by omega) (fun j hj => Nat.le_trans (hf9 j hj) (by omega))) (cwV 1 hts gX1_unfairnessBehind_X1_foreseeBeat rfl rfl rfl (by decide +kernel) ⟨Nat.le_of_ble_eq_true rfl, Nat.le_of_ble_eq_true rfl⟩) (va_recv hK hP (ci := 2) (q0 := 0) rfl wC_x) hP hK hD hS hA rfl hl.1 rfl (Nat.le_of_ble_eq_true rfl) dX1_unfairnessBehind_53 ⟨Nat.le_of_ble_eq_true rfl, Nat.le_of_ble_eq_true rfl⟩ (fun u53 H locs hr53 hP hD hS => ?_)
              refine nq_inc (lv' := [(2, .int (nI (t + 1))), (0, .ref (a 0)), (1, .int (nI k))]) hx hb dX1_unfairnessBehind_56 (d := 1) rfl hl (k := 2) rfl (by decide) rfl (fun ls hl => ?_)
              refine lv_goto (tgt := 41) hx hb dX1_unfairnessBehind_59 (by decide) ?_
              exact ih41 (t + 1) u53.1 u53.2 _ _ ls (by omega) (fun j hj => by rw [hr53 j hj, hf3 j hj, pass_5 hj]) (by omega) hP hD hS (lv_sub hl [1, 2, 0] rfl)
        exact loop41 ((k - 0) + 1) 0 lit f _ _ ls (by omega) (fun j hj => hf1 j (by omega)) (Nat.lt_succ_self _) hP hD hS (lv_sub hl [1, 2, 0] rfl)
      · skip
        have hi9 := hO4 i h10
        refine lv_aload_n hx hb dX1_unfairnessBehind_13 rfl (lv_at hl 0 rfl) ?_
        refine va_get (D := E.1) (ci := 2) (v := .ref (a 1)) (C := RX1) (T := TX1) (N := 3) hx hb hts hiX1 hown hK hP 0 wC_x rfl 0 (by decide) (hts (.fieldLink RX1 10 "PulseLoom" "row" "Ljava/util/ArrayList;") (List.mem_of_getElem? (i := 1) (by rfl))) (fun _ h9 => h9) rfl dX1_unfairnessBehind_14 ?_
        refine lv_iload_n hx hb dX1_unfairnessBehind_17 rfl (lv_at hl 2 rfl) ?_
        refine csV_r (rest := []) (As := [.int (nI i)]) ⟨hx, hb, hml, hown, hts⟩ (c_Jx4a65c_get_915e3 l E _ 1 _ _ _ n wC_row 2 (arF a n) (wC_arr (by omega)) i (a (3 + i)) (by omega) (by omega) (arF_at (by omega))) (cwV 1 hts gX1_unfairnessBehind_Jx4a65c_get_915e3 rfl rfl rfl (by decide +kernel) ⟨Nat.le_of_ble_eq_true rfl, Nat.le_of_ble_eq_true rfl⟩) (va_recv hK hP (ci := 0) (q0 := 1) rfl wC_row) hP hK rfl hl.1 rfl (Nat.le_of_ble_eq_true rfl) dX1_unfairnessBehind_18 (Nat.le_of_ble_eq_true rfl) (Nat.le_of_ble_eq_true rfl) (fun r18 hr18 => ?_)
        subst hr18
        refine va_castS hx hb hown (hts (.classLink RX1 38 "PulseLoom$Lamp") (List.mem_of_getElem? (i := 2) (by rfl))) (hK.1 1 _ rfl).2 (va_recv hK hP (ci := 1) (q0 := (3 + i)) rfl (wC_lamp (i := i) (by omega))) dX1_unfairnessBehind_21 ?_
        refine lv_astore_n (lv' := [(3, .ref (a (3 + i))), (0, .ref (a 0)), (1, .int (nI k)), (2, .int (nI i))]) hx hb dX1_unfairnessBehind_24 rfl hl (by decide) rfl (fun ls hl => ?_)
        refine lv_aload_n hx hb dX1_unfairnessBehind_25 rfl (lv_at hl 0 rfl) ?_
        refine lv_aload_n hx hb dX1_unfairnessBehind_26 rfl (lv_at hl 0 rfl) ?_
        refine va_get (D := E.1) (ci := 1) (v := .int (nI (F i 5))) (C := RX0) (T := TX0) (N := 9) hx hb hts hiX0 hown hK hP (3 + i) (wC_lamp (i := i) (by omega)) rfl 5 (by decide) (hts (.fieldLink RX1 87 "PulseLoom$Lamp" "beatsShone" "I") (List.mem_of_getElem? (i := 3) (by rfl))) (fun _ h9 => h9) rfl dX1_unfairnessBehind_27 ?_
        refine va_put (D := E.1) (ci := 1) (v := .int (nI (F i 5))) (ty := .int) (C := RX0) (T := TX0) (N := 9) hx hb hts hiX0 tyX0 tyX0_ok nmX0 hown hK hP hD hS (3 + i) (wC_lamp (i := i) (by omega)) rfl 8 (by decide) (hts (.fieldLink RX1 186 "PulseLoom$Lamp" "foreseen" "I") (List.mem_of_getElem? (i := 4) (by rfl))) (fun _ h9 => h9) rfl (by decide +kernel) rfl (by rfl) (Nat.le_of_ble_eq_true rfl) dX1_unfairnessBehind_30 (fun H locs hP hD hS => ?_)
        rw [wC_set (by omega), LF_fo] at hP hD
        refine nq_inc (lv' := [(2, .int (nI (i + 1))), (3, .ref (a (3 + i))), (0, .ref (a 0)), (1, .int (nI k))]) hx hb dX1_unfairnessBehind_33 (d := 1) rfl hl (k := 3) rfl (by decide) rfl (fun ls hl => ?_)
        refine lv_goto (tgt := 2) hx hb dX1_unfairnessBehind_36 (by decide) ?_
        exact ih2 (i + 1) (va_up f i (F i 5)) _ _ ls (by omega) (by intro j hj; rcases Nat.lt_or_ge j i with z | z; (rw [up_n _ _ (by omega)]; exact hf1 j z); rw [show j = i by omega, up_s]) (by omega) hP hD hS (lv_sub hl [2, 3, 0] rfl)
  exact loop2 ((n - 0) + 1) 0 fo _ _ ls (by omega) (fun j hj => absurd hj (by omega)) (Nat.lt_succ_self _) hP hD hS (lv_sub hl [1, 2, 0] rfl)

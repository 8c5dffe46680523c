/-! the class's answers that write, where nothing is refused -/
theorem wC_inj {E : GE} {a : Nat → Nat} {mc : Int32} {n now lim : Nat} {G : Nat → List Value} {A : Nat → Prop} (hD : va_D A (wC E a mc n now lim G)) : ∀ i j : Nat, i < n → j < n → a (3 + i) = a (3 + j) → i = j := fun i j hi hj h => by
  have h9 := hD.1 (3 + i) (3 + j) _ _ (wC_lamp hi) (wC_lamp hj) h
  omega
def jn (d x : Int64) : Int64 := d * 31 + x
def bL (c : Bool) : Int64 := if c = true then 1 else 0

set_option maxHeartbeats 4000000 in
set_option maxRecDepth 100000 in
/-- power() -/
theorem c_X1_power (l : Launch) (E : GE) (sz : Nat) (a : Nat → Nat) (mc : Int32) (n now lim : Nat) (F : LR) (lit : Nat → Bool) (fo : Nat → Nat) (hO : OkS n now lim F) : Met l yX1_power wsX1_power ({ frames := 4, cells := 0, slots := 0, locals := 88 } : Room) (va_Pc [.ref (a 0)] (pcM E (wC E a mc n now lim (LF F lit fo)) sz)) (va_Qi (S := Nat → Bool) (fun r _ => r = nI (acS F lim now n)) (fun uQ tQ => atM E (va_A (wC E a mc n now lim (LF F lit fo)) sz) ((fun lt => wC E a mc n now lim (LF F lt fo)) uQ) tQ) (va_A (wC E a mc n now lim (LF F lit fo)) sz)) 0 0 (va_A (wC E a mc n now lim (LF F lit fo)) sz) := by
  refine metM (by decide) rfl (Nat.le_of_ble_eq_true rfl) ?_
  intro p e s m args below meth c ls A hAe hA hx hb hr hml hts hown hlocks hin hP hK hD hS hl
  rw [hAe]
  have hiX1 : ∀ q ∈ wsX10, q ∈ wsX1_power := by decide +kernel
  obtain ⟨hO1, hO2, hO3, hO4, hO5⟩ := id hO
  refine lv_aload_n hx hb dX1_power_0 rfl (lv_at hl 0 rfl) ?_
  refine lv_aload_n hx hb dX1_power_1 rfl (lv_at hl 0 rfl) ?_
  refine va_get (D := E.1) (ci := 2) (v := .int (nI now)) (C := RX1) (T := TX1) (N := 3) hx hb hts hiX1 hown hK hP 0 wC_x rfl 1 (by decide) (hts (.fieldLink RX1 16 "PulseLoom" "now" "I") (List.mem_of_getElem? (i := 1) (by rfl))) (fun _ h9 => h9) rfl dX1_power_2 ?_
  refine cmV_i (rest := []) (As := [.int (nI now)]) ⟨hx, hb, hml, hown, hts⟩ (c_X1_lightLamps l E _ a mc n now lim F lit fo (hO) now (by omega)) (cwV 1 hts gX1_power_X1_lightLamps rfl rfl rfl (by decide +kernel) ⟨Nat.le_of_ble_eq_true rfl, Nat.le_of_ble_eq_true rfl⟩) (va_recv hK hP (ci := 2) (q0 := 0) rfl wC_x) hP hK hD hS hA rfl hl.1 rfl (Nat.le_of_ble_eq_true rfl) dX1_power_5 ⟨Nat.le_of_ble_eq_true rfl, Nat.le_of_ble_eq_true rfl⟩ (fun r5 u5 H locs hr5 hP hD hS => ?_)
  obtain ⟨hr5, hu5⟩ := hr5
  subst hr5
  exact retM_i (E := E) (A0 := A) (v := (nI (acS F lim now n))) (post := fun r _ => r = nI (acS F lim now n)) (u := u5) (W1 := fun lt => wC E a mc n now lim (LF F lt fo)) hx hb hr hlocks hP hK hD hS (rfl) dX1_power_8

set_option maxHeartbeats 4000000 in
set_option maxRecDepth 100000 in
/-- shines(k) -/
theorem c_X1_shines (l : Launch) (E : GE) (sz : Nat) (a : Nat → Nat) (mc : Int32) (n now lim : Nat) (F : LR) (lit : Nat → Bool) (fo : Nat → Nat) (hO : OkS n now lim F) (k : Nat) (hk : k < n) : Met l yX1_shines wsX1_shines ({ frames := 4, cells := 0, slots := 0, locals := 88 } : Room) (va_Pc [.ref (a 0), .int (nI k)] (pcM E (wC E a mc n now lim (LF F lit fo)) sz)) (va_Qi (S := Nat → Bool) (fun r _ => r = bI (litS F lim now k)) (fun uQ tQ => atM E (va_A (wC E a mc n now lim (LF F lit fo)) sz) ((fun lt => wC E a mc n now lim (LF F lt fo)) uQ) tQ) (va_A (wC E a mc n now lim (LF F lit fo)) sz)) 0 0 (va_A (wC E a mc n now lim (LF F lit fo)) sz) := by
  refine metM (by decide) rfl (Nat.le_of_ble_eq_true rfl) ?_
  intro p e s m args below meth c ls A hAe hA hx hb hr hml hts hown hlocks hin hP hK hD hS hl
  rw [hAe]
  have hiX1 : ∀ q ∈ wsX10, q ∈ wsX1_shines := by decide +kernel
  have hiX0 : ∀ q ∈ wsX00, q ∈ wsX1_shines := by decide +kernel
  obtain ⟨hO1, hO2, hO3, hO4, hO5⟩ := id hO
  refine lv_aload_n hx hb dX1_shines_0 rfl (lv_at hl 0 rfl) ?_
  refine lv_iload_n hx hb dX1_shines_1 rfl (lv_at hl 1 rfl) ?_
  refine csV_r (rest := []) (As := [.int (nI k)]) ⟨hx, hb, hml, hown, hts⟩ (c_X1_lampAt l E _ a n now lim F lit fo CV_self hO k (by omega)) (cwV 1 hts gX1_shines_X1_lampAt rfl rfl rfl (by decide +kernel) ⟨Nat.le_of_ble_eq_true rfl, Nat.le_of_ble_eq_true rfl⟩) (va_recv hK hP (ci := 2) (q0 := 0) rfl wC_x) hP hK rfl hl.1 rfl (Nat.le_of_ble_eq_true rfl) dX1_shines_2 (Nat.le_of_ble_eq_true rfl) (Nat.le_of_ble_eq_true rfl) (fun r2 hr2 => ?_)
  subst hr2
  refine lv_astore_n (lv' := [(2, .ref (a (3 + k))), (0, .ref (a 0)), (1, .int (nI k))]) hx hb dX1_shines_5 rfl hl (by decide) rfl (fun ls hl => ?_)
  refine lv_aload_n hx hb dX1_shines_6 rfl (lv_at hl 1 rfl) ?_
  refine lv_aload_n hx hb dX1_shines_7 rfl (lv_at hl 1 rfl) ?_
  refine va_get (D := E.1) (ci := 2) (v := .int (nI now)) (C := RX1) (T := TX1) (N := 3) hx hb hts hiX1 hown hK hP 0 wC_x rfl 1 (by decide) (hts (.fieldLink RX1 16 "PulseLoom" "now" "I") (List.mem_of_getElem? (i := 1) (by rfl))) (fun _ h9 => h9) rfl dX1_shines_8 ?_
  refine cmV_i (rest := []) (As := [.int (nI now)]) ⟨hx, hb, hml, hown, hts⟩ (c_X1_lightLamps l E _ a mc n now lim F lit fo (hO) now (by omega)) (cwV 1 hts gX1_shines_X1_lightLamps rfl rfl rfl (by decide +kernel) ⟨Nat.le_of_ble_eq_true rfl, Nat.le_of_ble_eq_true rfl⟩) (va_recv hK hP (ci := 2) (q0 := 0) rfl wC_x) hP hK hD hS hA rfl hl.1 rfl (Nat.le_of_ble_eq_true rfl) dX1_shines_11 ⟨Nat.le_of_ble_eq_true rfl, Nat.le_of_ble_eq_true rfl⟩ (fun r11 u11 H locs hr11 hP hD hS => ?_)
  obtain ⟨hr11, hu11⟩ := hr11
  subst hr11
  refine lv_pop hx hb dX1_shines_14 rfl ?_
  refine lv_aload_n hx hb dX1_shines_15 rfl (lv_at hl 0 rfl) ?_
  refine va_get (D := E.1) (ci := 1) (v := .int (bI (u11 k))) (C := RX0) (T := TX0) (N := 9) hx hb hts hiX0 hown hK hP (3 + k) (wC_lamp (i := k) (by omega)) rfl 7 (by decide) (hts (.fieldLink RX1 83 "PulseLoom$Lamp" "lit" "Z") (List.mem_of_getElem? (i := 2) (by rfl))) (fun _ h9 => h9) rfl dX1_shines_16 ?_
  refine nq_top (show (bI (u11 k)) = (bI (litS F lim now k)) from congrArg bI (hu11 k hk)) ?_
  exact retM_z (E := E) (A0 := A) (b := litS F lim now k) (post := fun r _ => r = bI (litS F lim now k)) (u := u11) (W1 := fun lt => wC E a mc n now lim (LF F lt fo)) hx hb hr hlocks hP hK hD hS (rfl) dX1_shines_19

set_option maxHeartbeats 4000000 in
set_option maxRecDepth 100000 in
/-- unfairness() -/
theorem c_X1_unfairness (l : Launch) (E : GE) (sz : Nat) (a : Nat → Nat) (mc : Int32) (n now lim : Nat) (F : LR) (lit : Nat → Bool) (fo : Nat → Nat) (hO : OkS n now lim F) (hnow : now + 200 ≤ 100000000) : Met l yX1_unfairness wsX1_unfairness ({ frames := 6, cells := 0, slots := 0, locals := 135 } : Room) (va_Pc [.ref (a 0)] (pcM E (wC E a mc n now lim (LF F lit fo)) sz)) (va_Qi (S := (Nat → Bool) × (Nat → Nat)) (fun r _ => r = nI (unfS F n)) (fun uQ tQ => atM E (va_A (wC E a mc n now lim (LF F lit fo)) sz) ((fun u => wC E a mc n now lim (LF F u.1 u.2)) uQ) tQ) (va_A (wC E a mc n now lim (LF F lit fo)) sz)) 0 0 (va_A (wC E a mc n now lim (LF F lit fo)) sz) := by
  refine metM (by decide) rfl (Nat.le_of_ble_eq_true rfl) ?_
  intro p e s m args below meth c ls A hAe hA hx hb hr hml hts hown hlocks hin hP hK hD hS hl
  rw [hAe]
  obtain ⟨hO1, hO2, hO3, hO4, hO5⟩ := id hO
  refine lv_aload_n hx hb dX1_unfairness_0 rfl (lv_at hl 0 rfl) ?_
  refine lv_iconst (v := (nI 0)) hx hb dX1_unfairness_1 (by decide) ?_
  refine cmV_i (rest := []) (As := [.int (nI 0)]) ⟨hx, hb, hml, hown, hts⟩ (c_X1_unfairnessBehind l E _ a mc n now lim F lit fo hO 0 (by omega) (by omega)) (cwV 1 hts gX1_unfairness_X1_unfairnessBehind rfl rfl rfl (by decide +kernel) ⟨Nat.le_of_ble_eq_true rfl, Nat.le_of_ble_eq_true rfl⟩) (va_recv hK hP (ci := 2) (q0 := 0) rfl wC_x) hP hK hD hS hA rfl hl.1 rfl (Nat.le_of_ble_eq_true rfl) dX1_unfairness_2 ⟨Nat.le_of_ble_eq_true rfl, Nat.le_of_ble_eq_true rfl⟩ (fun r2 u2 H locs hr2 hP hD hS => ?_)
  subst hr2
  exact retM_i (E := E) (A0 := A) (v := (nI (unfS (passF F lim now n 0) n))) (post := fun r _ => r = nI (unfS F n)) (u := u2) (W1 := fun u => wC E a mc n now lim (LF F u.1 u.2)) hx hb hr hlocks hP hK hD hS (rfl) dX1_unfairness_5

set_option maxHeartbeats 4000000 in
set_option maxRecDepth 100000 in
/-- unfairnessIn(k) -/
theorem c_X1_unfairnessIn (l : Launch) (E : GE) (sz : Nat) (a : Nat → Nat) (mc : Int32) (n now lim : Nat) (F : LR) (lit : Nat → Bool) (fo : Nat → Nat) (hO : OkS n now lim F) (k : Nat) (hk : 1 ≤ k ∧ k ≤ 200) (hnow : now + 200 ≤ 100000000) : Met l yX1_unfairnessIn wsX1_unfairnessIn ({ frames := 6, cells := 0, slots := 0, locals := 135 } : Room) (va_Pc [.ref (a 0), .int (nI k)] (pcM E (wC E a mc n now lim (LF F lit fo)) sz)) (va_Qi (S := (Nat → Bool) × (Nat → Nat)) (fun r _ => r = nI (unfS (passF F lim now n k) n)) (fun uQ tQ => atM E (va_A (wC E a mc n now lim (LF F lit fo)) sz) ((fun u => wC E a mc n now lim (LF F u.1 u.2)) uQ) tQ) (va_A (wC E a mc n now lim (LF F lit fo)) sz)) 0 0 (va_A (wC E a mc n now lim (LF F lit fo)) sz) := by
  refine metM (by decide) rfl (Nat.le_of_ble_eq_true rfl) ?_
  intro p e s m args below meth c ls A hAe hA hx hb hr hml hts hown hlocks hin hP hK hD hS hl
  rw [hAe]
  obtain ⟨hO1, hO2, hO3, hO4, hO5⟩ := id hO
  refine lv_iload_n hx hb dX1_unfairnessIn_0 rfl (lv_at hl 1 rfl) ?_
  refine lv_iconst (v := (nI 1)) hx hb dX1_unfairnessIn_1 (by decide) ?_
  refine lv_sipush (v := (nI 200)) hx hb dX1_unfairnessIn_2 (by decide) ?_
  refine csS_v (rest := []) (As := [.int (nI k), .int (nI 1), .int (nI 200)]) ⟨hx, hb, hml, hown, hts⟩ (c_X1_refuseOutside l E _ (nI k) (nI 1) (nI 200) (ref_nI (k := k) (lo := 1) (hi := 200) (by omega) (by omega)).1 (ref_nI (k := k) (lo := 1) (hi := 200) (by omega) (by omega)).2) (va_cwS 3 hts gX1_unfairnessIn_X1_refuseOutside rfl rfl rfl (by decide +kernel) ⟨Nat.le_of_ble_eq_true rfl, Nat.le_of_ble_eq_true rfl⟩) hP hK rfl hl.1 rfl (Nat.le_of_ble_eq_true rfl) dX1_unfairnessIn_5 (Nat.le_of_ble_eq_true rfl) (Nat.le_of_ble_eq_true rfl) (fun _ => ?_)
  refine lv_aload_n hx hb dX1_unfairnessIn_8 rfl (lv_at hl 0 rfl) ?_
  refine lv_iload_n hx hb dX1_unfairnessIn_9 rfl (lv_at hl 1 rfl) ?_
  refine cmV_i (rest := []) (As := [.int (nI k)]) ⟨hx, hb, hml, hown, hts⟩ (c_X1_unfairnessBehind l E _ a mc n now lim F lit fo hO k (by omega) (by omega)) (cwV 1 hts gX1_unfairnessIn_X1_unfairnessBehind rfl rfl rfl (by decide +kernel) ⟨Nat.le_of_ble_eq_true rfl, Nat.le_of_ble_eq_true rfl⟩) (va_recv hK hP (ci := 2) (q0 := 0) rfl wC_x) hP hK hD hS hA rfl hl.1 rfl (Nat.le_of_ble_eq_true rfl) dX1_unfairnessIn_10 ⟨Nat.le_of_ble_eq_true rfl, Nat.le_of_ble_eq_true rfl⟩ (fun r10 u10 H locs hr10 hP hD hS => ?_)
  subst hr10
  exact retM_i (E := E) (A0 := A) (v := (nI (unfS (passF F lim now n k) n))) (post := fun r _ => r = nI (unfS (passF F lim now n k) n)) (u := u10) (W1 := fun u => wC E a mc n now lim (LF F u.1 u.2)) hx hb hr hlocks hP hK hD hS (rfl) dX1_unfairnessIn_13

set_option maxHeartbeats 4000000 in
set_option maxRecDepth 100000 in
/-- brightest(k) -/
theorem c_X1_brightest (l : Launch) (E : GE) (sz : Nat) (a : Nat → Nat) (mc : Int32) (n now lim : Nat) (F : LR) (lit : Nat → Bool) (fo : Nat → Nat) (hO : OkS n now lim F) (k : Nat) (hk : 1 ≤ k ∧ k ≤ 200) : Met l yX1_brightest wsX1_brightest ({ frames := 4, cells := 0, slots := 0, locals := 88 } : Room) (va_Pc [.ref (a 0), .int (nI k)] (pcM E (wC E a mc n now lim (LF F lit fo)) sz)) (va_Qi (S := Nat → Bool) (fun r _ => r = nI (mxA F lim now n k)) (fun uQ tQ => atM E (va_A (wC E a mc n now lim (LF F lit fo)) sz) ((fun lt => wC E a mc n now lim (LF F lt fo)) uQ) tQ) (va_A (wC E a mc n now lim (LF F lit fo)) sz)) 0 0 (va_A (wC E a mc n now lim (LF F lit fo)) sz) := by
  refine metM (by decide) rfl (Nat.le_of_ble_eq_true rfl) ?_
  intro p e s m args below meth c ls A hAe hA hx hb hr hml hts hown hlocks hin hP hK hD hS hl
  rw [hAe]
  have hiX1 : ∀ q ∈ wsX10, q ∈ wsX1_brightest := by decide +kernel
  obtain ⟨QQ, hQ⟩ : ∃ zQ, zQ = MQ below (va_Qi (S := Nat → Bool) (fun r _ => r = nI (mxA F lim now n k)) (fun uQ tQ => atM E A ((fun lt => wC E a mc n now lim (LF F lt fo)) uQ) tQ) A) args s 0 0 A := ⟨_, rfl⟩
  rw [← hQ]
  obtain ⟨hO1, hO2, hO3, hO4, hO5⟩ := id hO
  refine lv_iload_n hx hb dX1_brightest_0 rfl (lv_at hl 1 rfl) ?_
  refine lv_iconst (v := (nI 1)) hx hb dX1_brightest_1 (by decide) ?_
  refine lv_sipush (v := (nI 200)) hx hb dX1_brightest_2 (by decide) ?_
  refine csS_v (rest := []) (As := [.int (nI k), .int (nI 1), .int (nI 200)]) ⟨hx, hb, hml, hown, hts⟩ (c_X1_refuseOutside l E _ (nI k) (nI 1) (nI 200) (ref_nI (k := k) (lo := 1) (hi := 200) (by omega) (by omega)).1 (ref_nI (k := k) (lo := 1) (hi := 200) (by omega) (by omega)).2) (va_cwS 3 hts gX1_brightest_X1_refuseOutside rfl rfl rfl (by decide +kernel) ⟨Nat.le_of_ble_eq_true rfl, Nat.le_of_ble_eq_true rfl⟩) hP hK rfl hl.1 rfl (Nat.le_of_ble_eq_true rfl) dX1_brightest_5 (Nat.le_of_ble_eq_true rfl) (Nat.le_of_ble_eq_true rfl) (fun _ => ?_)
  refine lv_iconst (v := (nI 0)) hx hb dX1_brightest_8 (by decide) ?_
  refine lv_istore_n (lv' := [(2, .int (nI 0)), (0, .ref (a 0)), (1, .int (nI k))]) hx hb dX1_brightest_9 rfl hl (by decide) rfl (fun ls hl => ?_)
  refine lv_iconst (v := (nI 0)) hx hb dX1_brightest_10 (by decide) ?_
  refine lv_istore_n (lv' := [(3, .int (nI 0)), (2, .int (nI 0)), (0, .ref (a 0)), (1, .int (nI k))]) hx hb dX1_brightest_11 rfl hl (by decide) rfl (fun ls hl => ?_)
  have loop12 : ∀ (tk : Nat) (t : Nat) (lt : Nat → Bool) (H : Heap) (locs : List Loc) (ls : Array Slot), (t ≤ k) → (k - t) < tk → va_P E.1 vwCl (wC E a mc n now lim (LF F lt fo)) H → va_D A (wC E a mc n now lim (LF F lt fo)) → va_S A s.heap H locs → lv_has ls 4 [(0, .ref (a 0)), (1, .int (nI k)), (2, .int (nI (mxA F lim now n t))), (3, .int (nI t))] → W p l e ({ frames := 4, cells := 0, slots := 0, locals := 88 } : Room) s m args below meth c H locs 0 0 QQ (F0 m 12 ls []) := by
    intro tk
    induction tk with
    | zero => intro t lt H locs ls ht hk hP hD hS hl; exact absurd hk (Nat.not_lt_zero _)
    | succ tk ih12 =>
      intro t lt H locs ls ht hk hP hD hS hl
      have hm8 := mxA_le hO lim now t
      have hm9 := acS_le hO lim (now + t) n (Nat.le_refl _)
      refine lv_iload_n hx hb dX1_brightest_12 rfl (lv_at hl 3 rfl) ?_
      refine lv_iload_n hx hb dX1_brightest_13 rfl (lv_at hl 1 rfl) ?_
      refine nq_icmp_ge (tgt := 38) hx hb dX1_brightest_14 (by decide) (by omega) (by omega) (fun h14 => ?_) (fun h14 => ?_)
      · skip
        refine lv_iload_n hx hb dX1_brightest_38 rfl (lv_at hl 2 rfl) ?_
        rw [hQ]
        exact retM_i (E := E) (A0 := A) (v := (nI (mxA F lim now n t))) (post := fun r _ => r = nI (mxA F lim now n k)) (u := lt) (W1 := fun lt => wC E a mc n now lim (LF F lt fo)) hx hb hr hlocks hP hK hD hS (congrArg nI (by rw [show t = k by omega])) dX1_brightest_39
      · skip
        refine lv_iload_n hx hb dX1_brightest_17 rfl (lv_at hl 2 rfl) ?_
        refine lv_aload_n hx hb dX1_brightest_18 rfl (lv_at hl 0 rfl) ?_
        refine lv_aload_n hx hb dX1_brightest_19 rfl (lv_at hl 0 rfl) ?_
        refine va_get (D := E.1) (ci := 2) (v := .int (nI now)) (C := RX1) (T := TX1) (N := 3) hx hb hts hiX1 hown hK hP 0 wC_x rfl 1 (by decide) (hts (.fieldLink RX1 16 "PulseLoom" "now" "I") (List.mem_of_getElem? (i := 1) (by rfl))) (fun _ h9 => h9) rfl dX1_brightest_20 ?_
        refine lv_iload_n hx hb dX1_brightest_23 rfl (lv_at hl 3 rfl) ?_
        refine nq_add hx hb dX1_brightest_24 ?_
        refine cmV_i (rest := [.int (nI (mxA F lim now n t))]) (As := [.int (nI (now + t))]) ⟨hx, hb, hml, hown, hts⟩ (c_X1_lightLamps l E _ a mc n now lim F lt fo (hO) (now + t) (by omega)) (cwV 1 hts gX1_brightest_X1_lightLamps rfl rfl rfl (by decide +kernel) ⟨Nat.le_of_ble_eq_true rfl, Nat.le_of_ble_eq_true rfl⟩) (va_recv hK hP (ci := 2) (q0 := 0) rfl wC_x) hP hK hD hS hA rfl hl.1 rfl (Nat.le_of_ble_eq_true rfl) dX1_brightest_25 ⟨Nat.le_of_ble_eq_true rfl, Nat.le_of_ble_eq_true rfl⟩ (fun r25 u25 H locs hr25 hP hD hS => ?_)
        obtain ⟨hr25, hu25⟩ := hr25
        subst hr25
        refine va_mmax hx hb (hml.trans hl.1.symm) hown (hts (.methodLink RX1 126 Lib.Math.max.name) (List.mem_of_getElem? (i := 2) (by rfl))) (hts (.static Lib.Math.max.name) (List.mem_of_getElem? (i := 3) (by rfl))) (hts (.initialized "java/lang/Math") (List.mem_of_getElem? (i := 4) (by rfl))) (hts (.code Lib.Math.max.name Lib.Math.max.code 2 (some .int)) (List.mem_of_getElem? (i := 5) (by rfl))) (Nat.le_of_ble_eq_true rfl) (Nat.le_of_ble_eq_true rfl) (Nat.le_of_ble_eq_true rfl) (Nat.le_of_ble_eq_true rfl) dX1_brightest_28 ?_
        refine nq_top (show (if (nI (mxA F lim now n t)) < (nI (acS F lim (now + t) n)) then (nI (acS F lim (now + t) n)) else (nI (mxA F lim now n t))) = (nI (max (mxA F lim now n t) (acS F lim (now + t) n))) from nmax (by omega) (by omega)) ?_
        refine lv_istore_n (lv' := [(2, .int (nI (max (mxA F lim now n t) (acS F lim (now + t) n)))), (0, .ref (a 0)), (1, .int (nI k)), (3, .int (nI t))]) hx hb dX1_brightest_31 rfl hl (by decide) rfl (fun ls hl => ?_)
        refine nq_inc (lv' := [(3, .int (nI (t + 1))), (2, .int (nI (max (mxA F lim now n t) (acS F lim (now + t) n)))), (0, .ref (a 0)), (1, .int (nI k))]) hx hb dX1_brightest_32 (d := 1) rfl hl (k := 3) rfl (by decide) rfl (fun ls hl => ?_)
        refine lv_goto (tgt := 12) hx hb dX1_brightest_35 (by decide) ?_
        have hl : lv_has ls 4 [(3, .int (nI (t + 1))), (2, .int (nI (mxA F lim now n (t + 1)))), (0, .ref (a 0)), (1, .int (nI k))] := lv_rep hl 1 rfl (congrArg Value.int (show (nI (max (mxA F lim now n t) (acS F lim (now + t) n))) = (nI (mxA F lim now n (t + 1))) from rfl))
        exact ih12 (t + 1) u25 _ _ ls (by omega) (by omega) hP hD hS (lv_sub hl [2, 3, 1, 0] rfl)
  have hl : lv_has ls 4 [(3, .int (nI 0)), (2, .int (nI (mxA F lim now n 0))), (0, .ref (a 0)), (1, .int (nI k))] := lv_rep hl 1 rfl (congrArg Value.int (show (nI 0) = (nI (mxA F lim now n 0)) from rfl))
  exact loop12 ((k - 0) + 1) 0 lit _ _ ls (by omega) (Nat.lt_succ_self _) hP hD hS (lv_sub hl [2, 3, 1, 0] rfl)

theorem passD_s (F : LR) (lim now n k : Nat) : passD F lim now n (k + 1) = passD F lim now n k + (drkS (passF F lim now n k) lim (now + k) n).toNat := rfl

set_option maxHeartbeats 4000000 in
set_option maxRecDepth 100000 in
/-- pass(k) -/
theorem c_X1_pass (l : Launch) (E : GE) (sz : Nat) (a : Nat → Nat) (mc : Int32) (n now lim : Nat) (F : LR) (lit : Nat → Bool) (fo : Nat → Nat) (hO : OkS n now lim F) (k : Nat) (hk : 1 ≤ k ∧ k ≤ 200) (hnow : now + 200 ≤ 100000000) : Met l yX1_pass wsX1_pass ({ frames := 5, cells := 0, slots := 0, locals := 111 } : Room) (va_Pc [.ref (a 0), .int (nI k)] (pcM E (wC E a mc n now lim (LF F lit fo)) sz)) (va_Qi (S := Nat → Bool) (fun r _ => r = nI (passD F lim now n k)) (fun uQ tQ => atM E (va_A (wC E a mc n now lim (LF F lit fo)) sz) ((fun lt => wC E a mc n (now + k) lim (LF (passF F lim now n k) lt fo)) uQ) tQ) (va_A (wC E a mc n now lim (LF F lit fo)) sz)) 0 0 (va_A (wC E a mc n now lim (LF F lit fo)) sz) := by
  refine metM (by decide) rfl (Nat.le_of_ble_eq_true rfl) ?_
  intro p e s m args below meth c ls A hAe hA hx hb hr hml hts hown hlocks hin hP hK hD hS hl
  rw [hAe]
  obtain ⟨QQ, hQ⟩ : ∃ zQ, zQ = MQ below (va_Qi (S := Nat → Bool) (fun r _ => r = nI (passD F lim now n k)) (fun uQ tQ => atM E A ((fun lt => wC E a mc n (now + k) lim (LF (passF F lim now n k) lt fo)) uQ) tQ) A) args s 0 0 A := ⟨_, rfl⟩
  rw [← hQ]
  obtain ⟨hO1, hO2, hO3, hO4, hO5⟩ := id hO
  refine lv_iload_n hx hb dX1_pass_0 rfl (lv_at hl 1 rfl) ?_
  refine lv_iconst (v := (nI 1)) hx hb dX1_pass_1 (by decide) ?_
  refine lv_sipush (v := (nI 200)) hx hb dX1_pass_2 (by decide) ?_
  refine csS_v (rest := []) (As := [.int (nI k), .int (nI 1), .int (nI 200)]) ⟨hx, hb, hml, hown, hts⟩ (c_X1_refuseOutside l E _ (nI k) (nI 1) (nI 200) (ref_nI (k := k) (lo := 1) (hi := 200) (by omega) (by omega)).1 (ref_nI (k := k) (lo := 1) (hi := 200) (by omega) (by omega)).2) (va_cwS 3 hts gX1_pass_X1_refuseOutside rfl rfl rfl (by decide +kernel) ⟨Nat.le_of_ble_eq_true rfl, Nat.le_of_ble_eq_true rfl⟩) hP hK rfl hl.1 rfl (Nat.le_of_ble_eq_true rfl) dX1_pass_5 (Nat.le_of_ble_eq_true rfl) (Nat.le_of_ble_eq_true rfl) (fun _ => ?_)
  refine lv_iconst (v := (nI 0)) hx hb dX1_pass_8 (by decide) ?_
  refine lv_istore_n (lv' := [(2, .int (nI 0)), (0, .ref (a 0)), (1, .int (nI k))]) hx hb dX1_pass_9 rfl hl (by decide) rfl (fun ls hl => ?_)
  refine lv_iconst (v := (nI 0)) hx hb dX1_pass_10 (by decide) ?_
  refine lv_istore_n (lv' := [(3, .int (nI 0)), (2, .int (nI 0)), (0, .ref (a 0)), (1, .int (nI k))]) hx hb dX1_pass_11 rfl hl (by decide) rfl (fun ls hl => ?_)
  have loop12 : ∀ (tk : Nat) (t : Nat) (lt : Nat → Bool) (H : Heap) (locs : List Loc) (ls : Array Slot), (t ≤ k) → (k - t) < tk → va_P E.1 vwCl (wC E a mc n (now + t) lim (LF (passF F lim now n t) lt fo)) H → va_D A (wC E a mc n (now + t) lim (LF (passF F lim now n t) lt fo)) → va_S A s.heap H locs → lv_has ls 4 [(0, .ref (a 0)), (1, .int (nI k)), (2, .int (nI (passD F lim now n t))), (3, .int (nI t))] → W p l e ({ frames := 5, cells := 0, slots := 0, locals := 111 } : Room) s m args below meth c H locs 0 0 QQ (F0 m 12 ls []) := by
    intro tk
    induction tk with
    | zero => intro t lt H locs ls ht hk hP hD hS hl; exact absurd hk (Nat.not_lt_zero _)
    | succ tk ih12 =>
      intro t lt H locs ls ht hk hP hD hS hl
      have hm8 := passD_le F lim now n t
      refine lv_iload_n hx hb dX1_pass_12 rfl (lv_at hl 3 rfl) ?_
      refine lv_iload_n hx hb dX1_pass_13 rfl (lv_at hl 1 rfl) ?_
      refine nq_icmp_ge (tgt := 33) hx hb dX1_pass_14 (by decide) (by omega) (by omega) (fun h14 => ?_) (fun h14 => ?_)
      · skip
        refine lv_iload_n hx hb dX1_pass_33 rfl (lv_at hl 2 rfl) ?_
        have etk : t = k := by omega
        rw [etk] at hP hD
        rw [hQ]
        exact retM_i (E := E) (A0 := A) (v := (nI (passD F lim now n t))) (post := fun r _ => r = nI (passD F lim now n k)) (u := lt) (W1 := fun lt => wC E a mc n (now + k) lim (LF (passF F lim now n k) lt fo)) hx hb hr hlocks hP hK hD hS (congrArg nI (by rw [etk])) dX1_pass_34
      · skip
        refine lv_aload_n hx hb dX1_pass_17 rfl (lv_at hl 0 rfl) ?_
        refine cmV_i (rest := []) (As := []) ⟨hx, hb, hml, hown, hts⟩ (c_X1_playBeat l E _ a mc n (now + t) lim (passF F lim now n t) lt fo (pass_ok hO t (by omega)) (by omega)) (cwV 0 hts gX1_pass_X1_playBeat rfl rfl rfl (by decide +kernel) ⟨Nat.le_of_ble_eq_true rfl, Nat.le_of_ble_eq_true rfl⟩) (va_recv hK hP (ci := 2) (q0 := 0) rfl wC_x) hP hK hD hS hA rfl hl.1 rfl (Nat.le_of_ble_eq_true rfl) dX1_pass_18 ⟨Nat.le_of_ble_eq_true rfl, Nat.le_of_ble_eq_true rfl⟩ (fun r18 u18 H locs hr18 hP hD hS => ?_)
        subst hr18
        refine bq_if_eq (tgt := 27) hx hb dX1_pass_21 (by decide) (fun h21 => ?_) (fun h21 => ?_)
        · skip
          refine nq_inc (lv' := [(3, .int (nI (t + 1))), (0, .ref (a 0)), (1, .int (nI k)), (2, .int (nI (passD F lim now n t)))]) hx hb dX1_pass_27 (d := 1) rfl hl (k := 3) rfl (by decide) rfl (fun ls hl => ?_)
          refine lv_goto (tgt := 12) hx hb dX1_pass_30 (by decide) ?_
          have hl : lv_has ls 4 [(3, .int (nI (t + 1))), (0, .ref (a 0)), (1, .int (nI k)), (2, .int (nI (passD F lim now n (t + 1))))] := lv_rep hl 3 rfl (congrArg Value.int (show (nI (passD F lim now n t)) = (nI (passD F lim now n (t + 1))) from congrArg nI (by rw [passD_s, h21]; rfl)))
          rw [show wC E a mc n (now + t + 1) lim (LF (stepF (passF F lim now n t) lim (now + t) n) u18 fo) = wC E a mc n (now + (t + 1)) lim (LF (passF F lim now n (t + 1)) u18 fo) from rfl] at hP hD
          exact ih12 (t + 1) u18 _ _ ls (by omega) (by omega) hP hD hS (lv_sub hl [1, 2, 3, 0] rfl)
        · skip
          refine nq_inc (lv' := [(2, .int (nI (passD F lim now n t + 1))), (0, .ref (a 0)), (1, .int (nI k)), (3, .int (nI t))]) hx hb dX1_pass_24 (d := 1) rfl hl (k := 2) rfl (by decide) rfl (fun ls hl => ?_)
          refine nq_inc (lv' := [(3, .int (nI (t + 1))), (2, .int (nI (passD F lim now n t + 1))), (0, .ref (a 0)), (1, .int (nI k))]) hx hb dX1_pass_27 (d := 1) rfl hl (k := 3) rfl (by decide) rfl (fun ls hl => ?_)
          refine lv_goto (tgt := 12) hx hb dX1_pass_30 (by decide) ?_
          have hl : lv_has ls 4 [(3, .int (nI (t + 1))), (2, .int (nI (passD F lim now n (t + 1)))), (0, .ref (a 0)), (1, .int (nI k))] := lv_rep hl 1 rfl (congrArg Value.int (show (nI (passD F lim now n t + 1)) = (nI (passD F lim now n (t + 1))) from congrArg nI (by rw [passD_s, h21]; rfl)))
          rw [show wC E a mc n (now + t + 1) lim (LF (stepF (passF F lim now n t) lim (now + t) n) u18 fo) = wC E a mc n (now + (t + 1)) lim (LF (passF F lim now n (t + 1)) u18 fo) from rfl] at hP hD
          exact ih12 (t + 1) u18 _ _ ls (by omega) (by omega) hP hD hS (lv_sub hl [2, 3, 1, 0] rfl)
  have hl : lv_has ls 4 [(3, .int (nI 0)), (2, .int (nI (passD F lim now n 0))), (0, .ref (a 0)), (1, .int (nI k))] := lv_rep hl 1 rfl (congrArg Value.int (show (nI 0) = (nI (passD F lim now n 0)) from rfl))
  rw [show wC E a mc n now lim (LF F lit fo) = wC E a mc n (now + 0) lim (LF (passF F lim now n 0) lit fo) from rfl] at hP hD
  exact loop12 ((k - 0) + 1) 0 lit _ _ ls (by omega) (Nat.lt_succ_self _) hP hD hS (lv_sub hl [2, 3, 1, 0] rfl)

set_option maxHeartbeats 4000000 in
set_option maxRecDepth 100000 in
/-- setShift(k, v) -/
theorem c_X1_setShift (l : Launch) (E : GE) (sz : Nat) (a : Nat → Nat) (mc : Int32) (n now lim : Nat) (F : LR) (lit : Nat → Bool) (fo : Nat → Nat) (hO : OkS n now lim F) (k v : Nat) (hk : k < n) (hv : v < F k 0) : Met l yX1_setShift wsX1_setShift ({ frames := 4, cells := 0, slots := 0, locals := 85 } : Room) (va_Pc [.ref (a 0), .int (nI k), .int (nI v)] (pcM E (wC E a mc n now lim (LF F lit fo)) sz)) (va_Qi (S := Unit) (fun r _ => r = nI (F k 3)) (fun uQ tQ => atM E (va_A (wC E a mc n now lim (LF F lit fo)) sz) ((fun _ => wC E a mc n now lim (LF (up2 F k 3 v) lit fo)) uQ) tQ) (va_A (wC E a mc n now lim (LF F lit fo)) sz)) 0 0 (va_A (wC E a mc n now lim (LF F lit fo)) sz) := by
  refine metM (by decide) rfl (Nat.le_of_ble_eq_true rfl) ?_
  intro p e s m args below meth c ls A hAe hA hx hb hr hml hts hown hlocks hin hP hK hD hS hl
  rw [hAe]
  have hiX0 : ∀ q ∈ wsX00, q ∈ wsX1_setShift := by decide +kernel
  obtain ⟨hO1, hO2, hO3, hO4, hO5⟩ := id hO
  have hk9 := hO4 k hk
  refine lv_aload_n hx hb dX1_setShift_0 rfl (lv_at hl 0 rfl) ?_
  refine lv_iload_n hx hb dX1_setShift_1 rfl (lv_at hl 1 rfl) ?_
  refine csV_r (rest := []) (As := [.int (nI k)]) ⟨hx, hb, hml, hown, hts⟩ (c_X1_lampAt l E _ a n now lim F lit fo CV_self hO k (by omega)) (cwV 1 hts gX1_setShift_X1_lampAt rfl rfl rfl (by decide +kernel) ⟨Nat.le_of_ble_eq_true rfl, Nat.le_of_ble_eq_true rfl⟩) (va_recv hK hP (ci := 2) (q0 := 0) rfl wC_x) hP hK rfl hl.1 rfl (Nat.le_of_ble_eq_true rfl) dX1_setShift_2 (Nat.le_of_ble_eq_true rfl) (Nat.le_of_ble_eq_true rfl) (fun r2 hr2 => ?_)
  subst hr2
  refine lv_astore_n (lv' := [(3, .ref (a (3 + k))), (0, .ref (a 0)), (1, .int (nI k)), (2, .int (nI v))]) hx hb dX1_setShift_5 rfl hl (by decide) rfl (fun ls hl => ?_)
  refine lv_iload_n hx hb dX1_setShift_6 rfl (lv_at hl 3 rfl) ?_
  refine lv_iconst (v := (nI 0)) hx hb dX1_setShift_7 (by decide) ?_
  refine lv_aload_n hx hb dX1_setShift_8 rfl (lv_at hl 0 rfl) ?_
  refine va_get (D := E.1) (ci := 1) (v := .int (nI (F k 0))) (C := RX0) (T := TX0) (N := 9) hx hb hts hiX0 hown hK hP (3 + k) (wC_lamp (i := k) (by omega)) rfl 0 (by decide) (hts (.fieldLink RX1 51 "PulseLoom$Lamp" "period" "I") (List.mem_of_getElem? (i := 1) (by rfl))) (fun _ h9 => h9) rfl dX1_setShift_9 ?_
  refine lv_iconst (v := (nI 1)) hx hb dX1_setShift_12 (by decide) ?_
  refine nq_sub hx hb dX1_setShift_13 (by omega) ?_
  refine csS_v (rest := []) (As := [.int (nI v), .int (nI 0), .int (nI ((F k 0) - 1))]) ⟨hx, hb, hml, hown, hts⟩ (c_X1_refuseOutside l E _ (nI v) (nI 0) (nI ((F k 0) - 1)) (ref_nI (k := v) (lo := 0) (hi := (F k 0) - 1) (by omega) (by omega)).1 (ref_nI (k := v) (lo := 0) (hi := (F k 0) - 1) (by omega) (by omega)).2) (va_cwS 3 hts gX1_setShift_X1_refuseOutside rfl rfl rfl (by decide +kernel) ⟨Nat.le_of_ble_eq_true rfl, Nat.le_of_ble_eq_true rfl⟩) hP hK rfl hl.1 rfl (Nat.le_of_ble_eq_true rfl) dX1_setShift_14 (Nat.le_of_ble_eq_true rfl) (Nat.le_of_ble_eq_true rfl) (fun _ => ?_)
  refine lv_aload_n hx hb dX1_setShift_17 rfl (lv_at hl 0 rfl) ?_
  refine va_get (D := E.1) (ci := 1) (v := .int (nI (F k 3))) (C := RX0) (T := TX0) (N := 9) hx hb hts hiX0 hown hK hP (3 + k) (wC_lamp (i := k) (by omega)) rfl 3 (by decide) (hts (.fieldLink RX1 54 "PulseLoom$Lamp" "shift" "I") (List.mem_of_getElem? (i := 2) (by rfl))) (fun _ h9 => h9) rfl dX1_setShift_18 ?_
  refine lv_istore (lv' := [(4, .int (nI (F k 3))), (3, .ref (a (3 + k))), (0, .ref (a 0)), (1, .int (nI k)), (2, .int (nI v))]) hx hb dX1_setShift_21 hl (by decide) rfl (fun ls hl => ?_)
  refine lv_aload_n hx hb dX1_setShift_23 rfl (lv_at hl 1 rfl) ?_
  refine lv_iload_n hx hb dX1_setShift_24 rfl (lv_at hl 4 rfl) ?_
  refine va_put (D := E.1) (ci := 1) (v := .int (nI v)) (ty := .int) (C := RX0) (T := TX0) (N := 9) hx hb hts hiX0 tyX0 tyX0_ok nmX0 hown hK hP hD hS (3 + k) (wC_lamp (i := k) (by omega)) rfl 3 (by decide) (hts (.fieldLink RX1 54 "PulseLoom$Lamp" "shift" "I") (List.mem_of_getElem? (i := 2) (by rfl))) (fun _ h9 => h9) rfl (by decide +kernel) rfl (by rfl) (Nat.le_of_ble_eq_true rfl) dX1_setShift_25 (fun H locs hP hD hS => ?_)
  rw [wC_set (by omega), LF_3] at hP hD
  refine lv_iload hx hb dX1_setShift_28 (lv_at hl 0 rfl) ?_
  exact retM_i (E := E) (A0 := A) (v := (nI (F k 3))) (post := fun r _ => r = nI (F k 3)) (u := ()) (W1 := fun _ => wC E a mc n now lim (LF (up2 F k 3 v) lit fo)) hx hb hr hlocks hP hK hD hS (rfl) dX1_setShift_30

set_option maxHeartbeats 4000000 in
set_option maxRecDepth 100000 in
/-- setLength(k, v) -/
theorem c_X1_setLength (l : Launch) (E : GE) (sz : Nat) (a : Nat → Nat) (mc : Int32) (n now lim : Nat) (F : LR) (lit : Nat → Bool) (fo : Nat → Nat) (hO : OkS n now lim F) (k v : Nat) (hk : k < n) (hv : 1 ≤ v ∧ v < F k 0) : Met l yX1_setLength wsX1_setLength ({ frames := 4, cells := 0, slots := 0, locals := 85 } : Room) (va_Pc [.ref (a 0), .int (nI k), .int (nI v)] (pcM E (wC E a mc n now lim (LF F lit fo)) sz)) (va_Qi (S := Unit) (fun r _ => r = nI (F k 4)) (fun uQ tQ => atM E (va_A (wC E a mc n now lim (LF F lit fo)) sz) ((fun _ => wC E a mc n now lim (LF (up2 F k 4 v) lit fo)) uQ) tQ) (va_A (wC E a mc n now lim (LF F lit fo)) sz)) 0 0 (va_A (wC E a mc n now lim (LF F lit fo)) sz) := by
  refine metM (by decide) rfl (Nat.le_of_ble_eq_true rfl) ?_
  intro p e s m args below meth c ls A hAe hA hx hb hr hml hts hown hlocks hin hP hK hD hS hl
  rw [hAe]
  have hiX0 : ∀ q ∈ wsX00, q ∈ wsX1_setLength := by decide +kernel
  obtain ⟨hO1, hO2, hO3, hO4, hO5⟩ := id hO
  have hk9 := hO4 k hk
  refine lv_aload_n hx hb dX1_setLength_0 rfl (lv_at hl 0 rfl) ?_
  refine lv_iload_n hx hb dX1_setLength_1 rfl (lv_at hl 1 rfl) ?_
  refine csV_r (rest := []) (As := [.int (nI k)]) ⟨hx, hb, hml, hown, hts⟩ (c_X1_lampAt l E _ a n now lim F lit fo CV_self hO k (by omega)) (cwV 1 hts gX1_setLength_X1_lampAt rfl rfl rfl (by decide +kernel) ⟨Nat.le_of_ble_eq_true rfl, Nat.le_of_ble_eq_true rfl⟩) (va_recv hK hP (ci := 2) (q0 := 0) rfl wC_x) hP hK rfl hl.1 rfl (Nat.le_of_ble_eq_true rfl) dX1_setLength_2 (Nat.le_of_ble_eq_true rfl) (Nat.le_of_ble_eq_true rfl) (fun r2 hr2 => ?_)
  subst hr2
  refine lv_astore_n (lv' := [(3, .ref (a (3 + k))), (0, .ref (a 0)), (1, .int (nI k)), (2, .int (nI v))]) hx hb dX1_setLength_5 rfl hl (by decide) rfl (fun ls hl => ?_)
  refine lv_iload_n hx hb dX1_setLength_6 rfl (lv_at hl 3 rfl) ?_
  refine lv_iconst (v := (nI 1)) hx hb dX1_setLength_7 (by decide) ?_
  refine lv_aload_n hx hb dX1_setLength_8 rfl (lv_at hl 0 rfl) ?_
  refine va_get (D := E.1) (ci := 1) (v := .int (nI (F k 0))) (C := RX0) (T := TX0) (N := 9) hx hb hts hiX0 hown hK hP (3 + k) (wC_lamp (i := k) (by omega)) rfl 0 (by decide) (hts (.fieldLink RX1 51 "PulseLoom$Lamp" "period" "I") (List.mem_of_getElem? (i := 1) (by rfl))) (fun _ h9 => h9) rfl dX1_setLength_9 ?_
  refine lv_iconst (v := (nI 1)) hx hb dX1_setLength_12 (by decide) ?_
  refine nq_sub hx hb dX1_setLength_13 (by omega) ?_
  refine csS_v (rest := []) (As := [.int (nI v), .int (nI 1), .int (nI ((F k 0) - 1))]) ⟨hx, hb, hml, hown, hts⟩ (c_X1_refuseOutside l E _ (nI v) (nI 1) (nI ((F k 0) - 1)) (ref_nI (k := v) (lo := 1) (hi := (F k 0) - 1) (by omega) (by omega)).1 (ref_nI (k := v) (lo := 1) (hi := (F k 0) - 1) (by omega) (by omega)).2) (va_cwS 3 hts gX1_setLength_X1_refuseOutside rfl rfl rfl (by decide +kernel) ⟨Nat.le_of_ble_eq_true rfl, Nat.le_of_ble_eq_true rfl⟩) hP hK rfl hl.1 rfl (Nat.le_of_ble_eq_true rfl) dX1_setLength_14 (Nat.le_of_ble_eq_true rfl) (Nat.le_of_ble_eq_true rfl) (fun _ => ?_)
  refine lv_aload_n hx hb dX1_setLength_17 rfl (lv_at hl 0 rfl) ?_
  refine va_get (D := E.1) (ci := 1) (v := .int (nI (F k 4))) (C := RX0) (T := TX0) (N := 9) hx hb hts hiX0 hown hK hP (3 + k) (wC_lamp (i := k) (by omega)) rfl 4 (by decide) (hts (.fieldLink RX1 57 "PulseLoom$Lamp" "length" "I") (List.mem_of_getElem? (i := 2) (by rfl))) (fun _ h9 => h9) rfl dX1_setLength_18 ?_
  refine lv_istore (lv' := [(4, .int (nI (F k 4))), (3, .ref (a (3 + k))), (0, .ref (a 0)), (1, .int (nI k)), (2, .int (nI v))]) hx hb dX1_setLength_21 hl (by decide) rfl (fun ls hl => ?_)
  refine lv_aload_n hx hb dX1_setLength_23 rfl (lv_at hl 1 rfl) ?_
  refine lv_iload_n hx hb dX1_setLength_24 rfl (lv_at hl 4 rfl) ?_
  refine va_put (D := E.1) (ci := 1) (v := .int (nI v)) (ty := .int) (C := RX0) (T := TX0) (N := 9) hx hb hts hiX0 tyX0 tyX0_ok nmX0 hown hK hP hD hS (3 + k) (wC_lamp (i := k) (by omega)) rfl 4 (by decide) (hts (.fieldLink RX1 57 "PulseLoom$Lamp" "length" "I") (List.mem_of_getElem? (i := 2) (by rfl))) (fun _ h9 => h9) rfl (by decide +kernel) rfl (by rfl) (Nat.le_of_ble_eq_true rfl) dX1_setLength_25 (fun H locs hP hD hS => ?_)
  rw [wC_set (by omega), LF_4] at hP hD
  refine lv_iload hx hb dX1_setLength_28 (lv_at hl 0 rfl) ?_
  exact retM_i (E := E) (A0 := A) (v := (nI (F k 4))) (post := fun r _ => r = nI (F k 4)) (u := ()) (W1 := fun _ => wC E a mc n now lim (LF (up2 F k 4 v) lit fo)) hx hb hr hlocks hP hK hD hS (rfl) dX1_setLength_30

set_option maxHeartbeats 4000000 in
set_option maxRecDepth 100000 in
/-- setLimit(v) -/
theorem c_X1_setLimit (l : Launch) (E : GE) (sz : Nat) (a : Nat → Nat) (mc : Int32) (n now lim : Nat) (F : LR) (lit : Nat → Bool) (fo : Nat → Nat) (hO : OkS n now lim F) (v : Nat) (hv : v ≤ 99) : Met l yX1_setLimit wsX1_setLimit ({ frames := 1, cells := 0, slots := 0, locals := 22 } : Room) (va_Pc [.ref (a 0), .int (nI v)] (pcM E (wC E a mc n now lim (LF F lit fo)) sz)) (va_Qi (S := Unit) (fun r _ => r = nI lim) (fun uQ tQ => atM E (va_A (wC E a mc n now lim (LF F lit fo)) sz) ((fun _ => wC E a mc n now v (LF F lit fo)) uQ) tQ) (va_A (wC E a mc n now lim (LF F lit fo)) sz)) 0 0 (va_A (wC E a mc n now lim (LF F lit fo)) sz) := by
  refine metM (by decide) rfl (Nat.le_of_ble_eq_true rfl) ?_
  intro p e s m args below meth c ls A hAe hA hx hb hr hml hts hown hlocks hin hP hK hD hS hl
  rw [hAe]
  have hiX1 : ∀ q ∈ wsX10, q ∈ wsX1_setLimit := by decide +kernel
  obtain ⟨hO1, hO2, hO3, hO4, hO5⟩ := id hO
  refine lv_iload_n hx hb dX1_setLimit_0 rfl (lv_at hl 1 rfl) ?_
  refine lv_iconst (v := (nI 0)) hx hb dX1_setLimit_1 (by decide) ?_
  refine lv_bipush (v := (nI 99)) hx hb dX1_setLimit_2 (by decide) ?_
  refine csS_v (rest := []) (As := [.int (nI v), .int (nI 0), .int (nI 99)]) ⟨hx, hb, hml, hown, hts⟩ (c_X1_refuseOutside l E _ (nI v) (nI 0) (nI 99) (ref_nI (k := v) (lo := 0) (hi := 99) (by omega) (by omega)).1 (ref_nI (k := v) (lo := 0) (hi := 99) (by omega) (by omega)).2) (va_cwS 3 hts gX1_setLimit_X1_refuseOutside rfl rfl rfl (by decide +kernel) ⟨Nat.le_of_ble_eq_true rfl, Nat.le_of_ble_eq_true rfl⟩) hP hK rfl hl.1 rfl (Nat.le_of_ble_eq_true rfl) dX1_setLimit_4 (Nat.le_of_ble_eq_true rfl) (Nat.le_of_ble_eq_true rfl) (fun _ => ?_)
  refine lv_aload_n hx hb dX1_setLimit_7 rfl (lv_at hl 0 rfl) ?_
  refine va_get (D := E.1) (ci := 2) (v := .int (nI lim)) (C := RX1) (T := TX1) (N := 3) hx hb hts hiX1 hown hK hP 0 wC_x rfl 2 (by decide) (hts (.fieldLink RX1 20 "PulseLoom" "mostPower" "I") (List.mem_of_getElem? (i := 1) (by rfl))) (fun _ h9 => h9) rfl dX1_setLimit_8 ?_
  refine lv_istore_n (lv' := [(2, .int (nI lim)), (0, .ref (a 0)), (1, .int (nI v))]) hx hb dX1_setLimit_11 rfl hl (by decide) rfl (fun ls hl => ?_)
  refine lv_aload_n hx hb dX1_setLimit_12 rfl (lv_at hl 1 rfl) ?_
  refine lv_iload_n hx hb dX1_setLimit_13 rfl (lv_at hl 2 rfl) ?_
  refine va_put (D := E.1) (ci := 2) (v := .int (nI v)) (ty := .int) (C := RX1) (T := TX1) (N := 3) hx hb hts hiX1 tyX1 tyX1_ok nmX1 hown hK hP hD hS 0 wC_x rfl 2 (by decide) (hts (.fieldLink RX1 20 "PulseLoom" "mostPower" "I") (List.mem_of_getElem? (i := 1) (by rfl))) (fun _ h9 => h9) rfl (by decide +kernel) rfl (by rfl) (Nat.le_of_ble_eq_true rfl) dX1_setLimit_14 (fun H locs hP hD hS => ?_)
  have hP : va_P E.1 vwCl (wC E a mc n now v (LF F lit fo)) H := hP
  have hD : va_D A (wC E a mc n now v (LF F lit fo)) := hD
  refine lv_iload_n hx hb dX1_setLimit_17 rfl (lv_at hl 0 rfl) ?_
  exact retM_i (E := E) (A0 := A) (v := (nI lim)) (post := fun r _ => r = nI lim) (u := ()) (W1 := fun _ => wC E a mc n now v (LF F lit fo)) hx hb hr hlocks hP hK hD hS (rfl) dX1_setLimit_18

set_option maxHeartbeats 4000000 in
set_option maxRecDepth 100000 in
/-- swapColours(k, j) -/
theorem c_X1_swapColours (l : Launch) (E : GE) (sz : Nat) (a : Nat → Nat) (mc : Int32) (n now lim : Nat) (F : LR) (lit : Nat → Bool) (fo : Nat → Nat) (hO : OkS n now lim F) (k j : Nat) (hk : k < n) (hj : j < n) (hkj : k ≠ j) : Met l yX1_swapColours wsX1_swapColours ({ frames := 4, cells := 0, slots := 0, locals := 85 } : Room) (va_Pc [.ref (a 0), .int (nI k), .int (nI j)] (pcM E (wC E a mc n now lim (LF F lit fo)) sz)) (va_Qi (S := Unit) (fun r _ => r = bI (decide (F j 2 ≠ F k 2))) (fun uQ tQ => atM E (va_A (wC E a mc n now lim (LF F lit fo)) sz) ((fun _ => wC E a mc n now lim (LF (up2 (up2 F k 2 (F j 2)) j 2 (F k 2)) lit fo)) uQ) tQ) (va_A (wC E a mc n now lim (LF F lit fo)) sz)) 0 0 (va_A (wC E a mc n now lim (LF F lit fo)) sz) := by
  refine metM (by decide) rfl (Nat.le_of_ble_eq_true rfl) ?_
  intro p e s m args below meth c ls A hAe hA hx hb hr hml hts hown hlocks hin hP hK hD hS hl
  rw [hAe]
  have hiX0 : ∀ q ∈ wsX00, q ∈ wsX1_swapColours := by decide +kernel
  obtain ⟨hO1, hO2, hO3, hO4, hO5⟩ := id hO
  have hk9 := hO4 k hk
  have hj9 := hO4 j hj
  refine lv_aload_n hx hb dX1_swapColours_0 rfl (lv_at hl 0 rfl) ?_
  refine lv_iload_n hx hb dX1_swapColours_1 rfl (lv_at hl 1 rfl) ?_
  refine csV_r (rest := []) (As := [.int (nI k)]) ⟨hx, hb, hml, hown, hts⟩ (c_X1_lampAt l E _ a n now lim F lit fo CV_self hO k (by omega)) (cwV 1 hts gX1_swapColours_X1_lampAt rfl rfl rfl (by decide +kernel) ⟨Nat.le_of_ble_eq_true rfl, Nat.le_of_ble_eq_true rfl⟩) (va_recv hK hP (ci := 2) (q0 := 0) rfl wC_x) hP hK rfl hl.1 rfl (Nat.le_of_ble_eq_true rfl) dX1_swapColours_2 (Nat.le_of_ble_eq_true rfl) (Nat.le_of_ble_eq_true rfl) (fun r2 hr2 => ?_)
  subst hr2
  refine lv_astore_n (lv' := [(3, .ref (a (3 + k))), (0, .ref (a 0)), (1, .int (nI k)), (2, .int (nI j))]) hx hb dX1_swapColours_5 rfl hl (by decide) rfl (fun ls hl => ?_)
  refine lv_aload_n hx hb dX1_swapColours_6 rfl (lv_at hl 1 rfl) ?_
  refine lv_iload_n hx hb dX1_swapColours_7 rfl (lv_at hl 3 rfl) ?_
  refine csV_r (rest := []) (As := [.int (nI j)]) ⟨hx, hb, hml, hown, hts⟩ (c_X1_lampAt l E _ a n now lim F lit fo CV_self hO j (by omega)) (cwV 1 hts gX1_swapColours_X1_lampAt rfl rfl rfl (by decide +kernel) ⟨Nat.le_of_ble_eq_true rfl, Nat.le_of_ble_eq_true rfl⟩) (va_recv hK hP (ci := 2) (q0 := 0) rfl wC_x) hP hK rfl hl.1 rfl (Nat.le_of_ble_eq_true rfl) dX1_swapColours_8 (Nat.le_of_ble_eq_true rfl) (Nat.le_of_ble_eq_true rfl) (fun r8 hr8 => ?_)
  subst hr8
  refine lv_astore (lv' := [(4, .ref (a (3 + j))), (3, .ref (a (3 + k))), (0, .ref (a 0)), (1, .int (nI k)), (2, .int (nI j))]) hx hb dX1_swapColours_11 hl (by decide) rfl (fun ls hl => ?_)
  refine lv_iload_n hx hb dX1_swapColours_13 rfl (lv_at hl 3 rfl) ?_
  refine lv_iload_n hx hb dX1_swapColours_14 rfl (lv_at hl 4 rfl) ?_
  refine nq_icmp_ne (tgt := 28) hx hb dX1_swapColours_15 (by decide) (by omega) (by omega) (fun h15 => ?_) (fun h15 => ?_)
  · skip
    refine lv_aload_n hx hb dX1_swapColours_28 rfl (lv_at hl 1 rfl) ?_
    refine va_get (D := E.1) (ci := 1) (v := .int (nI (F k 2))) (C := RX0) (T := TX0) (N := 9) hx hb hts hiX0 hown hK hP (3 + k) (wC_lamp (i := k) (by omega)) rfl 2 (by decide) (hts (.fieldLink RX1 65 "PulseLoom$Lamp" "colour" "I") (List.mem_of_getElem? (i := 3) (by rfl))) (fun _ h9 => h9) rfl dX1_swapColours_29 ?_
    refine lv_istore (lv' := [(5, .int (nI (F k 2))), (4, .ref (a (3 + j))), (3, .ref (a (3 + k))), (0, .ref (a 0)), (1, .int (nI k)), (2, .int (nI j))]) hx hb dX1_swapColours_32 hl (by decide) rfl (fun ls hl => ?_)
    refine lv_aload_n hx hb dX1_swapColours_34 rfl (lv_at hl 2 rfl) ?_
    refine lv_aload hx hb dX1_swapColours_35 (lv_at hl 1 rfl) ?_
    refine va_get (D := E.1) (ci := 1) (v := .int (nI (F j 2))) (C := RX0) (T := TX0) (N := 9) hx hb hts hiX0 hown hK hP (3 + j) (wC_lamp (i := j) (by omega)) rfl 2 (by decide) (hts (.fieldLink RX1 65 "PulseLoom$Lamp" "colour" "I") (List.mem_of_getElem? (i := 3) (by rfl))) (fun _ h9 => h9) rfl dX1_swapColours_37 ?_
    refine va_put (D := E.1) (ci := 1) (v := .int (nI (F j 2))) (ty := .int) (C := RX0) (T := TX0) (N := 9) hx hb hts hiX0 tyX0 tyX0_ok nmX0 hown hK hP hD hS (3 + k) (wC_lamp (i := k) (by omega)) rfl 2 (by decide) (hts (.fieldLink RX1 65 "PulseLoom$Lamp" "colour" "I") (List.mem_of_getElem? (i := 3) (by rfl))) (fun _ h9 => h9) rfl (by decide +kernel) rfl (by rfl) (Nat.le_of_ble_eq_true rfl) dX1_swapColours_40 (fun H locs hP hD hS => ?_)
    rw [wC_set (by omega), LF_2] at hP hD
    refine lv_aload hx hb dX1_swapColours_43 (lv_at hl 1 rfl) ?_
    refine lv_iload hx hb dX1_swapColours_45 (lv_at hl 0 rfl) ?_
    refine va_put (D := E.1) (ci := 1) (v := .int (nI (F k 2))) (ty := .int) (C := RX0) (T := TX0) (N := 9) hx hb hts hiX0 tyX0 tyX0_ok nmX0 hown hK hP hD hS (3 + j) (wC_lamp (i := j) (by omega)) rfl 2 (by decide) (hts (.fieldLink RX1 65 "PulseLoom$Lamp" "colour" "I") (List.mem_of_getElem? (i := 3) (by rfl))) (fun _ h9 => h9) rfl (by decide +kernel) rfl (by rfl) (Nat.le_of_ble_eq_true rfl) dX1_swapColours_47 (fun H locs hP hD hS => ?_)
    rw [wC_set (by omega), LF_2] at hP hD
    refine lv_aload_n hx hb dX1_swapColours_50 rfl (lv_at hl 2 rfl) ?_
    refine va_get (D := E.1) (ci := 1) (v := .int (nI ((up2 (up2 F k 2 (F j 2)) j 2 (F k 2)) k 2))) (C := RX0) (T := TX0) (N := 9) hx hb hts hiX0 hown hK hP (3 + k) (wC_lamp (i := k) (by omega)) rfl 2 (by decide) (hts (.fieldLink RX1 65 "PulseLoom$Lamp" "colour" "I") (List.mem_of_getElem? (i := 3) (by rfl))) (fun _ h9 => h9) rfl dX1_swapColours_51 ?_
    refine nq_top (show (nI ((up2 (up2 F k 2 (F j 2)) j 2 (F k 2)) k 2)) = (nI (F j 2)) from congrArg nI (by simp [up2, hkj])) ?_
    refine lv_aload hx hb dX1_swapColours_54 (lv_at hl 1 rfl) ?_
    refine va_get (D := E.1) (ci := 1) (v := .int (nI ((up2 (up2 F k 2 (F j 2)) j 2 (F k 2)) j 2))) (C := RX0) (T := TX0) (N := 9) hx hb hts hiX0 hown hK hP (3 + j) (wC_lamp (i := j) (by omega)) rfl 2 (by decide) (hts (.fieldLink RX1 65 "PulseLoom$Lamp" "colour" "I") (List.mem_of_getElem? (i := 3) (by rfl))) (fun _ h9 => h9) rfl dX1_swapColours_56 ?_
    refine nq_top (show (nI ((up2 (up2 F k 2 (F j 2)) j 2 (F k 2)) j 2)) = (nI (F k 2)) from congrArg nI (by simp [up2])) ?_
    refine nq_icmp_eq (tgt := 66) hx hb dX1_swapColours_59 (by decide) (by omega) (by omega) (fun h59 => ?_) (fun h59 => ?_)
    · skip
      refine lv_iconst (v := (nI 0)) hx hb dX1_swapColours_66 (by decide) ?_
      refine nq_top (show nI 0 = bI false from rfl) ?_
      exact retM_z (E := E) (A0 := A) (b := false) (post := fun r _ => r = bI (decide (F j 2 ≠ F k 2))) (u := ()) (W1 := fun _ => wC E a mc n now lim (LF (up2 (up2 F k 2 (F j 2)) j 2 (F k 2)) lit fo)) hx hb hr hlocks hP hK hD hS (congrArg bI (by symm; first | exact decide_eq_true h59 | exact decide_eq_false (fun q => q h59))) dX1_swapColours_67
    · skip
      refine lv_iconst (v := (nI 1)) hx hb dX1_swapColours_62 (by decide) ?_
      refine lv_goto (tgt := 67) hx hb dX1_swapColours_63 (by decide) ?_
      refine nq_top (show nI 1 = bI true from rfl) ?_
      exact retM_z (E := E) (A0 := A) (b := true) (post := fun r _ => r = bI (decide (F j 2 ≠ F k 2))) (u := ()) (W1 := fun _ => wC E a mc n now lim (LF (up2 (up2 F k 2 (F j 2)) j 2 (F k 2)) lit fo)) hx hb hr hlocks hP hK hD hS (congrArg bI (by symm; first | exact decide_eq_true h59 | exact decide_eq_false (fun q => q h59))) dX1_swapColours_67
  · skip
    exact absurd h15 hkj

set_option maxHeartbeats 4000000 in
set_option maxRecDepth 100000 in
/-- joined(d, x) -/
theorem c_X1_joined (l : Launch) (E : GE) (w : va_W) (d x : Int64) : Met l yX1_joined wsX1_joined ({ frames := 0, cells := 0, slots := 0, locals := 0 } : Room) (va_Pc [.long d, .long x] (pcS E (w))) (vp_Sl (fun r => r = jn d x)) 0 0 (fun _ => False) := by
  refine metS (by decide) rfl (Nat.le_of_ble_eq_true rfl) ?_
  intro p e s m args below meth c ls hx hb hr hml hts hown hlocks hP hK hl
  refine lv_lload_n hx hb dX1_joined_0 rfl (lv_at hl 0 rfl) ?_
  refine lv_ldc2 (v := 31) hx hb hown (hts (.constantLong RX1 206 (31)) (List.mem_of_getElem? (i := 1) (by rfl))) dX1_joined_1 ?_
  refine lv_lmul hx hb dX1_joined_4 ?_
  refine lv_lload_n hx hb dX1_joined_5 rfl (lv_at hl 1 rfl) ?_
  refine lv_ladd hx hb dX1_joined_6 ?_
  exact retS_l hx hb hr hlocks (rfl) dX1_joined_7

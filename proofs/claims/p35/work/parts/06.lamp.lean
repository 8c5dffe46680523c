/-! a lamp: its phase, whether it is due, when it lights up -/
def ph (F : LR) (i b : Nat) : Nat := (b + F i 3) % F i 0
def due (F : LR) (i b : Nat) : Bool := decide (ph F i b < F i 4)
def zeroAt (F : LR) (i b : Nat) : Bool := decide (ph F i b = 0)
def wait (F : LR) (i b : Nat) : Nat := if ph F i b = 0 then 0 else F i 0 - ph F i b
theorem ph_lt {F : LR} {i b : Nat} (h : 2 ≤ F i 0) : ph F i b < F i 0 := Nat.mod_lt _ (by omega)
def cntDue (F : LR) (i b : Nat) : Nat → Nat | 0 => 0 | k + 1 => cntDue F i b k + (if due F i (b + k) = true then 1 else 0)
theorem cntDue_le (F : LR) (i b : Nat) : ∀ k, cntDue F i b k ≤ k
  | 0 => Nat.le_refl _
  | k + 1 => by
    have h := cntDue_le F i b k
    unfold cntDue
    split <;> omega

set_option maxHeartbeats 4000000 in
set_option maxRecDepth 100000 in
/-- phaseAt(b): the phase -/
theorem c_X0_phaseAt (l : Launch) (E : GE) (w : va_W) (q0 h0 : Nat) (F : LR) (lit : Nat → Bool) (fo : Nat → Nat) (i b : Nat) (hq : w[q0]? = some (h0, .inr (1, LF F lit fo i))) (hp : 2 ≤ F i 0 ∧ F i 0 ≤ 20 ∧ F i 3 < F i 0) (hb0 : b ≤ 1000000000) : Met l yX0_phaseAt wsX0_phaseAt ({ frames := 0, cells := 0, slots := 0, locals := 0 } : Room) (va_Pc [.ref h0, .int (nI b)] (pcS E (w))) (vp_Si (fun r => r = nI (ph F i b))) 0 0 (fun _ => False) := by
  refine metS (by decide) rfl (Nat.le_of_ble_eq_true rfl) ?_
  intro p e s m args below meth c ls hx hb hr hml hts hown hlocks hP hK hl
  have hiX0 : ∀ q ∈ wsX00, q ∈ wsX0_phaseAt := by decide +kernel
  refine lv_aload_n hx hb dX0_phaseAt_0 rfl (lv_at hl 0 rfl) ?_
  refine va_get (D := E.1) (ci := 1) (v := .int (nI (F i 0))) (C := RX0) (T := TX0) (N := 9) hx hb hts hiX0 hown hK hP q0 hq rfl 0 (by decide) (hts (.fieldLink RX0 13 "PulseLoom$Lamp" "period" "I") (List.mem_of_getElem? (i := 1) (by rfl))) (fun _ h9 => h9) rfl dX0_phaseAt_1 ?_
  refine lv_iconst (v := (nI 1)) hx hb dX0_phaseAt_4 (by decide) ?_
  refine nq_icmp_ge (tgt := 12) hx hb dX0_phaseAt_5 (by decide) (by omega) (by omega) (fun h5 => ?_) (fun h5 => ?_)
  · skip
    refine lv_iload_n hx hb dX0_phaseAt_12 rfl (lv_at hl 1 rfl) ?_
    refine lv_aload_n hx hb dX0_phaseAt_13 rfl (lv_at hl 0 rfl) ?_
    refine va_get (D := E.1) (ci := 1) (v := .int (nI (F i 3))) (C := RX0) (T := TX0) (N := 9) hx hb hts hiX0 hown hK hP q0 hq rfl 3 (by decide) (hts (.fieldLink RX0 22 "PulseLoom$Lamp" "shift" "I") (List.mem_of_getElem? (i := 2) (by rfl))) (fun _ h9 => h9) rfl dX0_phaseAt_14 ?_
    refine nq_add hx hb dX0_phaseAt_17 ?_
    refine lv_aload_n hx hb dX0_phaseAt_18 rfl (lv_at hl 0 rfl) ?_
    refine va_get (D := E.1) (ci := 1) (v := .int (nI (F i 0))) (C := RX0) (T := TX0) (N := 9) hx hb hts hiX0 hown hK hP q0 hq rfl 0 (by decide) (hts (.fieldLink RX0 13 "PulseLoom$Lamp" "period" "I") (List.mem_of_getElem? (i := 1) (by rfl))) (fun _ h9 => h9) rfl dX0_phaseAt_19 ?_
    refine nq_rem hx hb dX0_phaseAt_22 (by omega) (by omega) (by omega) ?_
    exact retS_i hx hb hr hlocks (rfl) dX0_phaseAt_23
  · skip
    exact absurd h5 (by omega)

set_option maxHeartbeats 4000000 in
set_option maxRecDepth 100000 in
/-- dueAt(b) -/
theorem c_X0_dueAt (l : Launch) (E : GE) (w : va_W) (q0 h0 : Nat) (F : LR) (lit : Nat → Bool) (fo : Nat → Nat) (i b : Nat) (hq : w[q0]? = some (h0, .inr (1, LF F lit fo i))) (hp : 2 ≤ F i 0 ∧ F i 0 ≤ 20 ∧ F i 3 < F i 0) (hb0 : b ≤ 1000000000) (hlen : F i 4 < F i 0) : Met l yX0_dueAt wsX0_dueAt ({ frames := 1, cells := 0, slots := 0, locals := 21 } : Room) (va_Pc [.ref h0, .int (nI b)] (pcS E (w))) (vp_Si (fun r => r = bI (due F i b))) 0 0 (fun _ => False) := by
  refine metS (by decide) rfl (Nat.le_of_ble_eq_true rfl) ?_
  intro p e s m args below meth c ls hx hb hr hml hts hown hlocks hP hK hl
  have hiX0 : ∀ q ∈ wsX00, q ∈ wsX0_dueAt := by decide +kernel
  have hph := ph_lt (b := b) hp.1
  refine lv_aload_n hx hb dX0_dueAt_0 rfl (lv_at hl 0 rfl) ?_
  refine lv_iload_n hx hb dX0_dueAt_1 rfl (lv_at hl 1 rfl) ?_
  refine csV_i (rest := []) (As := [.int (nI b)]) ⟨hx, hb, hml, hown, hts⟩ (c_X0_phaseAt l E _ q0 h0 F _ _ i b hq (hp) (by omega)) (cwV 1 hts gX0_dueAt_X0_phaseAt rfl rfl rfl (by decide +kernel) ⟨Nat.le_of_ble_eq_true rfl, Nat.le_of_ble_eq_true rfl⟩) (va_recv hK hP (ci := 1) (q0 := q0) rfl hq) hP hK rfl hl.1 rfl (Nat.le_of_ble_eq_true rfl) dX0_dueAt_2 (Nat.le_of_ble_eq_true rfl) (Nat.le_of_ble_eq_true rfl) (fun r2 hr2 => ?_)
  subst hr2
  refine lv_aload_n hx hb dX0_dueAt_5 rfl (lv_at hl 0 rfl) ?_
  refine va_get (D := E.1) (ci := 1) (v := .int (nI (F i 4))) (C := RX0) (T := TX0) (N := 9) hx hb hts hiX0 hown hK hP q0 hq rfl 4 (by decide) (hts (.fieldLink RX0 16 "PulseLoom$Lamp" "length" "I") (List.mem_of_getElem? (i := 1) (by rfl))) (fun _ h9 => h9) rfl dX0_dueAt_6 ?_
  refine nq_icmp_ge (tgt := 16) hx hb dX0_dueAt_9 (by decide) (by omega) (by omega) (fun h9 => ?_) (fun h9 => ?_)
  · skip
    refine lv_iconst (v := (nI 0)) hx hb dX0_dueAt_16 (by decide) ?_
    refine nq_top (show nI 0 = bI false from rfl) ?_
    exact retS_z hx hb hr hlocks (congrArg bI (by unfold due; symm; first | exact decide_eq_true (by omega) | exact decide_eq_false (by omega))) dX0_dueAt_17
  · skip
    refine lv_iconst (v := (nI 1)) hx hb dX0_dueAt_12 (by decide) ?_
    refine lv_goto (tgt := 17) hx hb dX0_dueAt_13 (by decide) ?_
    refine nq_top (show nI 1 = bI true from rfl) ?_
    exact retS_z hx hb hr hlocks (congrArg bI (by unfold due; symm; first | exact decide_eq_true (by omega) | exact decide_eq_false (by omega))) dX0_dueAt_17

set_option maxHeartbeats 4000000 in
set_option maxRecDepth 100000 in
/-- lightsUpAt(b) -/
theorem c_X0_lightsUpAt (l : Launch) (E : GE) (w : va_W) (q0 h0 : Nat) (F : LR) (lit : Nat → Bool) (fo : Nat → Nat) (i b : Nat) (hq : w[q0]? = some (h0, .inr (1, LF F lit fo i))) (hp : 2 ≤ F i 0 ∧ F i 0 ≤ 20 ∧ F i 3 < F i 0) (hb0 : b ≤ 1000000000) : Met l yX0_lightsUpAt wsX0_lightsUpAt ({ frames := 1, cells := 0, slots := 0, locals := 21 } : Room) (va_Pc [.ref h0, .int (nI b)] (pcS E (w))) (vp_Si (fun r => r = bI (zeroAt F i b))) 0 0 (fun _ => False) := by
  refine metS (by decide) rfl (Nat.le_of_ble_eq_true rfl) ?_
  intro p e s m args below meth c ls hx hb hr hml hts hown hlocks hP hK hl
  have hph := ph_lt (b := b) hp.1
  refine lv_aload_n hx hb dX0_lightsUpAt_0 rfl (lv_at hl 0 rfl) ?_
  refine lv_iload_n hx hb dX0_lightsUpAt_1 rfl (lv_at hl 1 rfl) ?_
  refine csV_i (rest := []) (As := [.int (nI b)]) ⟨hx, hb, hml, hown, hts⟩ (c_X0_phaseAt l E _ q0 h0 F _ _ i b hq (hp) (by omega)) (cwV 1 hts gX0_lightsUpAt_X0_phaseAt rfl rfl rfl (by decide +kernel) ⟨Nat.le_of_ble_eq_true rfl, Nat.le_of_ble_eq_true rfl⟩) (va_recv hK hP (ci := 1) (q0 := q0) rfl hq) hP hK rfl hl.1 rfl (Nat.le_of_ble_eq_true rfl) dX0_lightsUpAt_2 (Nat.le_of_ble_eq_true rfl) (Nat.le_of_ble_eq_true rfl) (fun r2 hr2 => ?_)
  subst hr2
  refine nq_if_ne (tgt := 12) hx hb dX0_lightsUpAt_5 (by decide) (by omega) (fun h5 => ?_) (fun h5 => ?_)
  · skip
    refine lv_iconst (v := (nI 0)) hx hb dX0_lightsUpAt_12 (by decide) ?_
    refine nq_top (show nI 0 = bI false from rfl) ?_
    exact retS_z hx hb hr hlocks (congrArg bI (by unfold zeroAt; symm; first | exact decide_eq_true (by omega) | exact decide_eq_false (by omega))) dX0_lightsUpAt_13
  · skip
    refine lv_iconst (v := (nI 1)) hx hb dX0_lightsUpAt_8 (by decide) ?_
    refine lv_goto (tgt := 13) hx hb dX0_lightsUpAt_9 (by decide) ?_
    refine nq_top (show nI 1 = bI true from rfl) ?_
    exact retS_z hx hb hr hlocks (congrArg bI (by unfold zeroAt; symm; first | exact decide_eq_true (by omega) | exact decide_eq_false (by omega))) dX0_lightsUpAt_13

set_option maxHeartbeats 4000000 in
set_option maxRecDepth 100000 in
/-- beatsUntilItLightsUp(b) -/
theorem c_X0_beatsUntilItLightsUp (l : Launch) (E : GE) (w : va_W) (q0 h0 : Nat) (F : LR) (lit : Nat → Bool) (fo : Nat → Nat) (i b : Nat) (hq : w[q0]? = some (h0, .inr (1, LF F lit fo i))) (hp : 2 ≤ F i 0 ∧ F i 0 ≤ 20 ∧ F i 3 < F i 0) (hb0 : b ≤ 1000000000) : Met l yX0_beatsUntilItLightsUp wsX0_beatsUntilItLightsUp ({ frames := 1, cells := 0, slots := 0, locals := 21 } : Room) (va_Pc [.ref h0, .int (nI b)] (pcS E (w))) (vp_Si (fun r => r = nI (wait F i b))) 0 0 (fun _ => False) := by
  refine metS (by decide) rfl (Nat.le_of_ble_eq_true rfl) ?_
  intro p e s m args below meth c ls hx hb hr hml hts hown hlocks hP hK hl
  have hiX0 : ∀ q ∈ wsX00, q ∈ wsX0_beatsUntilItLightsUp := by decide +kernel
  have hph := ph_lt (b := b) hp.1
  refine lv_aload_n hx hb dX0_beatsUntilItLightsUp_0 rfl (lv_at hl 0 rfl) ?_
  refine lv_iload_n hx hb dX0_beatsUntilItLightsUp_1 rfl (lv_at hl 1 rfl) ?_
  refine csV_i (rest := []) (As := [.int (nI b)]) ⟨hx, hb, hml, hown, hts⟩ (c_X0_phaseAt l E _ q0 h0 F _ _ i b hq (hp) (by omega)) (cwV 1 hts gX0_beatsUntilItLightsUp_X0_phaseAt rfl rfl rfl (by decide +kernel) ⟨Nat.le_of_ble_eq_true rfl, Nat.le_of_ble_eq_true rfl⟩) (va_recv hK hP (ci := 1) (q0 := q0) rfl hq) hP hK rfl hl.1 rfl (Nat.le_of_ble_eq_true rfl) dX0_beatsUntilItLightsUp_2 (Nat.le_of_ble_eq_true rfl) (Nat.le_of_ble_eq_true rfl) (fun r2 hr2 => ?_)
  subst hr2
  refine lv_istore_n (lv' := [(2, .int (nI (ph F i b))), (0, .ref h0), (1, .int (nI b))]) hx hb dX0_beatsUntilItLightsUp_5 rfl hl (by decide) rfl (fun ls hl => ?_)
  refine lv_iload_n hx hb dX0_beatsUntilItLightsUp_6 rfl (lv_at hl 0 rfl) ?_
  refine nq_if_ne (tgt := 14) hx hb dX0_beatsUntilItLightsUp_7 (by decide) (by omega) (fun h7 => ?_) (fun h7 => ?_)
  · skip
    refine lv_aload_n hx hb dX0_beatsUntilItLightsUp_14 rfl (lv_at hl 1 rfl) ?_
    refine va_get (D := E.1) (ci := 1) (v := .int (nI (F i 0))) (C := RX0) (T := TX0) (N := 9) hx hb hts hiX0 hown hK hP q0 hq rfl 0 (by decide) (hts (.fieldLink RX0 13 "PulseLoom$Lamp" "period" "I") (List.mem_of_getElem? (i := 1) (by rfl))) (fun _ h9 => h9) rfl dX0_beatsUntilItLightsUp_15 ?_
    refine lv_iload_n hx hb dX0_beatsUntilItLightsUp_18 rfl (lv_at hl 0 rfl) ?_
    refine nq_sub hx hb dX0_beatsUntilItLightsUp_19 (by omega) ?_
    exact retS_i hx hb hr hlocks (congrArg nI (by unfold wait; split <;> omega)) dX0_beatsUntilItLightsUp_20
  · skip
    refine lv_iconst (v := (nI 0)) hx hb dX0_beatsUntilItLightsUp_10 (by decide) ?_
    refine lv_goto (tgt := 20) hx hb dX0_beatsUntilItLightsUp_11 (by decide) ?_
    exact retS_i hx hb hr hlocks (congrArg nI (by unfold wait; split <;> omega)) dX0_beatsUntilItLightsUp_20

/-! the class's answers that only read, where nothing is refused -/
theorem apI_s (F : LR) (i k : Nat) : apI F i (k + 1) = apI F i k + (if i < k ∧ meetS F i (F i 3 : Int) k = false then 1 else 0) := rfl
theorem bestS_s (F : LR) (n i s : Nat) : bestS F n i (s + 1) = if mtS F i ((s + 1 : Nat) : Int) n < mtS F i ((bestS F n i s : Nat) : Int) n then s + 1 else bestS F n i s := rfl
theorem cntDue_s (F : LR) (i b k : Nat) : cntDue F i b (k + 1) = cntDue F i b k + (if due F i (b + k) = true then 1 else 0) := rfl
theorem seenS_s (F : LR) (c k : Nat) : seenS F c (k + 1) = seenS F c k + (if F k 2 = c then F k 5 else 0) := rfl
def mdS (F : LR) (i b k : Nat) : Nat := k / F i 0 * F i 4 + cntDue F i b (k % F i 0)
theorem md_le {F : LR} {i k : Nat} (h : F i 4 < F i 0) : k / F i 0 * F i 4 ≤ k := Nat.le_trans (Nat.mul_le_mul_left _ (Nat.le_of_lt h)) (Nat.div_mul_le_self _ _)
theorem ufind_none {F : LR} {now i j : Nat} : ∀ f k, (∀ q, k ≤ q → q < k + f → ph F j (now + (wait F i now + q * F i 0)) ≠ 0) → ufind F now i j f k = -1
  | 0, _, _ => rfl
  | f + 1, k, h => by
    rw [ufind_succ, if_neg (h k (Nat.le_refl _) (by omega))]
    exact ufind_none f (k + 1) (fun q h1 h2 => h q (by omega) (by omega))
theorem wait_le {F : LR} {i b : Nat} (h : 2 ≤ F i 0 ∧ F i 0 ≤ 20) : wait F i b ≤ 20 := by
  unfold wait
  split <;> omega
def mxD (F : LR) (now n : Nat) : Nat → Nat | 0 => 0 | k + 1 => max (mxD F now n k) (dpS F (now + k) n)
def mxA (F : LR) (lim now n : Nat) : Nat → Nat | 0 => 0 | k + 1 => max (mxA F lim now n k) (acS F lim (now + k) n)
theorem mxD_s (F : LR) (now n k : Nat) : mxD F now n (k + 1) = max (mxD F now n k) (dpS F (now + k) n) := rfl
theorem mxA_s (F : LR) (lim now n k : Nat) : mxA F lim now n (k + 1) = max (mxA F lim now n k) (acS F lim (now + k) n) := rfl
theorem mxD_le {n now lim : Nat} {F : LR} (h : OkS n now lim F) (b : Nat) : ∀ k, mxD F b n k ≤ 72
  | 0 => Nat.zero_le _
  | k + 1 => by
    have h1 := mxD_le h b k
    have h2 := dpS_le h (b + k) n (Nat.le_refl _)
    have h3 := h.1
    rw [mxD_s]
    omega
theorem mxA_le {n now lim : Nat} {F : LR} (h : OkS n now lim F) (lm b : Nat) : ∀ k, mxA F lm b n k ≤ 72
  | 0 => Nat.zero_le _
  | k + 1 => by
    have h1 := mxA_le h lm b k
    have h2 := acS_le h lm (b + k) n (Nat.le_refl _)
    have h3 := h.1
    rw [mxA_s]
    omega

set_option maxHeartbeats 4000000 in
set_option maxRecDepth 100000 in
/-- lampAt(k) -/
theorem c_X1_lampAt (l : Launch) (E : GE) (w : va_W) (a : Nat → Nat) (n now lim : Nat) (F : LR) (lit : Nat → Bool) (fo : Nat → Nat) (hv : CV E a n now lim (LF F lit fo) w) (hO : OkS n now lim F) (k : Nat) (hk : k < n) : Met l yX1_lampAt wsX1_lampAt ({ frames := 3, cells := 0, slots := 0, locals := 64 } : Room) (va_Pc [.ref (a 0), .int (nI k)] (pcS E (w))) (va_Sr (fun r => r = a (3 + k)) (fun k => .ref k)) 0 0 (fun _ => False) := by
  refine metS (by decide) rfl (Nat.le_of_ble_eq_true rfl) ?_
  intro p e s m args below meth c ls hx hb hr hml hts hown hlocks hP hK hl
  have hiX1 : ∀ q ∈ wsX10, q ∈ wsX1_lampAt := by decide +kernel
  obtain ⟨mc, h0x, h1x, h2x, h3x⟩ := cv_all hv
  obtain ⟨hO1, hO2, hO3, hO4, hO5⟩ := id hO
  refine lv_iload_n hx hb dX1_lampAt_0 rfl (lv_at hl 1 rfl) ?_
  refine nq_if_lt (tgt := 15) hx hb dX1_lampAt_1 (by decide) (by omega) ?_
  refine lv_iload_n hx hb dX1_lampAt_4 rfl (lv_at hl 1 rfl) ?_
  refine lv_aload_n hx hb dX1_lampAt_5 rfl (lv_at hl 0 rfl) ?_
  refine va_get (D := E.1) (ci := 2) (v := .ref (a 1)) (C := RX1) (T := TX1) (N := 3) hx hb hts hiX1 hown hK hP 0 h0x rfl 0 (by decide) (hts (.fieldLink RX1 10 "PulseLoom" "row" "Ljava/util/ArrayList;") (List.mem_of_getElem? (i := 3) (by rfl))) (fun _ h9 => h9) rfl dX1_lampAt_6 ?_
  refine csV_i (rest := [.int (nI k)]) (As := []) ⟨hx, hb, hml, hown, hts⟩ (c_Jx4a65c_size_8abf5 l E _ 1 _ _ _ n h1x) (cwV 0 hts gX1_lampAt_Jx4a65c_size_8abf5 rfl rfl rfl (by decide +kernel) ⟨Nat.le_of_ble_eq_true rfl, Nat.le_of_ble_eq_true rfl⟩) (va_recv hK hP (ci := 0) (q0 := 1) rfl h1x) hP hK rfl hl.1 rfl (Nat.le_of_ble_eq_true rfl) dX1_lampAt_9 (Nat.le_of_ble_eq_true rfl) (Nat.le_of_ble_eq_true rfl) (fun r9 hr9 => ?_)
  subst hr9
  refine nq_icmp_lt (tgt := 25) hx hb dX1_lampAt_12 (by decide) (by omega) (by omega) (fun h12 => ?_) (fun h12 => ?_)
  · skip
    refine lv_aload_n hx hb dX1_lampAt_25 rfl (lv_at hl 0 rfl) ?_
    refine va_get (D := E.1) (ci := 2) (v := .ref (a 1)) (C := RX1) (T := TX1) (N := 3) hx hb hts hiX1 hown hK hP 0 h0x rfl 0 (by decide) (hts (.fieldLink RX1 10 "PulseLoom" "row" "Ljava/util/ArrayList;") (List.mem_of_getElem? (i := 3) (by rfl))) (fun _ h9 => h9) rfl dX1_lampAt_26 ?_
    refine lv_iload_n hx hb dX1_lampAt_29 rfl (lv_at hl 1 rfl) ?_
    refine csV_r (rest := []) (As := [.int (nI k)]) ⟨hx, hb, hml, hown, hts⟩ (c_Jx4a65c_get_915e3 l E _ 1 _ _ _ n h1x 2 (arF a n) (h2x (by omega)) k (a (3 + k)) (by omega) (by omega) (arF_at (by omega))) (cwV 1 hts gX1_lampAt_Jx4a65c_get_915e3 rfl rfl rfl (by decide +kernel) ⟨Nat.le_of_ble_eq_true rfl, Nat.le_of_ble_eq_true rfl⟩) (va_recv hK hP (ci := 0) (q0 := 1) rfl h1x) hP hK rfl hl.1 rfl (Nat.le_of_ble_eq_true rfl) dX1_lampAt_30 (Nat.le_of_ble_eq_true rfl) (Nat.le_of_ble_eq_true rfl) (fun r30 hr30 => ?_)
    subst hr30
    refine va_castS hx hb hown (hts (.classLink RX1 38 "PulseLoom$Lamp") (List.mem_of_getElem? (i := 4) (by rfl))) (hK.1 1 _ rfl).2 (va_recv hK hP (ci := 1) (q0 := (3 + k)) rfl (h3x k (by omega))) dX1_lampAt_33 ?_
    exact retS_r hx hb hr hlocks (rfl) dX1_lampAt_36
  · skip
    exact absurd h12 (by omega)

set_option maxHeartbeats 4000000 in
set_option maxRecDepth 100000 in
/-- beat() -/
theorem c_X1_beat (l : Launch) (E : GE) (w : va_W) (a : Nat → Nat) (n now lim : Nat) (F : LR) (lit : Nat → Bool) (fo : Nat → Nat) (hv : CV E a n now lim (LF F lit fo) w) (hO : OkS n now lim F) : Met l yX1_beat wsX1_beat ({ frames := 0, cells := 0, slots := 0, locals := 0 } : Room) (va_Pc [.ref (a 0)] (pcS E (w))) (vp_Si (fun r => r = nI now)) 0 0 (fun _ => False) := by
  refine metS (by decide) rfl (Nat.le_of_ble_eq_true rfl) ?_
  intro p e s m args below meth c ls hx hb hr hml hts hown hlocks hP hK hl
  have hiX1 : ∀ q ∈ wsX10, q ∈ wsX1_beat := by decide +kernel
  obtain ⟨mc, h0x, h1x, h2x, h3x⟩ := cv_all hv
  obtain ⟨hO1, hO2, hO3, hO4, hO5⟩ := id hO
  refine lv_aload_n hx hb dX1_beat_0 rfl (lv_at hl 0 rfl) ?_
  refine va_get (D := E.1) (ci := 2) (v := .int (nI now)) (C := RX1) (T := TX1) (N := 3) hx hb hts hiX1 hown hK hP 0 h0x rfl 1 (by decide) (hts (.fieldLink RX1 16 "PulseLoom" "now" "I") (List.mem_of_getElem? (i := 1) (by rfl))) (fun _ h9 => h9) rfl dX1_beat_1 ?_
  exact retS_i hx hb hr hlocks (rfl) dX1_beat_4

set_option maxHeartbeats 4000000 in
set_option maxRecDepth 100000 in
/-- limit() -/
theorem c_X1_limit (l : Launch) (E : GE) (w : va_W) (a : Nat → Nat) (n now lim : Nat) (F : LR) (lit : Nat → Bool) (fo : Nat → Nat) (hv : CV E a n now lim (LF F lit fo) w) (hO : OkS n now lim F) : Met l yX1_limit wsX1_limit ({ frames := 0, cells := 0, slots := 0, locals := 0 } : Room) (va_Pc [.ref (a 0)] (pcS E (w))) (vp_Si (fun r => r = nI lim)) 0 0 (fun _ => False) := by
  refine metS (by decide) rfl (Nat.le_of_ble_eq_true rfl) ?_
  intro p e s m args below meth c ls hx hb hr hml hts hown hlocks hP hK hl
  have hiX1 : ∀ q ∈ wsX10, q ∈ wsX1_limit := by decide +kernel
  obtain ⟨mc, h0x, h1x, h2x, h3x⟩ := cv_all hv
  obtain ⟨hO1, hO2, hO3, hO4, hO5⟩ := id hO
  refine lv_aload_n hx hb dX1_limit_0 rfl (lv_at hl 0 rfl) ?_
  refine va_get (D := E.1) (ci := 2) (v := .int (nI lim)) (C := RX1) (T := TX1) (N := 3) hx hb hts hiX1 hown hK hP 0 h0x rfl 2 (by decide) (hts (.fieldLink RX1 20 "PulseLoom" "mostPower" "I") (List.mem_of_getElem? (i := 1) (by rfl))) (fun _ h9 => h9) rfl dX1_limit_1 ?_
  exact retS_i hx hb hr hlocks (rfl) dX1_limit_4

set_option maxHeartbeats 4000000 in
set_option maxRecDepth 100000 in
/-- lamps() -/
theorem c_X1_lamps (l : Launch) (E : GE) (w : va_W) (a : Nat → Nat) (n now lim : Nat) (F : LR) (lit : Nat → Bool) (fo : Nat → Nat) (hv : CV E a n now lim (LF F lit fo) w) (hO : OkS n now lim F) : Met l yX1_lamps wsX1_lamps ({ frames := 1, cells := 0, slots := 0, locals := 20 } : Room) (va_Pc [.ref (a 0)] (pcS E (w))) (vp_Si (fun r => r = nI n)) 0 0 (fun _ => False) := by
  refine metS (by decide) rfl (Nat.le_of_ble_eq_true rfl) ?_
  intro p e s m args below meth c ls hx hb hr hml hts hown hlocks hP hK hl
  have hiX1 : ∀ q ∈ wsX10, q ∈ wsX1_lamps := by decide +kernel
  obtain ⟨mc, h0x, h1x, h2x, h3x⟩ := cv_all hv
  obtain ⟨hO1, hO2, hO3, hO4, hO5⟩ := id hO
  refine lv_aload_n hx hb dX1_lamps_0 rfl (lv_at hl 0 rfl) ?_
  refine va_get (D := E.1) (ci := 2) (v := .ref (a 1)) (C := RX1) (T := TX1) (N := 3) hx hb hts hiX1 hown hK hP 0 h0x rfl 0 (by decide) (hts (.fieldLink RX1 10 "PulseLoom" "row" "Ljava/util/ArrayList;") (List.mem_of_getElem? (i := 1) (by rfl))) (fun _ h9 => h9) rfl dX1_lamps_1 ?_
  refine csV_i (rest := []) (As := []) ⟨hx, hb, hml, hown, hts⟩ (c_Jx4a65c_size_8abf5 l E _ 1 _ _ _ n h1x) (cwV 0 hts gX1_lamps_Jx4a65c_size_8abf5 rfl rfl rfl (by decide +kernel) ⟨Nat.le_of_ble_eq_true rfl, Nat.le_of_ble_eq_true rfl⟩) (va_recv hK hP (ci := 0) (q0 := 1) rfl h1x) hP hK rfl hl.1 rfl (Nat.le_of_ble_eq_true rfl) dX1_lamps_4 (Nat.le_of_ble_eq_true rfl) (Nat.le_of_ble_eq_true rfl) (fun r4 hr4 => ?_)
  subst hr4
  exact retS_i hx hb hr hlocks (rfl) dX1_lamps_7

set_option maxHeartbeats 4000000 in
set_option maxRecDepth 100000 in
/-- colourOf(k) -/
theorem c_X1_colourOf (l : Launch) (E : GE) (w : va_W) (a : Nat → Nat) (n now lim : Nat) (F : LR) (lit : Nat → Bool) (fo : Nat → Nat) (hv : CV E a n now lim (LF F lit fo) w) (hO : OkS n now lim F) (k : Nat) (hk : k < n) : Met l yX1_colourOf wsX1_colourOf ({ frames := 4, cells := 0, slots := 0, locals := 85 } : Room) (va_Pc [.ref (a 0), .int (nI k)] (pcS E (w))) (vp_Si (fun r => r = nI (F k 2))) 0 0 (fun _ => False) := by
  refine metS (by decide) rfl (Nat.le_of_ble_eq_true rfl) ?_
  intro p e s m args below meth c ls hx hb hr hml hts hown hlocks hP hK hl
  have hiX0 : ∀ q ∈ wsX00, q ∈ wsX1_colourOf := by decide +kernel
  obtain ⟨mc, h0x, h1x, h2x, h3x⟩ := cv_all hv
  obtain ⟨hO1, hO2, hO3, hO4, hO5⟩ := id hO
  refine lv_aload_n hx hb dX1_colourOf_0 rfl (lv_at hl 0 rfl) ?_
  refine lv_iload_n hx hb dX1_colourOf_1 rfl (lv_at hl 1 rfl) ?_
  refine csV_r (rest := []) (As := [.int (nI k)]) ⟨hx, hb, hml, hown, hts⟩ (c_X1_lampAt l E _ a n now lim F lit fo hv hO k (by omega)) (cwV 1 hts gX1_colourOf_X1_lampAt rfl rfl rfl (by decide +kernel) ⟨Nat.le_of_ble_eq_true rfl, Nat.le_of_ble_eq_true rfl⟩) (va_recv hK hP (ci := 2) (q0 := 0) rfl h0x) hP hK rfl hl.1 rfl (Nat.le_of_ble_eq_true rfl) dX1_colourOf_2 (Nat.le_of_ble_eq_true rfl) (Nat.le_of_ble_eq_true rfl) (fun r2 hr2 => ?_)
  subst hr2
  refine va_get (D := E.1) (ci := 1) (v := .int (nI (F k 2))) (C := RX0) (T := TX0) (N := 9) hx hb hts hiX0 hown hK hP (3 + k) (h3x k (by omega)) rfl 2 (by decide) (hts (.fieldLink RX1 65 "PulseLoom$Lamp" "colour" "I") (List.mem_of_getElem? (i := 1) (by rfl))) (fun _ h9 => h9) rfl dX1_colourOf_5 ?_
  exact retS_i hx hb hr hlocks (rfl) dX1_colourOf_8

set_option maxHeartbeats 4000000 in
set_option maxRecDepth 100000 in
/-- shiftOf(k) -/
theorem c_X1_shiftOf (l : Launch) (E : GE) (w : va_W) (a : Nat → Nat) (n now lim : Nat) (F : LR) (lit : Nat → Bool) (fo : Nat → Nat) (hv : CV E a n now lim (LF F lit fo) w) (hO : OkS n now lim F) (k : Nat) (hk : k < n) : Met l yX1_shiftOf wsX1_shiftOf ({ frames := 4, cells := 0, slots := 0, locals := 85 } : Room) (va_Pc [.ref (a 0), .int (nI k)] (pcS E (w))) (vp_Si (fun r => r = nI (F k 3))) 0 0 (fun _ => False) := by
  refine metS (by decide) rfl (Nat.le_of_ble_eq_true rfl) ?_
  intro p e s m args below meth c ls hx hb hr hml hts hown hlocks hP hK hl
  have hiX0 : ∀ q ∈ wsX00, q ∈ wsX1_shiftOf := by decide +kernel
  obtain ⟨mc, h0x, h1x, h2x, h3x⟩ := cv_all hv
  obtain ⟨hO1, hO2, hO3, hO4, hO5⟩ := id hO
  refine lv_aload_n hx hb dX1_shiftOf_0 rfl (lv_at hl 0 rfl) ?_
  refine lv_iload_n hx hb dX1_shiftOf_1 rfl (lv_at hl 1 rfl) ?_
  refine csV_r (rest := []) (As := [.int (nI k)]) ⟨hx, hb, hml, hown, hts⟩ (c_X1_lampAt l E _ a n now lim F lit fo hv hO k (by omega)) (cwV 1 hts gX1_shiftOf_X1_lampAt rfl rfl rfl (by decide +kernel) ⟨Nat.le_of_ble_eq_true rfl, Nat.le_of_ble_eq_true rfl⟩) (va_recv hK hP (ci := 2) (q0 := 0) rfl h0x) hP hK rfl hl.1 rfl (Nat.le_of_ble_eq_true rfl) dX1_shiftOf_2 (Nat.le_of_ble_eq_true rfl) (Nat.le_of_ble_eq_true rfl) (fun r2 hr2 => ?_)
  subst hr2
  refine va_get (D := E.1) (ci := 1) (v := .int (nI (F k 3))) (C := RX0) (T := TX0) (N := 9) hx hb hts hiX0 hown hK hP (3 + k) (h3x k (by omega)) rfl 3 (by decide) (hts (.fieldLink RX1 54 "PulseLoom$Lamp" "shift" "I") (List.mem_of_getElem? (i := 1) (by rfl))) (fun _ h9 => h9) rfl dX1_shiftOf_5 ?_
  exact retS_i hx hb hr hlocks (rfl) dX1_shiftOf_8

set_option maxHeartbeats 4000000 in
set_option maxRecDepth 100000 in
/-- shone(k) -/
theorem c_X1_shone (l : Launch) (E : GE) (w : va_W) (a : Nat → Nat) (n now lim : Nat) (F : LR) (lit : Nat → Bool) (fo : Nat → Nat) (hv : CV E a n now lim (LF F lit fo) w) (hO : OkS n now lim F) (k : Nat) (hk : k < n) : Met l yX1_shone wsX1_shone ({ frames := 4, cells := 0, slots := 0, locals := 85 } : Room) (va_Pc [.ref (a 0), .int (nI k)] (pcS E (w))) (vp_Si (fun r => r = nI (F k 5))) 0 0 (fun _ => False) := by
  refine metS (by decide) rfl (Nat.le_of_ble_eq_true rfl) ?_
  intro p e s m args below meth c ls hx hb hr hml hts hown hlocks hP hK hl
  have hiX0 : ∀ q ∈ wsX00, q ∈ wsX1_shone := by decide +kernel
  obtain ⟨mc, h0x, h1x, h2x, h3x⟩ := cv_all hv
  obtain ⟨hO1, hO2, hO3, hO4, hO5⟩ := id hO
  refine lv_aload_n hx hb dX1_shone_0 rfl (lv_at hl 0 rfl) ?_
  refine lv_iload_n hx hb dX1_shone_1 rfl (lv_at hl 1 rfl) ?_
  refine csV_r (rest := []) (As := [.int (nI k)]) ⟨hx, hb, hml, hown, hts⟩ (c_X1_lampAt l E _ a n now lim F lit fo hv hO k (by omega)) (cwV 1 hts gX1_shone_X1_lampAt rfl rfl rfl (by decide +kernel) ⟨Nat.le_of_ble_eq_true rfl, Nat.le_of_ble_eq_true rfl⟩) (va_recv hK hP (ci := 2) (q0 := 0) rfl h0x) hP hK rfl hl.1 rfl (Nat.le_of_ble_eq_true rfl) dX1_shone_2 (Nat.le_of_ble_eq_true rfl) (Nat.le_of_ble_eq_true rfl) (fun r2 hr2 => ?_)
  subst hr2
  refine va_get (D := E.1) (ci := 1) (v := .int (nI (F k 5))) (C := RX0) (T := TX0) (N := 9) hx hb hts hiX0 hown hK hP (3 + k) (h3x k (by omega)) rfl 5 (by decide) (hts (.fieldLink RX1 87 "PulseLoom$Lamp" "beatsShone" "I") (List.mem_of_getElem? (i := 1) (by rfl))) (fun _ h9 => h9) rfl dX1_shone_5 ?_
  exact retS_i hx hb hr hlocks (rfl) dX1_shone_8

set_option maxHeartbeats 4000000 in
set_option maxRecDepth 100000 in
/-- stayedDark(k) -/
theorem c_X1_stayedDark (l : Launch) (E : GE) (w : va_W) (a : Nat → Nat) (n now lim : Nat) (F : LR) (lit : Nat → Bool) (fo : Nat → Nat) (hv : CV E a n now lim (LF F lit fo) w) (hO : OkS n now lim F) (k : Nat) (hk : k < n) : Met l yX1_stayedDark wsX1_stayedDark ({ frames := 4, cells := 0, slots := 0, locals := 85 } : Room) (va_Pc [.ref (a 0), .int (nI k)] (pcS E (w))) (vp_Si (fun r => r = nI (F k 6))) 0 0 (fun _ => False) := by
  refine metS (by decide) rfl (Nat.le_of_ble_eq_true rfl) ?_
  intro p e s m args below meth c ls hx hb hr hml hts hown hlocks hP hK hl
  have hiX0 : ∀ q ∈ wsX00, q ∈ wsX1_stayedDark := by decide +kernel
  obtain ⟨mc, h0x, h1x, h2x, h3x⟩ := cv_all hv
  obtain ⟨hO1, hO2, hO3, hO4, hO5⟩ := id hO
  refine lv_aload_n hx hb dX1_stayedDark_0 rfl (lv_at hl 0 rfl) ?_
  refine lv_iload_n hx hb dX1_stayedDark_1 rfl (lv_at hl 1 rfl) ?_
  refine csV_r (rest := []) (As := [.int (nI k)]) ⟨hx, hb, hml, hown, hts⟩ (c_X1_lampAt l E _ a n now lim F lit fo hv hO k (by omega)) (cwV 1 hts gX1_stayedDark_X1_lampAt rfl rfl rfl (by decide +kernel) ⟨Nat.le_of_ble_eq_true rfl, Nat.le_of_ble_eq_true rfl⟩) (va_recv hK hP (ci := 2) (q0 := 0) rfl h0x) hP hK rfl hl.1 rfl (Nat.le_of_ble_eq_true rfl) dX1_stayedDark_2 (Nat.le_of_ble_eq_true rfl) (Nat.le_of_ble_eq_true rfl) (fun r2 hr2 => ?_)
  subst hr2
  refine va_get (D := E.1) (ci := 1) (v := .int (nI (F k 6))) (C := RX0) (T := TX0) (N := 9) hx hb hts hiX0 hown hK hP (3 + k) (h3x k (by omega)) rfl 6 (by decide) (hts (.fieldLink RX1 90 "PulseLoom$Lamp" "beatsDark" "I") (List.mem_of_getElem? (i := 1) (by rfl))) (fun _ h9 => h9) rfl dX1_stayedDark_5 ?_
  exact retS_i hx hb hr hlocks (rfl) dX1_stayedDark_8

set_option maxHeartbeats 4000000 in
set_option maxRecDepth 100000 in
/-- phaseOf(k) -/
theorem c_X1_phaseOf (l : Launch) (E : GE) (w : va_W) (a : Nat → Nat) (n now lim : Nat) (F : LR) (lit : Nat → Bool) (fo : Nat → Nat) (hv : CV E a n now lim (LF F lit fo) w) (hO : OkS n now lim F) (k : Nat) (hk : k < n) : Met l yX1_phaseOf wsX1_phaseOf ({ frames := 4, cells := 0, slots := 0, locals := 85 } : Room) (va_Pc [.ref (a 0), .int (nI k)] (pcS E (w))) (vp_Si (fun r => r = nI (ph F k now))) 0 0 (fun _ => False) := by
  refine metS (by decide) rfl (Nat.le_of_ble_eq_true rfl) ?_
  intro p e s m args below meth c ls hx hb hr hml hts hown hlocks hP hK hl
  have hiX1 : ∀ q ∈ wsX10, q ∈ wsX1_phaseOf := by decide +kernel
  obtain ⟨mc, h0x, h1x, h2x, h3x⟩ := cv_all hv
  obtain ⟨hO1, hO2, hO3, hO4, hO5⟩ := id hO
  refine lv_aload_n hx hb dX1_phaseOf_0 rfl (lv_at hl 0 rfl) ?_
  refine lv_iload_n hx hb dX1_phaseOf_1 rfl (lv_at hl 1 rfl) ?_
  refine csV_r (rest := []) (As := [.int (nI k)]) ⟨hx, hb, hml, hown, hts⟩ (c_X1_lampAt l E _ a n now lim F lit fo hv hO k (by omega)) (cwV 1 hts gX1_phaseOf_X1_lampAt rfl rfl rfl (by decide +kernel) ⟨Nat.le_of_ble_eq_true rfl, Nat.le_of_ble_eq_true rfl⟩) (va_recv hK hP (ci := 2) (q0 := 0) rfl h0x) hP hK rfl hl.1 rfl (Nat.le_of_ble_eq_true rfl) dX1_phaseOf_2 (Nat.le_of_ble_eq_true rfl) (Nat.le_of_ble_eq_true rfl) (fun r2 hr2 => ?_)
  subst hr2
  refine lv_aload_n hx hb dX1_phaseOf_5 rfl (lv_at hl 0 rfl) ?_
  refine va_get (D := E.1) (ci := 2) (v := .int (nI now)) (C := RX1) (T := TX1) (N := 3) hx hb hts hiX1 hown hK hP 0 h0x rfl 1 (by decide) (hts (.fieldLink RX1 16 "PulseLoom" "now" "I") (List.mem_of_getElem? (i := 1) (by rfl))) (fun _ h9 => h9) rfl dX1_phaseOf_6 ?_
  refine csV_i (rest := []) (As := [.int (nI now)]) ⟨hx, hb, hml, hown, hts⟩ (c_X0_phaseAt l E _ (3 + k) (a (3 + k)) F _ _ k now (h3x k (by omega)) ((okp hO (i := k) (by omega))) (by omega)) (cwV 1 hts gX1_phaseOf_X0_phaseAt rfl rfl rfl (by decide +kernel) ⟨Nat.le_of_ble_eq_true rfl, Nat.le_of_ble_eq_true rfl⟩) (va_recv hK hP (ci := 1) (q0 := (3 + k)) rfl (h3x k (by omega))) hP hK rfl hl.1 rfl (Nat.le_of_ble_eq_true rfl) dX1_phaseOf_9 (Nat.le_of_ble_eq_true rfl) (Nat.le_of_ble_eq_true rfl) (fun r9 hr9 => ?_)
  subst hr9
  exact retS_i hx hb hr hlocks (rfl) dX1_phaseOf_12

set_option maxHeartbeats 4000000 in
set_option maxRecDepth 100000 in
/-- isDue(k) -/
theorem c_X1_isDue (l : Launch) (E : GE) (w : va_W) (a : Nat → Nat) (n now lim : Nat) (F : LR) (lit : Nat → Bool) (fo : Nat → Nat) (hv : CV E a n now lim (LF F lit fo) w) (hO : OkS n now lim F) (k : Nat) (hk : k < n) : Met l yX1_isDue wsX1_isDue ({ frames := 4, cells := 0, slots := 0, locals := 85 } : Room) (va_Pc [.ref (a 0), .int (nI k)] (pcS E (w))) (vp_Si (fun r => r = bI (due F k now))) 0 0 (fun _ => False) := by
  refine metS (by decide) rfl (Nat.le_of_ble_eq_true rfl) ?_
  intro p e s m args below meth c ls hx hb hr hml hts hown hlocks hP hK hl
  have hiX1 : ∀ q ∈ wsX10, q ∈ wsX1_isDue := by decide +kernel
  obtain ⟨mc, h0x, h1x, h2x, h3x⟩ := cv_all hv
  obtain ⟨hO1, hO2, hO3, hO4, hO5⟩ := id hO
  refine lv_aload_n hx hb dX1_isDue_0 rfl (lv_at hl 0 rfl) ?_
  refine lv_iload_n hx hb dX1_isDue_1 rfl (lv_at hl 1 rfl) ?_
  refine csV_r (rest := []) (As := [.int (nI k)]) ⟨hx, hb, hml, hown, hts⟩ (c_X1_lampAt l E _ a n now lim F lit fo hv hO k (by omega)) (cwV 1 hts gX1_isDue_X1_lampAt rfl rfl rfl (by decide +kernel) ⟨Nat.le_of_ble_eq_true rfl, Nat.le_of_ble_eq_true rfl⟩) (va_recv hK hP (ci := 2) (q0 := 0) rfl h0x) hP hK rfl hl.1 rfl (Nat.le_of_ble_eq_true rfl) dX1_isDue_2 (Nat.le_of_ble_eq_true rfl) (Nat.le_of_ble_eq_true rfl) (fun r2 hr2 => ?_)
  subst hr2
  refine lv_aload_n hx hb dX1_isDue_5 rfl (lv_at hl 0 rfl) ?_
  refine va_get (D := E.1) (ci := 2) (v := .int (nI now)) (C := RX1) (T := TX1) (N := 3) hx hb hts hiX1 hown hK hP 0 h0x rfl 1 (by decide) (hts (.fieldLink RX1 16 "PulseLoom" "now" "I") (List.mem_of_getElem? (i := 1) (by rfl))) (fun _ h9 => h9) rfl dX1_isDue_6 ?_
  refine csV_i (rest := []) (As := [.int (nI now)]) ⟨hx, hb, hml, hown, hts⟩ (c_X0_dueAt l E _ (3 + k) (a (3 + k)) F _ _ k now (h3x k (by omega)) ((okp hO (i := k) (by omega))) (by omega) ((okl hO (i := k) (by omega)))) (cwV 1 hts gX1_isDue_X0_dueAt rfl rfl rfl (by decide +kernel) ⟨Nat.le_of_ble_eq_true rfl, Nat.le_of_ble_eq_true rfl⟩) (va_recv hK hP (ci := 1) (q0 := (3 + k)) rfl (h3x k (by omega))) hP hK rfl hl.1 rfl (Nat.le_of_ble_eq_true rfl) dX1_isDue_9 (Nat.le_of_ble_eq_true rfl) (Nat.le_of_ble_eq_true rfl) (fun r9 hr9 => ?_)
  subst hr9
  exact retS_z hx hb hr hlocks (rfl) dX1_isDue_12

set_option maxHeartbeats 4000000 in
set_option maxRecDepth 100000 in
/-- seen(k) -/
theorem c_X1_seen (l : Launch) (E : GE) (w : va_W) (a : Nat → Nat) (n now lim : Nat) (F : LR) (lit : Nat → Bool) (fo : Nat → Nat) (hv : CV E a n now lim (LF F lit fo) w) (hO : OkS n now lim F) (k : Nat) (hk : k ≤ 5) : Met l yX1_seen wsX1_seen ({ frames := 3, cells := 0, slots := 0, locals := 64 } : Room) (va_Pc [.ref (a 0), .int (nI k)] (pcS E (w))) (vp_Si (fun r => r = nI (seenS F k n))) 0 0 (fun _ => False) := by
  refine metS (by decide) rfl (Nat.le_of_ble_eq_true rfl) ?_
  intro p e s m args below meth c ls hx hb hr hml hts hown hlocks hP hK hl
  have hiX1 : ∀ q ∈ wsX10, q ∈ wsX1_seen := by decide +kernel
  have hiX0 : ∀ q ∈ wsX00, q ∈ wsX1_seen := by decide +kernel
  obtain ⟨QQ, hQ⟩ : ∃ zQ, zQ = MQ below (vp_Si (fun r => r = nI (seenS F k n))) args s 0 0 (fun _ => False) := ⟨_, rfl⟩
  rw [← hQ]
  obtain ⟨mc, h0x, h1x, h2x, h3x⟩ := cv_all hv
  obtain ⟨hO1, hO2, hO3, hO4, hO5⟩ := id hO
  refine lv_iload_n hx hb dX1_seen_0 rfl (lv_at hl 1 rfl) ?_
  refine lv_iconst (v := (nI 0)) hx hb dX1_seen_1 (by decide) ?_
  refine lv_iconst (v := (nI 5)) hx hb dX1_seen_2 (by decide) ?_
  refine csS_v (rest := []) (As := [.int (nI k), .int (nI 0), .int (nI 5)]) ⟨hx, hb, hml, hown, hts⟩ (c_X1_refuseOutside l E _ (nI k) (nI 0) (nI 5) (ref_nI (k := k) (lo := 0) (hi := 5) (by omega) (by omega)).1 (ref_nI (k := k) (lo := 0) (hi := 5) (by omega) (by omega)).2) (va_cwS 3 hts gX1_seen_X1_refuseOutside rfl rfl rfl (by decide +kernel) ⟨Nat.le_of_ble_eq_true rfl, Nat.le_of_ble_eq_true rfl⟩) hP hK rfl hl.1 rfl (Nat.le_of_ble_eq_true rfl) dX1_seen_3 (Nat.le_of_ble_eq_true rfl) (Nat.le_of_ble_eq_true rfl) (fun _ => ?_)
  refine lv_iconst (v := (nI 0)) hx hb dX1_seen_6 (by decide) ?_
  refine lv_istore_n (lv' := [(2, .int (nI 0)), (0, .ref (a 0)), (1, .int (nI k))]) hx hb dX1_seen_7 rfl hl (by decide) rfl (fun ls hl => ?_)
  refine lv_iconst (v := (nI 0)) hx hb dX1_seen_8 (by decide) ?_
  refine lv_istore_n (lv' := [(3, .int (nI 0)), (2, .int (nI 0)), (0, .ref (a 0)), (1, .int (nI k))]) hx hb dX1_seen_9 rfl hl (by decide) rfl (fun ls hl => ?_)
  have loop10 : ∀ (tk : Nat) (i : Nat) (ls : Array Slot), (i ≤ n) → (n - i) < tk → lv_has ls 5 [(0, .ref (a 0)), (1, .int (nI k)), (2, .int (nI (seenS F k i))), (3, .int (nI i))] → W p l e ({ frames := 3, cells := 0, slots := 0, locals := 64 } : Room) s m args below meth c s.heap [] 0 0 QQ (F0 m 10 ls []) := by
    intro tk
    induction tk with
    | zero => intro i ls hi hk hl; exact absurd hk (Nat.not_lt_zero _)
    | succ tk ih10 =>
      intro i ls hi hk hl
      refine lv_iload_n hx hb dX1_seen_10 rfl (lv_at hl 3 rfl) ?_
      refine lv_aload_n hx hb dX1_seen_11 rfl (lv_at hl 0 rfl) ?_
      refine va_get (D := E.1) (ci := 2) (v := .ref (a 1)) (C := RX1) (T := TX1) (N := 3) hx hb hts hiX1 hown hK hP 0 h0x rfl 0 (by decide) (hts (.fieldLink RX1 10 "PulseLoom" "row" "Ljava/util/ArrayList;") (List.mem_of_getElem? (i := 1) (by rfl))) (fun _ h9 => h9) rfl dX1_seen_12 ?_
      refine csV_i (rest := [.int (nI i)]) (As := []) ⟨hx, hb, hml, hown, hts⟩ (c_Jx4a65c_size_8abf5 l E _ 1 _ _ _ n h1x) (cwV 0 hts gX1_seen_Jx4a65c_size_8abf5 rfl rfl rfl (by decide +kernel) ⟨Nat.le_of_ble_eq_true rfl, Nat.le_of_ble_eq_true rfl⟩) (va_recv hK hP (ci := 0) (q0 := 1) rfl h1x) hP hK rfl hl.1 rfl (Nat.le_of_ble_eq_true rfl) dX1_seen_15 (Nat.le_of_ble_eq_true rfl) (Nat.le_of_ble_eq_true rfl) (fun r15 hr15 => ?_)
      subst hr15
      refine nq_icmp_ge (tgt := 57) hx hb dX1_seen_18 (by decide) (by omega) (by omega) (fun h18 => ?_) (fun h18 => ?_)
      · skip
        refine lv_iload_n hx hb dX1_seen_57 rfl (lv_at hl 2 rfl) ?_
        rw [hQ]
        exact retS_i hx hb hr hlocks (congrArg nI (by rw [show i = n by omega])) dX1_seen_58
      · skip
        have hi9 := hO4 i h18
        refine lv_aload_n hx hb dX1_seen_21 rfl (lv_at hl 0 rfl) ?_
        refine va_get (D := E.1) (ci := 2) (v := .ref (a 1)) (C := RX1) (T := TX1) (N := 3) hx hb hts hiX1 hown hK hP 0 h0x rfl 0 (by decide) (hts (.fieldLink RX1 10 "PulseLoom" "row" "Ljava/util/ArrayList;") (List.mem_of_getElem? (i := 1) (by rfl))) (fun _ h9 => h9) rfl dX1_seen_22 ?_
        refine lv_iload_n hx hb dX1_seen_25 rfl (lv_at hl 3 rfl) ?_
        refine csV_r (rest := []) (As := [.int (nI i)]) ⟨hx, hb, hml, hown, hts⟩ (c_Jx4a65c_get_915e3 l E _ 1 _ _ _ n h1x 2 (arF a n) (h2x (by omega)) i (a (3 + i)) (by omega) (by omega) (arF_at (by omega))) (cwV 1 hts gX1_seen_Jx4a65c_get_915e3 rfl rfl rfl (by decide +kernel) ⟨Nat.le_of_ble_eq_true rfl, Nat.le_of_ble_eq_true rfl⟩) (va_recv hK hP (ci := 0) (q0 := 1) rfl h1x) hP hK rfl hl.1 rfl (Nat.le_of_ble_eq_true rfl) dX1_seen_26 (Nat.le_of_ble_eq_true rfl) (Nat.le_of_ble_eq_true rfl) (fun r26 hr26 => ?_)
        subst hr26
        refine va_castS hx hb hown (hts (.classLink RX1 38 "PulseLoom$Lamp") (List.mem_of_getElem? (i := 2) (by rfl))) (hK.1 1 _ rfl).2 (va_recv hK hP (ci := 1) (q0 := (3 + i)) rfl (h3x i (by omega))) dX1_seen_29 ?_
        refine lv_astore (lv' := [(4, .ref (a (3 + i))), (0, .ref (a 0)), (1, .int (nI k)), (2, .int (nI (seenS F k i))), (3, .int (nI i))]) hx hb dX1_seen_32 hl (by decide) rfl (fun ls hl => ?_)
        refine lv_aload hx hb dX1_seen_34 (lv_at hl 0 rfl) ?_
        refine va_get (D := E.1) (ci := 1) (v := .int (nI (F i 2))) (C := RX0) (T := TX0) (N := 9) hx hb hts hiX0 hown hK hP (3 + i) (h3x i (by omega)) rfl 2 (by decide) (hts (.fieldLink RX1 65 "PulseLoom$Lamp" "colour" "I") (List.mem_of_getElem? (i := 3) (by rfl))) (fun _ h9 => h9) rfl dX1_seen_36 ?_
        refine lv_iload_n hx hb dX1_seen_39 rfl (lv_at hl 2 rfl) ?_
        refine nq_icmp_ne (tgt := 51) hx hb dX1_seen_40 (by decide) (by omega) (by omega) (fun h40 => ?_) (fun h40 => ?_)
        · skip
          refine nq_inc (lv' := [(3, .int (nI (i + 1))), (4, .ref (a (3 + i))), (0, .ref (a 0)), (1, .int (nI k)), (2, .int (nI (seenS F k i)))]) hx hb dX1_seen_51 (d := 1) rfl hl (k := 4) rfl (by decide) rfl (fun ls hl => ?_)
          refine lv_goto (tgt := 10) hx hb dX1_seen_54 (by decide) ?_
          have hl : lv_has ls 5 [(3, .int (nI (i + 1))), (4, .ref (a (3 + i))), (0, .ref (a 0)), (1, .int (nI k)), (2, .int (nI (seenS F k (i + 1))))] := lv_rep hl 4 rfl (congrArg Value.int (show (nI (seenS F k i)) = (nI (seenS F k (i + 1))) from congrArg nI (by rw [seenS_s, if_neg h40]; rfl)))
          exact ih10 (i + 1) ls (by omega) (by omega) (lv_sub hl [2, 3, 4, 0] rfl)
        · skip
          refine lv_iload_n hx hb dX1_seen_43 rfl (lv_at hl 3 rfl) ?_
          refine lv_aload hx hb dX1_seen_44 (lv_at hl 0 rfl) ?_
          refine va_get (D := E.1) (ci := 1) (v := .int (nI (F i 5))) (C := RX0) (T := TX0) (N := 9) hx hb hts hiX0 hown hK hP (3 + i) (h3x i (by omega)) rfl 5 (by decide) (hts (.fieldLink RX1 87 "PulseLoom$Lamp" "beatsShone" "I") (List.mem_of_getElem? (i := 4) (by rfl))) (fun _ h9 => h9) rfl dX1_seen_46 ?_
          refine nq_add hx hb dX1_seen_49 ?_
          refine lv_istore_n (lv' := [(2, .int (nI ((seenS F k i) + (F i 5)))), (4, .ref (a (3 + i))), (0, .ref (a 0)), (1, .int (nI k)), (3, .int (nI i))]) hx hb dX1_seen_50 rfl hl (by decide) rfl (fun ls hl => ?_)
          refine nq_inc (lv' := [(3, .int (nI (i + 1))), (2, .int (nI ((seenS F k i) + (F i 5)))), (4, .ref (a (3 + i))), (0, .ref (a 0)), (1, .int (nI k))]) hx hb dX1_seen_51 (d := 1) rfl hl (k := 4) rfl (by decide) rfl (fun ls hl => ?_)
          refine lv_goto (tgt := 10) hx hb dX1_seen_54 (by decide) ?_
          have hl : lv_has ls 5 [(3, .int (nI (i + 1))), (2, .int (nI (seenS F k (i + 1)))), (4, .ref (a (3 + i))), (0, .ref (a 0)), (1, .int (nI k))] := lv_rep hl 1 rfl (congrArg Value.int (show (nI ((seenS F k i) + (F i 5))) = (nI (seenS F k (i + 1))) from congrArg nI (by rw [seenS_s, if_pos h40])))
          exact ih10 (i + 1) ls (by omega) (by omega) (lv_sub hl [3, 4, 1, 0] rfl)
  have hl : lv_has ls 5 [(3, .int (nI 0)), (2, .int (nI (seenS F k 0))), (0, .ref (a 0)), (1, .int (nI k))] := lv_rep hl 1 rfl (congrArg Value.int (show (nI 0) = (nI (seenS F k 0)) from rfl))
  exact loop10 ((n - 0) + 1) 0 ls (by omega) (Nat.lt_succ_self _) (lv_sub hl [2, 3, 1, 0] rfl)

set_option maxHeartbeats 4000000 in
set_option maxRecDepth 100000 in
/-- together() -/
theorem c_X1_together (l : Launch) (E : GE) (w : va_W) (a : Nat → Nat) (n now lim : Nat) (F : LR) (lit : Nat → Bool) (fo : Nat → Nat) (hv : CV E a n now lim (LF F lit fo) w) (hO : OkS n now lim F) : Met l yX1_together wsX1_together ({ frames := 3, cells := 0, slots := 0, locals := 64 } : Room) (va_Pc [.ref (a 0)] (pcS E (w))) (vp_Sl (fun r => r = lN (lcmS F n))) 0 0 (fun _ => False) := by
  refine metS (by decide) rfl (Nat.le_of_ble_eq_true rfl) ?_
  intro p e s m args below meth c ls hx hb hr hml hts hown hlocks hP hK hl
  have hiX1 : ∀ q ∈ wsX10, q ∈ wsX1_together := by decide +kernel
  have hiX0 : ∀ q ∈ wsX00, q ∈ wsX1_together := by decide +kernel
  obtain ⟨QQ, hQ⟩ : ∃ zQ, zQ = MQ below (vp_Sl (fun r => r = lN (lcmS F n))) args s 0 0 (fun _ => False) := ⟨_, rfl⟩
  rw [← hQ]
  obtain ⟨mc, h0x, h1x, h2x, h3x⟩ := cv_all hv
  obtain ⟨hO1, hO2, hO3, hO4, hO5⟩ := id hO
  have hpb : ∀ i, i < n → 2 ≤ F i 0 ∧ F i 0 ≤ 20 := fun i hi => ⟨(hO4 i hi).1, (hO4 i hi).2.1⟩
  refine lv_lconst (v := 1) hx hb dX1_together_0 (by decide) ?_
  refine lv_lstore_n (lv' := [(1, .long 1), (0, .ref (a 0))]) hx hb dX1_together_1 rfl hl (by decide) rfl (fun ls hl => ?_)
  refine lv_iconst (v := (nI 0)) hx hb dX1_together_2 (by decide) ?_
  refine lv_istore_n (lv' := [(3, .int (nI 0)), (1, .long 1), (0, .ref (a 0))]) hx hb dX1_together_3 rfl hl (by decide) rfl (fun ls hl => ?_)
  have loop4 : ∀ (tk : Nat) (i : Nat) (ls : Array Slot), (i ≤ n) → (n - i) < tk → lv_has ls 4 [(0, .ref (a 0)), (1, .long (lN (lcmS F i))), (3, .int (nI i))] → W p l e ({ frames := 3, cells := 0, slots := 0, locals := 64 } : Room) s m args below meth c s.heap [] 0 0 QQ (F0 m 4 ls []) := by
    intro tk
    induction tk with
    | zero => intro i ls hi hk hl; exact absurd hk (Nat.not_lt_zero _)
    | succ tk ih4 =>
      intro i ls hi hk hl
      refine lv_iload_n hx hb dX1_together_4 rfl (lv_at hl 2 rfl) ?_
      refine lv_aload_n hx hb dX1_together_5 rfl (lv_at hl 0 rfl) ?_
      refine va_get (D := E.1) (ci := 2) (v := .ref (a 1)) (C := RX1) (T := TX1) (N := 3) hx hb hts hiX1 hown hK hP 0 h0x rfl 0 (by decide) (hts (.fieldLink RX1 10 "PulseLoom" "row" "Ljava/util/ArrayList;") (List.mem_of_getElem? (i := 1) (by rfl))) (fun _ h9 => h9) rfl dX1_together_6 ?_
      refine csV_i (rest := [.int (nI i)]) (As := []) ⟨hx, hb, hml, hown, hts⟩ (c_Jx4a65c_size_8abf5 l E _ 1 _ _ _ n h1x) (cwV 0 hts gX1_together_Jx4a65c_size_8abf5 rfl rfl rfl (by decide +kernel) ⟨Nat.le_of_ble_eq_true rfl, Nat.le_of_ble_eq_true rfl⟩) (va_recv hK hP (ci := 0) (q0 := 1) rfl h1x) hP hK rfl hl.1 rfl (Nat.le_of_ble_eq_true rfl) dX1_together_9 (Nat.le_of_ble_eq_true rfl) (Nat.le_of_ble_eq_true rfl) (fun r9 hr9 => ?_)
      subst hr9
      refine nq_icmp_ge (tgt := 40) hx hb dX1_together_12 (by decide) (by omega) (by omega) (fun h12 => ?_) (fun h12 => ?_)
      · skip
        refine lv_lload_n hx hb dX1_together_40 rfl (lv_at hl 1 rfl) ?_
        rw [hQ]
        exact retS_l hx hb hr hlocks (congrArg lN (by rw [show i = n by omega])) dX1_together_41
      · skip
        have hi9 := hO4 i h12
        have hlb := lcmS_bd hpb hi
        refine lv_lload_n hx hb dX1_together_15 rfl (lv_at hl 1 rfl) ?_
        refine lv_aload_n hx hb dX1_together_16 rfl (lv_at hl 0 rfl) ?_
        refine va_get (D := E.1) (ci := 2) (v := .ref (a 1)) (C := RX1) (T := TX1) (N := 3) hx hb hts hiX1 hown hK hP 0 h0x rfl 0 (by decide) (hts (.fieldLink RX1 10 "PulseLoom" "row" "Ljava/util/ArrayList;") (List.mem_of_getElem? (i := 1) (by rfl))) (fun _ h9 => h9) rfl dX1_together_17 ?_
        refine lv_iload_n hx hb dX1_together_20 rfl (lv_at hl 2 rfl) ?_
        refine csV_r (rest := [.long (lN (lcmS F i))]) (As := [.int (nI i)]) ⟨hx, hb, hml, hown, hts⟩ (c_Jx4a65c_get_915e3 l E _ 1 _ _ _ n h1x 2 (arF a n) (h2x (by omega)) i (a (3 + i)) (by omega) (by omega) (arF_at (by omega))) (cwV 1 hts gX1_together_Jx4a65c_get_915e3 rfl rfl rfl (by decide +kernel) ⟨Nat.le_of_ble_eq_true rfl, Nat.le_of_ble_eq_true rfl⟩) (va_recv hK hP (ci := 0) (q0 := 1) rfl h1x) hP hK rfl hl.1 rfl (Nat.le_of_ble_eq_true rfl) dX1_together_21 (Nat.le_of_ble_eq_true rfl) (Nat.le_of_ble_eq_true rfl) (fun r21 hr21 => ?_)
        subst hr21
        refine va_castS hx hb hown (hts (.classLink RX1 38 "PulseLoom$Lamp") (List.mem_of_getElem? (i := 2) (by rfl))) (hK.1 1 _ rfl).2 (va_recv hK hP (ci := 1) (q0 := (3 + i)) rfl (h3x i (by omega))) dX1_together_24 ?_
        refine va_get (D := E.1) (ci := 1) (v := .int (nI (F i 0))) (C := RX0) (T := TX0) (N := 9) hx hb hts hiX0 hown hK hP (3 + i) (h3x i (by omega)) rfl 0 (by decide) (hts (.fieldLink RX1 51 "PulseLoom$Lamp" "period" "I") (List.mem_of_getElem? (i := 3) (by rfl))) (fun _ h9 => h9) rfl dX1_together_27 ?_
        refine csS_l (rest := []) (As := [.long (lN (lcmS F i)), .int (nI (F i 0))]) ⟨hx, hb, hml, hown, hts⟩ (c_X1_smallestMultiple l E _ (lcmS F i) (F i 0) (by omega) (by omega)) (va_cwS 2 hts gX1_together_X1_smallestMultiple rfl rfl rfl (by decide +kernel) ⟨Nat.le_of_ble_eq_true rfl, Nat.le_of_ble_eq_true rfl⟩) hP hK rfl hl.1 rfl (Nat.le_of_ble_eq_true rfl) dX1_together_30 (Nat.le_of_ble_eq_true rfl) (Nat.le_of_ble_eq_true rfl) (fun r30 hr30 => ?_)
        subst hr30
        refine lv_lstore_n (lv' := [(1, .long (lN (Nat.lcm (lcmS F i) (F i 0)))), (0, .ref (a 0)), (3, .int (nI i))]) hx hb dX1_together_33 rfl hl (by decide) rfl (fun ls hl => ?_)
        refine nq_inc (lv' := [(3, .int (nI (i + 1))), (1, .long (lN (Nat.lcm (lcmS F i) (F i 0)))), (0, .ref (a 0))]) hx hb dX1_together_34 (d := 1) rfl hl (k := 2) rfl (by decide) rfl (fun ls hl => ?_)
        refine lv_goto (tgt := 4) hx hb dX1_together_37 (by decide) ?_
        have hl : lv_has ls 4 [(3, .int (nI (i + 1))), (1, .long (lN (lcmS F (i + 1)))), (0, .ref (a 0))] := lv_rep hl 1 rfl (congrArg Value.long (show (lN (Nat.lcm (lcmS F i) (F i 0))) = (lN (lcmS F (i + 1))) from rfl))
        exact ih4 (i + 1) ls (by omega) (by omega) (lv_sub hl [2, 1, 0] rfl)
  have hl : lv_has ls 4 [(3, .int (nI 0)), (1, .long (lN (lcmS F 0))), (0, .ref (a 0))] := lv_rep hl 1 rfl (congrArg Value.long (show 1 = (lN (lcmS F 0)) from rfl))
  exact loop4 ((n - 0) + 1) 0 ls (by omega) (Nat.lt_succ_self _) (lv_sub hl [2, 1, 0] rfl)

set_option maxHeartbeats 4000000 in
set_option maxRecDepth 100000 in
/-- meet(k, j) -/
theorem c_X1_meet (l : Launch) (E : GE) (w : va_W) (a : Nat → Nat) (n now lim : Nat) (F : LR) (lit : Nat → Bool) (fo : Nat → Nat) (hv : CV E a n now lim (LF F lit fo) w) (hO : OkS n now lim F) (k j : Nat) (hk : k < n) (hj : j < n) : Met l yX1_meet wsX1_meet ({ frames := 4, cells := 0, slots := 0, locals := 85 } : Room) (va_Pc [.ref (a 0), .int (nI k), .int (nI j)] (pcS E (w))) (vp_Si (fun r => r = bI (meetS F k (F k 3 : Int) j))) 0 0 (fun _ => False) := by
  refine metS (by decide) rfl (Nat.le_of_ble_eq_true rfl) ?_
  intro p e s m args below meth c ls hx hb hr hml hts hown hlocks hP hK hl
  have hiX0 : ∀ q ∈ wsX00, q ∈ wsX1_meet := by decide +kernel
  obtain ⟨mc, h0x, h1x, h2x, h3x⟩ := cv_all hv
  obtain ⟨hO1, hO2, hO3, hO4, hO5⟩ := id hO
  have hk9 := hO4 k hk
  have hj9 := hO4 j hj
  refine lv_aload_n hx hb dX1_meet_0 rfl (lv_at hl 0 rfl) ?_
  refine lv_iload_n hx hb dX1_meet_1 rfl (lv_at hl 1 rfl) ?_
  refine csV_r (rest := []) (As := [.int (nI k)]) ⟨hx, hb, hml, hown, hts⟩ (c_X1_lampAt l E _ a n now lim F lit fo hv hO k (by omega)) (cwV 1 hts gX1_meet_X1_lampAt rfl rfl rfl (by decide +kernel) ⟨Nat.le_of_ble_eq_true rfl, Nat.le_of_ble_eq_true rfl⟩) (va_recv hK hP (ci := 2) (q0 := 0) rfl h0x) hP hK rfl hl.1 rfl (Nat.le_of_ble_eq_true rfl) dX1_meet_2 (Nat.le_of_ble_eq_true rfl) (Nat.le_of_ble_eq_true rfl) (fun r2 hr2 => ?_)
  subst hr2
  refine lv_astore_n (lv' := [(3, .ref (a (3 + k))), (0, .ref (a 0)), (1, .int (nI k)), (2, .int (nI j))]) hx hb dX1_meet_5 rfl hl (by decide) rfl (fun ls hl => ?_)
  refine lv_aload_n hx hb dX1_meet_6 rfl (lv_at hl 1 rfl) ?_
  refine lv_iload_n hx hb dX1_meet_7 rfl (lv_at hl 3 rfl) ?_
  refine csV_r (rest := []) (As := [.int (nI j)]) ⟨hx, hb, hml, hown, hts⟩ (c_X1_lampAt l E _ a n now lim F lit fo hv hO j (by omega)) (cwV 1 hts gX1_meet_X1_lampAt rfl rfl rfl (by decide +kernel) ⟨Nat.le_of_ble_eq_true rfl, Nat.le_of_ble_eq_true rfl⟩) (va_recv hK hP (ci := 2) (q0 := 0) rfl h0x) hP hK rfl hl.1 rfl (Nat.le_of_ble_eq_true rfl) dX1_meet_8 (Nat.le_of_ble_eq_true rfl) (Nat.le_of_ble_eq_true rfl) (fun r8 hr8 => ?_)
  subst hr8
  refine lv_astore (lv' := [(4, .ref (a (3 + j))), (3, .ref (a (3 + k))), (0, .ref (a 0)), (1, .int (nI k)), (2, .int (nI j))]) hx hb dX1_meet_11 hl (by decide) rfl (fun ls hl => ?_)
  refine lv_aload_n hx hb dX1_meet_13 rfl (lv_at hl 1 rfl) ?_
  refine lv_aload_n hx hb dX1_meet_14 rfl (lv_at hl 1 rfl) ?_
  refine va_get (D := E.1) (ci := 1) (v := .int (nI (F k 3))) (C := RX0) (T := TX0) (N := 9) hx hb hts hiX0 hown hK hP (3 + k) (h3x k (by omega)) rfl 3 (by decide) (hts (.fieldLink RX1 54 "PulseLoom$Lamp" "shift" "I") (List.mem_of_getElem? (i := 1) (by rfl))) (fun _ h9 => h9) rfl dX1_meet_15 ?_
  refine lv_aload hx hb dX1_meet_18 (lv_at hl 0 rfl) ?_
  refine csS_i (rest := []) (As := [.ref (a (3 + k)), .int (nI (F k 3)), .ref (a (3 + j))]) ⟨hx, hb, hml, hown, hts⟩ (c_X1_wouldMeet l E _ (3 + k) (a (3 + k)) (3 + j) (a (3 + j)) F _ _ k j (F k 3) (h3x k (by omega)) (h3x j (by omega)) (okp hO (i := k) (by omega)) (okp hO (i := j) (by omega)) (by omega)) (va_cwS 3 hts gX1_meet_X1_wouldMeet rfl rfl rfl (by decide +kernel) ⟨Nat.le_of_ble_eq_true rfl, Nat.le_of_ble_eq_true rfl⟩) hP hK rfl hl.1 rfl (Nat.le_of_ble_eq_true rfl) dX1_meet_20 (Nat.le_of_ble_eq_true rfl) (Nat.le_of_ble_eq_true rfl) (fun r20 hr20 => ?_)
  subst hr20
  exact retS_z hx hb hr hlocks (rfl) dX1_meet_23

set_option maxHeartbeats 4000000 in
set_option maxRecDepth 100000 in
/-- meets(k) -/
theorem c_X1_meets (l : Launch) (E : GE) (w : va_W) (a : Nat → Nat) (n now lim : Nat) (F : LR) (lit : Nat → Bool) (fo : Nat → Nat) (hv : CV E a n now lim (LF F lit fo) w) (hO : OkS n now lim F) (hinj : ∀ i j : Nat, i < n → j < n → a (3 + i) = a (3 + j) → i = j) (k : Nat) (hk : k < n) : Met l yX1_meets wsX1_meets ({ frames := 4, cells := 0, slots := 0, locals := 91 } : Room) (va_Pc [.ref (a 0), .int (nI k)] (pcS E (w))) (vp_Si (fun r => r = nI (mtS F k (F k 3 : Int) n))) 0 0 (fun _ => False) := by
  refine metS (by decide) rfl (Nat.le_of_ble_eq_true rfl) ?_
  intro p e s m args below meth c ls hx hb hr hml hts hown hlocks hP hK hl
  have hiX0 : ∀ q ∈ wsX00, q ∈ wsX1_meets := by decide +kernel
  obtain ⟨mc, h0x, h1x, h2x, h3x⟩ := cv_all hv
  obtain ⟨hO1, hO2, hO3, hO4, hO5⟩ := id hO
  have hk9 := hO4 k hk
  refine lv_aload_n hx hb dX1_meets_0 rfl (lv_at hl 0 rfl) ?_
  refine lv_iload_n hx hb dX1_meets_1 rfl (lv_at hl 1 rfl) ?_
  refine csV_r (rest := []) (As := [.int (nI k)]) ⟨hx, hb, hml, hown, hts⟩ (c_X1_lampAt l E _ a n now lim F lit fo hv hO k (by omega)) (cwV 1 hts gX1_meets_X1_lampAt rfl rfl rfl (by decide +kernel) ⟨Nat.le_of_ble_eq_true rfl, Nat.le_of_ble_eq_true rfl⟩) (va_recv hK hP (ci := 2) (q0 := 0) rfl h0x) hP hK rfl hl.1 rfl (Nat.le_of_ble_eq_true rfl) dX1_meets_2 (Nat.le_of_ble_eq_true rfl) (Nat.le_of_ble_eq_true rfl) (fun r2 hr2 => ?_)
  subst hr2
  refine lv_astore_n (lv' := [(2, .ref (a (3 + k))), (0, .ref (a 0)), (1, .int (nI k))]) hx hb dX1_meets_5 rfl hl (by decide) rfl (fun ls hl => ?_)
  refine lv_aload_n hx hb dX1_meets_6 rfl (lv_at hl 1 rfl) ?_
  refine lv_aload_n hx hb dX1_meets_7 rfl (lv_at hl 0 rfl) ?_
  refine lv_aload_n hx hb dX1_meets_8 rfl (lv_at hl 0 rfl) ?_
  refine va_get (D := E.1) (ci := 1) (v := .int (nI (F k 3))) (C := RX0) (T := TX0) (N := 9) hx hb hts hiX0 hown hK hP (3 + k) (h3x k (by omega)) rfl 3 (by decide) (hts (.fieldLink RX1 54 "PulseLoom$Lamp" "shift" "I") (List.mem_of_getElem? (i := 1) (by rfl))) (fun _ h9 => h9) rfl dX1_meets_9 ?_
  refine csV_i (rest := []) (As := [.ref (a (3 + k)), .int (nI (F k 3))]) ⟨hx, hb, hml, hown, hts⟩ (c_X1_countMet l E _ a n now lim F lit fo hv hO hinj k (F k 3) (by omega) (by omega)) (cwV 2 hts gX1_meets_X1_countMet rfl rfl rfl (by decide +kernel) ⟨Nat.le_of_ble_eq_true rfl, Nat.le_of_ble_eq_true rfl⟩) (va_recv hK hP (ci := 2) (q0 := 0) rfl h0x) hP hK rfl hl.1 rfl (Nat.le_of_ble_eq_true rfl) dX1_meets_12 (Nat.le_of_ble_eq_true rfl) (Nat.le_of_ble_eq_true rfl) (fun r12 hr12 => ?_)
  subst hr12
  exact retS_i hx hb hr hlocks (rfl) dX1_meets_15

set_option maxHeartbeats 4000000 in
set_option maxRecDepth 100000 in
/-- beatsUntilMeet(k, j) -/
theorem c_X1_beatsUntilMeet (l : Launch) (E : GE) (w : va_W) (a : Nat → Nat) (n now lim : Nat) (F : LR) (lit : Nat → Bool) (fo : Nat → Nat) (hv : CV E a n now lim (LF F lit fo) w) (hO : OkS n now lim F) (k j : Nat) (hk : k < n) (hj : j < n) : Met l yX1_beatsUntilMeet wsX1_beatsUntilMeet ({ frames := 4, cells := 0, slots := 0, locals := 85 } : Room) (va_Pc [.ref (a 0), .int (nI k), .int (nI j)] (pcS E (w))) (vp_Si (fun r => r = iI (untilS F now k j))) 0 0 (fun _ => False) := by
  refine metS (by decide) rfl (Nat.le_of_ble_eq_true rfl) ?_
  intro p e s m args below meth c ls hx hb hr hml hts hown hlocks hP hK hl
  have hiX1 : ∀ q ∈ wsX10, q ∈ wsX1_beatsUntilMeet := by decide +kernel
  have hiX0 : ∀ q ∈ wsX00, q ∈ wsX1_beatsUntilMeet := by decide +kernel
  obtain ⟨QQ, hQ⟩ : ∃ zQ, zQ = MQ below (vp_Si (fun r => r = iI (untilS F now k j))) args s 0 0 (fun _ => False) := ⟨_, rfl⟩
  rw [← hQ]
  obtain ⟨mc, h0x, h1x, h2x, h3x⟩ := cv_all hv
  obtain ⟨hO1, hO2, hO3, hO4, hO5⟩ := id hO
  have hk9 := hO4 k hk
  have hj9 := hO4 j hj
  have hw9 := wait_le (b := now) (i := k) (F := F) (by omega)
  refine lv_aload_n hx hb dX1_beatsUntilMeet_0 rfl (lv_at hl 0 rfl) ?_
  refine lv_iload_n hx hb dX1_beatsUntilMeet_1 rfl (lv_at hl 1 rfl) ?_
  refine csV_r (rest := []) (As := [.int (nI k)]) ⟨hx, hb, hml, hown, hts⟩ (c_X1_lampAt l E _ a n now lim F lit fo hv hO k (by omega)) (cwV 1 hts gX1_beatsUntilMeet_X1_lampAt rfl rfl rfl (by decide +kernel) ⟨Nat.le_of_ble_eq_true rfl, Nat.le_of_ble_eq_true rfl⟩) (va_recv hK hP (ci := 2) (q0 := 0) rfl h0x) hP hK rfl hl.1 rfl (Nat.le_of_ble_eq_true rfl) dX1_beatsUntilMeet_2 (Nat.le_of_ble_eq_true rfl) (Nat.le_of_ble_eq_true rfl) (fun r2 hr2 => ?_)
  subst hr2
  refine lv_astore_n (lv' := [(3, .ref (a (3 + k))), (0, .ref (a 0)), (1, .int (nI k)), (2, .int (nI j))]) hx hb dX1_beatsUntilMeet_5 rfl hl (by decide) rfl (fun ls hl => ?_)
  refine lv_aload_n hx hb dX1_beatsUntilMeet_6 rfl (lv_at hl 1 rfl) ?_
  refine lv_iload_n hx hb dX1_beatsUntilMeet_7 rfl (lv_at hl 3 rfl) ?_
  refine csV_r (rest := []) (As := [.int (nI j)]) ⟨hx, hb, hml, hown, hts⟩ (c_X1_lampAt l E _ a n now lim F lit fo hv hO j (by omega)) (cwV 1 hts gX1_beatsUntilMeet_X1_lampAt rfl rfl rfl (by decide +kernel) ⟨Nat.le_of_ble_eq_true rfl, Nat.le_of_ble_eq_true rfl⟩) (va_recv hK hP (ci := 2) (q0 := 0) rfl h0x) hP hK rfl hl.1 rfl (Nat.le_of_ble_eq_true rfl) dX1_beatsUntilMeet_8 (Nat.le_of_ble_eq_true rfl) (Nat.le_of_ble_eq_true rfl) (fun r8 hr8 => ?_)
  subst hr8
  refine lv_astore (lv' := [(4, .ref (a (3 + j))), (3, .ref (a (3 + k))), (0, .ref (a 0)), (1, .int (nI k)), (2, .int (nI j))]) hx hb dX1_beatsUntilMeet_11 hl (by decide) rfl (fun ls hl => ?_)
  refine lv_aload_n hx hb dX1_beatsUntilMeet_13 rfl (lv_at hl 1 rfl) ?_
  refine lv_aload_n hx hb dX1_beatsUntilMeet_14 rfl (lv_at hl 2 rfl) ?_
  refine va_get (D := E.1) (ci := 2) (v := .int (nI now)) (C := RX1) (T := TX1) (N := 3) hx hb hts hiX1 hown hK hP 0 h0x rfl 1 (by decide) (hts (.fieldLink RX1 16 "PulseLoom" "now" "I") (List.mem_of_getElem? (i := 1) (by rfl))) (fun _ h9 => h9) rfl dX1_beatsUntilMeet_15 ?_
  refine csV_i (rest := []) (As := [.int (nI now)]) ⟨hx, hb, hml, hown, hts⟩ (c_X0_beatsUntilItLightsUp l E _ (3 + k) (a (3 + k)) F _ _ k now (h3x k (by omega)) ((okp hO (i := k) (by omega))) (by omega)) (cwV 1 hts gX1_beatsUntilMeet_X0_beatsUntilItLightsUp rfl rfl rfl (by decide +kernel) ⟨Nat.le_of_ble_eq_true rfl, Nat.le_of_ble_eq_true rfl⟩) (va_recv hK hP (ci := 1) (q0 := (3 + k)) rfl (h3x k (by omega))) hP hK rfl hl.1 rfl (Nat.le_of_ble_eq_true rfl) dX1_beatsUntilMeet_18 (Nat.le_of_ble_eq_true rfl) (Nat.le_of_ble_eq_true rfl) (fun r18 hr18 => ?_)
  subst hr18
  refine lv_istore (lv' := [(5, .int (nI (wait F k now))), (4, .ref (a (3 + j))), (3, .ref (a (3 + k))), (0, .ref (a 0)), (1, .int (nI k)), (2, .int (nI j))]) hx hb dX1_beatsUntilMeet_21 hl (by decide) rfl (fun ls hl => ?_)
  refine lv_iconst (v := (nI 0)) hx hb dX1_beatsUntilMeet_23 (by decide) ?_
  refine lv_istore (lv' := [(6, .int (nI 0)), (5, .int (nI (wait F k now))), (4, .ref (a (3 + j))), (3, .ref (a (3 + k))), (0, .ref (a 0)), (1, .int (nI k)), (2, .int (nI j))]) hx hb dX1_beatsUntilMeet_24 hl (by decide) rfl (fun ls hl => ?_)
  have loop26 : ∀ (tk : Nat) (t : Nat) (ls : Array Slot), (t ≤ F j 0) → (∀ q, q < t → ph F j (now + (wait F k now + q * F k 0)) ≠ 0) → (F j 0 - t) < tk → lv_has ls 7 [(0, .ref (a 0)), (3, .ref (a (3 + k))), (4, .ref (a (3 + j))), (5, .int (nI (wait F k now + t * F k 0))), (6, .int (nI t))] → W p l e ({ frames := 4, cells := 0, slots := 0, locals := 85 } : Room) s m args below meth c s.heap [] 0 0 QQ (F0 m 26 ls []) := by
    intro tk
    induction tk with
    | zero => intro t ls ht hn9 hk hl; exact absurd hk (Nat.not_lt_zero _)
    | succ tk ih26 =>
      intro t ls ht hn9 hk hl
      have hm9 : t * F k 0 ≤ 20 * 20 := Nat.mul_le_mul (by omega) (by omega)
      refine lv_iload hx hb dX1_beatsUntilMeet_26 (lv_at hl 4 rfl) ?_
      refine lv_aload hx hb dX1_beatsUntilMeet_28 (lv_at hl 2 rfl) ?_
      refine va_get (D := E.1) (ci := 1) (v := .int (nI (F j 0))) (C := RX0) (T := TX0) (N := 9) hx hb hts hiX0 hown hK hP (3 + j) (h3x j (by omega)) rfl 0 (by decide) (hts (.fieldLink RX1 51 "PulseLoom$Lamp" "period" "I") (List.mem_of_getElem? (i := 2) (by rfl))) (fun _ h9 => h9) rfl dX1_beatsUntilMeet_30 ?_
      refine nq_icmp_ge (tgt := 69) hx hb dX1_beatsUntilMeet_33 (by decide) (by omega) (by omega) (fun h33 => ?_) (fun h33 => ?_)
      · skip
        refine lv_iconst (v := (iI (-1))) hx hb dX1_beatsUntilMeet_69 (by decide) ?_
        rw [hQ]
        exact retS_i hx hb hr hlocks (congrArg iI (by unfold untilS; exact (ufind_none _ 0 (fun q _ hq => hn9 q (by omega))).symm)) dX1_beatsUntilMeet_70
      · skip
        refine lv_aload hx hb dX1_beatsUntilMeet_36 (lv_at hl 2 rfl) ?_
        refine lv_aload_n hx hb dX1_beatsUntilMeet_38 rfl (lv_at hl 0 rfl) ?_
        refine va_get (D := E.1) (ci := 2) (v := .int (nI now)) (C := RX1) (T := TX1) (N := 3) hx hb hts hiX1 hown hK hP 0 h0x rfl 1 (by decide) (hts (.fieldLink RX1 16 "PulseLoom" "now" "I") (List.mem_of_getElem? (i := 1) (by rfl))) (fun _ h9 => h9) rfl dX1_beatsUntilMeet_39 ?_
        refine lv_iload hx hb dX1_beatsUntilMeet_42 (lv_at hl 3 rfl) ?_
        refine nq_add hx hb dX1_beatsUntilMeet_44 ?_
        refine csV_i (rest := []) (As := [.int (nI (now + (wait F k now + t * F k 0)))]) ⟨hx, hb, hml, hown, hts⟩ (c_X0_lightsUpAt l E _ (3 + j) (a (3 + j)) F _ _ j (now + (wait F k now + t * F k 0)) (h3x j (by omega)) ((okp hO (i := j) (by omega))) (by omega)) (cwV 1 hts gX1_beatsUntilMeet_X0_lightsUpAt rfl rfl rfl (by decide +kernel) ⟨Nat.le_of_ble_eq_true rfl, Nat.le_of_ble_eq_true rfl⟩) (va_recv hK hP (ci := 1) (q0 := (3 + j)) rfl (h3x j (by omega))) hP hK rfl hl.1 rfl (Nat.le_of_ble_eq_true rfl) dX1_beatsUntilMeet_45 (Nat.le_of_ble_eq_true rfl) (Nat.le_of_ble_eq_true rfl) (fun r45 hr45 => ?_)
        subst hr45
        refine bq_if_eq (tgt := 54) hx hb dX1_beatsUntilMeet_48 (by decide) (fun h48 => ?_) (fun h48 => ?_)
        · skip
          refine lv_iload hx hb dX1_beatsUntilMeet_54 (lv_at hl 3 rfl) ?_
          refine lv_aload_n hx hb dX1_beatsUntilMeet_56 rfl (lv_at hl 1 rfl) ?_
          refine va_get (D := E.1) (ci := 1) (v := .int (nI (F k 0))) (C := RX0) (T := TX0) (N := 9) hx hb hts hiX0 hown hK hP (3 + k) (h3x k (by omega)) rfl 0 (by decide) (hts (.fieldLink RX1 51 "PulseLoom$Lamp" "period" "I") (List.mem_of_getElem? (i := 2) (by rfl))) (fun _ h9 => h9) rfl dX1_beatsUntilMeet_57 ?_
          refine nq_add hx hb dX1_beatsUntilMeet_60 ?_
          refine lv_istore (lv' := [(5, .int (nI ((wait F k now + t * F k 0) + (F k 0)))), (0, .ref (a 0)), (3, .ref (a (3 + k))), (4, .ref (a (3 + j))), (6, .int (nI t))]) hx hb dX1_beatsUntilMeet_61 hl (by decide) rfl (fun ls hl => ?_)
          refine nq_inc (lv' := [(6, .int (nI (t + 1))), (5, .int (nI ((wait F k now + t * F k 0) + (F k 0)))), (0, .ref (a 0)), (3, .ref (a (3 + k))), (4, .ref (a (3 + j)))]) hx hb dX1_beatsUntilMeet_63 (d := 1) rfl hl (k := 4) rfl (by decide) rfl (fun ls hl => ?_)
          refine lv_goto (tgt := 26) hx hb dX1_beatsUntilMeet_66 (by decide) ?_
          have hl : lv_has ls 7 [(6, .int (nI (t + 1))), (5, .int (nI (wait F k now + (t + 1) * F k 0))), (0, .ref (a 0)), (3, .ref (a (3 + k))), (4, .ref (a (3 + j)))] := lv_rep hl 1 rfl (congrArg Value.int (show (nI ((wait F k now + t * F k 0) + (F k 0))) = (nI (wait F k now + (t + 1) * F k 0)) from congrArg nI (by rw [Nat.succ_mul]; omega)))
          exact ih26 (t + 1) ls (by omega) (by intro q hq; rcases Nat.lt_or_ge q t with z | z; exact hn9 q z; rw [show q = t by omega]; exact of_decide_eq_false h48) (by omega) (lv_sub hl [2, 3, 4, 1, 0] rfl)
        · skip
          refine lv_iload hx hb dX1_beatsUntilMeet_51 (lv_at hl 3 rfl) ?_
          rw [hQ]
          exact retS_i hx hb hr hlocks (by rw [ufind_at (by omega) (of_decide_eq_true h48) hn9]; exact (iI_n _).symm) dX1_beatsUntilMeet_53
  have hl : lv_has ls 7 [(6, .int (nI 0)), (5, .int (nI (wait F k now + 0 * F k 0))), (4, .ref (a (3 + j))), (3, .ref (a (3 + k))), (0, .ref (a 0)), (1, .int (nI k)), (2, .int (nI j))] := lv_rep hl 1 rfl (congrArg Value.int (show (nI (wait F k now)) = (nI (wait F k now + 0 * F k 0)) from congrArg nI (by rw [Nat.zero_mul]; rfl)))
  exact loop26 ((F j 0 - 0) + 1) 0 ls (by omega) (fun q hq => absurd hq (by omega)) (Nat.lt_succ_self _) (lv_sub hl [4, 3, 2, 1, 0] rfl)

set_option maxHeartbeats 4000000 in
set_option maxRecDepth 100000 in
/-- apart() -/
theorem c_X1_apart (l : Launch) (E : GE) (w : va_W) (a : Nat → Nat) (n now lim : Nat) (F : LR) (lit : Nat → Bool) (fo : Nat → Nat) (hv : CV E a n now lim (LF F lit fo) w) (hO : OkS n now lim F) : Met l yX1_apart wsX1_apart ({ frames := 3, cells := 0, slots := 0, locals := 66 } : Room) (va_Pc [.ref (a 0)] (pcS E (w))) (vp_Si (fun r => r = nI (apS F n n))) 0 0 (fun _ => False) := by
  refine metS (by decide) rfl (Nat.le_of_ble_eq_true rfl) ?_
  intro p e s m args below meth c ls hx hb hr hml hts hown hlocks hP hK hl
  have hiX1 : ∀ q ∈ wsX10, q ∈ wsX1_apart := by decide +kernel
  have hiX0 : ∀ q ∈ wsX00, q ∈ wsX1_apart := by decide +kernel
  obtain ⟨QQ, hQ⟩ : ∃ zQ, zQ = MQ below (vp_Si (fun r => r = nI (apS F n n))) args s 0 0 (fun _ => False) := ⟨_, rfl⟩
  rw [← hQ]
  obtain ⟨mc, h0x, h1x, h2x, h3x⟩ := cv_all hv
  obtain ⟨hO1, hO2, hO3, hO4, hO5⟩ := id hO
  refine lv_iconst (v := (nI 0)) hx hb dX1_apart_0 (by decide) ?_
  refine lv_istore_n (lv' := [(1, .int (nI 0)), (0, .ref (a 0))]) hx hb dX1_apart_1 rfl hl (by decide) rfl (fun ls hl => ?_)
  refine lv_iconst (v := (nI 0)) hx hb dX1_apart_2 (by decide) ?_
  refine lv_istore_n (lv' := [(2, .int (nI 0)), (1, .int (nI 0)), (0, .ref (a 0))]) hx hb dX1_apart_3 rfl hl (by decide) rfl (fun ls hl => ?_)
  have loop4 : ∀ (tk : Nat) (i : Nat) (ls : Array Slot), (i ≤ n) → (n - i) < tk → lv_has ls 5 [(0, .ref (a 0)), (1, .int (nI (apS F n i))), (2, .int (nI i))] → W p l e ({ frames := 3, cells := 0, slots := 0, locals := 66 } : Room) s m args below meth c s.heap [] 0 0 QQ (F0 m 4 ls []) := by
    intro tk
    induction tk with
    | zero => intro i ls hi hk hl; exact absurd hk (Nat.not_lt_zero _)
    | succ tk ih4 =>
      intro i ls hi hk hl
      have hap := apS_le F n i
      refine lv_iload_n hx hb dX1_apart_4 rfl (lv_at hl 2 rfl) ?_
      refine lv_aload_n hx hb dX1_apart_5 rfl (lv_at hl 0 rfl) ?_
      refine va_get (D := E.1) (ci := 2) (v := .ref (a 1)) (C := RX1) (T := TX1) (N := 3) hx hb hts hiX1 hown hK hP 0 h0x rfl 0 (by decide) (hts (.fieldLink RX1 10 "PulseLoom" "row" "Ljava/util/ArrayList;") (List.mem_of_getElem? (i := 1) (by rfl))) (fun _ h9 => h9) rfl dX1_apart_6 ?_
      refine csV_i (rest := [.int (nI i)]) (As := []) ⟨hx, hb, hml, hown, hts⟩ (c_Jx4a65c_size_8abf5 l E _ 1 _ _ _ n h1x) (cwV 0 hts gX1_apart_Jx4a65c_size_8abf5 rfl rfl rfl (by decide +kernel) ⟨Nat.le_of_ble_eq_true rfl, Nat.le_of_ble_eq_true rfl⟩) (va_recv hK hP (ci := 0) (q0 := 1) rfl h1x) hP hK rfl hl.1 rfl (Nat.le_of_ble_eq_true rfl) dX1_apart_9 (Nat.le_of_ble_eq_true rfl) (Nat.le_of_ble_eq_true rfl) (fun r9 hr9 => ?_)
      subst hr9
      refine nq_icmp_ge (tgt := 82) hx hb dX1_apart_12 (by decide) (by omega) (by omega) (fun h12 => ?_) (fun h12 => ?_)
      · skip
        refine lv_iload_n hx hb dX1_apart_82 rfl (lv_at hl 1 rfl) ?_
        rw [hQ]
        exact retS_i hx hb hr hlocks (congrArg nI (by rw [show i = n by omega])) dX1_apart_83
      · skip
        have hi9 := hO4 i h12
        refine lv_aload_n hx hb dX1_apart_15 rfl (lv_at hl 0 rfl) ?_
        refine va_get (D := E.1) (ci := 2) (v := .ref (a 1)) (C := RX1) (T := TX1) (N := 3) hx hb hts hiX1 hown hK hP 0 h0x rfl 0 (by decide) (hts (.fieldLink RX1 10 "PulseLoom" "row" "Ljava/util/ArrayList;") (List.mem_of_getElem? (i := 1) (by rfl))) (fun _ h9 => h9) rfl dX1_apart_16 ?_
        refine lv_iload_n hx hb dX1_apart_19 rfl (lv_at hl 2 rfl) ?_
        refine csV_r (rest := []) (As := [.int (nI i)]) ⟨hx, hb, hml, hown, hts⟩ (c_Jx4a65c_get_915e3 l E _ 1 _ _ _ n h1x 2 (arF a n) (h2x (by omega)) i (a (3 + i)) (by omega) (by omega) (arF_at (by omega))) (cwV 1 hts gX1_apart_Jx4a65c_get_915e3 rfl rfl rfl (by decide +kernel) ⟨Nat.le_of_ble_eq_true rfl, Nat.le_of_ble_eq_true rfl⟩) (va_recv hK hP (ci := 0) (q0 := 1) rfl h1x) hP hK rfl hl.1 rfl (Nat.le_of_ble_eq_true rfl) dX1_apart_20 (Nat.le_of_ble_eq_true rfl) (Nat.le_of_ble_eq_true rfl) (fun r20 hr20 => ?_)
        subst hr20
        refine va_castS hx hb hown (hts (.classLink RX1 38 "PulseLoom$Lamp") (List.mem_of_getElem? (i := 2) (by rfl))) (hK.1 1 _ rfl).2 (va_recv hK hP (ci := 1) (q0 := (3 + i)) rfl (h3x i (by omega))) dX1_apart_23 ?_
        refine lv_astore_n (lv' := [(3, .ref (a (3 + i))), (0, .ref (a 0)), (1, .int (nI (apS F n i))), (2, .int (nI i))]) hx hb dX1_apart_26 rfl hl (by decide) rfl (fun ls hl => ?_)
        refine lv_iload_n hx hb dX1_apart_27 rfl (lv_at hl 3 rfl) ?_
        refine lv_iconst (v := (nI 1)) hx hb dX1_apart_28 (by decide) ?_
        refine nq_add hx hb dX1_apart_29 ?_
        refine lv_istore (lv' := [(4, .int (nI (i + 1))), (3, .ref (a (3 + i))), (0, .ref (a 0)), (1, .int (nI (apS F n i))), (2, .int (nI i))]) hx hb dX1_apart_30 hl (by decide) rfl (fun ls hl => ?_)
        have loop32 : ∀ (tk : Nat) (j : Nat) (ls : Array Slot), (i + 1 ≤ j ∧ j ≤ n) → (n - j) < tk → lv_has ls 5 [(0, .ref (a 0)), (1, .int (nI (apS F n i + apI F i j))), (2, .int (nI i)), (3, .ref (a (3 + i))), (4, .int (nI j))] → W p l e ({ frames := 3, cells := 0, slots := 0, locals := 66 } : Room) s m args below meth c s.heap [] 0 0 QQ (F0 m 32 ls []) := by
          intro tk
          induction tk with
          | zero => intro j ls hj hk hl; exact absurd hk (Nat.not_lt_zero _)
          | succ tk ih32 =>
            intro j ls hj hk hl
            refine lv_iload hx hb dX1_apart_32 (lv_at hl 4 rfl) ?_
            refine lv_aload_n hx hb dX1_apart_34 rfl (lv_at hl 0 rfl) ?_
            refine va_get (D := E.1) (ci := 2) (v := .ref (a 1)) (C := RX1) (T := TX1) (N := 3) hx hb hts hiX1 hown hK hP 0 h0x rfl 0 (by decide) (hts (.fieldLink RX1 10 "PulseLoom" "row" "Ljava/util/ArrayList;") (List.mem_of_getElem? (i := 1) (by rfl))) (fun _ h9 => h9) rfl dX1_apart_35 ?_
            refine csV_i (rest := [.int (nI j)]) (As := []) ⟨hx, hb, hml, hown, hts⟩ (c_Jx4a65c_size_8abf5 l E _ 1 _ _ _ n h1x) (cwV 0 hts gX1_apart_Jx4a65c_size_8abf5 rfl rfl rfl (by decide +kernel) ⟨Nat.le_of_ble_eq_true rfl, Nat.le_of_ble_eq_true rfl⟩) (va_recv hK hP (ci := 0) (q0 := 1) rfl h1x) hP hK rfl hl.1 rfl (Nat.le_of_ble_eq_true rfl) dX1_apart_38 (Nat.le_of_ble_eq_true rfl) (Nat.le_of_ble_eq_true rfl) (fun r38 hr38 => ?_)
            subst hr38
            refine nq_icmp_ge (tgt := 76) hx hb dX1_apart_41 (by decide) (by omega) (by omega) (fun h41 => ?_) (fun h41 => ?_)
            · skip
              refine nq_inc (lv' := [(2, .int (nI (i + 1))), (0, .ref (a 0)), (1, .int (nI (apS F n i + apI F i j))), (3, .ref (a (3 + i))), (4, .int (nI j))]) hx hb dX1_apart_76 (d := 1) rfl hl (k := 2) rfl (by decide) rfl (fun ls hl => ?_)
              refine lv_goto (tgt := 4) hx hb dX1_apart_79 (by decide) ?_
              have hl : lv_has ls 5 [(2, .int (nI (i + 1))), (0, .ref (a 0)), (1, .int (nI (apS F n (i + 1)))), (3, .ref (a (3 + i))), (4, .int (nI j))] := lv_rep hl 2 rfl (congrArg Value.int (show (nI (apS F n i + apI F i j)) = (nI (apS F n (i + 1))) from congrArg nI (by rw [show j = n by omega]; rfl)))
              exact ih4 (i + 1) ls (by omega) (by omega) (lv_sub hl [1, 2, 0] rfl)
            · skip
              have hj9 := hO4 j h41
              refine lv_aload_n hx hb dX1_apart_44 rfl (lv_at hl 3 rfl) ?_
              refine lv_aload_n hx hb dX1_apart_45 rfl (lv_at hl 3 rfl) ?_
              refine va_get (D := E.1) (ci := 1) (v := .int (nI (F i 3))) (C := RX0) (T := TX0) (N := 9) hx hb hts hiX0 hown hK hP (3 + i) (h3x i (by omega)) rfl 3 (by decide) (hts (.fieldLink RX1 54 "PulseLoom$Lamp" "shift" "I") (List.mem_of_getElem? (i := 3) (by rfl))) (fun _ h9 => h9) rfl dX1_apart_46 ?_
              refine lv_aload_n hx hb dX1_apart_49 rfl (lv_at hl 0 rfl) ?_
              refine va_get (D := E.1) (ci := 2) (v := .ref (a 1)) (C := RX1) (T := TX1) (N := 3) hx hb hts hiX1 hown hK hP 0 h0x rfl 0 (by decide) (hts (.fieldLink RX1 10 "PulseLoom" "row" "Ljava/util/ArrayList;") (List.mem_of_getElem? (i := 1) (by rfl))) (fun _ h9 => h9) rfl dX1_apart_50 ?_
              refine lv_iload hx hb dX1_apart_53 (lv_at hl 4 rfl) ?_
              refine csV_r (rest := [.int (nI (F i 3)), .ref (a (3 + i))]) (As := [.int (nI j)]) ⟨hx, hb, hml, hown, hts⟩ (c_Jx4a65c_get_915e3 l E _ 1 _ _ _ n h1x 2 (arF a n) (h2x (by omega)) j (a (3 + j)) (by omega) (by omega) (arF_at (by omega))) (cwV 1 hts gX1_apart_Jx4a65c_get_915e3 rfl rfl rfl (by decide +kernel) ⟨Nat.le_of_ble_eq_true rfl, Nat.le_of_ble_eq_true rfl⟩) (va_recv hK hP (ci := 0) (q0 := 1) rfl h1x) hP hK rfl hl.1 rfl (Nat.le_of_ble_eq_true rfl) dX1_apart_55 (Nat.le_of_ble_eq_true rfl) (Nat.le_of_ble_eq_true rfl) (fun r55 hr55 => ?_)
              subst hr55
              refine va_castS hx hb hown (hts (.classLink RX1 38 "PulseLoom$Lamp") (List.mem_of_getElem? (i := 2) (by rfl))) (hK.1 1 _ rfl).2 (va_recv hK hP (ci := 1) (q0 := (3 + j)) rfl (h3x j (by omega))) dX1_apart_58 ?_
              refine csS_i (rest := []) (As := [.ref (a (3 + i)), .int (nI (F i 3)), .ref (a (3 + j))]) ⟨hx, hb, hml, hown, hts⟩ (c_X1_wouldMeet l E _ (3 + i) (a (3 + i)) (3 + j) (a (3 + j)) F _ _ i j (F i 3) (h3x i (by omega)) (h3x j (by omega)) (okp hO (i := i) (by omega)) (okp hO (i := j) (by omega)) (by omega)) (va_cwS 3 hts gX1_apart_X1_wouldMeet rfl rfl rfl (by decide +kernel) ⟨Nat.le_of_ble_eq_true rfl, Nat.le_of_ble_eq_true rfl⟩) hP hK rfl hl.1 rfl (Nat.le_of_ble_eq_true rfl) dX1_apart_61 (Nat.le_of_ble_eq_true rfl) (Nat.le_of_ble_eq_true rfl) (fun r61 hr61 => ?_)
              subst hr61
              refine bq_if_ne (tgt := 70) hx hb dX1_apart_64 (by decide) (fun h64 => ?_) (fun h64 => ?_)
              · skip
                refine nq_inc (lv' := [(4, .int (nI (j + 1))), (0, .ref (a 0)), (1, .int (nI (apS F n i + apI F i j))), (2, .int (nI i)), (3, .ref (a (3 + i)))]) hx hb dX1_apart_70 (d := 1) rfl hl (k := 4) rfl (by decide) rfl (fun ls hl => ?_)
                refine lv_goto (tgt := 32) hx hb dX1_apart_73 (by decide) ?_
                have hl : lv_has ls 5 [(4, .int (nI (j + 1))), (0, .ref (a 0)), (1, .int (nI (apS F n i + apI F i (j + 1)))), (2, .int (nI i)), (3, .ref (a (3 + i)))] := lv_rep hl 2 rfl (congrArg Value.int (show (nI (apS F n i + apI F i j)) = (nI (apS F n i + apI F i (j + 1))) from congrArg nI (by rw [apI_s, if_neg (show ¬ (i < j ∧ meetS F i (F i 3 : Int) j = false) from fun q => by rw [h64] at q; exact absurd q.2 (by decide))]; rfl)))
                exact ih32 (j + 1) ls (by omega) (by omega) (lv_sub hl [1, 2, 3, 4, 0] rfl)
              · skip
                refine nq_inc (lv' := [(1, .int (nI (apS F n i + apI F i j + 1))), (0, .ref (a 0)), (2, .int (nI i)), (3, .ref (a (3 + i))), (4, .int (nI j))]) hx hb dX1_apart_67 (d := 1) rfl hl (k := 1) rfl (by decide) rfl (fun ls hl => ?_)
                refine nq_inc (lv' := [(4, .int (nI (j + 1))), (1, .int (nI (apS F n i + apI F i j + 1))), (0, .ref (a 0)), (2, .int (nI i)), (3, .ref (a (3 + i)))]) hx hb dX1_apart_70 (d := 1) rfl hl (k := 4) rfl (by decide) rfl (fun ls hl => ?_)
                refine lv_goto (tgt := 32) hx hb dX1_apart_73 (by decide) ?_
                have hl : lv_has ls 5 [(4, .int (nI (j + 1))), (1, .int (nI (apS F n i + apI F i (j + 1)))), (0, .ref (a 0)), (2, .int (nI i)), (3, .ref (a (3 + i)))] := lv_rep hl 1 rfl (congrArg Value.int (show (nI (apS F n i + apI F i j + 1)) = (nI (apS F n i + apI F i (j + 1))) from congrArg nI (by rw [apI_s, if_pos (show i < j ∧ meetS F i (F i 3 : Int) j = false from ⟨by omega, h64⟩)]; omega)))
                exact ih32 (j + 1) ls (by omega) (by omega) (lv_sub hl [2, 1, 3, 4, 0] rfl)
        have hl : lv_has ls 5 [(4, .int (nI (i + 1))), (3, .ref (a (3 + i))), (0, .ref (a 0)), (1, .int (nI (apS F n i + apI F i (i + 1)))), (2, .int (nI i))] := lv_rep hl 3 rfl (congrArg Value.int (show (nI (apS F n i)) = (nI (apS F n i + apI F i (i + 1))) from congrArg nI (by rw [apI_ge F i (i + 1) (Nat.le_refl _)]; rfl)))
        exact loop32 ((n - (i + 1)) + 1) (i + 1) ls (by omega) (Nat.lt_succ_self _) (lv_sub hl [2, 3, 4, 1, 0] rfl)
  have hl : lv_has ls 5 [(2, .int (nI 0)), (1, .int (nI (apS F n 0))), (0, .ref (a 0))] := lv_rep hl 1 rfl (congrArg Value.int (show (nI 0) = (nI (apS F n 0)) from rfl))
  exact loop4 ((n - 0) + 1) 0 ls (by omega) (Nat.lt_succ_self _) (lv_sub hl [2, 1, 0] rfl)

set_option maxHeartbeats 4000000 in
set_option maxRecDepth 100000 in
/-- bestShift(k) -/
theorem c_X1_bestShift (l : Launch) (E : GE) (w : va_W) (a : Nat → Nat) (n now lim : Nat) (F : LR) (lit : Nat → Bool) (fo : Nat → Nat) (hv : CV E a n now lim (LF F lit fo) w) (hO : OkS n now lim F) (hinj : ∀ i j : Nat, i < n → j < n → a (3 + i) = a (3 + j) → i = j) (k : Nat) (hk : k < n) : Met l yX1_bestShift wsX1_bestShift ({ frames := 4, cells := 0, slots := 0, locals := 91 } : Room) (va_Pc [.ref (a 0), .int (nI k)] (pcS E (w))) (vp_Si (fun r => r = nI (bestS F n k (F k 0 - 1)))) 0 0 (fun _ => False) := by
  refine metS (by decide) rfl (Nat.le_of_ble_eq_true rfl) ?_
  intro p e s m args below meth c ls hx hb hr hml hts hown hlocks hP hK hl
  have hiX0 : ∀ q ∈ wsX00, q ∈ wsX1_bestShift := by decide +kernel
  obtain ⟨QQ, hQ⟩ : ∃ zQ, zQ = MQ below (vp_Si (fun r => r = nI (bestS F n k (F k 0 - 1)))) args s 0 0 (fun _ => False) := ⟨_, rfl⟩
  rw [← hQ]
  obtain ⟨mc, h0x, h1x, h2x, h3x⟩ := cv_all hv
  obtain ⟨hO1, hO2, hO3, hO4, hO5⟩ := id hO
  have hk9 := hO4 k hk
  refine lv_aload_n hx hb dX1_bestShift_0 rfl (lv_at hl 0 rfl) ?_
  refine lv_iload_n hx hb dX1_bestShift_1 rfl (lv_at hl 1 rfl) ?_
  refine csV_r (rest := []) (As := [.int (nI k)]) ⟨hx, hb, hml, hown, hts⟩ (c_X1_lampAt l E _ a n now lim F lit fo hv hO k (by omega)) (cwV 1 hts gX1_bestShift_X1_lampAt rfl rfl rfl (by decide +kernel) ⟨Nat.le_of_ble_eq_true rfl, Nat.le_of_ble_eq_true rfl⟩) (va_recv hK hP (ci := 2) (q0 := 0) rfl h0x) hP hK rfl hl.1 rfl (Nat.le_of_ble_eq_true rfl) dX1_bestShift_2 (Nat.le_of_ble_eq_true rfl) (Nat.le_of_ble_eq_true rfl) (fun r2 hr2 => ?_)
  subst hr2
  refine lv_astore_n (lv' := [(2, .ref (a (3 + k))), (0, .ref (a 0)), (1, .int (nI k))]) hx hb dX1_bestShift_5 rfl hl (by decide) rfl (fun ls hl => ?_)
  refine lv_iconst (v := (nI 0)) hx hb dX1_bestShift_6 (by decide) ?_
  refine lv_istore_n (lv' := [(3, .int (nI 0)), (2, .ref (a (3 + k))), (0, .ref (a 0)), (1, .int (nI k))]) hx hb dX1_bestShift_7 rfl hl (by decide) rfl (fun ls hl => ?_)
  refine lv_aload_n hx hb dX1_bestShift_8 rfl (lv_at hl 2 rfl) ?_
  refine lv_aload_n hx hb dX1_bestShift_9 rfl (lv_at hl 1 rfl) ?_
  refine lv_iconst (v := (nI 0)) hx hb dX1_bestShift_10 (by decide) ?_
  refine csV_i (rest := []) (As := [.ref (a (3 + k)), .int (nI 0)]) ⟨hx, hb, hml, hown, hts⟩ (c_X1_countMet l E _ a n now lim F lit fo hv hO hinj k 0 (by omega) (by omega)) (cwV 2 hts gX1_bestShift_X1_countMet rfl rfl rfl (by decide +kernel) ⟨Nat.le_of_ble_eq_true rfl, Nat.le_of_ble_eq_true rfl⟩) (va_recv hK hP (ci := 2) (q0 := 0) rfl h0x) hP hK rfl hl.1 rfl (Nat.le_of_ble_eq_true rfl) dX1_bestShift_11 (Nat.le_of_ble_eq_true rfl) (Nat.le_of_ble_eq_true rfl) (fun r11 hr11 => ?_)
  subst hr11
  refine lv_istore (lv' := [(4, .int (nI (mtS F k ((0 : Nat) : Int) n))), (3, .int (nI 0)), (2, .ref (a (3 + k))), (0, .ref (a 0)), (1, .int (nI k))]) hx hb dX1_bestShift_14 hl (by decide) rfl (fun ls hl => ?_)
  refine lv_iconst (v := (nI 1)) hx hb dX1_bestShift_16 (by decide) ?_
  refine lv_istore (lv' := [(5, .int (nI 1)), (4, .int (nI (mtS F k ((0 : Nat) : Int) n))), (3, .int (nI 0)), (2, .ref (a (3 + k))), (0, .ref (a 0)), (1, .int (nI k))]) hx hb dX1_bestShift_17 hl (by decide) rfl (fun ls hl => ?_)
  have loop19 : ∀ (tk : Nat) (t : Nat) (ls : Array Slot), (t + 1 ≤ F k 0) → (F k 0 - t) < tk → lv_has ls 7 [(0, .ref (a 0)), (2, .ref (a (3 + k))), (3, .int (nI (bestS F n k t))), (4, .int (nI (mtS F k ((bestS F n k t : Nat) : Int) n))), (5, .int (nI (t + 1)))] → W p l e ({ frames := 4, cells := 0, slots := 0, locals := 91 } : Room) s m args below meth c s.heap [] 0 0 QQ (F0 m 19 ls []) := by
    intro tk
    induction tk with
    | zero => intro t ls ht hk hl; exact absurd hk (Nat.not_lt_zero _)
    | succ tk ih19 =>
      intro t ls ht hk hl
      have hm8 := mtS_le F k ((bestS F n k t : Nat) : Int) n
      have hm9 := mtS_le F k ((t + 1 : Nat) : Int) n
      refine lv_iload hx hb dX1_bestShift_19 (lv_at hl 4 rfl) ?_
      refine lv_aload_n hx hb dX1_bestShift_21 rfl (lv_at hl 1 rfl) ?_
      refine va_get (D := E.1) (ci := 1) (v := .int (nI (F k 0))) (C := RX0) (T := TX0) (N := 9) hx hb hts hiX0 hown hK hP (3 + k) (h3x k (by omega)) rfl 0 (by decide) (hts (.fieldLink RX1 51 "PulseLoom$Lamp" "period" "I") (List.mem_of_getElem? (i := 1) (by rfl))) (fun _ h9 => h9) rfl dX1_bestShift_22 ?_
      refine nq_icmp_ge (tgt := 57) hx hb dX1_bestShift_25 (by decide) (by omega) (by omega) (fun h25 => ?_) (fun h25 => ?_)
      · skip
        refine lv_iload_n hx hb dX1_bestShift_57 rfl (lv_at hl 2 rfl) ?_
        rw [hQ]
        exact retS_i hx hb hr hlocks (congrArg nI (by rw [show F k 0 - 1 = t by omega])) dX1_bestShift_58
      · skip
        refine lv_aload_n hx hb dX1_bestShift_28 rfl (lv_at hl 0 rfl) ?_
        refine lv_aload_n hx hb dX1_bestShift_29 rfl (lv_at hl 1 rfl) ?_
        refine lv_iload hx hb dX1_bestShift_30 (lv_at hl 4 rfl) ?_
        refine csV_i (rest := []) (As := [.ref (a (3 + k)), .int (nI (t + 1))]) ⟨hx, hb, hml, hown, hts⟩ (c_X1_countMet l E _ a n now lim F lit fo hv hO hinj k (t + 1) (by omega) (by omega)) (cwV 2 hts gX1_bestShift_X1_countMet rfl rfl rfl (by decide +kernel) ⟨Nat.le_of_ble_eq_true rfl, Nat.le_of_ble_eq_true rfl⟩) (va_recv hK hP (ci := 2) (q0 := 0) rfl h0x) hP hK rfl hl.1 rfl (Nat.le_of_ble_eq_true rfl) dX1_bestShift_32 (Nat.le_of_ble_eq_true rfl) (Nat.le_of_ble_eq_true rfl) (fun r32 hr32 => ?_)
        subst hr32
        refine lv_istore (lv' := [(6, .int (nI (mtS F k ((t + 1 : Nat) : Int) n))), (0, .ref (a 0)), (2, .ref (a (3 + k))), (3, .int (nI (bestS F n k t))), (4, .int (nI (mtS F k ((bestS F n k t : Nat) : Int) n))), (5, .int (nI (t + 1)))]) hx hb dX1_bestShift_35 hl (by decide) rfl (fun ls hl => ?_)
        refine lv_iload hx hb dX1_bestShift_37 (lv_at hl 0 rfl) ?_
        refine lv_iload hx hb dX1_bestShift_39 (lv_at hl 4 rfl) ?_
        refine nq_icmp_ge (tgt := 51) hx hb dX1_bestShift_41 (by decide) (by omega) (by omega) (fun h41 => ?_) (fun h41 => ?_)
        · skip
          refine nq_inc (lv' := [(5, .int (nI (t + 1 + 1))), (6, .int (nI (mtS F k ((t + 1 : Nat) : Int) n))), (0, .ref (a 0)), (2, .ref (a (3 + k))), (3, .int (nI (bestS F n k t))), (4, .int (nI (mtS F k ((bestS F n k t : Nat) : Int) n)))]) hx hb dX1_bestShift_51 (d := 1) rfl hl (k := 5) rfl (by decide) rfl (fun ls hl => ?_)
          refine lv_goto (tgt := 19) hx hb dX1_bestShift_54 (by decide) ?_
          have hl : lv_has ls 7 [(5, .int (nI (t + 1 + 1))), (6, .int (nI (mtS F k ((t + 1 : Nat) : Int) n))), (0, .ref (a 0)), (2, .ref (a (3 + k))), (3, .int (nI (bestS F n k (t + 1)))), (4, .int (nI (mtS F k ((bestS F n k t : Nat) : Int) n)))] := lv_rep hl 4 rfl (congrArg Value.int (show (nI (bestS F n k t)) = (nI (bestS F n k (t + 1))) from congrArg nI (by rw [bestS_s, if_neg (Nat.not_lt.mpr h41)])))
          have hl : lv_has ls 7 [(5, .int (nI (t + 1 + 1))), (6, .int (nI (mtS F k ((t + 1 : Nat) : Int) n))), (0, .ref (a 0)), (2, .ref (a (3 + k))), (3, .int (nI (bestS F n k (t + 1)))), (4, .int (nI (mtS F k ((bestS F n k (t + 1) : Nat) : Int) n)))] := lv_rep hl 5 rfl (congrArg Value.int (show (nI (mtS F k ((bestS F n k t : Nat) : Int) n)) = (nI (mtS F k ((bestS F n k (t + 1) : Nat) : Int) n)) from congrArg nI (by rw [bestS_s, if_neg (Nat.not_lt.mpr h41)])))
          have hl : lv_has ls 7 [(5, .int (nI ((t + 1) + 1))), (6, .int (nI (mtS F k ((t + 1 : Nat) : Int) n))), (0, .ref (a 0)), (2, .ref (a (3 + k))), (3, .int (nI (bestS F n k (t + 1)))), (4, .int (nI (mtS F k ((bestS F n k (t + 1) : Nat) : Int) n)))] := lv_rep hl 0 rfl (congrArg Value.int (show (nI (t + 1 + 1)) = (nI ((t + 1) + 1)) from by first | rfl | (congr 1; omega)))
          exact ih19 (t + 1) ls (by omega) (by omega) (lv_sub hl [2, 3, 4, 5, 0] rfl)
        · skip
          refine lv_iload hx hb dX1_bestShift_44 (lv_at hl 0 rfl) ?_
          refine lv_istore (lv' := [(4, .int (nI (mtS F k ((t + 1 : Nat) : Int) n))), (6, .int (nI (mtS F k ((t + 1 : Nat) : Int) n))), (0, .ref (a 0)), (2, .ref (a (3 + k))), (3, .int (nI (bestS F n k t))), (5, .int (nI (t + 1)))]) hx hb dX1_bestShift_46 hl (by decide) rfl (fun ls hl => ?_)
          refine lv_iload hx hb dX1_bestShift_48 (lv_at hl 5 rfl) ?_
          refine lv_istore_n (lv' := [(3, .int (nI (t + 1))), (4, .int (nI (mtS F k ((t + 1 : Nat) : Int) n))), (6, .int (nI (mtS F k ((t + 1 : Nat) : Int) n))), (0, .ref (a 0)), (2, .ref (a (3 + k))), (5, .int (nI (t + 1)))]) hx hb dX1_bestShift_50 rfl hl (by decide) rfl (fun ls hl => ?_)
          refine nq_inc (lv' := [(5, .int (nI (t + 1 + 1))), (3, .int (nI (t + 1))), (4, .int (nI (mtS F k ((t + 1 : Nat) : Int) n))), (6, .int (nI (mtS F k ((t + 1 : Nat) : Int) n))), (0, .ref (a 0)), (2, .ref (a (3 + k)))]) hx hb dX1_bestShift_51 (d := 1) rfl hl (k := 5) rfl (by decide) rfl (fun ls hl => ?_)
          refine lv_goto (tgt := 19) hx hb dX1_bestShift_54 (by decide) ?_
          have hl : lv_has ls 7 [(5, .int (nI (t + 1 + 1))), (3, .int (nI (bestS F n k (t + 1)))), (4, .int (nI (mtS F k ((t + 1 : Nat) : Int) n))), (6, .int (nI (mtS F k ((t + 1 : Nat) : Int) n))), (0, .ref (a 0)), (2, .ref (a (3 + k)))] := lv_rep hl 1 rfl (congrArg Value.int (show (nI (t + 1)) = (nI (bestS F n k (t + 1))) from congrArg nI (by rw [bestS_s, if_pos h41])))
          have hl : lv_has ls 7 [(5, .int (nI (t + 1 + 1))), (3, .int (nI (bestS F n k (t + 1)))), (4, .int (nI (mtS F k ((bestS F n k (t + 1) : Nat) : Int) n))), (6, .int (nI (mtS F k ((t + 1 : Nat) : Int) n))), (0, .ref (a 0)), (2, .ref (a (3 + k)))] := lv_rep hl 2 rfl (congrArg Value.int (show (nI (mtS F k ((t + 1 : Nat) : Int) n)) = (nI (mtS F k ((bestS F n k (t + 1) : Nat) : Int) n)) from congrArg nI (by rw [bestS_s, if_pos h41])))
          have hl : lv_has ls 7 [(5, .int (nI ((t + 1) + 1))), (3, .int (nI (bestS F n k (t + 1)))), (4, .int (nI (mtS F k ((bestS F n k (t + 1) : Nat) : Int) n))), (6, .int (nI (mtS F k ((t + 1 : Nat) : Int) n))), (0, .ref (a 0)), (2, .ref (a (3 + k)))] := lv_rep hl 0 rfl (congrArg Value.int (show (nI (t + 1 + 1)) = (nI ((t + 1) + 1)) from by first | rfl | (congr 1; omega)))
          exact ih19 (t + 1) ls (by omega) (by omega) (lv_sub hl [4, 5, 1, 2, 0] rfl)
  have hl : lv_has ls 7 [(5, .int (nI 1)), (4, .int (nI (mtS F k ((0 : Nat) : Int) n))), (3, .int (nI (bestS F n k 0))), (2, .ref (a (3 + k))), (0, .ref (a 0)), (1, .int (nI k))] := lv_rep hl 2 rfl (congrArg Value.int (show (nI 0) = (nI (bestS F n k 0)) from rfl))
  have hl : lv_has ls 7 [(5, .int (nI 1)), (4, .int (nI (mtS F k ((bestS F n k 0 : Nat) : Int) n))), (3, .int (nI (bestS F n k 0))), (2, .ref (a (3 + k))), (0, .ref (a 0)), (1, .int (nI k))] := lv_rep hl 1 rfl (congrArg Value.int (show (nI (mtS F k ((0 : Nat) : Int) n)) = (nI (mtS F k ((bestS F n k 0 : Nat) : Int) n)) from rfl))
  have hl : lv_has ls 7 [(5, .int (nI (0 + 1))), (4, .int (nI (mtS F k ((bestS F n k 0 : Nat) : Int) n))), (3, .int (nI (bestS F n k 0))), (2, .ref (a (3 + k))), (0, .ref (a 0)), (1, .int (nI k))] := lv_rep hl 0 rfl (congrArg Value.int (show (nI 1) = (nI (0 + 1)) from rfl))
  exact loop19 ((F k 0 - 0) + 1) 0 ls (by omega) (Nat.lt_succ_self _) (lv_sub hl [4, 3, 2, 1, 0] rfl)

set_option maxHeartbeats 4000000 in
set_option maxRecDepth 100000 in
/-- countDue(b, k) -/
theorem c_X0_countDue (l : Launch) (E : GE) (w : va_W) (q0 h0 : Nat) (F : LR) (lit : Nat → Bool) (fo : Nat → Nat) (i b : Nat) (hq : w[q0]? = some (h0, .inr (1, LF F lit fo i))) (hp : 2 ≤ F i 0 ∧ F i 0 ≤ 20 ∧ F i 3 < F i 0) (hb0 : b ≤ 1000000000) (hlen : F i 4 < F i 0) (k : Nat) (hk : k ≤ 100000) (hb1 : b ≤ 900000000) : Met l yX0_countDue wsX0_countDue ({ frames := 2, cells := 0, slots := 0, locals := 42 } : Room) (va_Pc [.ref h0, .int (nI b), .int (nI k)] (pcS E (w))) (vp_Si (fun r => r = nI (mdS F i b k))) 0 0 (fun _ => False) := by
  refine metS (by decide) rfl (Nat.le_of_ble_eq_true rfl) ?_
  intro p e s m args below meth c ls hx hb hr hml hts hown hlocks hP hK hl
  have hiX0 : ∀ q ∈ wsX00, q ∈ wsX0_countDue := by decide +kernel
  obtain ⟨QQ, hQ⟩ : ∃ zQ, zQ = MQ below (vp_Si (fun r => r = nI (mdS F i b k))) args s 0 0 (fun _ => False) := ⟨_, rfl⟩
  rw [← hQ]
  have hr9 : k % F i 0 < F i 0 := Nat.mod_lt _ (by omega)
  have hq9 := md_le (k := k) hlen
  refine lv_aload_n hx hb dX0_countDue_0 rfl (lv_at hl 0 rfl) ?_
  refine va_get (D := E.1) (ci := 1) (v := .int (nI (F i 0))) (C := RX0) (T := TX0) (N := 9) hx hb hts hiX0 hown hK hP q0 hq rfl 0 (by decide) (hts (.fieldLink RX0 13 "PulseLoom$Lamp" "period" "I") (List.mem_of_getElem? (i := 1) (by rfl))) (fun _ h9 => h9) rfl dX0_countDue_1 ?_
  refine lv_iconst (v := (nI 1)) hx hb dX0_countDue_4 (by decide) ?_
  refine nq_icmp_ge (tgt := 10) hx hb dX0_countDue_5 (by decide) (by omega) (by omega) (fun h5 => ?_) (fun h5 => ?_)
  · skip
    refine lv_iload_n hx hb dX0_countDue_10 rfl (lv_at hl 2 rfl) ?_
    refine lv_aload_n hx hb dX0_countDue_11 rfl (lv_at hl 0 rfl) ?_
    refine va_get (D := E.1) (ci := 1) (v := .int (nI (F i 0))) (C := RX0) (T := TX0) (N := 9) hx hb hts hiX0 hown hK hP q0 hq rfl 0 (by decide) (hts (.fieldLink RX0 13 "PulseLoom$Lamp" "period" "I") (List.mem_of_getElem? (i := 1) (by rfl))) (fun _ h9 => h9) rfl dX0_countDue_12 ?_
    refine nq_div hx hb dX0_countDue_15 (by omega) (by omega) (by omega) ?_
    refine lv_aload_n hx hb dX0_countDue_16 rfl (lv_at hl 0 rfl) ?_
    refine va_get (D := E.1) (ci := 1) (v := .int (nI (F i 4))) (C := RX0) (T := TX0) (N := 9) hx hb hts hiX0 hown hK hP q0 hq rfl 4 (by decide) (hts (.fieldLink RX0 16 "PulseLoom$Lamp" "length" "I") (List.mem_of_getElem? (i := 2) (by rfl))) (fun _ h9 => h9) rfl dX0_countDue_17 ?_
    refine nq_mul hx hb dX0_countDue_20 ?_
    refine lv_istore_n (lv' := [(3, .int (nI ((k / (F i 0)) * (F i 4)))), (0, .ref h0), (1, .int (nI b)), (2, .int (nI k))]) hx hb dX0_countDue_21 rfl hl (by decide) rfl (fun ls hl => ?_)
    refine lv_iload_n hx hb dX0_countDue_22 rfl (lv_at hl 3 rfl) ?_
    refine lv_aload_n hx hb dX0_countDue_23 rfl (lv_at hl 1 rfl) ?_
    refine va_get (D := E.1) (ci := 1) (v := .int (nI (F i 0))) (C := RX0) (T := TX0) (N := 9) hx hb hts hiX0 hown hK hP q0 hq rfl 0 (by decide) (hts (.fieldLink RX0 13 "PulseLoom$Lamp" "period" "I") (List.mem_of_getElem? (i := 1) (by rfl))) (fun _ h9 => h9) rfl dX0_countDue_24 ?_
    refine nq_rem hx hb dX0_countDue_27 (by omega) (by omega) (by omega) ?_
    refine lv_istore (lv' := [(4, .int (nI (k % (F i 0)))), (3, .int (nI ((k / (F i 0)) * (F i 4)))), (0, .ref h0), (1, .int (nI b)), (2, .int (nI k))]) hx hb dX0_countDue_28 hl (by decide) rfl (fun ls hl => ?_)
    refine lv_iconst (v := (nI 0)) hx hb dX0_countDue_30 (by decide) ?_
    refine lv_istore (lv' := [(5, .int (nI 0)), (4, .int (nI (k % (F i 0)))), (3, .int (nI ((k / (F i 0)) * (F i 4)))), (0, .ref h0), (1, .int (nI b)), (2, .int (nI k))]) hx hb dX0_countDue_31 hl (by decide) rfl (fun ls hl => ?_)
    have loop33 : ∀ (tk : Nat) (t : Nat) (ls : Array Slot), (t ≤ k % F i 0) → (k % F i 0 - t) < tk → lv_has ls 6 [(0, .ref h0), (1, .int (nI b)), (3, .int (nI (k / F i 0 * F i 4 + cntDue F i b t))), (4, .int (nI (k % F i 0))), (5, .int (nI t))] → W p l e ({ frames := 2, cells := 0, slots := 0, locals := 42 } : Room) s m args below meth c s.heap [] 0 0 QQ (F0 m 33 ls []) := by
      intro tk
      induction tk with
      | zero => intro t ls ht hk hl; exact absurd hk (Nat.not_lt_zero _)
      | succ tk ih33 =>
        intro t ls ht hk hl
        have hc9 := cntDue_le F i b t
        refine lv_iload hx hb dX0_countDue_33 (lv_at hl 4 rfl) ?_
        refine lv_iload hx hb dX0_countDue_35 (lv_at hl 3 rfl) ?_
        refine nq_icmp_ge (tgt := 60) hx hb dX0_countDue_37 (by decide) (by omega) (by omega) (fun h37 => ?_) (fun h37 => ?_)
        · skip
          refine lv_iload_n hx hb dX0_countDue_60 rfl (lv_at hl 2 rfl) ?_
          rw [hQ]
          exact retS_i hx hb hr hlocks (congrArg nI (by unfold mdS; rw [show t = k % F i 0 by omega])) dX0_countDue_61
        · skip
          refine lv_aload_n hx hb dX0_countDue_40 rfl (lv_at hl 0 rfl) ?_
          refine lv_iload_n hx hb dX0_countDue_41 rfl (lv_at hl 1 rfl) ?_
          refine lv_iload hx hb dX0_countDue_42 (lv_at hl 4 rfl) ?_
          refine nq_add hx hb dX0_countDue_44 ?_
          refine csV_i (rest := []) (As := [.int (nI (b + t))]) ⟨hx, hb, hml, hown, hts⟩ (c_X0_dueAt l E _ q0 h0 F _ _ i (b + t) hq (hp) (by omega) (hlen)) (cwV 1 hts gX0_countDue_X0_dueAt rfl rfl rfl (by decide +kernel) ⟨Nat.le_of_ble_eq_true rfl, Nat.le_of_ble_eq_true rfl⟩) (va_recv hK hP (ci := 1) (q0 := q0) rfl hq) hP hK rfl hl.1 rfl (Nat.le_of_ble_eq_true rfl) dX0_countDue_45 (Nat.le_of_ble_eq_true rfl) (Nat.le_of_ble_eq_true rfl) (fun r45 hr45 => ?_)
          subst hr45
          refine bq_if_eq (tgt := 54) hx hb dX0_countDue_48 (by decide) (fun h48 => ?_) (fun h48 => ?_)
          · skip
            refine nq_inc (lv' := [(5, .int (nI (t + 1))), (0, .ref h0), (1, .int (nI b)), (3, .int (nI (k / F i 0 * F i 4 + cntDue F i b t))), (4, .int (nI (k % F i 0)))]) hx hb dX0_countDue_54 (d := 1) rfl hl (k := 4) rfl (by decide) rfl (fun ls hl => ?_)
            refine lv_goto (tgt := 33) hx hb dX0_countDue_57 (by decide) ?_
            have hl : lv_has ls 6 [(5, .int (nI (t + 1))), (0, .ref h0), (1, .int (nI b)), (3, .int (nI (k / F i 0 * F i 4 + cntDue F i b (t + 1)))), (4, .int (nI (k % F i 0)))] := lv_rep hl 3 rfl (congrArg Value.int (show (nI (k / F i 0 * F i 4 + cntDue F i b t)) = (nI (k / F i 0 * F i 4 + cntDue F i b (t + 1))) from congrArg nI (by rw [cntDue_s, h48]; rfl)))
            exact ih33 (t + 1) ls (by omega) (by omega) (lv_sub hl [1, 2, 3, 4, 0] rfl)
          · skip
            refine nq_inc (lv' := [(3, .int (nI (k / F i 0 * F i 4 + cntDue F i b t + 1))), (0, .ref h0), (1, .int (nI b)), (4, .int (nI (k % F i 0))), (5, .int (nI t))]) hx hb dX0_countDue_51 (d := 1) rfl hl (k := 2) rfl (by decide) rfl (fun ls hl => ?_)
            refine nq_inc (lv' := [(5, .int (nI (t + 1))), (3, .int (nI (k / F i 0 * F i 4 + cntDue F i b t + 1))), (0, .ref h0), (1, .int (nI b)), (4, .int (nI (k % F i 0)))]) hx hb dX0_countDue_54 (d := 1) rfl hl (k := 4) rfl (by decide) rfl (fun ls hl => ?_)
            refine lv_goto (tgt := 33) hx hb dX0_countDue_57 (by decide) ?_
            have hl : lv_has ls 6 [(5, .int (nI (t + 1))), (3, .int (nI (k / F i 0 * F i 4 + cntDue F i b (t + 1)))), (0, .ref h0), (1, .int (nI b)), (4, .int (nI (k % F i 0)))] := lv_rep hl 1 rfl (congrArg Value.int (show (nI (k / F i 0 * F i 4 + cntDue F i b t + 1)) = (nI (k / F i 0 * F i 4 + cntDue F i b (t + 1))) from congrArg nI (by rw [cntDue_s, h48]; rfl)))
            exact ih33 (t + 1) ls (by omega) (by omega) (lv_sub hl [2, 3, 1, 4, 0] rfl)
    have hl : lv_has ls 6 [(5, .int (nI 0)), (4, .int (nI (k % (F i 0)))), (3, .int (nI (k / F i 0 * F i 4 + cntDue F i b 0))), (0, .ref h0), (1, .int (nI b)), (2, .int (nI k))] := lv_rep hl 2 rfl (congrArg Value.int (show (nI ((k / (F i 0)) * (F i 4))) = (nI (k / F i 0 * F i 4 + cntDue F i b 0)) from rfl))
    have hl : lv_has ls 6 [(5, .int (nI 0)), (4, .int (nI (k % F i 0))), (3, .int (nI (k / F i 0 * F i 4 + cntDue F i b 0))), (0, .ref h0), (1, .int (nI b)), (2, .int (nI k))] := lv_rep hl 1 rfl (congrArg Value.int (show (nI (k % (F i 0))) = (nI (k % F i 0)) from by first | rfl | (congr 1; omega)))
    exact loop33 ((k % F i 0 - 0) + 1) 0 ls (by omega) (Nat.lt_succ_self _) (lv_sub hl [3, 4, 2, 1, 0] rfl)
  · skip
    exact absurd h5 (by omega)

set_option maxHeartbeats 4000000 in
set_option maxRecDepth 100000 in
/-- dueIn(k, j) -/
theorem c_X1_dueIn (l : Launch) (E : GE) (w : va_W) (a : Nat → Nat) (n now lim : Nat) (F : LR) (lit : Nat → Bool) (fo : Nat → Nat) (hv : CV E a n now lim (LF F lit fo) w) (hO : OkS n now lim F) (k j : Nat) (hk : k < n) (hj : 1 ≤ j ∧ j ≤ 100000) : Met l yX1_dueIn wsX1_dueIn ({ frames := 4, cells := 0, slots := 0, locals := 85 } : Room) (va_Pc [.ref (a 0), .int (nI k), .int (nI j)] (pcS E (w))) (vp_Si (fun r => r = nI (mdS F k now j))) 0 0 (fun _ => False) := by
  refine metS (by decide) rfl (Nat.le_of_ble_eq_true rfl) ?_
  intro p e s m args below meth c ls hx hb hr hml hts hown hlocks hP hK hl
  have hiX1 : ∀ q ∈ wsX10, q ∈ wsX1_dueIn := by decide +kernel
  obtain ⟨mc, h0x, h1x, h2x, h3x⟩ := cv_all hv
  obtain ⟨hO1, hO2, hO3, hO4, hO5⟩ := id hO
  have hk9 := hO4 k hk
  refine lv_aload_n hx hb dX1_dueIn_0 rfl (lv_at hl 0 rfl) ?_
  refine lv_iload_n hx hb dX1_dueIn_1 rfl (lv_at hl 1 rfl) ?_
  refine csV_r (rest := []) (As := [.int (nI k)]) ⟨hx, hb, hml, hown, hts⟩ (c_X1_lampAt l E _ a n now lim F lit fo hv hO k (by omega)) (cwV 1 hts gX1_dueIn_X1_lampAt rfl rfl rfl (by decide +kernel) ⟨Nat.le_of_ble_eq_true rfl, Nat.le_of_ble_eq_true rfl⟩) (va_recv hK hP (ci := 2) (q0 := 0) rfl h0x) hP hK rfl hl.1 rfl (Nat.le_of_ble_eq_true rfl) dX1_dueIn_2 (Nat.le_of_ble_eq_true rfl) (Nat.le_of_ble_eq_true rfl) (fun r2 hr2 => ?_)
  subst hr2
  refine lv_astore_n (lv' := [(3, .ref (a (3 + k))), (0, .ref (a 0)), (1, .int (nI k)), (2, .int (nI j))]) hx hb dX1_dueIn_5 rfl hl (by decide) rfl (fun ls hl => ?_)
  refine lv_iload_n hx hb dX1_dueIn_6 rfl (lv_at hl 3 rfl) ?_
  refine lv_iconst (v := (nI 1)) hx hb dX1_dueIn_7 (by decide) ?_
  refine lv_ldc (v := nI 100000) hx hb hown (show (Jvm.Cond.constant RX1 122 (nI 100000)).before args s = true from (hts (.constant RX1 122 (100000)) (List.mem_of_getElem? (i := 1) (by rfl)))) dX1_dueIn_8 ?_
  refine csS_v (rest := []) (As := [.int (nI j), .int (nI 1), .int (nI 100000)]) ⟨hx, hb, hml, hown, hts⟩ (c_X1_refuseOutside l E _ (nI j) (nI 1) (nI 100000) (ref_nI (k := j) (lo := 1) (hi := 100000) (by omega) (by omega)).1 (ref_nI (k := j) (lo := 1) (hi := 100000) (by omega) (by omega)).2) (va_cwS 3 hts gX1_dueIn_X1_refuseOutside rfl rfl rfl (by decide +kernel) ⟨Nat.le_of_ble_eq_true rfl, Nat.le_of_ble_eq_true rfl⟩) hP hK rfl hl.1 rfl (Nat.le_of_ble_eq_true rfl) dX1_dueIn_10 (Nat.le_of_ble_eq_true rfl) (Nat.le_of_ble_eq_true rfl) (fun _ => ?_)
  refine lv_aload_n hx hb dX1_dueIn_13 rfl (lv_at hl 0 rfl) ?_
  refine lv_aload_n hx hb dX1_dueIn_14 rfl (lv_at hl 1 rfl) ?_
  refine va_get (D := E.1) (ci := 2) (v := .int (nI now)) (C := RX1) (T := TX1) (N := 3) hx hb hts hiX1 hown hK hP 0 h0x rfl 1 (by decide) (hts (.fieldLink RX1 16 "PulseLoom" "now" "I") (List.mem_of_getElem? (i := 2) (by rfl))) (fun _ h9 => h9) rfl dX1_dueIn_15 ?_
  refine lv_iload_n hx hb dX1_dueIn_18 rfl (lv_at hl 3 rfl) ?_
  refine csV_i (rest := []) (As := [.int (nI now), .int (nI j)]) ⟨hx, hb, hml, hown, hts⟩ (c_X0_countDue l E _ (3 + k) (a (3 + k)) F _ _ k now (h3x k (by omega)) (okp hO (i := k) (by omega)) (by omega) (okl hO (i := k) (by omega)) j (by omega) (by omega)) (cwV 2 hts gX1_dueIn_X0_countDue rfl rfl rfl (by decide +kernel) ⟨Nat.le_of_ble_eq_true rfl, Nat.le_of_ble_eq_true rfl⟩) (va_recv hK hP (ci := 1) (q0 := (3 + k)) rfl (h3x k (by omega))) hP hK rfl hl.1 rfl (Nat.le_of_ble_eq_true rfl) dX1_dueIn_19 (Nat.le_of_ble_eq_true rfl) (Nat.le_of_ble_eq_true rfl) (fun r19 hr19 => ?_)
  subst hr19
  exact retS_i hx hb hr hlocks (rfl) dX1_dueIn_22

set_option maxHeartbeats 4000000 in
set_option maxRecDepth 100000 in
/-- limitWanted(k) -/
theorem c_X1_limitWanted (l : Launch) (E : GE) (w : va_W) (a : Nat → Nat) (n now lim : Nat) (F : LR) (lit : Nat → Bool) (fo : Nat → Nat) (hv : CV E a n now lim (LF F lit fo) w) (hO : OkS n now lim F) (k : Nat) (hk : 1 ≤ k ∧ k ≤ 200) : Met l yX1_limitWanted wsX1_limitWanted ({ frames := 4, cells := 0, slots := 0, locals := 88 } : Room) (va_Pc [.ref (a 0), .int (nI k)] (pcS E (w))) (vp_Si (fun r => r = nI (mxD F now n k))) 0 0 (fun _ => False) := by
  refine metS (by decide) rfl (Nat.le_of_ble_eq_true rfl) ?_
  intro p e s m args below meth c ls hx hb hr hml hts hown hlocks hP hK hl
  have hiX1 : ∀ q ∈ wsX10, q ∈ wsX1_limitWanted := by decide +kernel
  obtain ⟨QQ, hQ⟩ : ∃ zQ, zQ = MQ below (vp_Si (fun r => r = nI (mxD F now n k))) args s 0 0 (fun _ => False) := ⟨_, rfl⟩
  rw [← hQ]
  obtain ⟨mc, h0x, h1x, h2x, h3x⟩ := cv_all hv
  obtain ⟨hO1, hO2, hO3, hO4, hO5⟩ := id hO
  refine lv_iload_n hx hb dX1_limitWanted_0 rfl (lv_at hl 1 rfl) ?_
  refine lv_iconst (v := (nI 1)) hx hb dX1_limitWanted_1 (by decide) ?_
  refine lv_sipush (v := (nI 200)) hx hb dX1_limitWanted_2 (by decide) ?_
  refine csS_v (rest := []) (As := [.int (nI k), .int (nI 1), .int (nI 200)]) ⟨hx, hb, hml, hown, hts⟩ (c_X1_refuseOutside l E _ (nI k) (nI 1) (nI 200) (ref_nI (k := k) (lo := 1) (hi := 200) (by omega) (by omega)).1 (ref_nI (k := k) (lo := 1) (hi := 200) (by omega) (by omega)).2) (va_cwS 3 hts gX1_limitWanted_X1_refuseOutside rfl rfl rfl (by decide +kernel) ⟨Nat.le_of_ble_eq_true rfl, Nat.le_of_ble_eq_true rfl⟩) hP hK rfl hl.1 rfl (Nat.le_of_ble_eq_true rfl) dX1_limitWanted_5 (Nat.le_of_ble_eq_true rfl) (Nat.le_of_ble_eq_true rfl) (fun _ => ?_)
  refine lv_iconst (v := (nI 0)) hx hb dX1_limitWanted_8 (by decide) ?_
  refine lv_istore_n (lv' := [(2, .int (nI 0)), (0, .ref (a 0)), (1, .int (nI k))]) hx hb dX1_limitWanted_9 rfl hl (by decide) rfl (fun ls hl => ?_)
  refine lv_iconst (v := (nI 0)) hx hb dX1_limitWanted_10 (by decide) ?_
  refine lv_istore_n (lv' := [(3, .int (nI 0)), (2, .int (nI 0)), (0, .ref (a 0)), (1, .int (nI k))]) hx hb dX1_limitWanted_11 rfl hl (by decide) rfl (fun ls hl => ?_)
  have loop12 : ∀ (tk : Nat) (t : Nat) (ls : Array Slot), (t ≤ k) → (k - t) < tk → lv_has ls 4 [(0, .ref (a 0)), (1, .int (nI k)), (2, .int (nI (mxD F now n t))), (3, .int (nI t))] → W p l e ({ frames := 4, cells := 0, slots := 0, locals := 88 } : Room) s m args below meth c s.heap [] 0 0 QQ (F0 m 12 ls []) := by
    intro tk
    induction tk with
    | zero => intro t ls ht hk hl; exact absurd hk (Nat.not_lt_zero _)
    | succ tk ih12 =>
      intro t ls ht hk hl
      have hm8 := mxD_le hO now t
      have hm9 := dpS_le hO (now + t) n (Nat.le_refl _)
      refine lv_iload_n hx hb dX1_limitWanted_12 rfl (lv_at hl 3 rfl) ?_
      refine lv_iload_n hx hb dX1_limitWanted_13 rfl (lv_at hl 1 rfl) ?_
      refine nq_icmp_ge (tgt := 38) hx hb dX1_limitWanted_14 (by decide) (by omega) (by omega) (fun h14 => ?_) (fun h14 => ?_)
      · skip
        refine lv_iload_n hx hb dX1_limitWanted_38 rfl (lv_at hl 2 rfl) ?_
        rw [hQ]
        exact retS_i hx hb hr hlocks (congrArg nI (by rw [show t = k by omega])) dX1_limitWanted_39
      · skip
        refine lv_iload_n hx hb dX1_limitWanted_17 rfl (lv_at hl 2 rfl) ?_
        refine lv_aload_n hx hb dX1_limitWanted_18 rfl (lv_at hl 0 rfl) ?_
        refine lv_aload_n hx hb dX1_limitWanted_19 rfl (lv_at hl 0 rfl) ?_
        refine va_get (D := E.1) (ci := 2) (v := .int (nI now)) (C := RX1) (T := TX1) (N := 3) hx hb hts hiX1 hown hK hP 0 h0x rfl 1 (by decide) (hts (.fieldLink RX1 16 "PulseLoom" "now" "I") (List.mem_of_getElem? (i := 1) (by rfl))) (fun _ h9 => h9) rfl dX1_limitWanted_20 ?_
        refine lv_iload_n hx hb dX1_limitWanted_23 rfl (lv_at hl 3 rfl) ?_
        refine nq_add hx hb dX1_limitWanted_24 ?_
        refine csV_i (rest := [.int (nI (mxD F now n t))]) (As := [.int (nI (now + t))]) ⟨hx, hb, hml, hown, hts⟩ (c_X1_duePower l E _ a n now lim F lit fo hv hO (now + t) (by omega)) (cwV 1 hts gX1_limitWanted_X1_duePower rfl rfl rfl (by decide +kernel) ⟨Nat.le_of_ble_eq_true rfl, Nat.le_of_ble_eq_true rfl⟩) (va_recv hK hP (ci := 2) (q0 := 0) rfl h0x) hP hK rfl hl.1 rfl (Nat.le_of_ble_eq_true rfl) dX1_limitWanted_25 (Nat.le_of_ble_eq_true rfl) (Nat.le_of_ble_eq_true rfl) (fun r25 hr25 => ?_)
        subst hr25
        refine va_mmax hx hb (hml.trans hl.1.symm) hown (hts (.methodLink RX1 126 Lib.Math.max.name) (List.mem_of_getElem? (i := 2) (by rfl))) (hts (.static Lib.Math.max.name) (List.mem_of_getElem? (i := 3) (by rfl))) (hts (.initialized "java/lang/Math") (List.mem_of_getElem? (i := 4) (by rfl))) (hts (.code Lib.Math.max.name Lib.Math.max.code 2 (some .int)) (List.mem_of_getElem? (i := 5) (by rfl))) (Nat.le_of_ble_eq_true rfl) (Nat.le_of_ble_eq_true rfl) (Nat.le_of_ble_eq_true rfl) (Nat.le_of_ble_eq_true rfl) dX1_limitWanted_28 ?_
        refine nq_top (show (if (nI (mxD F now n t)) < (nI (dpS F (now + t) n)) then (nI (dpS F (now + t) n)) else (nI (mxD F now n t))) = (nI (max (mxD F now n t) (dpS F (now + t) n))) from nmax (by omega) (by omega)) ?_
        refine lv_istore_n (lv' := [(2, .int (nI (max (mxD F now n t) (dpS F (now + t) n)))), (0, .ref (a 0)), (1, .int (nI k)), (3, .int (nI t))]) hx hb dX1_limitWanted_31 rfl hl (by decide) rfl (fun ls hl => ?_)
        refine nq_inc (lv' := [(3, .int (nI (t + 1))), (2, .int (nI (max (mxD F now n t) (dpS F (now + t) n)))), (0, .ref (a 0)), (1, .int (nI k))]) hx hb dX1_limitWanted_32 (d := 1) rfl hl (k := 3) rfl (by decide) rfl (fun ls hl => ?_)
        refine lv_goto (tgt := 12) hx hb dX1_limitWanted_35 (by decide) ?_
        have hl : lv_has ls 4 [(3, .int (nI (t + 1))), (2, .int (nI (mxD F now n (t + 1)))), (0, .ref (a 0)), (1, .int (nI k))] := lv_rep hl 1 rfl (congrArg Value.int (show (nI (max (mxD F now n t) (dpS F (now + t) n))) = (nI (mxD F now n (t + 1))) from rfl))
        exact ih12 (t + 1) ls (by omega) (by omega) (lv_sub hl [2, 3, 1, 0] rfl)
  have hl : lv_has ls 4 [(3, .int (nI 0)), (2, .int (nI (mxD F now n 0))), (0, .ref (a 0)), (1, .int (nI k))] := lv_rep hl 1 rfl (congrArg Value.int (show (nI 0) = (nI (mxD F now n 0)) from rfl))
  exact loop12 ((k - 0) + 1) 0 ls (by omega) (Nat.lt_succ_self _) (lv_sub hl [2, 3, 1, 0] rfl)

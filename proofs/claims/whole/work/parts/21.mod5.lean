/-! the reference's answers and refusals -/
theorem up2_ne {F : LR} {i k v j q : Nat} (h : q ≠ k) : up2 F i k v j q = F j q := if_neg (fun z => h z.2)
theorem upd_up2 {F : LR} {i q v : Nat} : upd (fun j => nI (F j q)) i (nI v) = fun j => nI (up2 F i q v j q) := by
  funext j
  unfold upd up2
  by_cases h : j = i
  · rw [if_pos h, if_pos ⟨h, rfl⟩]
  · rw [if_neg h, if_neg (fun z => h z.1)]
theorem NW_up2 {F : LR} {t i q v : Nat} (h : q < 5) : NW t (up2 F i q v) = NW t F := by
  funext j
  unfold NW
  rw [up2_ne (by omega), up2_ne (by omega)]

theorem wM_s1 {E : GE} {b : Nat → Nat} {th : Int32} {n lim t k v : Nat} {F : LR} {kp : Nat → Int32} (hk : k < 8) : List.set (wM E b th n lim F (NW t F) kp) 1 (b 1, .inl (E.2.1, 8, .inl (upd (fun j => nI (F j 2)) ((nI k).toNatClampNeg) (nI v)))) = wM E b th n lim (up2 F k 2 v) (NW t (up2 F k 2 v)) kp := by
  rw [nI_clamp (by omega), upd_up2, NW_up2 (by decide)]
  simp only [wM, List.set_cons_succ, List.set_cons_zero, show ∀ j, up2 F k 2 v j 0 = F j 0 from fun j => up2_ne (by decide), show ∀ j, up2 F k 2 v j 1 = F j 1 from fun j => up2_ne (by decide), show ∀ j, up2 F k 2 v j 3 = F j 3 from fun j => up2_ne (by decide), show ∀ j, up2 F k 2 v j 4 = F j 4 from fun j => up2_ne (by decide)]
theorem wM_s2 {E : GE} {b : Nat → Nat} {th : Int32} {n lim t k v : Nat} {F : LR} {kp : Nat → Int32} (hk : k < 8) : List.set (wM E b th n lim F (NW t F) kp) 2 (b 2, .inl (E.2.1, 8, .inl (upd (fun j => nI (F j 0)) ((nI k).toNatClampNeg) (nI v)))) = wM E b th n lim (up2 F k 0 v) (NW t (up2 F k 0 v)) kp := by
  rw [nI_clamp (by omega), upd_up2, NW_up2 (by decide)]
  simp only [wM, List.set_cons_succ, List.set_cons_zero, show ∀ j, up2 F k 0 v j 1 = F j 1 from fun j => up2_ne (by decide), show ∀ j, up2 F k 0 v j 2 = F j 2 from fun j => up2_ne (by decide), show ∀ j, up2 F k 0 v j 3 = F j 3 from fun j => up2_ne (by decide), show ∀ j, up2 F k 0 v j 4 = F j 4 from fun j => up2_ne (by decide)]
theorem wM_s3 {E : GE} {b : Nat → Nat} {th : Int32} {n lim t k v : Nat} {F : LR} {kp : Nat → Int32} (hk : k < 8) : List.set (wM E b th n lim F (NW t F) kp) 3 (b 3, .inl (E.2.1, 8, .inl (upd (fun j => nI (F j 3)) ((nI k).toNatClampNeg) (nI v)))) = wM E b th n lim (up2 F k 3 v) (NW t (up2 F k 3 v)) kp := by
  rw [nI_clamp (by omega), upd_up2, NW_up2 (by decide)]
  simp only [wM, List.set_cons_succ, List.set_cons_zero, show ∀ j, up2 F k 3 v j 0 = F j 0 from fun j => up2_ne (by decide), show ∀ j, up2 F k 3 v j 1 = F j 1 from fun j => up2_ne (by decide), show ∀ j, up2 F k 3 v j 2 = F j 2 from fun j => up2_ne (by decide), show ∀ j, up2 F k 3 v j 4 = F j 4 from fun j => up2_ne (by decide)]
theorem wM_s4 {E : GE} {b : Nat → Nat} {th : Int32} {n lim t k v : Nat} {F : LR} {kp : Nat → Int32} (hk : k < 8) : List.set (wM E b th n lim F (NW t F) kp) 4 (b 4, .inl (E.2.1, 8, .inl (upd (fun j => nI (F j 4)) ((nI k).toNatClampNeg) (nI v)))) = wM E b th n lim (up2 F k 4 v) (NW t (up2 F k 4 v)) kp := by
  rw [nI_clamp (by omega), upd_up2, NW_up2 (by decide)]
  simp only [wM, List.set_cons_succ, List.set_cons_zero, show ∀ j, up2 F k 4 v j 0 = F j 0 from fun j => up2_ne (by decide), show ∀ j, up2 F k 4 v j 1 = F j 1 from fun j => up2_ne (by decide), show ∀ j, up2 F k 4 v j 2 = F j 2 from fun j => up2_ne (by decide), show ∀ j, up2 F k 4 v j 3 = F j 3 from fun j => up2_ne (by decide)]
theorem wM_s5 {E : GE} {b : Nat → Nat} {th : Int32} {n lim t k v : Nat} {F : LR} {kp : Nat → Int32} (hk : k < 8) : List.set (wM E b th n lim F (NW t F) kp) 5 (b 5, .inl (E.2.1, 8, .inl (upd (fun j => nI (F j 1)) ((nI k).toNatClampNeg) (nI v)))) = wM E b th n lim (up2 F k 1 v) (NW t (up2 F k 1 v)) kp := by
  rw [nI_clamp (by omega), upd_up2, NW_up2 (by decide)]
  simp only [wM, List.set_cons_succ, List.set_cons_zero, show ∀ j, up2 F k 1 v j 0 = F j 0 from fun j => up2_ne (by decide), show ∀ j, up2 F k 1 v j 2 = F j 2 from fun j => up2_ne (by decide), show ∀ j, up2 F k 1 v j 3 = F j 3 from fun j => up2_ne (by decide), show ∀ j, up2 F k 1 v j 4 = F j 4 from fun j => up2_ne (by decide)]
set_option maxHeartbeats 4000000 in
set_option maxRecDepth 100000 in
/-- X2_beat -/
theorem c_X2_beat (l : Launch) (E : GE) (sz : Nat) (b : Nat → Nat) (th : Int32) (n lim t : Nat) (F : LR) (kp : Nat → Int32) (hO : OkS n t lim F) : Met l yX2_beat wsX2_beat ({ frames := 1, cells := 0, slots := 0, locals := 21 } : Room) (va_Pc [.ref (b 0)] (pcM E (wM E b th n lim F (NW t F) kp) sz)) (va_Qi (S := Unit) (fun r _ => r = (nI t)) (fun uQ tQ => atM E (va_A (wM E b th n lim F (NW t F) kp) sz) ((fun _ => wM E b (nI 0) n lim F (NW t F) kp) uQ) tQ) (va_A (wM E b th n lim F (NW t F) kp) sz)) 0 0 (va_A (wM E b th n lim F (NW t F) kp) sz) := by
  refine metM (by decide) rfl (Nat.le_of_ble_eq_true rfl) ?_
  intro p e s m args below meth c ls A hAe hA hx hb hr hml hts hown hlocks hin hP hK hD hS hl
  rw [hAe]
  have hiX2 : ∀ q ∈ wsX20, q ∈ wsX2_beat := by decide +kernel
  obtain ⟨hO1, hO2, hO3, hO4, hO5⟩ := id hO
  refine lv_aload_n hx hb dX2_beat_0 rfl (lv_at hl 0 rfl) ?_
  refine lv_aload_n hx hb dX2_beat_1 rfl (lv_at hl 0 rfl) ?_
  refine va_get (D := E.1) (ci := 3) (v := .ref (b 6)) (C := RX2) (T := TX2) (N := 10) hx hb hts hiX2 hown hK hP 0 rfl rfl 8 (by decide) (hts (.fieldLink RX2 29 "PulseLoomModel" "now" "[I") (List.mem_of_getElem? (i := 1) (by rfl))) (fun _ h9 => h9) rfl dX2_beat_2 ?_
  refine lv_iconst (v := (nI 0)) hx hb dX2_beat_5 (by decide) ?_
  refine va_iald hx hb hK hP 6 0 rfl rfl (by exact vp_in_nI (by omega) (by omega)) dX2_beat_6 ?_
  refine nq_top (show (NW t F (((nI 0)).toNatClampNeg)) = (nI t) from by rw [nI_clamp (by omega)]; rfl) ?_
  refine cmV_i (rest := []) (As := [.int (nI t)]) ⟨hx, hb, hml, hown, hts⟩ (c_X2_ok l E _ b th n lim t F kp (nI t)) (cwV 1 hts gX2_beat_X2_ok rfl rfl rfl (by decide +kernel) ⟨Nat.le_of_ble_eq_true rfl, Nat.le_of_ble_eq_true rfl⟩) (va_recv hK hP (ci := 3) (q0 := 0) rfl rfl) hP hK hD hS hA rfl hl.1 rfl (Nat.le_of_ble_eq_true rfl) dX2_beat_7 ⟨Nat.le_of_ble_eq_true rfl, Nat.le_of_ble_eq_true rfl⟩ (fun r7 u7 H locs hr7 hP hD hS => ?_)
  subst hr7
  exact retM_i (E := E) (A0 := A) (v := (nI t)) (post := fun r _ => r = (nI t)) (u := ()) (W1 := fun _ => wM E b (nI 0) n lim F (NW t F) kp) hx hb hr hlocks hP hK hD hS (rfl) dX2_beat_10

set_option maxHeartbeats 4000000 in
set_option maxRecDepth 100000 in
/-- X2_lamps -/
theorem c_X2_lamps (l : Launch) (E : GE) (sz : Nat) (b : Nat → Nat) (th : Int32) (n lim t : Nat) (F : LR) (kp : Nat → Int32) (hO : OkS n t lim F) : Met l yX2_lamps wsX2_lamps ({ frames := 1, cells := 0, slots := 0, locals := 21 } : Room) (va_Pc [.ref (b 0)] (pcM E (wM E b th n lim F (NW t F) kp) sz)) (va_Qi (S := Unit) (fun r _ => r = (nI n)) (fun uQ tQ => atM E (va_A (wM E b th n lim F (NW t F) kp) sz) ((fun _ => wM E b (nI 0) n lim F (NW t F) kp) uQ) tQ) (va_A (wM E b th n lim F (NW t F) kp) sz)) 0 0 (va_A (wM E b th n lim F (NW t F) kp) sz) := by
  refine metM (by decide) rfl (Nat.le_of_ble_eq_true rfl) ?_
  intro p e s m args below meth c ls A hAe hA hx hb hr hml hts hown hlocks hin hP hK hD hS hl
  rw [hAe]
  have hiX2 : ∀ q ∈ wsX20, q ∈ wsX2_lamps := by decide +kernel
  obtain ⟨hO1, hO2, hO3, hO4, hO5⟩ := id hO
  refine lv_aload_n hx hb dX2_lamps_0 rfl (lv_at hl 0 rfl) ?_
  refine lv_aload_n hx hb dX2_lamps_1 rfl (lv_at hl 0 rfl) ?_
  refine va_get (D := E.1) (ci := 3) (v := .int (nI n)) (C := RX2) (T := TX2) (N := 10) hx hb hts hiX2 hown hK hP 0 rfl rfl 1 (by decide) (hts (.fieldLink RX2 38 "PulseLoomModel" "lamps" "I") (List.mem_of_getElem? (i := 1) (by rfl))) (fun _ h9 => h9) rfl dX2_lamps_2 ?_
  refine cmV_i (rest := []) (As := [.int (nI n)]) ⟨hx, hb, hml, hown, hts⟩ (c_X2_ok l E _ b th n lim t F kp (nI n)) (cwV 1 hts gX2_lamps_X2_ok rfl rfl rfl (by decide +kernel) ⟨Nat.le_of_ble_eq_true rfl, Nat.le_of_ble_eq_true rfl⟩) (va_recv hK hP (ci := 3) (q0 := 0) rfl rfl) hP hK hD hS hA rfl hl.1 rfl (Nat.le_of_ble_eq_true rfl) dX2_lamps_5 ⟨Nat.le_of_ble_eq_true rfl, Nat.le_of_ble_eq_true rfl⟩ (fun r5 u5 H locs hr5 hP hD hS => ?_)
  subst hr5
  exact retM_i (E := E) (A0 := A) (v := (nI n)) (post := fun r _ => r = (nI n)) (u := ()) (W1 := fun _ => wM E b (nI 0) n lim F (NW t F) kp) hx hb hr hlocks hP hK hD hS (rfl) dX2_lamps_8

set_option maxHeartbeats 4000000 in
set_option maxRecDepth 100000 in
/-- X2_limit -/
theorem c_X2_limit (l : Launch) (E : GE) (sz : Nat) (b : Nat → Nat) (th : Int32) (n lim t : Nat) (F : LR) (kp : Nat → Int32) (hO : OkS n t lim F) : Met l yX2_limit wsX2_limit ({ frames := 1, cells := 0, slots := 0, locals := 21 } : Room) (va_Pc [.ref (b 0)] (pcM E (wM E b th n lim F (NW t F) kp) sz)) (va_Qi (S := Unit) (fun r _ => r = (nI lim)) (fun uQ tQ => atM E (va_A (wM E b th n lim F (NW t F) kp) sz) ((fun _ => wM E b (nI 0) n lim F (NW t F) kp) uQ) tQ) (va_A (wM E b th n lim F (NW t F) kp) sz)) 0 0 (va_A (wM E b th n lim F (NW t F) kp) sz) := by
  refine metM (by decide) rfl (Nat.le_of_ble_eq_true rfl) ?_
  intro p e s m args below meth c ls A hAe hA hx hb hr hml hts hown hlocks hin hP hK hD hS hl
  rw [hAe]
  have hiX2 : ∀ q ∈ wsX20, q ∈ wsX2_limit := by decide +kernel
  obtain ⟨hO1, hO2, hO3, hO4, hO5⟩ := id hO
  refine lv_aload_n hx hb dX2_limit_0 rfl (lv_at hl 0 rfl) ?_
  refine lv_aload_n hx hb dX2_limit_1 rfl (lv_at hl 0 rfl) ?_
  refine va_get (D := E.1) (ci := 3) (v := .int (nI lim)) (C := RX2) (T := TX2) (N := 10) hx hb hts hiX2 hown hK hP 0 rfl rfl 2 (by decide) (hts (.fieldLink RX2 9 "PulseLoomModel" "limit" "I") (List.mem_of_getElem? (i := 1) (by rfl))) (fun _ h9 => h9) rfl dX2_limit_2 ?_
  refine cmV_i (rest := []) (As := [.int (nI lim)]) ⟨hx, hb, hml, hown, hts⟩ (c_X2_ok l E _ b th n lim t F kp (nI lim)) (cwV 1 hts gX2_limit_X2_ok rfl rfl rfl (by decide +kernel) ⟨Nat.le_of_ble_eq_true rfl, Nat.le_of_ble_eq_true rfl⟩) (va_recv hK hP (ci := 3) (q0 := 0) rfl rfl) hP hK hD hS hA rfl hl.1 rfl (Nat.le_of_ble_eq_true rfl) dX2_limit_5 ⟨Nat.le_of_ble_eq_true rfl, Nat.le_of_ble_eq_true rfl⟩ (fun r5 u5 H locs hr5 hP hD hS => ?_)
  subst hr5
  exact retM_i (E := E) (A0 := A) (v := (nI lim)) (post := fun r _ => r = (nI lim)) (u := ()) (W1 := fun _ => wM E b (nI 0) n lim F (NW t F) kp) hx hb hr hlocks hP hK hD hS (rfl) dX2_limit_8

set_option maxHeartbeats 4000000 in
set_option maxRecDepth 100000 in
/-- X2_power -/
theorem c_X2_power (l : Launch) (E : GE) (sz : Nat) (b : Nat → Nat) (th : Int32) (n lim t : Nat) (F : LR) (kp : Nat → Int32) (hO : OkS n t lim F) : Met l yX2_power wsX2_power ({ frames := 3, cells := 0, slots := 0, locals := 66 } : Room) (va_Pc [.ref (b 0)] (pcM E (wM E b th n lim F (NW t F) kp) sz)) (va_Qi (S := Unit) (fun r _ => r = (nI (acS F lim t n))) (fun uQ tQ => atM E (va_A (wM E b th n lim F (NW t F) kp) sz) ((fun _ => wM E b (nI 0) n lim F (NW t F) kp) uQ) tQ) (va_A (wM E b th n lim F (NW t F) kp) sz)) 0 0 (va_A (wM E b th n lim F (NW t F) kp) sz) := by
  refine metM (by decide) rfl (Nat.le_of_ble_eq_true rfl) ?_
  intro p e s m args below meth c ls A hAe hA hx hb hr hml hts hown hlocks hin hP hK hD hS hl
  rw [hAe]
  obtain ⟨hO1, hO2, hO3, hO4, hO5⟩ := id hO
  refine lv_aload_n hx hb dX2_power_0 rfl (lv_at hl 0 rfl) ?_
  refine lv_aload_n hx hb dX2_power_1 rfl (lv_at hl 0 rfl) ?_
  refine lv_aload_n hx hb dX2_power_2 rfl (lv_at hl 0 rfl) ?_
  refine csV_i (rest := [.ref (b 0), .ref (b 0)]) (As := []) ⟨hx, hb, hml, hown, hts⟩ (c_X2_shining l E _ b n lim t F t MV_self hO (Nat.le_refl _)) (cwV 0 hts gX2_power_X2_shining rfl rfl rfl (by decide +kernel) ⟨Nat.le_of_ble_eq_true rfl, Nat.le_of_ble_eq_true rfl⟩) (va_recv hK hP (ci := 3) (q0 := 0) rfl rfl) hP hK rfl hl.1 rfl (Nat.le_of_ble_eq_true rfl) dX2_power_3 (Nat.le_of_ble_eq_true rfl) (Nat.le_of_ble_eq_true rfl) (fun r3 hr3 => ?_)
  subst hr3
  refine csV_i (rest := [.ref (b 0)]) (As := [.int (nI (shN F lim t n))]) ⟨hx, hb, hml, hown, hts⟩ (c_X2_powerOf l E _ b n lim t F t MV_self hO (Nat.le_refl _)) (cwV 1 hts gX2_power_X2_powerOf rfl rfl rfl (by decide +kernel) ⟨Nat.le_of_ble_eq_true rfl, Nat.le_of_ble_eq_true rfl⟩) (va_recv hK hP (ci := 3) (q0 := 0) rfl rfl) hP hK rfl hl.1 rfl (Nat.le_of_ble_eq_true rfl) dX2_power_6 (Nat.le_of_ble_eq_true rfl) (Nat.le_of_ble_eq_true rfl) (fun r6 hr6 => ?_)
  subst hr6
  refine cmV_i (rest := []) (As := [.int (nI (acS F lim t n))]) ⟨hx, hb, hml, hown, hts⟩ (c_X2_ok l E _ b th n lim t F kp (nI (acS F lim t n))) (cwV 1 hts gX2_power_X2_ok rfl rfl rfl (by decide +kernel) ⟨Nat.le_of_ble_eq_true rfl, Nat.le_of_ble_eq_true rfl⟩) (va_recv hK hP (ci := 3) (q0 := 0) rfl rfl) hP hK hD hS hA rfl hl.1 rfl (Nat.le_of_ble_eq_true rfl) dX2_power_9 ⟨Nat.le_of_ble_eq_true rfl, Nat.le_of_ble_eq_true rfl⟩ (fun r9 u9 H locs hr9 hP hD hS => ?_)
  subst hr9
  exact retM_i (E := E) (A0 := A) (v := (nI (acS F lim t n))) (post := fun r _ => r = (nI (acS F lim t n))) (u := ()) (W1 := fun _ => wM E b (nI 0) n lim F (NW t F) kp) hx hb hr hlocks hP hK hD hS (rfl) dX2_power_12

set_option maxHeartbeats 4000000 in
set_option maxRecDepth 100000 in
/-- X2_unfairness -/
theorem c_X2_unfairness (l : Launch) (E : GE) (sz : Nat) (b : Nat → Nat) (th : Int32) (n lim t : Nat) (F : LR) (kp : Nat → Int32) (hO : OkS n t lim F) : Met l yX2_unfairness wsX2_unfairness ({ frames := 2, cells := 0, slots := 0, locals := 46 } : Room) (va_Pc [.ref (b 0)] (pcM E (wM E b th n lim F (NW t F) kp) sz)) (va_Qi (S := Unit) (fun r _ => r = (nI (unfS F n))) (fun uQ tQ => atM E (va_A (wM E b th n lim F (NW t F) kp) sz) ((fun _ => wM E b (nI 0) n lim F (NW t F) kp) uQ) tQ) (va_A (wM E b th n lim F (NW t F) kp) sz)) 0 0 (va_A (wM E b th n lim F (NW t F) kp) sz) := by
  refine metM (by decide) rfl (Nat.le_of_ble_eq_true rfl) ?_
  intro p e s m args below meth c ls A hAe hA hx hb hr hml hts hown hlocks hin hP hK hD hS hl
  rw [hAe]
  obtain ⟨hO1, hO2, hO3, hO4, hO5⟩ := id hO
  refine lv_aload_n hx hb dX2_unfairness_0 rfl (lv_at hl 0 rfl) ?_
  refine lv_aload_n hx hb dX2_unfairness_1 rfl (lv_at hl 0 rfl) ?_
  refine csV_i (rest := [.ref (b 0)]) (As := []) ⟨hx, hb, hml, hown, hts⟩ (c_X2_unfair l E _ b n lim t F t MV_self hO (Nat.le_refl _)) (cwV 0 hts gX2_unfairness_X2_unfair rfl rfl rfl (by decide +kernel) ⟨Nat.le_of_ble_eq_true rfl, Nat.le_of_ble_eq_true rfl⟩) (va_recv hK hP (ci := 3) (q0 := 0) rfl rfl) hP hK rfl hl.1 rfl (Nat.le_of_ble_eq_true rfl) dX2_unfairness_2 (Nat.le_of_ble_eq_true rfl) (Nat.le_of_ble_eq_true rfl) (fun r2 hr2 => ?_)
  subst hr2
  refine cmV_i (rest := []) (As := [.int (nI (unfS F n))]) ⟨hx, hb, hml, hown, hts⟩ (c_X2_ok l E _ b th n lim t F kp (nI (unfS F n))) (cwV 1 hts gX2_unfairness_X2_ok rfl rfl rfl (by decide +kernel) ⟨Nat.le_of_ble_eq_true rfl, Nat.le_of_ble_eq_true rfl⟩) (va_recv hK hP (ci := 3) (q0 := 0) rfl rfl) hP hK hD hS hA rfl hl.1 rfl (Nat.le_of_ble_eq_true rfl) dX2_unfairness_5 ⟨Nat.le_of_ble_eq_true rfl, Nat.le_of_ble_eq_true rfl⟩ (fun r5 u5 H locs hr5 hP hD hS => ?_)
  subst hr5
  exact retM_i (E := E) (A0 := A) (v := (nI (unfS F n))) (post := fun r _ => r = (nI (unfS F n))) (u := ()) (W1 := fun _ => wM E b (nI 0) n lim F (NW t F) kp) hx hb hr hlocks hP hK hD hS (rfl) dX2_unfairness_8

set_option maxHeartbeats 4000000 in
set_option maxRecDepth 100000 in
/-- X2_apart -/
theorem c_X2_apart (l : Launch) (E : GE) (sz : Nat) (b : Nat → Nat) (th : Int32) (n lim t : Nat) (F : LR) (kp : Nat → Int32) (hO : OkS n t lim F) : Met l yX2_apart wsX2_apart ({ frames := 4, cells := 0, slots := 0, locals := 93 } : Room) (va_Pc [.ref (b 0)] (pcM E (wM E b th n lim F (NW t F) kp) sz)) (va_Qi (S := Unit) (fun r _ => r = (nI (apS F n n))) (fun uQ tQ => atM E (va_A (wM E b th n lim F (NW t F) kp) sz) ((fun _ => wM E b (nI 0) n lim F (NW t F) kp) uQ) tQ) (va_A (wM E b th n lim F (NW t F) kp) sz)) 0 0 (va_A (wM E b th n lim F (NW t F) kp) sz) := by
  refine metM (by decide) rfl (Nat.le_of_ble_eq_true rfl) ?_
  intro p e s m args below meth c ls A hAe hA hx hb hr hml hts hown hlocks hin hP hK hD hS hl
  rw [hAe]
  obtain ⟨hO1, hO2, hO3, hO4, hO5⟩ := id hO
  refine lv_aload_n hx hb dX2_apart_0 rfl (lv_at hl 0 rfl) ?_
  refine lv_aload_n hx hb dX2_apart_1 rfl (lv_at hl 0 rfl) ?_
  refine csV_i (rest := [.ref (b 0)]) (As := []) ⟨hx, hb, hml, hown, hts⟩ (c_X2_strangers l E _ b n lim t F t MV_self hO (Nat.le_refl _)) (cwV 0 hts gX2_apart_X2_strangers rfl rfl rfl (by decide +kernel) ⟨Nat.le_of_ble_eq_true rfl, Nat.le_of_ble_eq_true rfl⟩) (va_recv hK hP (ci := 3) (q0 := 0) rfl rfl) hP hK rfl hl.1 rfl (Nat.le_of_ble_eq_true rfl) dX2_apart_2 (Nat.le_of_ble_eq_true rfl) (Nat.le_of_ble_eq_true rfl) (fun r2 hr2 => ?_)
  subst hr2
  refine cmV_i (rest := []) (As := [.int (nI (apS F n n))]) ⟨hx, hb, hml, hown, hts⟩ (c_X2_ok l E _ b th n lim t F kp (nI (apS F n n))) (cwV 1 hts gX2_apart_X2_ok rfl rfl rfl (by decide +kernel) ⟨Nat.le_of_ble_eq_true rfl, Nat.le_of_ble_eq_true rfl⟩) (va_recv hK hP (ci := 3) (q0 := 0) rfl rfl) hP hK hD hS hA rfl hl.1 rfl (Nat.le_of_ble_eq_true rfl) dX2_apart_5 ⟨Nat.le_of_ble_eq_true rfl, Nat.le_of_ble_eq_true rfl⟩ (fun r5 u5 H locs hr5 hP hD hS => ?_)
  subst hr5
  exact retM_i (E := E) (A0 := A) (v := (nI (apS F n n))) (post := fun r _ => r = (nI (apS F n n))) (u := ()) (W1 := fun _ => wM E b (nI 0) n lim F (NW t F) kp) hx hb hr hlocks hP hK hD hS (rfl) dX2_apart_8

set_option maxHeartbeats 4000000 in
set_option maxRecDepth 100000 in
/-- X2_together -/
theorem c_X2_together (l : Launch) (E : GE) (sz : Nat) (b : Nat → Nat) (th : Int32) (n lim t : Nat) (F : LR) (kp : Nat → Int32) (hO : OkS n t lim F) : Met l yX2_together wsX2_together ({ frames := 2, cells := 0, slots := 0, locals := 47 } : Room) (va_Pc [.ref (b 0)] (pcM E (wM E b th n lim F (NW t F) kp) sz)) (va_Ql (S := Unit) (fun r _ => r = lN (lcmS F n)) (fun uQ tQ => atM E (va_A (wM E b th n lim F (NW t F) kp) sz) ((fun _ => wM E b (nI 0) n lim F (NW t F) kp) uQ) tQ) (va_A (wM E b th n lim F (NW t F) kp) sz)) 0 0 (va_A (wM E b th n lim F (NW t F) kp) sz) := by
  refine metM (by decide) rfl (Nat.le_of_ble_eq_true rfl) ?_
  intro p e s m args below meth c ls A hAe hA hx hb hr hml hts hown hlocks hin hP hK hD hS hl
  rw [hAe]
  have hiX2 : ∀ q ∈ wsX20, q ∈ wsX2_together := by decide +kernel
  obtain ⟨hO1, hO2, hO3, hO4, hO5⟩ := id hO
  refine lv_aload_n hx hb dX2_together_0 rfl (lv_at hl 0 rfl) ?_
  refine lv_iconst (v := (nI 0)) hx hb dX2_together_1 (by decide) ?_
  refine va_put (D := E.1) (ci := 3) (v := .int (nI 0)) (ty := .int) (C := RX2) (T := TX2) (N := 10) hx hb hts hiX2 tyX2 tyX2_ok nmX2 hown hK hP hD hS 0 rfl rfl 0 (by decide) (hts (.fieldLink RX2 35 "PulseLoomModel" "thrown" "I") (List.mem_of_getElem? (i := 1) (by rfl))) (fun _ h9 => h9) rfl (by decide +kernel) rfl (by rfl) (Nat.le_of_ble_eq_true rfl) dX2_together_2 (fun H locs hP hD hS => ?_)
  have hP : va_P E.1 vwCl (wM E b (nI 0) n lim F (NW t F) kp) H := hP
  have hD : va_D A (wM E b (nI 0) n lim F (NW t F) kp) := hD
  refine lv_aload_n hx hb dX2_together_5 rfl (lv_at hl 0 rfl) ?_
  refine csV_l (rest := []) (As := []) ⟨hx, hb, hml, hown, hts⟩ (c_X2_whole l E _ b n lim t F t MV_self hO (Nat.le_refl _)) (cwV 0 hts gX2_together_X2_whole rfl rfl rfl (by decide +kernel) ⟨Nat.le_of_ble_eq_true rfl, Nat.le_of_ble_eq_true rfl⟩) (va_recv hK hP (ci := 3) (q0 := 0) rfl rfl) hP hK rfl hl.1 rfl (Nat.le_of_ble_eq_true rfl) dX2_together_6 (Nat.le_of_ble_eq_true rfl) (Nat.le_of_ble_eq_true rfl) (fun r6 hr6 => ?_)
  subst hr6
  exact retM_l (E := E) (A0 := A) (v := lN (lcmS F n)) (post := fun r _ => r = lN (lcmS F n)) (u := ()) (W1 := fun _ => wM E b (nI 0) n lim F (NW t F) kp) hx hb hr hlocks hP hK hD hS (rfl) dX2_together_9

set_option maxHeartbeats 4000000 in
set_option maxRecDepth 100000 in
/-- thrown() -/
theorem c_X2_thrown (l : Launch) (E : GE) (sz : Nat) (b : Nat → Nat) (th : Int32) (n lim t : Nat) (F : LR) (kp : Nat → Int32) : Met l yX2_thrown wsX2_thrown ({ frames := 0, cells := 0, slots := 0, locals := 0 } : Room) (va_Pc [.ref (b 0)] (pcM E (wM E b th n lim F (NW t F) kp) sz)) (va_Qi (S := Unit) (fun r _ => r = th) (fun uQ tQ => atM E (va_A (wM E b th n lim F (NW t F) kp) sz) ((fun _ => wM E b th n lim F (NW t F) kp) uQ) tQ) (va_A (wM E b th n lim F (NW t F) kp) sz)) 0 0 (va_A (wM E b th n lim F (NW t F) kp) sz) := by
  refine metM (by decide) rfl (Nat.le_of_ble_eq_true rfl) ?_
  intro p e s m args below meth c ls A hAe hA hx hb hr hml hts hown hlocks hin hP hK hD hS hl
  rw [hAe]
  have hiX2 : ∀ q ∈ wsX20, q ∈ wsX2_thrown := by decide +kernel
  refine lv_aload_n hx hb dX2_thrown_0 rfl (lv_at hl 0 rfl) ?_
  refine va_get (D := E.1) (ci := 3) (v := .int th) (C := RX2) (T := TX2) (N := 10) hx hb hts hiX2 hown hK hP 0 rfl rfl 0 (by decide) (hts (.fieldLink RX2 35 "PulseLoomModel" "thrown" "I") (List.mem_of_getElem? (i := 1) (by rfl))) (fun _ h9 => h9) rfl dX2_thrown_1 ?_
  exact retM_i (E := E) (A0 := A) (v := th) (post := fun r _ => r = th) (u := ()) (W1 := fun _ => wM E b th n lim F (NW t F) kp) hx hb hr hlocks hP hK hD hS (rfl) dX2_thrown_4

set_option maxHeartbeats 4000000 in
set_option maxRecDepth 100000 in
/-- X2_phaseOf -/
theorem c_X2_phaseOf (l : Launch) (E : GE) (sz : Nat) (b : Nat → Nat) (th : Int32) (n lim t : Nat) (F : LR) (kp : Nat → Int32) (hO : OkS n t lim F) (k : Nat) (hk : k < n) : Met l yX2_phaseOf wsX2_phaseOf ({ frames := 2, cells := 0, slots := 0, locals := 43 } : Room) (va_Pc [.ref (b 0), .int (nI k)] (pcM E (wM E b th n lim F (NW t F) kp) sz)) (va_Qi (S := Unit) (fun r _ => r = (nI (ph F k t))) (fun uQ tQ => atM E (va_A (wM E b th n lim F (NW t F) kp) sz) ((fun _ => wM E b (nI 0) n lim F (NW t F) kp) uQ) tQ) (va_A (wM E b th n lim F (NW t F) kp) sz)) 0 0 (va_A (wM E b th n lim F (NW t F) kp) sz) := by
  refine metM (by decide) rfl (Nat.le_of_ble_eq_true rfl) ?_
  intro p e s m args below meth c ls A hAe hA hx hb hr hml hts hown hlocks hin hP hK hD hS hl
  rw [hAe]
  have hiX2 : ∀ q ∈ wsX20, q ∈ wsX2_phaseOf := by decide +kernel
  obtain ⟨hO1, hO2, hO3, hO4, hO5⟩ := id hO
  refine lv_aload_n hx hb dX2_phaseOf_0 rfl (lv_at hl 0 rfl) ?_
  refine lv_iconst (v := (nI 0)) hx hb dX2_phaseOf_1 (by decide) ?_
  refine va_put (D := E.1) (ci := 3) (v := .int (nI 0)) (ty := .int) (C := RX2) (T := TX2) (N := 10) hx hb hts hiX2 tyX2 tyX2_ok nmX2 hown hK hP hD hS 0 rfl rfl 0 (by decide) (hts (.fieldLink RX2 35 "PulseLoomModel" "thrown" "I") (List.mem_of_getElem? (i := 1) (by rfl))) (fun _ h9 => h9) rfl (by decide +kernel) rfl (by rfl) (Nat.le_of_ble_eq_true rfl) dX2_phaseOf_2 (fun H locs hP hD hS => ?_)
  have hP : va_P E.1 vwCl (wM E b (nI 0) n lim F (NW t F) kp) H := hP
  have hD : va_D A (wM E b (nI 0) n lim F (NW t F) kp) := hD
  refine lv_aload_n hx hb dX2_phaseOf_5 rfl (lv_at hl 0 rfl) ?_
  refine lv_iload_n hx hb dX2_phaseOf_6 rfl (lv_at hl 1 rfl) ?_
  refine csV_i (rest := []) (As := [.int (nI k)]) ⟨hx, hb, hml, hown, hts⟩ (c_X2_isLamp l E _ b n lim t F t MV_self hO (Nat.le_refl _) (nI k)) (cwV 1 hts gX2_phaseOf_X2_isLamp rfl rfl rfl (by decide +kernel) ⟨Nat.le_of_ble_eq_true rfl, Nat.le_of_ble_eq_true rfl⟩) (va_recv hK hP (ci := 3) (q0 := 0) rfl rfl) hP hK rfl hl.1 rfl (Nat.le_of_ble_eq_true rfl) dX2_phaseOf_7 (Nat.le_of_ble_eq_true rfl) (Nat.le_of_ble_eq_true rfl) (fun r7 hr7 => ?_)
  subst hr7
  refine nq_top (show (bI (lpB n (nI k))) = (bI true) from congrArg bI (lpB_t hk hO1)) ?_
  refine bq_if_eq (tgt := 22) hx hb dX2_phaseOf_10 (by decide) (fun h10 => ?_) (fun h10 => ?_)
  · skip
    exact absurd h10 (by decide)
  · skip
    refine lv_aload_n hx hb dX2_phaseOf_13 rfl (lv_at hl 0 rfl) ?_
    refine lv_iload_n hx hb dX2_phaseOf_14 rfl (lv_at hl 1 rfl) ?_
    refine lv_iconst (v := (nI 0)) hx hb dX2_phaseOf_15 (by decide) ?_
    refine csV_i (rest := []) (As := [.int (nI k), .int (nI 0)]) ⟨hx, hb, hml, hown, hts⟩ (c_X2_phaseIn l E _ b n lim t F t MV_self hO (Nat.le_refl _) k (by omega) 0 (by omega)) (cwV 2 hts gX2_phaseOf_X2_phaseIn rfl rfl rfl (by decide +kernel) ⟨Nat.le_of_ble_eq_true rfl, Nat.le_of_ble_eq_true rfl⟩) (va_recv hK hP (ci := 3) (q0 := 0) rfl rfl) hP hK rfl hl.1 rfl (Nat.le_of_ble_eq_true rfl) dX2_phaseOf_16 (Nat.le_of_ble_eq_true rfl) (Nat.le_of_ble_eq_true rfl) (fun r16 hr16 => ?_)
    subst hr16
    refine lv_goto (tgt := 27) hx hb dX2_phaseOf_19 (by decide) ?_
    exact retM_i (E := E) (A0 := A) (v := (nI (ph F k (t + 0)))) (post := fun r _ => r = (nI (ph F k t))) (u := ()) (W1 := fun _ => wM E b (nI 0) n lim F (NW t F) kp) hx hb hr hlocks hP hK hD hS (rfl) dX2_phaseOf_27

set_option maxHeartbeats 4000000 in
set_option maxRecDepth 100000 in
/-- X2_phaseOf, refused -/
theorem c_X2_phaseOf_x (l : Launch) (E : GE) (sz : Nat) (b : Nat → Nat) (th : Int32) (n lim t : Nat) (F : LR) (kp : Nat → Int32) (hO : OkS n t lim F) (x : Int32) (hx9 : lpB n x = false) : Met l yX2_phaseOf wsX2_phaseOf ({ frames := 2, cells := 0, slots := 0, locals := 43 } : Room) (va_Pc [.ref (b 0), .int x] (pcM E (wM E b th n lim F (NW t F) kp) sz)) (va_Qi (S := Unit) (fun r _ => r = nI 0) (fun uQ tQ => atM E (va_A (wM E b th n lim F (NW t F) kp) sz) ((fun _ => wM E b (nI 1) n lim F (NW t F) kp) uQ) tQ) (va_A (wM E b th n lim F (NW t F) kp) sz)) 0 0 (va_A (wM E b th n lim F (NW t F) kp) sz) := by
  refine metM (by decide) rfl (Nat.le_of_ble_eq_true rfl) ?_
  intro p e s m args below meth c ls A hAe hA hx hb hr hml hts hown hlocks hin hP hK hD hS hl
  rw [hAe]
  have hiX2 : ∀ q ∈ wsX20, q ∈ wsX2_phaseOf := by decide +kernel
  obtain ⟨hO1, hO2, hO3, hO4, hO5⟩ := id hO
  refine lv_aload_n hx hb dX2_phaseOf_0 rfl (lv_at hl 0 rfl) ?_
  refine lv_iconst (v := (nI 0)) hx hb dX2_phaseOf_1 (by decide) ?_
  refine va_put (D := E.1) (ci := 3) (v := .int (nI 0)) (ty := .int) (C := RX2) (T := TX2) (N := 10) hx hb hts hiX2 tyX2 tyX2_ok nmX2 hown hK hP hD hS 0 rfl rfl 0 (by decide) (hts (.fieldLink RX2 35 "PulseLoomModel" "thrown" "I") (List.mem_of_getElem? (i := 1) (by rfl))) (fun _ h9 => h9) rfl (by decide +kernel) rfl (by rfl) (Nat.le_of_ble_eq_true rfl) dX2_phaseOf_2 (fun H locs hP hD hS => ?_)
  have hP : va_P E.1 vwCl (wM E b (nI 0) n lim F (NW t F) kp) H := hP
  have hD : va_D A (wM E b (nI 0) n lim F (NW t F) kp) := hD
  refine lv_aload_n hx hb dX2_phaseOf_5 rfl (lv_at hl 0 rfl) ?_
  refine lv_iload_n hx hb dX2_phaseOf_6 rfl (lv_at hl 1 rfl) ?_
  refine csV_i (rest := []) (As := [.int x]) ⟨hx, hb, hml, hown, hts⟩ (c_X2_isLamp l E _ b n lim t F t MV_self hO (Nat.le_refl _) x) (cwV 1 hts gX2_phaseOf_X2_isLamp rfl rfl rfl (by decide +kernel) ⟨Nat.le_of_ble_eq_true rfl, Nat.le_of_ble_eq_true rfl⟩) (va_recv hK hP (ci := 3) (q0 := 0) rfl rfl) hP hK rfl hl.1 rfl (Nat.le_of_ble_eq_true rfl) dX2_phaseOf_7 (Nat.le_of_ble_eq_true rfl) (Nat.le_of_ble_eq_true rfl) (fun r7 hr7 => ?_)
  subst hr7
  refine nq_top (show (bI (lpB n x)) = (bI false) from congrArg bI hx9) ?_
  refine bq_if_eq (tgt := 22) hx hb dX2_phaseOf_10 (by decide) (fun h10 => ?_) (fun h10 => ?_)
  · skip
    refine lv_aload_n hx hb dX2_phaseOf_22 rfl (lv_at hl 0 rfl) ?_
    refine lv_iconst (v := (nI 1)) hx hb dX2_phaseOf_23 (by decide) ?_
    refine cmV_i (rest := []) (As := [.int (nI 1)]) ⟨hx, hb, hml, hown, hts⟩ (c_X2_no l E _ b (nI 0) n lim t F kp (nI 1)) (cwV 1 hts gX2_phaseOf_X2_no rfl rfl rfl (by decide +kernel) ⟨Nat.le_of_ble_eq_true rfl, Nat.le_of_ble_eq_true rfl⟩) (va_recv hK hP (ci := 3) (q0 := 0) rfl rfl) hP hK hD hS hA rfl hl.1 rfl (Nat.le_of_ble_eq_true rfl) dX2_phaseOf_24 ⟨Nat.le_of_ble_eq_true rfl, Nat.le_of_ble_eq_true rfl⟩ (fun r24 u24 H locs hr24 hP hD hS => ?_)
    subst hr24
    exact retM_i (E := E) (A0 := A) (v := (nI 0)) (post := fun r _ => r = nI 0) (u := ()) (W1 := fun _ => wM E b (nI 1) n lim F (NW t F) kp) hx hb hr hlocks hP hK hD hS (rfl) dX2_phaseOf_27
  · skip
    exact absurd h10 (by decide)

set_option maxHeartbeats 4000000 in
set_option maxRecDepth 100000 in
/-- X2_isDue -/
theorem c_X2_isDue (l : Launch) (E : GE) (sz : Nat) (b : Nat → Nat) (th : Int32) (n lim t : Nat) (F : LR) (kp : Nat → Int32) (hO : OkS n t lim F) (k : Nat) (hk : k < n) : Met l yX2_isDue wsX2_isDue ({ frames := 2, cells := 0, slots := 0, locals := 43 } : Room) (va_Pc [.ref (b 0), .int (nI k)] (pcM E (wM E b th n lim F (NW t F) kp) sz)) (va_Qi (S := Unit) (fun r _ => r = (bI (due F k t))) (fun uQ tQ => atM E (va_A (wM E b th n lim F (NW t F) kp) sz) ((fun _ => wM E b (nI 0) n lim F (NW t F) kp) uQ) tQ) (va_A (wM E b th n lim F (NW t F) kp) sz)) 0 0 (va_A (wM E b th n lim F (NW t F) kp) sz) := by
  refine metM (by decide) rfl (Nat.le_of_ble_eq_true rfl) ?_
  intro p e s m args below meth c ls A hAe hA hx hb hr hml hts hown hlocks hin hP hK hD hS hl
  rw [hAe]
  have hiX2 : ∀ q ∈ wsX20, q ∈ wsX2_isDue := by decide +kernel
  obtain ⟨hO1, hO2, hO3, hO4, hO5⟩ := id hO
  refine lv_aload_n hx hb dX2_isDue_0 rfl (lv_at hl 0 rfl) ?_
  refine lv_iconst (v := (nI 0)) hx hb dX2_isDue_1 (by decide) ?_
  refine va_put (D := E.1) (ci := 3) (v := .int (nI 0)) (ty := .int) (C := RX2) (T := TX2) (N := 10) hx hb hts hiX2 tyX2 tyX2_ok nmX2 hown hK hP hD hS 0 rfl rfl 0 (by decide) (hts (.fieldLink RX2 35 "PulseLoomModel" "thrown" "I") (List.mem_of_getElem? (i := 1) (by rfl))) (fun _ h9 => h9) rfl (by decide +kernel) rfl (by rfl) (Nat.le_of_ble_eq_true rfl) dX2_isDue_2 (fun H locs hP hD hS => ?_)
  have hP : va_P E.1 vwCl (wM E b (nI 0) n lim F (NW t F) kp) H := hP
  have hD : va_D A (wM E b (nI 0) n lim F (NW t F) kp) := hD
  refine lv_aload_n hx hb dX2_isDue_5 rfl (lv_at hl 0 rfl) ?_
  refine lv_iload_n hx hb dX2_isDue_6 rfl (lv_at hl 1 rfl) ?_
  refine csV_i (rest := []) (As := [.int (nI k)]) ⟨hx, hb, hml, hown, hts⟩ (c_X2_isLamp l E _ b n lim t F t MV_self hO (Nat.le_refl _) (nI k)) (cwV 1 hts gX2_isDue_X2_isLamp rfl rfl rfl (by decide +kernel) ⟨Nat.le_of_ble_eq_true rfl, Nat.le_of_ble_eq_true rfl⟩) (va_recv hK hP (ci := 3) (q0 := 0) rfl rfl) hP hK rfl hl.1 rfl (Nat.le_of_ble_eq_true rfl) dX2_isDue_7 (Nat.le_of_ble_eq_true rfl) (Nat.le_of_ble_eq_true rfl) (fun r7 hr7 => ?_)
  subst hr7
  refine nq_top (show (bI (lpB n (nI k))) = (bI true) from congrArg bI (lpB_t hk hO1)) ?_
  refine bq_if_eq (tgt := 21) hx hb dX2_isDue_10 (by decide) (fun h10 => ?_) (fun h10 => ?_)
  · skip
    exact absurd h10 (by decide)
  · skip
    refine lv_aload_n hx hb dX2_isDue_13 rfl (lv_at hl 0 rfl) ?_
    refine lv_iload_n hx hb dX2_isDue_14 rfl (lv_at hl 1 rfl) ?_
    refine csV_i (rest := []) (As := [.int (nI k)]) ⟨hx, hb, hml, hown, hts⟩ (c_X2_dueIn l E _ b n lim t F t MV_self hO (Nat.le_refl _) k (by omega)) (cwV 1 hts gX2_isDue_X2_dueIn rfl rfl rfl (by decide +kernel) ⟨Nat.le_of_ble_eq_true rfl, Nat.le_of_ble_eq_true rfl⟩) (va_recv hK hP (ci := 3) (q0 := 0) rfl rfl) hP hK rfl hl.1 rfl (Nat.le_of_ble_eq_true rfl) dX2_isDue_15 (Nat.le_of_ble_eq_true rfl) (Nat.le_of_ble_eq_true rfl) (fun r15 hr15 => ?_)
    subst hr15
    refine lv_goto (tgt := 26) hx hb dX2_isDue_18 (by decide) ?_
    exact retM_z (E := E) (A0 := A) (b := due F k t) (post := fun r _ => r = (bI (due F k t))) (u := ()) (W1 := fun _ => wM E b (nI 0) n lim F (NW t F) kp) hx hb hr hlocks hP hK hD hS (rfl) dX2_isDue_26

set_option maxHeartbeats 4000000 in
set_option maxRecDepth 100000 in
/-- X2_isDue, refused -/
theorem c_X2_isDue_x (l : Launch) (E : GE) (sz : Nat) (b : Nat → Nat) (th : Int32) (n lim t : Nat) (F : LR) (kp : Nat → Int32) (hO : OkS n t lim F) (x : Int32) (hx9 : lpB n x = false) : Met l yX2_isDue wsX2_isDue ({ frames := 2, cells := 0, slots := 0, locals := 43 } : Room) (va_Pc [.ref (b 0), .int x] (pcM E (wM E b th n lim F (NW t F) kp) sz)) (va_Qi (S := Unit) (fun r _ => r = bI false) (fun uQ tQ => atM E (va_A (wM E b th n lim F (NW t F) kp) sz) ((fun _ => wM E b (nI 1) n lim F (NW t F) kp) uQ) tQ) (va_A (wM E b th n lim F (NW t F) kp) sz)) 0 0 (va_A (wM E b th n lim F (NW t F) kp) sz) := by
  refine metM (by decide) rfl (Nat.le_of_ble_eq_true rfl) ?_
  intro p e s m args below meth c ls A hAe hA hx hb hr hml hts hown hlocks hin hP hK hD hS hl
  rw [hAe]
  have hiX2 : ∀ q ∈ wsX20, q ∈ wsX2_isDue := by decide +kernel
  obtain ⟨hO1, hO2, hO3, hO4, hO5⟩ := id hO
  refine lv_aload_n hx hb dX2_isDue_0 rfl (lv_at hl 0 rfl) ?_
  refine lv_iconst (v := (nI 0)) hx hb dX2_isDue_1 (by decide) ?_
  refine va_put (D := E.1) (ci := 3) (v := .int (nI 0)) (ty := .int) (C := RX2) (T := TX2) (N := 10) hx hb hts hiX2 tyX2 tyX2_ok nmX2 hown hK hP hD hS 0 rfl rfl 0 (by decide) (hts (.fieldLink RX2 35 "PulseLoomModel" "thrown" "I") (List.mem_of_getElem? (i := 1) (by rfl))) (fun _ h9 => h9) rfl (by decide +kernel) rfl (by rfl) (Nat.le_of_ble_eq_true rfl) dX2_isDue_2 (fun H locs hP hD hS => ?_)
  have hP : va_P E.1 vwCl (wM E b (nI 0) n lim F (NW t F) kp) H := hP
  have hD : va_D A (wM E b (nI 0) n lim F (NW t F) kp) := hD
  refine lv_aload_n hx hb dX2_isDue_5 rfl (lv_at hl 0 rfl) ?_
  refine lv_iload_n hx hb dX2_isDue_6 rfl (lv_at hl 1 rfl) ?_
  refine csV_i (rest := []) (As := [.int x]) ⟨hx, hb, hml, hown, hts⟩ (c_X2_isLamp l E _ b n lim t F t MV_self hO (Nat.le_refl _) x) (cwV 1 hts gX2_isDue_X2_isLamp rfl rfl rfl (by decide +kernel) ⟨Nat.le_of_ble_eq_true rfl, Nat.le_of_ble_eq_true rfl⟩) (va_recv hK hP (ci := 3) (q0 := 0) rfl rfl) hP hK rfl hl.1 rfl (Nat.le_of_ble_eq_true rfl) dX2_isDue_7 (Nat.le_of_ble_eq_true rfl) (Nat.le_of_ble_eq_true rfl) (fun r7 hr7 => ?_)
  subst hr7
  refine nq_top (show (bI (lpB n x)) = (bI false) from congrArg bI hx9) ?_
  refine bq_if_eq (tgt := 21) hx hb dX2_isDue_10 (by decide) (fun h10 => ?_) (fun h10 => ?_)
  · skip
    refine lv_aload_n hx hb dX2_isDue_21 rfl (lv_at hl 0 rfl) ?_
    refine lv_iconst (v := (nI 1)) hx hb dX2_isDue_22 (by decide) ?_
    refine cmV_i (rest := []) (As := [.int (nI 1)]) ⟨hx, hb, hml, hown, hts⟩ (c_X2_isNot l E _ b (nI 0) n lim t F kp (nI 1)) (cwV 1 hts gX2_isDue_X2_isNot rfl rfl rfl (by decide +kernel) ⟨Nat.le_of_ble_eq_true rfl, Nat.le_of_ble_eq_true rfl⟩) (va_recv hK hP (ci := 3) (q0 := 0) rfl rfl) hP hK hD hS hA rfl hl.1 rfl (Nat.le_of_ble_eq_true rfl) dX2_isDue_23 ⟨Nat.le_of_ble_eq_true rfl, Nat.le_of_ble_eq_true rfl⟩ (fun r23 u23 H locs hr23 hP hD hS => ?_)
    subst hr23
    exact retM_z (E := E) (A0 := A) (b := false) (post := fun r _ => r = bI false) (u := ()) (W1 := fun _ => wM E b (nI 1) n lim F (NW t F) kp) hx hb hr hlocks hP hK hD hS (rfl) dX2_isDue_26
  · skip
    exact absurd h10 (by decide)

set_option maxHeartbeats 4000000 in
set_option maxRecDepth 100000 in
/-- X2_shines -/
theorem c_X2_shines (l : Launch) (E : GE) (sz : Nat) (b : Nat → Nat) (th : Int32) (n lim t : Nat) (F : LR) (kp : Nat → Int32) (hO : OkS n t lim F) (k : Nat) (hk : k < n) : Met l yX2_shines wsX2_shines ({ frames := 4, cells := 0, slots := 0, locals := 87 } : Room) (va_Pc [.ref (b 0), .int (nI k)] (pcM E (wM E b th n lim F (NW t F) kp) sz)) (va_Qi (S := Unit) (fun r _ => r = (bI (litS F lim t k))) (fun uQ tQ => atM E (va_A (wM E b th n lim F (NW t F) kp) sz) ((fun _ => wM E b (nI 0) n lim F (NW t F) kp) uQ) tQ) (va_A (wM E b th n lim F (NW t F) kp) sz)) 0 0 (va_A (wM E b th n lim F (NW t F) kp) sz) := by
  refine metM (by decide) rfl (Nat.le_of_ble_eq_true rfl) ?_
  intro p e s m args below meth c ls A hAe hA hx hb hr hml hts hown hlocks hin hP hK hD hS hl
  rw [hAe]
  have hiX2 : ∀ q ∈ wsX20, q ∈ wsX2_shines := by decide +kernel
  obtain ⟨hO1, hO2, hO3, hO4, hO5⟩ := id hO
  refine lv_aload_n hx hb dX2_shines_0 rfl (lv_at hl 0 rfl) ?_
  refine lv_iconst (v := (nI 0)) hx hb dX2_shines_1 (by decide) ?_
  refine va_put (D := E.1) (ci := 3) (v := .int (nI 0)) (ty := .int) (C := RX2) (T := TX2) (N := 10) hx hb hts hiX2 tyX2 tyX2_ok nmX2 hown hK hP hD hS 0 rfl rfl 0 (by decide) (hts (.fieldLink RX2 35 "PulseLoomModel" "thrown" "I") (List.mem_of_getElem? (i := 1) (by rfl))) (fun _ h9 => h9) rfl (by decide +kernel) rfl (by rfl) (Nat.le_of_ble_eq_true rfl) dX2_shines_2 (fun H locs hP hD hS => ?_)
  have hP : va_P E.1 vwCl (wM E b (nI 0) n lim F (NW t F) kp) H := hP
  have hD : va_D A (wM E b (nI 0) n lim F (NW t F) kp) := hD
  refine lv_aload_n hx hb dX2_shines_5 rfl (lv_at hl 0 rfl) ?_
  refine lv_iload_n hx hb dX2_shines_6 rfl (lv_at hl 1 rfl) ?_
  refine csV_i (rest := []) (As := [.int (nI k)]) ⟨hx, hb, hml, hown, hts⟩ (c_X2_isLamp l E _ b n lim t F t MV_self hO (Nat.le_refl _) (nI k)) (cwV 1 hts gX2_shines_X2_isLamp rfl rfl rfl (by decide +kernel) ⟨Nat.le_of_ble_eq_true rfl, Nat.le_of_ble_eq_true rfl⟩) (va_recv hK hP (ci := 3) (q0 := 0) rfl rfl) hP hK rfl hl.1 rfl (Nat.le_of_ble_eq_true rfl) dX2_shines_7 (Nat.le_of_ble_eq_true rfl) (Nat.le_of_ble_eq_true rfl) (fun r7 hr7 => ?_)
  subst hr7
  refine nq_top (show (bI (lpB n (nI k))) = (bI true) from congrArg bI (lpB_t hk hO1)) ?_
  refine bq_if_eq (tgt := 21) hx hb dX2_shines_10 (by decide) (fun h10 => ?_) (fun h10 => ?_)
  · skip
    exact absurd h10 (by decide)
  · skip
    refine lv_aload_n hx hb dX2_shines_13 rfl (lv_at hl 0 rfl) ?_
    refine lv_iload_n hx hb dX2_shines_14 rfl (lv_at hl 1 rfl) ?_
    refine csV_i (rest := []) (As := [.int (nI k)]) ⟨hx, hb, hml, hown, hts⟩ (c_X2_isShining l E _ b n lim t F t MV_self hO (Nat.le_refl _) k (by omega)) (cwV 1 hts gX2_shines_X2_isShining rfl rfl rfl (by decide +kernel) ⟨Nat.le_of_ble_eq_true rfl, Nat.le_of_ble_eq_true rfl⟩) (va_recv hK hP (ci := 3) (q0 := 0) rfl rfl) hP hK rfl hl.1 rfl (Nat.le_of_ble_eq_true rfl) dX2_shines_15 (Nat.le_of_ble_eq_true rfl) (Nat.le_of_ble_eq_true rfl) (fun r15 hr15 => ?_)
    subst hr15
    refine lv_goto (tgt := 26) hx hb dX2_shines_18 (by decide) ?_
    exact retM_z (E := E) (A0 := A) (b := litS F lim t k) (post := fun r _ => r = (bI (litS F lim t k))) (u := ()) (W1 := fun _ => wM E b (nI 0) n lim F (NW t F) kp) hx hb hr hlocks hP hK hD hS (rfl) dX2_shines_26

set_option maxHeartbeats 4000000 in
set_option maxRecDepth 100000 in
/-- X2_shines, refused -/
theorem c_X2_shines_x (l : Launch) (E : GE) (sz : Nat) (b : Nat → Nat) (th : Int32) (n lim t : Nat) (F : LR) (kp : Nat → Int32) (hO : OkS n t lim F) (x : Int32) (hx9 : lpB n x = false) : Met l yX2_shines wsX2_shines ({ frames := 4, cells := 0, slots := 0, locals := 87 } : Room) (va_Pc [.ref (b 0), .int x] (pcM E (wM E b th n lim F (NW t F) kp) sz)) (va_Qi (S := Unit) (fun r _ => r = bI false) (fun uQ tQ => atM E (va_A (wM E b th n lim F (NW t F) kp) sz) ((fun _ => wM E b (nI 1) n lim F (NW t F) kp) uQ) tQ) (va_A (wM E b th n lim F (NW t F) kp) sz)) 0 0 (va_A (wM E b th n lim F (NW t F) kp) sz) := by
  refine metM (by decide) rfl (Nat.le_of_ble_eq_true rfl) ?_
  intro p e s m args below meth c ls A hAe hA hx hb hr hml hts hown hlocks hin hP hK hD hS hl
  rw [hAe]
  have hiX2 : ∀ q ∈ wsX20, q ∈ wsX2_shines := by decide +kernel
  obtain ⟨hO1, hO2, hO3, hO4, hO5⟩ := id hO
  refine lv_aload_n hx hb dX2_shines_0 rfl (lv_at hl 0 rfl) ?_
  refine lv_iconst (v := (nI 0)) hx hb dX2_shines_1 (by decide) ?_
  refine va_put (D := E.1) (ci := 3) (v := .int (nI 0)) (ty := .int) (C := RX2) (T := TX2) (N := 10) hx hb hts hiX2 tyX2 tyX2_ok nmX2 hown hK hP hD hS 0 rfl rfl 0 (by decide) (hts (.fieldLink RX2 35 "PulseLoomModel" "thrown" "I") (List.mem_of_getElem? (i := 1) (by rfl))) (fun _ h9 => h9) rfl (by decide +kernel) rfl (by rfl) (Nat.le_of_ble_eq_true rfl) dX2_shines_2 (fun H locs hP hD hS => ?_)
  have hP : va_P E.1 vwCl (wM E b (nI 0) n lim F (NW t F) kp) H := hP
  have hD : va_D A (wM E b (nI 0) n lim F (NW t F) kp) := hD
  refine lv_aload_n hx hb dX2_shines_5 rfl (lv_at hl 0 rfl) ?_
  refine lv_iload_n hx hb dX2_shines_6 rfl (lv_at hl 1 rfl) ?_
  refine csV_i (rest := []) (As := [.int x]) ⟨hx, hb, hml, hown, hts⟩ (c_X2_isLamp l E _ b n lim t F t MV_self hO (Nat.le_refl _) x) (cwV 1 hts gX2_shines_X2_isLamp rfl rfl rfl (by decide +kernel) ⟨Nat.le_of_ble_eq_true rfl, Nat.le_of_ble_eq_true rfl⟩) (va_recv hK hP (ci := 3) (q0 := 0) rfl rfl) hP hK rfl hl.1 rfl (Nat.le_of_ble_eq_true rfl) dX2_shines_7 (Nat.le_of_ble_eq_true rfl) (Nat.le_of_ble_eq_true rfl) (fun r7 hr7 => ?_)
  subst hr7
  refine nq_top (show (bI (lpB n x)) = (bI false) from congrArg bI hx9) ?_
  refine bq_if_eq (tgt := 21) hx hb dX2_shines_10 (by decide) (fun h10 => ?_) (fun h10 => ?_)
  · skip
    refine lv_aload_n hx hb dX2_shines_21 rfl (lv_at hl 0 rfl) ?_
    refine lv_iconst (v := (nI 1)) hx hb dX2_shines_22 (by decide) ?_
    refine cmV_i (rest := []) (As := [.int (nI 1)]) ⟨hx, hb, hml, hown, hts⟩ (c_X2_isNot l E _ b (nI 0) n lim t F kp (nI 1)) (cwV 1 hts gX2_shines_X2_isNot rfl rfl rfl (by decide +kernel) ⟨Nat.le_of_ble_eq_true rfl, Nat.le_of_ble_eq_true rfl⟩) (va_recv hK hP (ci := 3) (q0 := 0) rfl rfl) hP hK hD hS hA rfl hl.1 rfl (Nat.le_of_ble_eq_true rfl) dX2_shines_23 ⟨Nat.le_of_ble_eq_true rfl, Nat.le_of_ble_eq_true rfl⟩ (fun r23 u23 H locs hr23 hP hD hS => ?_)
    subst hr23
    exact retM_z (E := E) (A0 := A) (b := false) (post := fun r _ => r = bI false) (u := ()) (W1 := fun _ => wM E b (nI 1) n lim F (NW t F) kp) hx hb hr hlocks hP hK hD hS (rfl) dX2_shines_26
  · skip
    exact absurd h10 (by decide)

set_option maxHeartbeats 4000000 in
set_option maxRecDepth 100000 in
/-- of -/
theorem c_X2_of_c (l : Launch) (E : GE) (sz : Nat) (b : Nat → Nat) (th : Int32) (n lim t : Nat) (F : LR) (kp : Nat → Int32) (hO : OkS n t lim F) (k : Nat) (hk : k < n) : Met l yX2_of wsX2_of ({ frames := 2, cells := 0, slots := 0, locals := 43 } : Room) (va_Pc [.ref (b 0), .ref (b 1), .int (nI k)] (pcM E (wM E b th n lim F (NW t F) kp) sz)) (va_Qi (S := Unit) (fun r _ => r = nI (F k 2)) (fun uQ tQ => atM E (va_A (wM E b th n lim F (NW t F) kp) sz) ((fun _ => wM E b (nI 0) n lim F (NW t F) kp) uQ) tQ) (va_A (wM E b th n lim F (NW t F) kp) sz)) 0 0 (va_A (wM E b th n lim F (NW t F) kp) sz) := by
  refine metM (by decide) rfl (Nat.le_of_ble_eq_true rfl) ?_
  intro p e s m args below meth c ls A hAe hA hx hb hr hml hts hown hlocks hin hP hK hD hS hl
  rw [hAe]
  have hiX2 : ∀ q ∈ wsX20, q ∈ wsX2_of := by decide +kernel
  obtain ⟨hO1, hO2, hO3, hO4, hO5⟩ := id hO
  refine lv_aload_n hx hb dX2_of_0 rfl (lv_at hl 0 rfl) ?_
  refine lv_iconst (v := (nI 0)) hx hb dX2_of_1 (by decide) ?_
  refine va_put (D := E.1) (ci := 3) (v := .int (nI 0)) (ty := .int) (C := RX2) (T := TX2) (N := 10) hx hb hts hiX2 tyX2 tyX2_ok nmX2 hown hK hP hD hS 0 rfl rfl 0 (by decide) (hts (.fieldLink RX2 35 "PulseLoomModel" "thrown" "I") (List.mem_of_getElem? (i := 1) (by rfl))) (fun _ h9 => h9) rfl (by decide +kernel) rfl (by rfl) (Nat.le_of_ble_eq_true rfl) dX2_of_2 (fun H locs hP hD hS => ?_)
  have hP : va_P E.1 vwCl (wM E b (nI 0) n lim F (NW t F) kp) H := hP
  have hD : va_D A (wM E b (nI 0) n lim F (NW t F) kp) := hD
  refine lv_aload_n hx hb dX2_of_5 rfl (lv_at hl 0 rfl) ?_
  refine lv_iload_n hx hb dX2_of_6 rfl (lv_at hl 2 rfl) ?_
  refine csV_i (rest := []) (As := [.int (nI k)]) ⟨hx, hb, hml, hown, hts⟩ (c_X2_isLamp l E _ b n lim t F t MV_self hO (Nat.le_refl _) (nI k)) (cwV 1 hts gX2_of_X2_isLamp rfl rfl rfl (by decide +kernel) ⟨Nat.le_of_ble_eq_true rfl, Nat.le_of_ble_eq_true rfl⟩) (va_recv hK hP (ci := 3) (q0 := 0) rfl rfl) hP hK rfl hl.1 rfl (Nat.le_of_ble_eq_true rfl) dX2_of_7 (Nat.le_of_ble_eq_true rfl) (Nat.le_of_ble_eq_true rfl) (fun r7 hr7 => ?_)
  subst hr7
  refine nq_top (show (bI (lpB n (nI k))) = (bI true) from congrArg bI (lpB_t hk hO1)) ?_
  refine bq_if_eq (tgt := 19) hx hb dX2_of_10 (by decide) (fun h10 => ?_) (fun h10 => ?_)
  · skip
    exact absurd h10 (by decide)
  · skip
    refine lv_aload_n hx hb dX2_of_13 rfl (lv_at hl 1 rfl) ?_
    refine lv_iload_n hx hb dX2_of_14 rfl (lv_at hl 2 rfl) ?_
    refine va_iald hx hb hK hP 1 0 rfl rfl (by exact vp_in_nI (by omega) (by omega)) dX2_of_15 ?_
    refine nq_top (show (nI (F (((nI k)).toNatClampNeg) 2)) = (nI (F k 2)) from by rw [nI_clamp (by omega)]) ?_
    refine lv_goto (tgt := 24) hx hb dX2_of_16 (by decide) ?_
    exact retM_i (E := E) (A0 := A) (v := (nI (F k 2))) (post := fun r _ => r = nI (F k 2)) (u := ()) (W1 := fun _ => wM E b (nI 0) n lim F (NW t F) kp) hx hb hr hlocks hP hK hD hS (rfl) dX2_of_24

set_option maxHeartbeats 4000000 in
set_option maxRecDepth 100000 in
/-- of, refused -/
theorem c_X2_of_c_x (l : Launch) (E : GE) (sz : Nat) (b : Nat → Nat) (th : Int32) (n lim t : Nat) (F : LR) (kp : Nat → Int32) (hO : OkS n t lim F) (x : Int32) (hx9 : lpB n x = false) : Met l yX2_of wsX2_of ({ frames := 2, cells := 0, slots := 0, locals := 43 } : Room) (va_Pc [.ref (b 0), .ref (b 1), .int x] (pcM E (wM E b th n lim F (NW t F) kp) sz)) (va_Qi (S := Unit) (fun r _ => r = nI 0) (fun uQ tQ => atM E (va_A (wM E b th n lim F (NW t F) kp) sz) ((fun _ => wM E b (nI 1) n lim F (NW t F) kp) uQ) tQ) (va_A (wM E b th n lim F (NW t F) kp) sz)) 0 0 (va_A (wM E b th n lim F (NW t F) kp) sz) := by
  refine metM (by decide) rfl (Nat.le_of_ble_eq_true rfl) ?_
  intro p e s m args below meth c ls A hAe hA hx hb hr hml hts hown hlocks hin hP hK hD hS hl
  rw [hAe]
  have hiX2 : ∀ q ∈ wsX20, q ∈ wsX2_of := by decide +kernel
  obtain ⟨hO1, hO2, hO3, hO4, hO5⟩ := id hO
  refine lv_aload_n hx hb dX2_of_0 rfl (lv_at hl 0 rfl) ?_
  refine lv_iconst (v := (nI 0)) hx hb dX2_of_1 (by decide) ?_
  refine va_put (D := E.1) (ci := 3) (v := .int (nI 0)) (ty := .int) (C := RX2) (T := TX2) (N := 10) hx hb hts hiX2 tyX2 tyX2_ok nmX2 hown hK hP hD hS 0 rfl rfl 0 (by decide) (hts (.fieldLink RX2 35 "PulseLoomModel" "thrown" "I") (List.mem_of_getElem? (i := 1) (by rfl))) (fun _ h9 => h9) rfl (by decide +kernel) rfl (by rfl) (Nat.le_of_ble_eq_true rfl) dX2_of_2 (fun H locs hP hD hS => ?_)
  have hP : va_P E.1 vwCl (wM E b (nI 0) n lim F (NW t F) kp) H := hP
  have hD : va_D A (wM E b (nI 0) n lim F (NW t F) kp) := hD
  refine lv_aload_n hx hb dX2_of_5 rfl (lv_at hl 0 rfl) ?_
  refine lv_iload_n hx hb dX2_of_6 rfl (lv_at hl 2 rfl) ?_
  refine csV_i (rest := []) (As := [.int x]) ⟨hx, hb, hml, hown, hts⟩ (c_X2_isLamp l E _ b n lim t F t MV_self hO (Nat.le_refl _) x) (cwV 1 hts gX2_of_X2_isLamp rfl rfl rfl (by decide +kernel) ⟨Nat.le_of_ble_eq_true rfl, Nat.le_of_ble_eq_true rfl⟩) (va_recv hK hP (ci := 3) (q0 := 0) rfl rfl) hP hK rfl hl.1 rfl (Nat.le_of_ble_eq_true rfl) dX2_of_7 (Nat.le_of_ble_eq_true rfl) (Nat.le_of_ble_eq_true rfl) (fun r7 hr7 => ?_)
  subst hr7
  refine nq_top (show (bI (lpB n x)) = (bI false) from congrArg bI hx9) ?_
  refine bq_if_eq (tgt := 19) hx hb dX2_of_10 (by decide) (fun h10 => ?_) (fun h10 => ?_)
  · skip
    refine lv_aload_n hx hb dX2_of_19 rfl (lv_at hl 0 rfl) ?_
    refine lv_iconst (v := (nI 1)) hx hb dX2_of_20 (by decide) ?_
    refine cmV_i (rest := []) (As := [.int (nI 1)]) ⟨hx, hb, hml, hown, hts⟩ (c_X2_no l E _ b (nI 0) n lim t F kp (nI 1)) (cwV 1 hts gX2_of_X2_no rfl rfl rfl (by decide +kernel) ⟨Nat.le_of_ble_eq_true rfl, Nat.le_of_ble_eq_true rfl⟩) (va_recv hK hP (ci := 3) (q0 := 0) rfl rfl) hP hK hD hS hA rfl hl.1 rfl (Nat.le_of_ble_eq_true rfl) dX2_of_21 ⟨Nat.le_of_ble_eq_true rfl, Nat.le_of_ble_eq_true rfl⟩ (fun r21 u21 H locs hr21 hP hD hS => ?_)
    subst hr21
    exact retM_i (E := E) (A0 := A) (v := (nI 0)) (post := fun r _ => r = nI 0) (u := ()) (W1 := fun _ => wM E b (nI 1) n lim F (NW t F) kp) hx hb hr hlocks hP hK hD hS (rfl) dX2_of_24
  · skip
    exact absurd h10 (by decide)

set_option maxHeartbeats 4000000 in
set_option maxRecDepth 100000 in
/-- of -/
theorem c_X2_of_s (l : Launch) (E : GE) (sz : Nat) (b : Nat → Nat) (th : Int32) (n lim t : Nat) (F : LR) (kp : Nat → Int32) (hO : OkS n t lim F) (k : Nat) (hk : k < n) : Met l yX2_of wsX2_of ({ frames := 2, cells := 0, slots := 0, locals := 43 } : Room) (va_Pc [.ref (b 0), .ref (b 3), .int (nI k)] (pcM E (wM E b th n lim F (NW t F) kp) sz)) (va_Qi (S := Unit) (fun r _ => r = nI (F k 3)) (fun uQ tQ => atM E (va_A (wM E b th n lim F (NW t F) kp) sz) ((fun _ => wM E b (nI 0) n lim F (NW t F) kp) uQ) tQ) (va_A (wM E b th n lim F (NW t F) kp) sz)) 0 0 (va_A (wM E b th n lim F (NW t F) kp) sz) := by
  refine metM (by decide) rfl (Nat.le_of_ble_eq_true rfl) ?_
  intro p e s m args below meth c ls A hAe hA hx hb hr hml hts hown hlocks hin hP hK hD hS hl
  rw [hAe]
  have hiX2 : ∀ q ∈ wsX20, q ∈ wsX2_of := by decide +kernel
  obtain ⟨hO1, hO2, hO3, hO4, hO5⟩ := id hO
  refine lv_aload_n hx hb dX2_of_0 rfl (lv_at hl 0 rfl) ?_
  refine lv_iconst (v := (nI 0)) hx hb dX2_of_1 (by decide) ?_
  refine va_put (D := E.1) (ci := 3) (v := .int (nI 0)) (ty := .int) (C := RX2) (T := TX2) (N := 10) hx hb hts hiX2 tyX2 tyX2_ok nmX2 hown hK hP hD hS 0 rfl rfl 0 (by decide) (hts (.fieldLink RX2 35 "PulseLoomModel" "thrown" "I") (List.mem_of_getElem? (i := 1) (by rfl))) (fun _ h9 => h9) rfl (by decide +kernel) rfl (by rfl) (Nat.le_of_ble_eq_true rfl) dX2_of_2 (fun H locs hP hD hS => ?_)
  have hP : va_P E.1 vwCl (wM E b (nI 0) n lim F (NW t F) kp) H := hP
  have hD : va_D A (wM E b (nI 0) n lim F (NW t F) kp) := hD
  refine lv_aload_n hx hb dX2_of_5 rfl (lv_at hl 0 rfl) ?_
  refine lv_iload_n hx hb dX2_of_6 rfl (lv_at hl 2 rfl) ?_
  refine csV_i (rest := []) (As := [.int (nI k)]) ⟨hx, hb, hml, hown, hts⟩ (c_X2_isLamp l E _ b n lim t F t MV_self hO (Nat.le_refl _) (nI k)) (cwV 1 hts gX2_of_X2_isLamp rfl rfl rfl (by decide +kernel) ⟨Nat.le_of_ble_eq_true rfl, Nat.le_of_ble_eq_true rfl⟩) (va_recv hK hP (ci := 3) (q0 := 0) rfl rfl) hP hK rfl hl.1 rfl (Nat.le_of_ble_eq_true rfl) dX2_of_7 (Nat.le_of_ble_eq_true rfl) (Nat.le_of_ble_eq_true rfl) (fun r7 hr7 => ?_)
  subst hr7
  refine nq_top (show (bI (lpB n (nI k))) = (bI true) from congrArg bI (lpB_t hk hO1)) ?_
  refine bq_if_eq (tgt := 19) hx hb dX2_of_10 (by decide) (fun h10 => ?_) (fun h10 => ?_)
  · skip
    exact absurd h10 (by decide)
  · skip
    refine lv_aload_n hx hb dX2_of_13 rfl (lv_at hl 1 rfl) ?_
    refine lv_iload_n hx hb dX2_of_14 rfl (lv_at hl 2 rfl) ?_
    refine va_iald hx hb hK hP 3 0 rfl rfl (by exact vp_in_nI (by omega) (by omega)) dX2_of_15 ?_
    refine nq_top (show (nI (F (((nI k)).toNatClampNeg) 3)) = (nI (F k 3)) from by rw [nI_clamp (by omega)]) ?_
    refine lv_goto (tgt := 24) hx hb dX2_of_16 (by decide) ?_
    exact retM_i (E := E) (A0 := A) (v := (nI (F k 3))) (post := fun r _ => r = nI (F k 3)) (u := ()) (W1 := fun _ => wM E b (nI 0) n lim F (NW t F) kp) hx hb hr hlocks hP hK hD hS (rfl) dX2_of_24

set_option maxHeartbeats 4000000 in
set_option maxRecDepth 100000 in
/-- of, refused -/
theorem c_X2_of_s_x (l : Launch) (E : GE) (sz : Nat) (b : Nat → Nat) (th : Int32) (n lim t : Nat) (F : LR) (kp : Nat → Int32) (hO : OkS n t lim F) (x : Int32) (hx9 : lpB n x = false) : Met l yX2_of wsX2_of ({ frames := 2, cells := 0, slots := 0, locals := 43 } : Room) (va_Pc [.ref (b 0), .ref (b 3), .int x] (pcM E (wM E b th n lim F (NW t F) kp) sz)) (va_Qi (S := Unit) (fun r _ => r = nI 0) (fun uQ tQ => atM E (va_A (wM E b th n lim F (NW t F) kp) sz) ((fun _ => wM E b (nI 1) n lim F (NW t F) kp) uQ) tQ) (va_A (wM E b th n lim F (NW t F) kp) sz)) 0 0 (va_A (wM E b th n lim F (NW t F) kp) sz) := by
  refine metM (by decide) rfl (Nat.le_of_ble_eq_true rfl) ?_
  intro p e s m args below meth c ls A hAe hA hx hb hr hml hts hown hlocks hin hP hK hD hS hl
  rw [hAe]
  have hiX2 : ∀ q ∈ wsX20, q ∈ wsX2_of := by decide +kernel
  obtain ⟨hO1, hO2, hO3, hO4, hO5⟩ := id hO
  refine lv_aload_n hx hb dX2_of_0 rfl (lv_at hl 0 rfl) ?_
  refine lv_iconst (v := (nI 0)) hx hb dX2_of_1 (by decide) ?_
  refine va_put (D := E.1) (ci := 3) (v := .int (nI 0)) (ty := .int) (C := RX2) (T := TX2) (N := 10) hx hb hts hiX2 tyX2 tyX2_ok nmX2 hown hK hP hD hS 0 rfl rfl 0 (by decide) (hts (.fieldLink RX2 35 "PulseLoomModel" "thrown" "I") (List.mem_of_getElem? (i := 1) (by rfl))) (fun _ h9 => h9) rfl (by decide +kernel) rfl (by rfl) (Nat.le_of_ble_eq_true rfl) dX2_of_2 (fun H locs hP hD hS => ?_)
  have hP : va_P E.1 vwCl (wM E b (nI 0) n lim F (NW t F) kp) H := hP
  have hD : va_D A (wM E b (nI 0) n lim F (NW t F) kp) := hD
  refine lv_aload_n hx hb dX2_of_5 rfl (lv_at hl 0 rfl) ?_
  refine lv_iload_n hx hb dX2_of_6 rfl (lv_at hl 2 rfl) ?_
  refine csV_i (rest := []) (As := [.int x]) ⟨hx, hb, hml, hown, hts⟩ (c_X2_isLamp l E _ b n lim t F t MV_self hO (Nat.le_refl _) x) (cwV 1 hts gX2_of_X2_isLamp rfl rfl rfl (by decide +kernel) ⟨Nat.le_of_ble_eq_true rfl, Nat.le_of_ble_eq_true rfl⟩) (va_recv hK hP (ci := 3) (q0 := 0) rfl rfl) hP hK rfl hl.1 rfl (Nat.le_of_ble_eq_true rfl) dX2_of_7 (Nat.le_of_ble_eq_true rfl) (Nat.le_of_ble_eq_true rfl) (fun r7 hr7 => ?_)
  subst hr7
  refine nq_top (show (bI (lpB n x)) = (bI false) from congrArg bI hx9) ?_
  refine bq_if_eq (tgt := 19) hx hb dX2_of_10 (by decide) (fun h10 => ?_) (fun h10 => ?_)
  · skip
    refine lv_aload_n hx hb dX2_of_19 rfl (lv_at hl 0 rfl) ?_
    refine lv_iconst (v := (nI 1)) hx hb dX2_of_20 (by decide) ?_
    refine cmV_i (rest := []) (As := [.int (nI 1)]) ⟨hx, hb, hml, hown, hts⟩ (c_X2_no l E _ b (nI 0) n lim t F kp (nI 1)) (cwV 1 hts gX2_of_X2_no rfl rfl rfl (by decide +kernel) ⟨Nat.le_of_ble_eq_true rfl, Nat.le_of_ble_eq_true rfl⟩) (va_recv hK hP (ci := 3) (q0 := 0) rfl rfl) hP hK hD hS hA rfl hl.1 rfl (Nat.le_of_ble_eq_true rfl) dX2_of_21 ⟨Nat.le_of_ble_eq_true rfl, Nat.le_of_ble_eq_true rfl⟩ (fun r21 u21 H locs hr21 hP hD hS => ?_)
    subst hr21
    exact retM_i (E := E) (A0 := A) (v := (nI 0)) (post := fun r _ => r = nI 0) (u := ()) (W1 := fun _ => wM E b (nI 1) n lim F (NW t F) kp) hx hb hr hlocks hP hK hD hS (rfl) dX2_of_24
  · skip
    exact absurd h10 (by decide)

set_option maxHeartbeats 4000000 in
set_option maxRecDepth 100000 in
/-- X2_colourOf -/
theorem c_X2_colourOf (l : Launch) (E : GE) (sz : Nat) (b : Nat → Nat) (th : Int32) (n lim t : Nat) (F : LR) (kp : Nat → Int32) (hO : OkS n t lim F) (k : Nat) (hk : k < n) : Met l yX2_colourOf wsX2_colourOf ({ frames := 3, cells := 0, slots := 0, locals := 65 } : Room) (va_Pc [.ref (b 0), .int (nI k)] (pcM E (wM E b th n lim F (NW t F) kp) sz)) (va_Qi (S := Unit) (fun r _ => r = (nI (F k 2))) (fun uQ tQ => atM E (va_A (wM E b th n lim F (NW t F) kp) sz) ((fun _ => wM E b (nI 0) n lim F (NW t F) kp) uQ) tQ) (va_A (wM E b th n lim F (NW t F) kp) sz)) 0 0 (va_A (wM E b th n lim F (NW t F) kp) sz) := by
  refine metM (by decide) rfl (Nat.le_of_ble_eq_true rfl) ?_
  intro p e s m args below meth c ls A hAe hA hx hb hr hml hts hown hlocks hin hP hK hD hS hl
  rw [hAe]
  have hiX2 : ∀ q ∈ wsX20, q ∈ wsX2_colourOf := by decide +kernel
  obtain ⟨hO1, hO2, hO3, hO4, hO5⟩ := id hO
  refine lv_aload_n hx hb dX2_colourOf_0 rfl (lv_at hl 0 rfl) ?_
  refine lv_aload_n hx hb dX2_colourOf_1 rfl (lv_at hl 0 rfl) ?_
  refine va_get (D := E.1) (ci := 3) (v := .ref (b 1)) (C := RX2) (T := TX2) (N := 10) hx hb hts hiX2 hown hK hP 0 rfl rfl 3 (by decide) (hts (.fieldLink RX2 13 "PulseLoomModel" "colour" "[I") (List.mem_of_getElem? (i := 1) (by rfl))) (fun _ h9 => h9) rfl dX2_colourOf_2 ?_
  refine lv_iload_n hx hb dX2_colourOf_5 rfl (lv_at hl 1 rfl) ?_
  refine cmV_i (rest := []) (As := [.ref (b 1), .int (nI k)]) ⟨hx, hb, hml, hown, hts⟩ (c_X2_of_c l E _ b th n lim t F kp hO k hk) (cwV 2 hts gX2_colourOf_X2_of rfl rfl rfl (by decide +kernel) ⟨Nat.le_of_ble_eq_true rfl, Nat.le_of_ble_eq_true rfl⟩) (va_recv hK hP (ci := 3) (q0 := 0) rfl rfl) hP hK hD hS hA rfl hl.1 rfl (Nat.le_of_ble_eq_true rfl) dX2_colourOf_6 ⟨Nat.le_of_ble_eq_true rfl, Nat.le_of_ble_eq_true rfl⟩ (fun r6 u6 H locs hr6 hP hD hS => ?_)
  subst hr6
  exact retM_i (E := E) (A0 := A) (v := (nI (F k 2))) (post := fun r _ => r = (nI (F k 2))) (u := ()) (W1 := fun _ => wM E b (nI 0) n lim F (NW t F) kp) hx hb hr hlocks hP hK hD hS (rfl) dX2_colourOf_9

set_option maxHeartbeats 4000000 in
set_option maxRecDepth 100000 in
/-- X2_colourOf, refused -/
theorem c_X2_colourOf_x (l : Launch) (E : GE) (sz : Nat) (b : Nat → Nat) (th : Int32) (n lim t : Nat) (F : LR) (kp : Nat → Int32) (hO : OkS n t lim F) (x : Int32) (hx9 : lpB n x = false) : Met l yX2_colourOf wsX2_colourOf ({ frames := 3, cells := 0, slots := 0, locals := 65 } : Room) (va_Pc [.ref (b 0), .int x] (pcM E (wM E b th n lim F (NW t F) kp) sz)) (va_Qi (S := Unit) (fun r _ => r = nI 0) (fun uQ tQ => atM E (va_A (wM E b th n lim F (NW t F) kp) sz) ((fun _ => wM E b (nI 1) n lim F (NW t F) kp) uQ) tQ) (va_A (wM E b th n lim F (NW t F) kp) sz)) 0 0 (va_A (wM E b th n lim F (NW t F) kp) sz) := by
  refine metM (by decide) rfl (Nat.le_of_ble_eq_true rfl) ?_
  intro p e s m args below meth c ls A hAe hA hx hb hr hml hts hown hlocks hin hP hK hD hS hl
  rw [hAe]
  have hiX2 : ∀ q ∈ wsX20, q ∈ wsX2_colourOf := by decide +kernel
  obtain ⟨hO1, hO2, hO3, hO4, hO5⟩ := id hO
  refine lv_aload_n hx hb dX2_colourOf_0 rfl (lv_at hl 0 rfl) ?_
  refine lv_aload_n hx hb dX2_colourOf_1 rfl (lv_at hl 0 rfl) ?_
  refine va_get (D := E.1) (ci := 3) (v := .ref (b 1)) (C := RX2) (T := TX2) (N := 10) hx hb hts hiX2 hown hK hP 0 rfl rfl 3 (by decide) (hts (.fieldLink RX2 13 "PulseLoomModel" "colour" "[I") (List.mem_of_getElem? (i := 1) (by rfl))) (fun _ h9 => h9) rfl dX2_colourOf_2 ?_
  refine lv_iload_n hx hb dX2_colourOf_5 rfl (lv_at hl 1 rfl) ?_
  refine cmV_i (rest := []) (As := [.ref (b 1), .int x]) ⟨hx, hb, hml, hown, hts⟩ (c_X2_of_c_x l E _ b th n lim t F kp hO x hx9) (cwV 2 hts gX2_colourOf_X2_of rfl rfl rfl (by decide +kernel) ⟨Nat.le_of_ble_eq_true rfl, Nat.le_of_ble_eq_true rfl⟩) (va_recv hK hP (ci := 3) (q0 := 0) rfl rfl) hP hK hD hS hA rfl hl.1 rfl (Nat.le_of_ble_eq_true rfl) dX2_colourOf_6 ⟨Nat.le_of_ble_eq_true rfl, Nat.le_of_ble_eq_true rfl⟩ (fun r6 u6 H locs hr6 hP hD hS => ?_)
  subst hr6
  exact retM_i (E := E) (A0 := A) (v := (nI 0)) (post := fun r _ => r = nI 0) (u := ()) (W1 := fun _ => wM E b (nI 1) n lim F (NW t F) kp) hx hb hr hlocks hP hK hD hS (rfl) dX2_colourOf_9

set_option maxHeartbeats 4000000 in
set_option maxRecDepth 100000 in
/-- X2_shiftOf -/
theorem c_X2_shiftOf (l : Launch) (E : GE) (sz : Nat) (b : Nat → Nat) (th : Int32) (n lim t : Nat) (F : LR) (kp : Nat → Int32) (hO : OkS n t lim F) (k : Nat) (hk : k < n) : Met l yX2_shiftOf wsX2_shiftOf ({ frames := 3, cells := 0, slots := 0, locals := 65 } : Room) (va_Pc [.ref (b 0), .int (nI k)] (pcM E (wM E b th n lim F (NW t F) kp) sz)) (va_Qi (S := Unit) (fun r _ => r = (nI (F k 3))) (fun uQ tQ => atM E (va_A (wM E b th n lim F (NW t F) kp) sz) ((fun _ => wM E b (nI 0) n lim F (NW t F) kp) uQ) tQ) (va_A (wM E b th n lim F (NW t F) kp) sz)) 0 0 (va_A (wM E b th n lim F (NW t F) kp) sz) := by
  refine metM (by decide) rfl (Nat.le_of_ble_eq_true rfl) ?_
  intro p e s m args below meth c ls A hAe hA hx hb hr hml hts hown hlocks hin hP hK hD hS hl
  rw [hAe]
  have hiX2 : ∀ q ∈ wsX20, q ∈ wsX2_shiftOf := by decide +kernel
  obtain ⟨hO1, hO2, hO3, hO4, hO5⟩ := id hO
  refine lv_aload_n hx hb dX2_shiftOf_0 rfl (lv_at hl 0 rfl) ?_
  refine lv_aload_n hx hb dX2_shiftOf_1 rfl (lv_at hl 0 rfl) ?_
  refine va_get (D := E.1) (ci := 3) (v := .ref (b 3)) (C := RX2) (T := TX2) (N := 10) hx hb hts hiX2 hown hK hP 0 rfl rfl 5 (by decide) (hts (.fieldLink RX2 20 "PulseLoomModel" "shift" "[I") (List.mem_of_getElem? (i := 1) (by rfl))) (fun _ h9 => h9) rfl dX2_shiftOf_2 ?_
  refine lv_iload_n hx hb dX2_shiftOf_5 rfl (lv_at hl 1 rfl) ?_
  refine cmV_i (rest := []) (As := [.ref (b 3), .int (nI k)]) ⟨hx, hb, hml, hown, hts⟩ (c_X2_of_s l E _ b th n lim t F kp hO k hk) (cwV 2 hts gX2_shiftOf_X2_of rfl rfl rfl (by decide +kernel) ⟨Nat.le_of_ble_eq_true rfl, Nat.le_of_ble_eq_true rfl⟩) (va_recv hK hP (ci := 3) (q0 := 0) rfl rfl) hP hK hD hS hA rfl hl.1 rfl (Nat.le_of_ble_eq_true rfl) dX2_shiftOf_6 ⟨Nat.le_of_ble_eq_true rfl, Nat.le_of_ble_eq_true rfl⟩ (fun r6 u6 H locs hr6 hP hD hS => ?_)
  subst hr6
  exact retM_i (E := E) (A0 := A) (v := (nI (F k 3))) (post := fun r _ => r = (nI (F k 3))) (u := ()) (W1 := fun _ => wM E b (nI 0) n lim F (NW t F) kp) hx hb hr hlocks hP hK hD hS (rfl) dX2_shiftOf_9

set_option maxHeartbeats 4000000 in
set_option maxRecDepth 100000 in
/-- X2_shiftOf, refused -/
theorem c_X2_shiftOf_x (l : Launch) (E : GE) (sz : Nat) (b : Nat → Nat) (th : Int32) (n lim t : Nat) (F : LR) (kp : Nat → Int32) (hO : OkS n t lim F) (x : Int32) (hx9 : lpB n x = false) : Met l yX2_shiftOf wsX2_shiftOf ({ frames := 3, cells := 0, slots := 0, locals := 65 } : Room) (va_Pc [.ref (b 0), .int x] (pcM E (wM E b th n lim F (NW t F) kp) sz)) (va_Qi (S := Unit) (fun r _ => r = nI 0) (fun uQ tQ => atM E (va_A (wM E b th n lim F (NW t F) kp) sz) ((fun _ => wM E b (nI 1) n lim F (NW t F) kp) uQ) tQ) (va_A (wM E b th n lim F (NW t F) kp) sz)) 0 0 (va_A (wM E b th n lim F (NW t F) kp) sz) := by
  refine metM (by decide) rfl (Nat.le_of_ble_eq_true rfl) ?_
  intro p e s m args below meth c ls A hAe hA hx hb hr hml hts hown hlocks hin hP hK hD hS hl
  rw [hAe]
  have hiX2 : ∀ q ∈ wsX20, q ∈ wsX2_shiftOf := by decide +kernel
  obtain ⟨hO1, hO2, hO3, hO4, hO5⟩ := id hO
  refine lv_aload_n hx hb dX2_shiftOf_0 rfl (lv_at hl 0 rfl) ?_
  refine lv_aload_n hx hb dX2_shiftOf_1 rfl (lv_at hl 0 rfl) ?_
  refine va_get (D := E.1) (ci := 3) (v := .ref (b 3)) (C := RX2) (T := TX2) (N := 10) hx hb hts hiX2 hown hK hP 0 rfl rfl 5 (by decide) (hts (.fieldLink RX2 20 "PulseLoomModel" "shift" "[I") (List.mem_of_getElem? (i := 1) (by rfl))) (fun _ h9 => h9) rfl dX2_shiftOf_2 ?_
  refine lv_iload_n hx hb dX2_shiftOf_5 rfl (lv_at hl 1 rfl) ?_
  refine cmV_i (rest := []) (As := [.ref (b 3), .int x]) ⟨hx, hb, hml, hown, hts⟩ (c_X2_of_s_x l E _ b th n lim t F kp hO x hx9) (cwV 2 hts gX2_shiftOf_X2_of rfl rfl rfl (by decide +kernel) ⟨Nat.le_of_ble_eq_true rfl, Nat.le_of_ble_eq_true rfl⟩) (va_recv hK hP (ci := 3) (q0 := 0) rfl rfl) hP hK hD hS hA rfl hl.1 rfl (Nat.le_of_ble_eq_true rfl) dX2_shiftOf_6 ⟨Nat.le_of_ble_eq_true rfl, Nat.le_of_ble_eq_true rfl⟩ (fun r6 u6 H locs hr6 hP hD hS => ?_)
  subst hr6
  exact retM_i (E := E) (A0 := A) (v := (nI 0)) (post := fun r _ => r = nI 0) (u := ()) (W1 := fun _ => wM E b (nI 1) n lim F (NW t F) kp) hx hb hr hlocks hP hK hD hS (rfl) dX2_shiftOf_9

set_option maxHeartbeats 4000000 in
set_option maxRecDepth 100000 in
/-- X2_shone -/
theorem c_X2_shone (l : Launch) (E : GE) (sz : Nat) (b : Nat → Nat) (th : Int32) (n lim t : Nat) (F : LR) (kp : Nat → Int32) (hO : OkS n t lim F) (k : Nat) (hk : k < n) : Met l yX2_shone wsX2_shone ({ frames := 2, cells := 0, slots := 0, locals := 43 } : Room) (va_Pc [.ref (b 0), .int (nI k)] (pcM E (wM E b th n lim F (NW t F) kp) sz)) (va_Qi (S := Unit) (fun r _ => r = (nI (F k 5))) (fun uQ tQ => atM E (va_A (wM E b th n lim F (NW t F) kp) sz) ((fun _ => wM E b (nI 0) n lim F (NW t F) kp) uQ) tQ) (va_A (wM E b th n lim F (NW t F) kp) sz)) 0 0 (va_A (wM E b th n lim F (NW t F) kp) sz) := by
  refine metM (by decide) rfl (Nat.le_of_ble_eq_true rfl) ?_
  intro p e s m args below meth c ls A hAe hA hx hb hr hml hts hown hlocks hin hP hK hD hS hl
  rw [hAe]
  have hiX2 : ∀ q ∈ wsX20, q ∈ wsX2_shone := by decide +kernel
  obtain ⟨hO1, hO2, hO3, hO4, hO5⟩ := id hO
  refine lv_aload_n hx hb dX2_shone_0 rfl (lv_at hl 0 rfl) ?_
  refine lv_iconst (v := (nI 0)) hx hb dX2_shone_1 (by decide) ?_
  refine va_put (D := E.1) (ci := 3) (v := .int (nI 0)) (ty := .int) (C := RX2) (T := TX2) (N := 10) hx hb hts hiX2 tyX2 tyX2_ok nmX2 hown hK hP hD hS 0 rfl rfl 0 (by decide) (hts (.fieldLink RX2 35 "PulseLoomModel" "thrown" "I") (List.mem_of_getElem? (i := 1) (by rfl))) (fun _ h9 => h9) rfl (by decide +kernel) rfl (by rfl) (Nat.le_of_ble_eq_true rfl) dX2_shone_2 (fun H locs hP hD hS => ?_)
  have hP : va_P E.1 vwCl (wM E b (nI 0) n lim F (NW t F) kp) H := hP
  have hD : va_D A (wM E b (nI 0) n lim F (NW t F) kp) := hD
  refine lv_aload_n hx hb dX2_shone_5 rfl (lv_at hl 0 rfl) ?_
  refine lv_iload_n hx hb dX2_shone_6 rfl (lv_at hl 1 rfl) ?_
  refine csV_i (rest := []) (As := [.int (nI k)]) ⟨hx, hb, hml, hown, hts⟩ (c_X2_isLamp l E _ b n lim t F t MV_self hO (Nat.le_refl _) (nI k)) (cwV 1 hts gX2_shone_X2_isLamp rfl rfl rfl (by decide +kernel) ⟨Nat.le_of_ble_eq_true rfl, Nat.le_of_ble_eq_true rfl⟩) (va_recv hK hP (ci := 3) (q0 := 0) rfl rfl) hP hK rfl hl.1 rfl (Nat.le_of_ble_eq_true rfl) dX2_shone_7 (Nat.le_of_ble_eq_true rfl) (Nat.le_of_ble_eq_true rfl) (fun r7 hr7 => ?_)
  subst hr7
  refine nq_top (show (bI (lpB n (nI k))) = (bI true) from congrArg bI (lpB_t hk hO1)) ?_
  refine bq_if_eq (tgt := 24) hx hb dX2_shone_10 (by decide) (fun h10 => ?_) (fun h10 => ?_)
  · skip
    exact absurd h10 (by decide)
  · skip
    refine lv_aload_n hx hb dX2_shone_13 rfl (lv_at hl 0 rfl) ?_
    refine va_get (D := E.1) (ci := 3) (v := .ref (b 6)) (C := RX2) (T := TX2) (N := 10) hx hb hts hiX2 hown hK hP 0 rfl rfl 8 (by decide) (hts (.fieldLink RX2 29 "PulseLoomModel" "now" "[I") (List.mem_of_getElem? (i := 2) (by rfl))) (fun _ h9 => h9) rfl dX2_shone_14 ?_
    refine lv_iconst (v := (nI 1)) hx hb dX2_shone_17 (by decide) ?_
    refine lv_iload_n hx hb dX2_shone_18 rfl (lv_at hl 1 rfl) ?_
    refine nq_add hx hb dX2_shone_19 ?_
    refine va_iald hx hb hK hP 6 0 rfl rfl (by exact vp_in_nI (by omega) (by omega)) dX2_shone_20 ?_
    refine nq_top (show (NW t F (((nI (1 + k))).toNatClampNeg)) = (nI (F k 5)) from by rw [nI_clamp (by omega)]; exact NW_s _ _ (by omega)) ?_
    refine lv_goto (tgt := 29) hx hb dX2_shone_21 (by decide) ?_
    exact retM_i (E := E) (A0 := A) (v := (nI (F k 5))) (post := fun r _ => r = (nI (F k 5))) (u := ()) (W1 := fun _ => wM E b (nI 0) n lim F (NW t F) kp) hx hb hr hlocks hP hK hD hS (rfl) dX2_shone_29

set_option maxHeartbeats 4000000 in
set_option maxRecDepth 100000 in
/-- X2_shone, refused -/
theorem c_X2_shone_x (l : Launch) (E : GE) (sz : Nat) (b : Nat → Nat) (th : Int32) (n lim t : Nat) (F : LR) (kp : Nat → Int32) (hO : OkS n t lim F) (x : Int32) (hx9 : lpB n x = false) : Met l yX2_shone wsX2_shone ({ frames := 2, cells := 0, slots := 0, locals := 43 } : Room) (va_Pc [.ref (b 0), .int x] (pcM E (wM E b th n lim F (NW t F) kp) sz)) (va_Qi (S := Unit) (fun r _ => r = nI 0) (fun uQ tQ => atM E (va_A (wM E b th n lim F (NW t F) kp) sz) ((fun _ => wM E b (nI 1) n lim F (NW t F) kp) uQ) tQ) (va_A (wM E b th n lim F (NW t F) kp) sz)) 0 0 (va_A (wM E b th n lim F (NW t F) kp) sz) := by
  refine metM (by decide) rfl (Nat.le_of_ble_eq_true rfl) ?_
  intro p e s m args below meth c ls A hAe hA hx hb hr hml hts hown hlocks hin hP hK hD hS hl
  rw [hAe]
  have hiX2 : ∀ q ∈ wsX20, q ∈ wsX2_shone := by decide +kernel
  obtain ⟨hO1, hO2, hO3, hO4, hO5⟩ := id hO
  refine lv_aload_n hx hb dX2_shone_0 rfl (lv_at hl 0 rfl) ?_
  refine lv_iconst (v := (nI 0)) hx hb dX2_shone_1 (by decide) ?_
  refine va_put (D := E.1) (ci := 3) (v := .int (nI 0)) (ty := .int) (C := RX2) (T := TX2) (N := 10) hx hb hts hiX2 tyX2 tyX2_ok nmX2 hown hK hP hD hS 0 rfl rfl 0 (by decide) (hts (.fieldLink RX2 35 "PulseLoomModel" "thrown" "I") (List.mem_of_getElem? (i := 1) (by rfl))) (fun _ h9 => h9) rfl (by decide +kernel) rfl (by rfl) (Nat.le_of_ble_eq_true rfl) dX2_shone_2 (fun H locs hP hD hS => ?_)
  have hP : va_P E.1 vwCl (wM E b (nI 0) n lim F (NW t F) kp) H := hP
  have hD : va_D A (wM E b (nI 0) n lim F (NW t F) kp) := hD
  refine lv_aload_n hx hb dX2_shone_5 rfl (lv_at hl 0 rfl) ?_
  refine lv_iload_n hx hb dX2_shone_6 rfl (lv_at hl 1 rfl) ?_
  refine csV_i (rest := []) (As := [.int x]) ⟨hx, hb, hml, hown, hts⟩ (c_X2_isLamp l E _ b n lim t F t MV_self hO (Nat.le_refl _) x) (cwV 1 hts gX2_shone_X2_isLamp rfl rfl rfl (by decide +kernel) ⟨Nat.le_of_ble_eq_true rfl, Nat.le_of_ble_eq_true rfl⟩) (va_recv hK hP (ci := 3) (q0 := 0) rfl rfl) hP hK rfl hl.1 rfl (Nat.le_of_ble_eq_true rfl) dX2_shone_7 (Nat.le_of_ble_eq_true rfl) (Nat.le_of_ble_eq_true rfl) (fun r7 hr7 => ?_)
  subst hr7
  refine nq_top (show (bI (lpB n x)) = (bI false) from congrArg bI hx9) ?_
  refine bq_if_eq (tgt := 24) hx hb dX2_shone_10 (by decide) (fun h10 => ?_) (fun h10 => ?_)
  · skip
    refine lv_aload_n hx hb dX2_shone_24 rfl (lv_at hl 0 rfl) ?_
    refine lv_iconst (v := (nI 1)) hx hb dX2_shone_25 (by decide) ?_
    refine cmV_i (rest := []) (As := [.int (nI 1)]) ⟨hx, hb, hml, hown, hts⟩ (c_X2_no l E _ b (nI 0) n lim t F kp (nI 1)) (cwV 1 hts gX2_shone_X2_no rfl rfl rfl (by decide +kernel) ⟨Nat.le_of_ble_eq_true rfl, Nat.le_of_ble_eq_true rfl⟩) (va_recv hK hP (ci := 3) (q0 := 0) rfl rfl) hP hK hD hS hA rfl hl.1 rfl (Nat.le_of_ble_eq_true rfl) dX2_shone_26 ⟨Nat.le_of_ble_eq_true rfl, Nat.le_of_ble_eq_true rfl⟩ (fun r26 u26 H locs hr26 hP hD hS => ?_)
    subst hr26
    exact retM_i (E := E) (A0 := A) (v := (nI 0)) (post := fun r _ => r = nI 0) (u := ()) (W1 := fun _ => wM E b (nI 1) n lim F (NW t F) kp) hx hb hr hlocks hP hK hD hS (rfl) dX2_shone_29
  · skip
    exact absurd h10 (by decide)

set_option maxHeartbeats 4000000 in
set_option maxRecDepth 100000 in
/-- X2_stayedDark -/
theorem c_X2_stayedDark (l : Launch) (E : GE) (sz : Nat) (b : Nat → Nat) (th : Int32) (n lim t : Nat) (F : LR) (kp : Nat → Int32) (hO : OkS n t lim F) (k : Nat) (hk : k < n) : Met l yX2_stayedDark wsX2_stayedDark ({ frames := 2, cells := 0, slots := 0, locals := 43 } : Room) (va_Pc [.ref (b 0), .int (nI k)] (pcM E (wM E b th n lim F (NW t F) kp) sz)) (va_Qi (S := Unit) (fun r _ => r = (nI (F k 6))) (fun uQ tQ => atM E (va_A (wM E b th n lim F (NW t F) kp) sz) ((fun _ => wM E b (nI 0) n lim F (NW t F) kp) uQ) tQ) (va_A (wM E b th n lim F (NW t F) kp) sz)) 0 0 (va_A (wM E b th n lim F (NW t F) kp) sz) := by
  refine metM (by decide) rfl (Nat.le_of_ble_eq_true rfl) ?_
  intro p e s m args below meth c ls A hAe hA hx hb hr hml hts hown hlocks hin hP hK hD hS hl
  rw [hAe]
  have hiX2 : ∀ q ∈ wsX20, q ∈ wsX2_stayedDark := by decide +kernel
  obtain ⟨hO1, hO2, hO3, hO4, hO5⟩ := id hO
  refine lv_aload_n hx hb dX2_stayedDark_0 rfl (lv_at hl 0 rfl) ?_
  refine lv_iconst (v := (nI 0)) hx hb dX2_stayedDark_1 (by decide) ?_
  refine va_put (D := E.1) (ci := 3) (v := .int (nI 0)) (ty := .int) (C := RX2) (T := TX2) (N := 10) hx hb hts hiX2 tyX2 tyX2_ok nmX2 hown hK hP hD hS 0 rfl rfl 0 (by decide) (hts (.fieldLink RX2 35 "PulseLoomModel" "thrown" "I") (List.mem_of_getElem? (i := 1) (by rfl))) (fun _ h9 => h9) rfl (by decide +kernel) rfl (by rfl) (Nat.le_of_ble_eq_true rfl) dX2_stayedDark_2 (fun H locs hP hD hS => ?_)
  have hP : va_P E.1 vwCl (wM E b (nI 0) n lim F (NW t F) kp) H := hP
  have hD : va_D A (wM E b (nI 0) n lim F (NW t F) kp) := hD
  refine lv_aload_n hx hb dX2_stayedDark_5 rfl (lv_at hl 0 rfl) ?_
  refine lv_iload_n hx hb dX2_stayedDark_6 rfl (lv_at hl 1 rfl) ?_
  refine csV_i (rest := []) (As := [.int (nI k)]) ⟨hx, hb, hml, hown, hts⟩ (c_X2_isLamp l E _ b n lim t F t MV_self hO (Nat.le_refl _) (nI k)) (cwV 1 hts gX2_stayedDark_X2_isLamp rfl rfl rfl (by decide +kernel) ⟨Nat.le_of_ble_eq_true rfl, Nat.le_of_ble_eq_true rfl⟩) (va_recv hK hP (ci := 3) (q0 := 0) rfl rfl) hP hK rfl hl.1 rfl (Nat.le_of_ble_eq_true rfl) dX2_stayedDark_7 (Nat.le_of_ble_eq_true rfl) (Nat.le_of_ble_eq_true rfl) (fun r7 hr7 => ?_)
  subst hr7
  refine nq_top (show (bI (lpB n (nI k))) = (bI true) from congrArg bI (lpB_t hk hO1)) ?_
  refine bq_if_eq (tgt := 25) hx hb dX2_stayedDark_10 (by decide) (fun h10 => ?_) (fun h10 => ?_)
  · skip
    exact absurd h10 (by decide)
  · skip
    refine lv_aload_n hx hb dX2_stayedDark_13 rfl (lv_at hl 0 rfl) ?_
    refine va_get (D := E.1) (ci := 3) (v := .ref (b 6)) (C := RX2) (T := TX2) (N := 10) hx hb hts hiX2 hown hK hP 0 rfl rfl 8 (by decide) (hts (.fieldLink RX2 29 "PulseLoomModel" "now" "[I") (List.mem_of_getElem? (i := 2) (by rfl))) (fun _ h9 => h9) rfl dX2_stayedDark_14 ?_
    refine lv_bipush (v := (nI 9)) hx hb dX2_stayedDark_17 (by decide) ?_
    refine lv_iload_n hx hb dX2_stayedDark_19 rfl (lv_at hl 1 rfl) ?_
    refine nq_add hx hb dX2_stayedDark_20 ?_
    refine va_iald hx hb hK hP 6 0 rfl rfl (by exact vp_in_nI (by omega) (by omega)) dX2_stayedDark_21 ?_
    refine nq_top (show (NW t F (((nI (9 + k))).toNatClampNeg)) = (nI (F k 6)) from by rw [nI_clamp (by omega)]; exact NW_d _ _ _) ?_
    refine lv_goto (tgt := 30) hx hb dX2_stayedDark_22 (by decide) ?_
    exact retM_i (E := E) (A0 := A) (v := (nI (F k 6))) (post := fun r _ => r = (nI (F k 6))) (u := ()) (W1 := fun _ => wM E b (nI 0) n lim F (NW t F) kp) hx hb hr hlocks hP hK hD hS (rfl) dX2_stayedDark_30

set_option maxHeartbeats 4000000 in
set_option maxRecDepth 100000 in
/-- X2_stayedDark, refused -/
theorem c_X2_stayedDark_x (l : Launch) (E : GE) (sz : Nat) (b : Nat → Nat) (th : Int32) (n lim t : Nat) (F : LR) (kp : Nat → Int32) (hO : OkS n t lim F) (x : Int32) (hx9 : lpB n x = false) : Met l yX2_stayedDark wsX2_stayedDark ({ frames := 2, cells := 0, slots := 0, locals := 43 } : Room) (va_Pc [.ref (b 0), .int x] (pcM E (wM E b th n lim F (NW t F) kp) sz)) (va_Qi (S := Unit) (fun r _ => r = nI 0) (fun uQ tQ => atM E (va_A (wM E b th n lim F (NW t F) kp) sz) ((fun _ => wM E b (nI 1) n lim F (NW t F) kp) uQ) tQ) (va_A (wM E b th n lim F (NW t F) kp) sz)) 0 0 (va_A (wM E b th n lim F (NW t F) kp) sz) := by
  refine metM (by decide) rfl (Nat.le_of_ble_eq_true rfl) ?_
  intro p e s m args below meth c ls A hAe hA hx hb hr hml hts hown hlocks hin hP hK hD hS hl
  rw [hAe]
  have hiX2 : ∀ q ∈ wsX20, q ∈ wsX2_stayedDark := by decide +kernel
  obtain ⟨hO1, hO2, hO3, hO4, hO5⟩ := id hO
  refine lv_aload_n hx hb dX2_stayedDark_0 rfl (lv_at hl 0 rfl) ?_
  refine lv_iconst (v := (nI 0)) hx hb dX2_stayedDark_1 (by decide) ?_
  refine va_put (D := E.1) (ci := 3) (v := .int (nI 0)) (ty := .int) (C := RX2) (T := TX2) (N := 10) hx hb hts hiX2 tyX2 tyX2_ok nmX2 hown hK hP hD hS 0 rfl rfl 0 (by decide) (hts (.fieldLink RX2 35 "PulseLoomModel" "thrown" "I") (List.mem_of_getElem? (i := 1) (by rfl))) (fun _ h9 => h9) rfl (by decide +kernel) rfl (by rfl) (Nat.le_of_ble_eq_true rfl) dX2_stayedDark_2 (fun H locs hP hD hS => ?_)
  have hP : va_P E.1 vwCl (wM E b (nI 0) n lim F (NW t F) kp) H := hP
  have hD : va_D A (wM E b (nI 0) n lim F (NW t F) kp) := hD
  refine lv_aload_n hx hb dX2_stayedDark_5 rfl (lv_at hl 0 rfl) ?_
  refine lv_iload_n hx hb dX2_stayedDark_6 rfl (lv_at hl 1 rfl) ?_
  refine csV_i (rest := []) (As := [.int x]) ⟨hx, hb, hml, hown, hts⟩ (c_X2_isLamp l E _ b n lim t F t MV_self hO (Nat.le_refl _) x) (cwV 1 hts gX2_stayedDark_X2_isLamp rfl rfl rfl (by decide +kernel) ⟨Nat.le_of_ble_eq_true rfl, Nat.le_of_ble_eq_true rfl⟩) (va_recv hK hP (ci := 3) (q0 := 0) rfl rfl) hP hK rfl hl.1 rfl (Nat.le_of_ble_eq_true rfl) dX2_stayedDark_7 (Nat.le_of_ble_eq_true rfl) (Nat.le_of_ble_eq_true rfl) (fun r7 hr7 => ?_)
  subst hr7
  refine nq_top (show (bI (lpB n x)) = (bI false) from congrArg bI hx9) ?_
  refine bq_if_eq (tgt := 25) hx hb dX2_stayedDark_10 (by decide) (fun h10 => ?_) (fun h10 => ?_)
  · skip
    refine lv_aload_n hx hb dX2_stayedDark_25 rfl (lv_at hl 0 rfl) ?_
    refine lv_iconst (v := (nI 1)) hx hb dX2_stayedDark_26 (by decide) ?_
    refine cmV_i (rest := []) (As := [.int (nI 1)]) ⟨hx, hb, hml, hown, hts⟩ (c_X2_no l E _ b (nI 0) n lim t F kp (nI 1)) (cwV 1 hts gX2_stayedDark_X2_no rfl rfl rfl (by decide +kernel) ⟨Nat.le_of_ble_eq_true rfl, Nat.le_of_ble_eq_true rfl⟩) (va_recv hK hP (ci := 3) (q0 := 0) rfl rfl) hP hK hD hS hA rfl hl.1 rfl (Nat.le_of_ble_eq_true rfl) dX2_stayedDark_27 ⟨Nat.le_of_ble_eq_true rfl, Nat.le_of_ble_eq_true rfl⟩ (fun r27 u27 H locs hr27 hP hD hS => ?_)
    subst hr27
    exact retM_i (E := E) (A0 := A) (v := (nI 0)) (post := fun r _ => r = nI 0) (u := ()) (W1 := fun _ => wM E b (nI 1) n lim F (NW t F) kp) hx hb hr hlocks hP hK hD hS (rfl) dX2_stayedDark_30
  · skip
    exact absurd h10 (by decide)

set_option maxHeartbeats 4000000 in
set_option maxRecDepth 100000 in
/-- X2_seen -/
theorem c_X2_seen (l : Launch) (E : GE) (sz : Nat) (b : Nat → Nat) (th : Int32) (n lim t : Nat) (F : LR) (kp : Nat → Int32) (hO : OkS n t lim F) (k : Nat) (hk : k ≤ 5) : Met l yX2_seen wsX2_seen ({ frames := 2, cells := 0, slots := 0, locals := 42 } : Room) (va_Pc [.ref (b 0), .int (nI k)] (pcM E (wM E b th n lim F (NW t F) kp) sz)) (va_Qi (S := Unit) (fun r _ => r = (nI (seenS F k n))) (fun uQ tQ => atM E (va_A (wM E b th n lim F (NW t F) kp) sz) ((fun _ => wM E b (nI 0) n lim F (NW t F) kp) uQ) tQ) (va_A (wM E b th n lim F (NW t F) kp) sz)) 0 0 (va_A (wM E b th n lim F (NW t F) kp) sz) := by
  refine metM (by decide) rfl (Nat.le_of_ble_eq_true rfl) ?_
  intro p e s m args below meth c ls A hAe hA hx hb hr hml hts hown hlocks hin hP hK hD hS hl
  rw [hAe]
  have hiX2 : ∀ q ∈ wsX20, q ∈ wsX2_seen := by decide +kernel
  obtain ⟨hO1, hO2, hO3, hO4, hO5⟩ := id hO
  refine lv_aload_n hx hb dX2_seen_0 rfl (lv_at hl 0 rfl) ?_
  refine lv_iconst (v := (nI 0)) hx hb dX2_seen_1 (by decide) ?_
  refine va_put (D := E.1) (ci := 3) (v := .int (nI 0)) (ty := .int) (C := RX2) (T := TX2) (N := 10) hx hb hts hiX2 tyX2 tyX2_ok nmX2 hown hK hP hD hS 0 rfl rfl 0 (by decide) (hts (.fieldLink RX2 35 "PulseLoomModel" "thrown" "I") (List.mem_of_getElem? (i := 1) (by rfl))) (fun _ h9 => h9) rfl (by decide +kernel) rfl (by rfl) (Nat.le_of_ble_eq_true rfl) dX2_seen_2 (fun H locs hP hD hS => ?_)
  have hP : va_P E.1 vwCl (wM E b (nI 0) n lim F (NW t F) kp) H := hP
  have hD : va_D A (wM E b (nI 0) n lim F (NW t F) kp) := hD
  refine lv_iload_n hx hb dX2_seen_5 rfl (lv_at hl 1 rfl) ?_
  refine csS_i (rest := []) (As := [.int (nI k)]) ⟨hx, hb, hml, hown, hts⟩ (c_X2_isColour l E _ (nI k)) (va_cwS 1 hts gX2_seen_X2_isColour rfl rfl rfl (by decide +kernel) ⟨Nat.le_of_ble_eq_true rfl, Nat.le_of_ble_eq_true rfl⟩) hP hK rfl hl.1 rfl (Nat.le_of_ble_eq_true rfl) dX2_seen_6 (Nat.le_of_ble_eq_true rfl) (Nat.le_of_ble_eq_true rfl) (fun r6 hr6 => ?_)
  subst hr6
  refine nq_top (show (bI (inB (nI k) (nI 0) (nI 5))) = (bI true) from congrArg bI (inB_t (by omega) (by omega))) ?_
  refine bq_if_eq (tgt := 20) hx hb dX2_seen_9 (by decide) (fun h9 => ?_) (fun h9 => ?_)
  · skip
    exact absurd h9 (by decide)
  · skip
    refine lv_aload_n hx hb dX2_seen_12 rfl (lv_at hl 0 rfl) ?_
    refine lv_iload_n hx hb dX2_seen_13 rfl (lv_at hl 1 rfl) ?_
    refine csV_i (rest := []) (As := [.int (nI k)]) ⟨hx, hb, hml, hown, hts⟩ (c_X2_seenOf l E _ b n lim t F t MV_self hO (Nat.le_refl _) k (by omega)) (cwV 1 hts gX2_seen_X2_seenOf rfl rfl rfl (by decide +kernel) ⟨Nat.le_of_ble_eq_true rfl, Nat.le_of_ble_eq_true rfl⟩) (va_recv hK hP (ci := 3) (q0 := 0) rfl rfl) hP hK rfl hl.1 rfl (Nat.le_of_ble_eq_true rfl) dX2_seen_14 (Nat.le_of_ble_eq_true rfl) (Nat.le_of_ble_eq_true rfl) (fun r14 hr14 => ?_)
    subst hr14
    refine lv_goto (tgt := 25) hx hb dX2_seen_17 (by decide) ?_
    exact retM_i (E := E) (A0 := A) (v := (nI (seenS F k n))) (post := fun r _ => r = (nI (seenS F k n))) (u := ()) (W1 := fun _ => wM E b (nI 0) n lim F (NW t F) kp) hx hb hr hlocks hP hK hD hS (rfl) dX2_seen_25

set_option maxHeartbeats 4000000 in
set_option maxRecDepth 100000 in
/-- X2_seen, refused -/
theorem c_X2_seen_x (l : Launch) (E : GE) (sz : Nat) (b : Nat → Nat) (th : Int32) (n lim t : Nat) (F : LR) (kp : Nat → Int32) (hO : OkS n t lim F) (x : Int32) (hx9 : inB x (nI 0) (nI 5) = false) : Met l yX2_seen wsX2_seen ({ frames := 2, cells := 0, slots := 0, locals := 42 } : Room) (va_Pc [.ref (b 0), .int x] (pcM E (wM E b th n lim F (NW t F) kp) sz)) (va_Qi (S := Unit) (fun r _ => r = nI 0) (fun uQ tQ => atM E (va_A (wM E b th n lim F (NW t F) kp) sz) ((fun _ => wM E b (nI 1) n lim F (NW t F) kp) uQ) tQ) (va_A (wM E b th n lim F (NW t F) kp) sz)) 0 0 (va_A (wM E b th n lim F (NW t F) kp) sz) := by
  refine metM (by decide) rfl (Nat.le_of_ble_eq_true rfl) ?_
  intro p e s m args below meth c ls A hAe hA hx hb hr hml hts hown hlocks hin hP hK hD hS hl
  rw [hAe]
  have hiX2 : ∀ q ∈ wsX20, q ∈ wsX2_seen := by decide +kernel
  obtain ⟨hO1, hO2, hO3, hO4, hO5⟩ := id hO
  refine lv_aload_n hx hb dX2_seen_0 rfl (lv_at hl 0 rfl) ?_
  refine lv_iconst (v := (nI 0)) hx hb dX2_seen_1 (by decide) ?_
  refine va_put (D := E.1) (ci := 3) (v := .int (nI 0)) (ty := .int) (C := RX2) (T := TX2) (N := 10) hx hb hts hiX2 tyX2 tyX2_ok nmX2 hown hK hP hD hS 0 rfl rfl 0 (by decide) (hts (.fieldLink RX2 35 "PulseLoomModel" "thrown" "I") (List.mem_of_getElem? (i := 1) (by rfl))) (fun _ h9 => h9) rfl (by decide +kernel) rfl (by rfl) (Nat.le_of_ble_eq_true rfl) dX2_seen_2 (fun H locs hP hD hS => ?_)
  have hP : va_P E.1 vwCl (wM E b (nI 0) n lim F (NW t F) kp) H := hP
  have hD : va_D A (wM E b (nI 0) n lim F (NW t F) kp) := hD
  refine lv_iload_n hx hb dX2_seen_5 rfl (lv_at hl 1 rfl) ?_
  refine csS_i (rest := []) (As := [.int x]) ⟨hx, hb, hml, hown, hts⟩ (c_X2_isColour l E _ x) (va_cwS 1 hts gX2_seen_X2_isColour rfl rfl rfl (by decide +kernel) ⟨Nat.le_of_ble_eq_true rfl, Nat.le_of_ble_eq_true rfl⟩) hP hK rfl hl.1 rfl (Nat.le_of_ble_eq_true rfl) dX2_seen_6 (Nat.le_of_ble_eq_true rfl) (Nat.le_of_ble_eq_true rfl) (fun r6 hr6 => ?_)
  subst hr6
  refine nq_top (show (bI (inB x (nI 0) (nI 5))) = (bI false) from congrArg bI hx9) ?_
  refine bq_if_eq (tgt := 20) hx hb dX2_seen_9 (by decide) (fun h9 => ?_) (fun h9 => ?_)
  · skip
    refine lv_aload_n hx hb dX2_seen_20 rfl (lv_at hl 0 rfl) ?_
    refine lv_iconst (v := (nI 1)) hx hb dX2_seen_21 (by decide) ?_
    refine cmV_i (rest := []) (As := [.int (nI 1)]) ⟨hx, hb, hml, hown, hts⟩ (c_X2_no l E _ b (nI 0) n lim t F kp (nI 1)) (cwV 1 hts gX2_seen_X2_no rfl rfl rfl (by decide +kernel) ⟨Nat.le_of_ble_eq_true rfl, Nat.le_of_ble_eq_true rfl⟩) (va_recv hK hP (ci := 3) (q0 := 0) rfl rfl) hP hK hD hS hA rfl hl.1 rfl (Nat.le_of_ble_eq_true rfl) dX2_seen_22 ⟨Nat.le_of_ble_eq_true rfl, Nat.le_of_ble_eq_true rfl⟩ (fun r22 u22 H locs hr22 hP hD hS => ?_)
    subst hr22
    exact retM_i (E := E) (A0 := A) (v := (nI 0)) (post := fun r _ => r = nI 0) (u := ()) (W1 := fun _ => wM E b (nI 1) n lim F (NW t F) kp) hx hb hr hlocks hP hK hD hS (rfl) dX2_seen_25
  · skip
    exact absurd h9 (by decide)

set_option maxHeartbeats 4000000 in
set_option maxRecDepth 100000 in
/-- X2_divisor -/
theorem c_X2_divisor (l : Launch) (E : GE) (sz : Nat) (b : Nat → Nat) (th : Int32) (n lim t : Nat) (F : LR) (kp : Nat → Int32) (hO : OkS n t lim F) (k j : Nat) (hk : k < n) (hj : j < n) : Met l yX2_divisor wsX2_divisor ({ frames := 3, cells := 0, slots := 0, locals := 65 } : Room) (va_Pc [.ref (b 0), .int (nI k), .int (nI j)] (pcM E (wM E b th n lim F (NW t F) kp) sz)) (va_Qi (S := Unit) (fun r _ => r = (nI (Nat.gcd (F k 0) (F j 0)))) (fun uQ tQ => atM E (va_A (wM E b th n lim F (NW t F) kp) sz) ((fun _ => wM E b (nI 0) n lim F (NW t F) kp) uQ) tQ) (va_A (wM E b th n lim F (NW t F) kp) sz)) 0 0 (va_A (wM E b th n lim F (NW t F) kp) sz) := by
  refine metM (by decide) rfl (Nat.le_of_ble_eq_true rfl) ?_
  intro p e s m args below meth c ls A hAe hA hx hb hr hml hts hown hlocks hin hP hK hD hS hl
  rw [hAe]
  have hiX2 : ∀ q ∈ wsX20, q ∈ wsX2_divisor := by decide +kernel
  obtain ⟨hO1, hO2, hO3, hO4, hO5⟩ := id hO
  have hk9 := hO4 k hk
  have hj9 := hO4 j hj
  refine lv_aload_n hx hb dX2_divisor_0 rfl (lv_at hl 0 rfl) ?_
  refine lv_iconst (v := (nI 0)) hx hb dX2_divisor_1 (by decide) ?_
  refine va_put (D := E.1) (ci := 3) (v := .int (nI 0)) (ty := .int) (C := RX2) (T := TX2) (N := 10) hx hb hts hiX2 tyX2 tyX2_ok nmX2 hown hK hP hD hS 0 rfl rfl 0 (by decide) (hts (.fieldLink RX2 35 "PulseLoomModel" "thrown" "I") (List.mem_of_getElem? (i := 1) (by rfl))) (fun _ h9 => h9) rfl (by decide +kernel) rfl (by rfl) (Nat.le_of_ble_eq_true rfl) dX2_divisor_2 (fun H locs hP hD hS => ?_)
  have hP : va_P E.1 vwCl (wM E b (nI 0) n lim F (NW t F) kp) H := hP
  have hD : va_D A (wM E b (nI 0) n lim F (NW t F) kp) := hD
  refine lv_aload_n hx hb dX2_divisor_5 rfl (lv_at hl 0 rfl) ?_
  refine lv_iload_n hx hb dX2_divisor_6 rfl (lv_at hl 1 rfl) ?_
  refine lv_iload_n hx hb dX2_divisor_7 rfl (lv_at hl 2 rfl) ?_
  refine csV_i (rest := []) (As := [.int (nI k), .int (nI j)]) ⟨hx, hb, hml, hown, hts⟩ (c_X2_areLamps l E _ b n lim t F t MV_self hO (Nat.le_refl _) (nI k) (nI j)) (cwV 2 hts gX2_divisor_X2_areLamps rfl rfl rfl (by decide +kernel) ⟨Nat.le_of_ble_eq_true rfl, Nat.le_of_ble_eq_true rfl⟩) (va_recv hK hP (ci := 3) (q0 := 0) rfl rfl) hP hK rfl hl.1 rfl (Nat.le_of_ble_eq_true rfl) dX2_divisor_8 (Nat.le_of_ble_eq_true rfl) (Nat.le_of_ble_eq_true rfl) (fun r8 hr8 => ?_)
  subst hr8
  refine nq_top (show (bI (lpB n (nI k) && lpB n (nI j))) = (bI true) from by rw [lpB_t hk hO1, lpB_t hj hO1]; rfl) ?_
  refine bq_if_eq (tgt := 32) hx hb dX2_divisor_11 (by decide) (fun h11 => ?_) (fun h11 => ?_)
  · skip
    exact absurd h11 (by decide)
  · skip
    refine lv_aload_n hx hb dX2_divisor_14 rfl (lv_at hl 0 rfl) ?_
    refine va_get (D := E.1) (ci := 3) (v := .ref (b 2)) (C := RX2) (T := TX2) (N := 10) hx hb hts hiX2 hown hK hP 0 rfl rfl 4 (by decide) (hts (.fieldLink RX2 17 "PulseLoomModel" "period" "[I") (List.mem_of_getElem? (i := 2) (by rfl))) (fun _ h9 => h9) rfl dX2_divisor_15 ?_
    refine lv_iload_n hx hb dX2_divisor_18 rfl (lv_at hl 1 rfl) ?_
    refine va_iald hx hb hK hP 2 0 rfl rfl (by exact vp_in_nI (by omega) (by omega)) dX2_divisor_19 ?_
    refine nq_top (show (nI (F (((nI k)).toNatClampNeg) 0)) = (nI (F k 0)) from by rw [nI_clamp (by omega)]) ?_
    refine lv_aload_n hx hb dX2_divisor_20 rfl (lv_at hl 0 rfl) ?_
    refine va_get (D := E.1) (ci := 3) (v := .ref (b 2)) (C := RX2) (T := TX2) (N := 10) hx hb hts hiX2 hown hK hP 0 rfl rfl 4 (by decide) (hts (.fieldLink RX2 17 "PulseLoomModel" "period" "[I") (List.mem_of_getElem? (i := 2) (by rfl))) (fun _ h9 => h9) rfl dX2_divisor_21 ?_
    refine lv_iload_n hx hb dX2_divisor_24 rfl (lv_at hl 2 rfl) ?_
    refine va_iald hx hb hK hP 2 0 rfl rfl (by exact vp_in_nI (by omega) (by omega)) dX2_divisor_25 ?_
    refine nq_top (show (nI (F (((nI j)).toNatClampNeg) 0)) = (nI (F j 0)) from by rw [nI_clamp (by omega)]) ?_
    refine csS_i (rest := []) (As := [.int (nI (F k 0)), .int (nI (F j 0))]) ⟨hx, hb, hml, hown, hts⟩ (c_X2_common l E _ (F k 0) (F j 0) (by omega) (by omega)) (va_cwS 2 hts gX2_divisor_X2_common rfl rfl rfl (by decide +kernel) ⟨Nat.le_of_ble_eq_true rfl, Nat.le_of_ble_eq_true rfl⟩) hP hK rfl hl.1 rfl (Nat.le_of_ble_eq_true rfl) dX2_divisor_26 (Nat.le_of_ble_eq_true rfl) (Nat.le_of_ble_eq_true rfl) (fun r26 hr26 => ?_)
    subst hr26
    refine lv_goto (tgt := 37) hx hb dX2_divisor_29 (by decide) ?_
    exact retM_i (E := E) (A0 := A) (v := (nI (Nat.gcd (F k 0) (F j 0)))) (post := fun r _ => r = (nI (Nat.gcd (F k 0) (F j 0)))) (u := ()) (W1 := fun _ => wM E b (nI 0) n lim F (NW t F) kp) hx hb hr hlocks hP hK hD hS (rfl) dX2_divisor_37

set_option maxHeartbeats 4000000 in
set_option maxRecDepth 100000 in
/-- X2_divisor, refused -/
theorem c_X2_divisor_x (l : Launch) (E : GE) (sz : Nat) (b : Nat → Nat) (th : Int32) (n lim t : Nat) (F : LR) (kp : Nat → Int32) (hO : OkS n t lim F) (x z : Int32) (hx9 : (lpB n x && lpB n z) = false) : Met l yX2_divisor wsX2_divisor ({ frames := 3, cells := 0, slots := 0, locals := 65 } : Room) (va_Pc [.ref (b 0), .int x, .int z] (pcM E (wM E b th n lim F (NW t F) kp) sz)) (va_Qi (S := Unit) (fun r _ => r = nI 0) (fun uQ tQ => atM E (va_A (wM E b th n lim F (NW t F) kp) sz) ((fun _ => wM E b (nI 1) n lim F (NW t F) kp) uQ) tQ) (va_A (wM E b th n lim F (NW t F) kp) sz)) 0 0 (va_A (wM E b th n lim F (NW t F) kp) sz) := by
  refine metM (by decide) rfl (Nat.le_of_ble_eq_true rfl) ?_
  intro p e s m args below meth c ls A hAe hA hx hb hr hml hts hown hlocks hin hP hK hD hS hl
  rw [hAe]
  have hiX2 : ∀ q ∈ wsX20, q ∈ wsX2_divisor := by decide +kernel
  obtain ⟨hO1, hO2, hO3, hO4, hO5⟩ := id hO
  refine lv_aload_n hx hb dX2_divisor_0 rfl (lv_at hl 0 rfl) ?_
  refine lv_iconst (v := (nI 0)) hx hb dX2_divisor_1 (by decide) ?_
  refine va_put (D := E.1) (ci := 3) (v := .int (nI 0)) (ty := .int) (C := RX2) (T := TX2) (N := 10) hx hb hts hiX2 tyX2 tyX2_ok nmX2 hown hK hP hD hS 0 rfl rfl 0 (by decide) (hts (.fieldLink RX2 35 "PulseLoomModel" "thrown" "I") (List.mem_of_getElem? (i := 1) (by rfl))) (fun _ h9 => h9) rfl (by decide +kernel) rfl (by rfl) (Nat.le_of_ble_eq_true rfl) dX2_divisor_2 (fun H locs hP hD hS => ?_)
  have hP : va_P E.1 vwCl (wM E b (nI 0) n lim F (NW t F) kp) H := hP
  have hD : va_D A (wM E b (nI 0) n lim F (NW t F) kp) := hD
  refine lv_aload_n hx hb dX2_divisor_5 rfl (lv_at hl 0 rfl) ?_
  refine lv_iload_n hx hb dX2_divisor_6 rfl (lv_at hl 1 rfl) ?_
  refine lv_iload_n hx hb dX2_divisor_7 rfl (lv_at hl 2 rfl) ?_
  refine csV_i (rest := []) (As := [.int x, .int z]) ⟨hx, hb, hml, hown, hts⟩ (c_X2_areLamps l E _ b n lim t F t MV_self hO (Nat.le_refl _) x z) (cwV 2 hts gX2_divisor_X2_areLamps rfl rfl rfl (by decide +kernel) ⟨Nat.le_of_ble_eq_true rfl, Nat.le_of_ble_eq_true rfl⟩) (va_recv hK hP (ci := 3) (q0 := 0) rfl rfl) hP hK rfl hl.1 rfl (Nat.le_of_ble_eq_true rfl) dX2_divisor_8 (Nat.le_of_ble_eq_true rfl) (Nat.le_of_ble_eq_true rfl) (fun r8 hr8 => ?_)
  subst hr8
  refine nq_top (show (bI (lpB n x && lpB n z)) = (bI false) from congrArg bI hx9) ?_
  refine bq_if_eq (tgt := 32) hx hb dX2_divisor_11 (by decide) (fun h11 => ?_) (fun h11 => ?_)
  · skip
    refine lv_aload_n hx hb dX2_divisor_32 rfl (lv_at hl 0 rfl) ?_
    refine lv_iconst (v := (nI 1)) hx hb dX2_divisor_33 (by decide) ?_
    refine cmV_i (rest := []) (As := [.int (nI 1)]) ⟨hx, hb, hml, hown, hts⟩ (c_X2_no l E _ b (nI 0) n lim t F kp (nI 1)) (cwV 1 hts gX2_divisor_X2_no rfl rfl rfl (by decide +kernel) ⟨Nat.le_of_ble_eq_true rfl, Nat.le_of_ble_eq_true rfl⟩) (va_recv hK hP (ci := 3) (q0 := 0) rfl rfl) hP hK hD hS hA rfl hl.1 rfl (Nat.le_of_ble_eq_true rfl) dX2_divisor_34 ⟨Nat.le_of_ble_eq_true rfl, Nat.le_of_ble_eq_true rfl⟩ (fun r34 u34 H locs hr34 hP hD hS => ?_)
    subst hr34
    exact retM_i (E := E) (A0 := A) (v := (nI 0)) (post := fun r _ => r = nI 0) (u := ()) (W1 := fun _ => wM E b (nI 1) n lim F (NW t F) kp) hx hb hr hlocks hP hK hD hS (rfl) dX2_divisor_37
  · skip
    exact absurd h11 (by decide)

set_option maxHeartbeats 4000000 in
set_option maxRecDepth 100000 in
/-- X2_meet -/
theorem c_X2_meet (l : Launch) (E : GE) (sz : Nat) (b : Nat → Nat) (th : Int32) (n lim t : Nat) (F : LR) (kp : Nat → Int32) (hO : OkS n t lim F) (k j : Nat) (hk : k < n) (hj : j < n) : Met l yX2_meet wsX2_meet ({ frames := 3, cells := 0, slots := 0, locals := 65 } : Room) (va_Pc [.ref (b 0), .int (nI k), .int (nI j)] (pcM E (wM E b th n lim F (NW t F) kp) sz)) (va_Qi (S := Unit) (fun r _ => r = (bI (meetS F k ((F k 3 : Nat) : Int) j))) (fun uQ tQ => atM E (va_A (wM E b th n lim F (NW t F) kp) sz) ((fun _ => wM E b (nI 0) n lim F (NW t F) kp) uQ) tQ) (va_A (wM E b th n lim F (NW t F) kp) sz)) 0 0 (va_A (wM E b th n lim F (NW t F) kp) sz) := by
  refine metM (by decide) rfl (Nat.le_of_ble_eq_true rfl) ?_
  intro p e s m args below meth c ls A hAe hA hx hb hr hml hts hown hlocks hin hP hK hD hS hl
  rw [hAe]
  have hiX2 : ∀ q ∈ wsX20, q ∈ wsX2_meet := by decide +kernel
  obtain ⟨hO1, hO2, hO3, hO4, hO5⟩ := id hO
  have hk9 := hO4 k hk
  have hj9 := hO4 j hj
  refine lv_aload_n hx hb dX2_meet_0 rfl (lv_at hl 0 rfl) ?_
  refine lv_iconst (v := (nI 0)) hx hb dX2_meet_1 (by decide) ?_
  refine va_put (D := E.1) (ci := 3) (v := .int (nI 0)) (ty := .int) (C := RX2) (T := TX2) (N := 10) hx hb hts hiX2 tyX2 tyX2_ok nmX2 hown hK hP hD hS 0 rfl rfl 0 (by decide) (hts (.fieldLink RX2 35 "PulseLoomModel" "thrown" "I") (List.mem_of_getElem? (i := 1) (by rfl))) (fun _ h9 => h9) rfl (by decide +kernel) rfl (by rfl) (Nat.le_of_ble_eq_true rfl) dX2_meet_2 (fun H locs hP hD hS => ?_)
  have hP : va_P E.1 vwCl (wM E b (nI 0) n lim F (NW t F) kp) H := hP
  have hD : va_D A (wM E b (nI 0) n lim F (NW t F) kp) := hD
  refine lv_aload_n hx hb dX2_meet_5 rfl (lv_at hl 0 rfl) ?_
  refine lv_iload_n hx hb dX2_meet_6 rfl (lv_at hl 1 rfl) ?_
  refine lv_iload_n hx hb dX2_meet_7 rfl (lv_at hl 2 rfl) ?_
  refine csV_i (rest := []) (As := [.int (nI k), .int (nI j)]) ⟨hx, hb, hml, hown, hts⟩ (c_X2_areLamps l E _ b n lim t F t MV_self hO (Nat.le_refl _) (nI k) (nI j)) (cwV 2 hts gX2_meet_X2_areLamps rfl rfl rfl (by decide +kernel) ⟨Nat.le_of_ble_eq_true rfl, Nat.le_of_ble_eq_true rfl⟩) (va_recv hK hP (ci := 3) (q0 := 0) rfl rfl) hP hK rfl hl.1 rfl (Nat.le_of_ble_eq_true rfl) dX2_meet_8 (Nat.le_of_ble_eq_true rfl) (Nat.le_of_ble_eq_true rfl) (fun r8 hr8 => ?_)
  subst hr8
  refine nq_top (show (bI (lpB n (nI k) && lpB n (nI j))) = (bI true) from by rw [lpB_t hk hO1, lpB_t hj hO1]; rfl) ?_
  refine bq_if_eq (tgt := 29) hx hb dX2_meet_11 (by decide) (fun h11 => ?_) (fun h11 => ?_)
  · skip
    exact absurd h11 (by decide)
  · skip
    refine lv_aload_n hx hb dX2_meet_14 rfl (lv_at hl 0 rfl) ?_
    refine lv_iload_n hx hb dX2_meet_15 rfl (lv_at hl 1 rfl) ?_
    refine lv_aload_n hx hb dX2_meet_16 rfl (lv_at hl 0 rfl) ?_
    refine va_get (D := E.1) (ci := 3) (v := .ref (b 3)) (C := RX2) (T := TX2) (N := 10) hx hb hts hiX2 hown hK hP 0 rfl rfl 5 (by decide) (hts (.fieldLink RX2 20 "PulseLoomModel" "shift" "[I") (List.mem_of_getElem? (i := 2) (by rfl))) (fun _ h9 => h9) rfl dX2_meet_17 ?_
    refine lv_iload_n hx hb dX2_meet_20 rfl (lv_at hl 1 rfl) ?_
    refine va_iald hx hb hK hP 3 0 rfl rfl (by exact vp_in_nI (by omega) (by omega)) dX2_meet_21 ?_
    refine nq_top (show (nI (F (((nI k)).toNatClampNeg) 3)) = (nI (F k 3)) from by rw [nI_clamp (by omega)]) ?_
    refine lv_iload_n hx hb dX2_meet_22 rfl (lv_at hl 2 rfl) ?_
    refine csV_i (rest := []) (As := [.int (nI k), .int (nI (F k 3)), .int (nI j)]) ⟨hx, hb, hml, hown, hts⟩ (c_X2_comeTogether l E _ b n lim t F t MV_self hO (Nat.le_refl _) k (F k 3) j (by omega) (by omega) (by omega)) (cwV 3 hts gX2_meet_X2_comeTogether rfl rfl rfl (by decide +kernel) ⟨Nat.le_of_ble_eq_true rfl, Nat.le_of_ble_eq_true rfl⟩) (va_recv hK hP (ci := 3) (q0 := 0) rfl rfl) hP hK rfl hl.1 rfl (Nat.le_of_ble_eq_true rfl) dX2_meet_23 (Nat.le_of_ble_eq_true rfl) (Nat.le_of_ble_eq_true rfl) (fun r23 hr23 => ?_)
    subst hr23
    refine lv_goto (tgt := 34) hx hb dX2_meet_26 (by decide) ?_
    exact retM_z (E := E) (A0 := A) (b := meetS F k (((F k 3) : Nat) : Int) j) (post := fun r _ => r = (bI (meetS F k ((F k 3 : Nat) : Int) j))) (u := ()) (W1 := fun _ => wM E b (nI 0) n lim F (NW t F) kp) hx hb hr hlocks hP hK hD hS (rfl) dX2_meet_34

set_option maxHeartbeats 4000000 in
set_option maxRecDepth 100000 in
/-- X2_meet, refused -/
theorem c_X2_meet_x (l : Launch) (E : GE) (sz : Nat) (b : Nat → Nat) (th : Int32) (n lim t : Nat) (F : LR) (kp : Nat → Int32) (hO : OkS n t lim F) (x z : Int32) (hx9 : (lpB n x && lpB n z) = false) : Met l yX2_meet wsX2_meet ({ frames := 3, cells := 0, slots := 0, locals := 65 } : Room) (va_Pc [.ref (b 0), .int x, .int z] (pcM E (wM E b th n lim F (NW t F) kp) sz)) (va_Qi (S := Unit) (fun r _ => r = bI false) (fun uQ tQ => atM E (va_A (wM E b th n lim F (NW t F) kp) sz) ((fun _ => wM E b (nI 1) n lim F (NW t F) kp) uQ) tQ) (va_A (wM E b th n lim F (NW t F) kp) sz)) 0 0 (va_A (wM E b th n lim F (NW t F) kp) sz) := by
  refine metM (by decide) rfl (Nat.le_of_ble_eq_true rfl) ?_
  intro p e s m args below meth c ls A hAe hA hx hb hr hml hts hown hlocks hin hP hK hD hS hl
  rw [hAe]
  have hiX2 : ∀ q ∈ wsX20, q ∈ wsX2_meet := by decide +kernel
  obtain ⟨hO1, hO2, hO3, hO4, hO5⟩ := id hO
  refine lv_aload_n hx hb dX2_meet_0 rfl (lv_at hl 0 rfl) ?_
  refine lv_iconst (v := (nI 0)) hx hb dX2_meet_1 (by decide) ?_
  refine va_put (D := E.1) (ci := 3) (v := .int (nI 0)) (ty := .int) (C := RX2) (T := TX2) (N := 10) hx hb hts hiX2 tyX2 tyX2_ok nmX2 hown hK hP hD hS 0 rfl rfl 0 (by decide) (hts (.fieldLink RX2 35 "PulseLoomModel" "thrown" "I") (List.mem_of_getElem? (i := 1) (by rfl))) (fun _ h9 => h9) rfl (by decide +kernel) rfl (by rfl) (Nat.le_of_ble_eq_true rfl) dX2_meet_2 (fun H locs hP hD hS => ?_)
  have hP : va_P E.1 vwCl (wM E b (nI 0) n lim F (NW t F) kp) H := hP
  have hD : va_D A (wM E b (nI 0) n lim F (NW t F) kp) := hD
  refine lv_aload_n hx hb dX2_meet_5 rfl (lv_at hl 0 rfl) ?_
  refine lv_iload_n hx hb dX2_meet_6 rfl (lv_at hl 1 rfl) ?_
  refine lv_iload_n hx hb dX2_meet_7 rfl (lv_at hl 2 rfl) ?_
  refine csV_i (rest := []) (As := [.int x, .int z]) ⟨hx, hb, hml, hown, hts⟩ (c_X2_areLamps l E _ b n lim t F t MV_self hO (Nat.le_refl _) x z) (cwV 2 hts gX2_meet_X2_areLamps rfl rfl rfl (by decide +kernel) ⟨Nat.le_of_ble_eq_true rfl, Nat.le_of_ble_eq_true rfl⟩) (va_recv hK hP (ci := 3) (q0 := 0) rfl rfl) hP hK rfl hl.1 rfl (Nat.le_of_ble_eq_true rfl) dX2_meet_8 (Nat.le_of_ble_eq_true rfl) (Nat.le_of_ble_eq_true rfl) (fun r8 hr8 => ?_)
  subst hr8
  refine nq_top (show (bI (lpB n x && lpB n z)) = (bI false) from congrArg bI hx9) ?_
  refine bq_if_eq (tgt := 29) hx hb dX2_meet_11 (by decide) (fun h11 => ?_) (fun h11 => ?_)
  · skip
    refine lv_aload_n hx hb dX2_meet_29 rfl (lv_at hl 0 rfl) ?_
    refine lv_iconst (v := (nI 1)) hx hb dX2_meet_30 (by decide) ?_
    refine cmV_i (rest := []) (As := [.int (nI 1)]) ⟨hx, hb, hml, hown, hts⟩ (c_X2_isNot l E _ b (nI 0) n lim t F kp (nI 1)) (cwV 1 hts gX2_meet_X2_isNot rfl rfl rfl (by decide +kernel) ⟨Nat.le_of_ble_eq_true rfl, Nat.le_of_ble_eq_true rfl⟩) (va_recv hK hP (ci := 3) (q0 := 0) rfl rfl) hP hK hD hS hA rfl hl.1 rfl (Nat.le_of_ble_eq_true rfl) dX2_meet_31 ⟨Nat.le_of_ble_eq_true rfl, Nat.le_of_ble_eq_true rfl⟩ (fun r31 u31 H locs hr31 hP hD hS => ?_)
    subst hr31
    exact retM_z (E := E) (A0 := A) (b := false) (post := fun r _ => r = bI false) (u := ()) (W1 := fun _ => wM E b (nI 1) n lim F (NW t F) kp) hx hb hr hlocks hP hK hD hS (rfl) dX2_meet_34
  · skip
    exact absurd h11 (by decide)

set_option maxHeartbeats 4000000 in
set_option maxRecDepth 100000 in
/-- X2_beatsUntilMeet -/
theorem c_X2_beatsUntilMeet (l : Launch) (E : GE) (sz : Nat) (b : Nat → Nat) (th : Int32) (n lim t : Nat) (F : LR) (kp : Nat → Int32) (hO : OkS n t lim F) (k j : Nat) (hk : k < n) (hj : j < n) : Met l yX2_beatsUntilMeet wsX2_beatsUntilMeet ({ frames := 3, cells := 0, slots := 0, locals := 70 } : Room) (va_Pc [.ref (b 0), .int (nI k), .int (nI j)] (pcM E (wM E b th n lim F (NW t F) kp) sz)) (va_Qi (S := Unit) (fun r _ => r = (iI (untilS F t k j))) (fun uQ tQ => atM E (va_A (wM E b th n lim F (NW t F) kp) sz) ((fun _ => wM E b (nI 0) n lim F (NW t F) kp) uQ) tQ) (va_A (wM E b th n lim F (NW t F) kp) sz)) 0 0 (va_A (wM E b th n lim F (NW t F) kp) sz) := by
  refine metM (by decide) rfl (Nat.le_of_ble_eq_true rfl) ?_
  intro p e s m args below meth c ls A hAe hA hx hb hr hml hts hown hlocks hin hP hK hD hS hl
  rw [hAe]
  have hiX2 : ∀ q ∈ wsX20, q ∈ wsX2_beatsUntilMeet := by decide +kernel
  obtain ⟨hO1, hO2, hO3, hO4, hO5⟩ := id hO
  have hk9 := hO4 k hk
  have hj9 := hO4 j hj
  refine lv_aload_n hx hb dX2_beatsUntilMeet_0 rfl (lv_at hl 0 rfl) ?_
  refine lv_iconst (v := (nI 0)) hx hb dX2_beatsUntilMeet_1 (by decide) ?_
  refine va_put (D := E.1) (ci := 3) (v := .int (nI 0)) (ty := .int) (C := RX2) (T := TX2) (N := 10) hx hb hts hiX2 tyX2 tyX2_ok nmX2 hown hK hP hD hS 0 rfl rfl 0 (by decide) (hts (.fieldLink RX2 35 "PulseLoomModel" "thrown" "I") (List.mem_of_getElem? (i := 1) (by rfl))) (fun _ h9 => h9) rfl (by decide +kernel) rfl (by rfl) (Nat.le_of_ble_eq_true rfl) dX2_beatsUntilMeet_2 (fun H locs hP hD hS => ?_)
  have hP : va_P E.1 vwCl (wM E b (nI 0) n lim F (NW t F) kp) H := hP
  have hD : va_D A (wM E b (nI 0) n lim F (NW t F) kp) := hD
  refine lv_aload_n hx hb dX2_beatsUntilMeet_5 rfl (lv_at hl 0 rfl) ?_
  refine lv_iload_n hx hb dX2_beatsUntilMeet_6 rfl (lv_at hl 1 rfl) ?_
  refine lv_iload_n hx hb dX2_beatsUntilMeet_7 rfl (lv_at hl 2 rfl) ?_
  refine csV_i (rest := []) (As := [.int (nI k), .int (nI j)]) ⟨hx, hb, hml, hown, hts⟩ (c_X2_areLamps l E _ b n lim t F t MV_self hO (Nat.le_refl _) (nI k) (nI j)) (cwV 2 hts gX2_beatsUntilMeet_X2_areLamps rfl rfl rfl (by decide +kernel) ⟨Nat.le_of_ble_eq_true rfl, Nat.le_of_ble_eq_true rfl⟩) (va_recv hK hP (ci := 3) (q0 := 0) rfl rfl) hP hK rfl hl.1 rfl (Nat.le_of_ble_eq_true rfl) dX2_beatsUntilMeet_8 (Nat.le_of_ble_eq_true rfl) (Nat.le_of_ble_eq_true rfl) (fun r8 hr8 => ?_)
  subst hr8
  refine nq_top (show (bI (lpB n (nI k) && lpB n (nI j))) = (bI true) from by rw [lpB_t hk hO1, lpB_t hj hO1]; rfl) ?_
  refine bq_if_eq (tgt := 23) hx hb dX2_beatsUntilMeet_11 (by decide) (fun h11 => ?_) (fun h11 => ?_)
  · skip
    exact absurd h11 (by decide)
  · skip
    refine lv_aload_n hx hb dX2_beatsUntilMeet_14 rfl (lv_at hl 0 rfl) ?_
    refine lv_iload_n hx hb dX2_beatsUntilMeet_15 rfl (lv_at hl 1 rfl) ?_
    refine lv_iload_n hx hb dX2_beatsUntilMeet_16 rfl (lv_at hl 2 rfl) ?_
    refine csV_i (rest := []) (As := [.int (nI k), .int (nI j)]) ⟨hx, hb, hml, hown, hts⟩ (c_X2_until l E _ b n lim t F t MV_self hO (Nat.le_refl _) k j (by omega) (by omega)) (cwV 2 hts gX2_beatsUntilMeet_X2_until rfl rfl rfl (by decide +kernel) ⟨Nat.le_of_ble_eq_true rfl, Nat.le_of_ble_eq_true rfl⟩) (va_recv hK hP (ci := 3) (q0 := 0) rfl rfl) hP hK rfl hl.1 rfl (Nat.le_of_ble_eq_true rfl) dX2_beatsUntilMeet_17 (Nat.le_of_ble_eq_true rfl) (Nat.le_of_ble_eq_true rfl) (fun r17 hr17 => ?_)
    subst hr17
    refine lv_goto (tgt := 28) hx hb dX2_beatsUntilMeet_20 (by decide) ?_
    exact retM_i (E := E) (A0 := A) (v := (iI (untilS F t k j))) (post := fun r _ => r = (iI (untilS F t k j))) (u := ()) (W1 := fun _ => wM E b (nI 0) n lim F (NW t F) kp) hx hb hr hlocks hP hK hD hS (rfl) dX2_beatsUntilMeet_28

set_option maxHeartbeats 4000000 in
set_option maxRecDepth 100000 in
/-- X2_beatsUntilMeet, refused -/
theorem c_X2_beatsUntilMeet_x (l : Launch) (E : GE) (sz : Nat) (b : Nat → Nat) (th : Int32) (n lim t : Nat) (F : LR) (kp : Nat → Int32) (hO : OkS n t lim F) (x z : Int32) (hx9 : (lpB n x && lpB n z) = false) : Met l yX2_beatsUntilMeet wsX2_beatsUntilMeet ({ frames := 3, cells := 0, slots := 0, locals := 70 } : Room) (va_Pc [.ref (b 0), .int x, .int z] (pcM E (wM E b th n lim F (NW t F) kp) sz)) (va_Qi (S := Unit) (fun r _ => r = nI 0) (fun uQ tQ => atM E (va_A (wM E b th n lim F (NW t F) kp) sz) ((fun _ => wM E b (nI 1) n lim F (NW t F) kp) uQ) tQ) (va_A (wM E b th n lim F (NW t F) kp) sz)) 0 0 (va_A (wM E b th n lim F (NW t F) kp) sz) := by
  refine metM (by decide) rfl (Nat.le_of_ble_eq_true rfl) ?_
  intro p e s m args below meth c ls A hAe hA hx hb hr hml hts hown hlocks hin hP hK hD hS hl
  rw [hAe]
  have hiX2 : ∀ q ∈ wsX20, q ∈ wsX2_beatsUntilMeet := by decide +kernel
  obtain ⟨hO1, hO2, hO3, hO4, hO5⟩ := id hO
  refine lv_aload_n hx hb dX2_beatsUntilMeet_0 rfl (lv_at hl 0 rfl) ?_
  refine lv_iconst (v := (nI 0)) hx hb dX2_beatsUntilMeet_1 (by decide) ?_
  refine va_put (D := E.1) (ci := 3) (v := .int (nI 0)) (ty := .int) (C := RX2) (T := TX2) (N := 10) hx hb hts hiX2 tyX2 tyX2_ok nmX2 hown hK hP hD hS 0 rfl rfl 0 (by decide) (hts (.fieldLink RX2 35 "PulseLoomModel" "thrown" "I") (List.mem_of_getElem? (i := 1) (by rfl))) (fun _ h9 => h9) rfl (by decide +kernel) rfl (by rfl) (Nat.le_of_ble_eq_true rfl) dX2_beatsUntilMeet_2 (fun H locs hP hD hS => ?_)
  have hP : va_P E.1 vwCl (wM E b (nI 0) n lim F (NW t F) kp) H := hP
  have hD : va_D A (wM E b (nI 0) n lim F (NW t F) kp) := hD
  refine lv_aload_n hx hb dX2_beatsUntilMeet_5 rfl (lv_at hl 0 rfl) ?_
  refine lv_iload_n hx hb dX2_beatsUntilMeet_6 rfl (lv_at hl 1 rfl) ?_
  refine lv_iload_n hx hb dX2_beatsUntilMeet_7 rfl (lv_at hl 2 rfl) ?_
  refine csV_i (rest := []) (As := [.int x, .int z]) ⟨hx, hb, hml, hown, hts⟩ (c_X2_areLamps l E _ b n lim t F t MV_self hO (Nat.le_refl _) x z) (cwV 2 hts gX2_beatsUntilMeet_X2_areLamps rfl rfl rfl (by decide +kernel) ⟨Nat.le_of_ble_eq_true rfl, Nat.le_of_ble_eq_true rfl⟩) (va_recv hK hP (ci := 3) (q0 := 0) rfl rfl) hP hK rfl hl.1 rfl (Nat.le_of_ble_eq_true rfl) dX2_beatsUntilMeet_8 (Nat.le_of_ble_eq_true rfl) (Nat.le_of_ble_eq_true rfl) (fun r8 hr8 => ?_)
  subst hr8
  refine nq_top (show (bI (lpB n x && lpB n z)) = (bI false) from congrArg bI hx9) ?_
  refine bq_if_eq (tgt := 23) hx hb dX2_beatsUntilMeet_11 (by decide) (fun h11 => ?_) (fun h11 => ?_)
  · skip
    refine lv_aload_n hx hb dX2_beatsUntilMeet_23 rfl (lv_at hl 0 rfl) ?_
    refine lv_iconst (v := (nI 1)) hx hb dX2_beatsUntilMeet_24 (by decide) ?_
    refine cmV_i (rest := []) (As := [.int (nI 1)]) ⟨hx, hb, hml, hown, hts⟩ (c_X2_no l E _ b (nI 0) n lim t F kp (nI 1)) (cwV 1 hts gX2_beatsUntilMeet_X2_no rfl rfl rfl (by decide +kernel) ⟨Nat.le_of_ble_eq_true rfl, Nat.le_of_ble_eq_true rfl⟩) (va_recv hK hP (ci := 3) (q0 := 0) rfl rfl) hP hK hD hS hA rfl hl.1 rfl (Nat.le_of_ble_eq_true rfl) dX2_beatsUntilMeet_25 ⟨Nat.le_of_ble_eq_true rfl, Nat.le_of_ble_eq_true rfl⟩ (fun r25 u25 H locs hr25 hP hD hS => ?_)
    subst hr25
    exact retM_i (E := E) (A0 := A) (v := (nI 0)) (post := fun r _ => r = nI 0) (u := ()) (W1 := fun _ => wM E b (nI 1) n lim F (NW t F) kp) hx hb hr hlocks hP hK hD hS (rfl) dX2_beatsUntilMeet_28
  · skip
    exact absurd h11 (by decide)

set_option maxHeartbeats 4000000 in
set_option maxRecDepth 100000 in
/-- X2_meets -/
theorem c_X2_meets (l : Launch) (E : GE) (sz : Nat) (b : Nat → Nat) (th : Int32) (n lim t : Nat) (F : LR) (kp : Nat → Int32) (hO : OkS n t lim F) (k : Nat) (hk : k < n) : Met l yX2_meets wsX2_meets ({ frames := 3, cells := 0, slots := 0, locals := 71 } : Room) (va_Pc [.ref (b 0), .int (nI k)] (pcM E (wM E b th n lim F (NW t F) kp) sz)) (va_Qi (S := Unit) (fun r _ => r = (nI (mtS F k ((F k 3 : Nat) : Int) n))) (fun uQ tQ => atM E (va_A (wM E b th n lim F (NW t F) kp) sz) ((fun _ => wM E b (nI 0) n lim F (NW t F) kp) uQ) tQ) (va_A (wM E b th n lim F (NW t F) kp) sz)) 0 0 (va_A (wM E b th n lim F (NW t F) kp) sz) := by
  refine metM (by decide) rfl (Nat.le_of_ble_eq_true rfl) ?_
  intro p e s m args below meth c ls A hAe hA hx hb hr hml hts hown hlocks hin hP hK hD hS hl
  rw [hAe]
  have hiX2 : ∀ q ∈ wsX20, q ∈ wsX2_meets := by decide +kernel
  obtain ⟨hO1, hO2, hO3, hO4, hO5⟩ := id hO
  have hk9 := hO4 k hk
  refine lv_aload_n hx hb dX2_meets_0 rfl (lv_at hl 0 rfl) ?_
  refine lv_iconst (v := (nI 0)) hx hb dX2_meets_1 (by decide) ?_
  refine va_put (D := E.1) (ci := 3) (v := .int (nI 0)) (ty := .int) (C := RX2) (T := TX2) (N := 10) hx hb hts hiX2 tyX2 tyX2_ok nmX2 hown hK hP hD hS 0 rfl rfl 0 (by decide) (hts (.fieldLink RX2 35 "PulseLoomModel" "thrown" "I") (List.mem_of_getElem? (i := 1) (by rfl))) (fun _ h9 => h9) rfl (by decide +kernel) rfl (by rfl) (Nat.le_of_ble_eq_true rfl) dX2_meets_2 (fun H locs hP hD hS => ?_)
  have hP : va_P E.1 vwCl (wM E b (nI 0) n lim F (NW t F) kp) H := hP
  have hD : va_D A (wM E b (nI 0) n lim F (NW t F) kp) := hD
  refine lv_aload_n hx hb dX2_meets_5 rfl (lv_at hl 0 rfl) ?_
  refine lv_iload_n hx hb dX2_meets_6 rfl (lv_at hl 1 rfl) ?_
  refine csV_i (rest := []) (As := [.int (nI k)]) ⟨hx, hb, hml, hown, hts⟩ (c_X2_isLamp l E _ b n lim t F t MV_self hO (Nat.le_refl _) (nI k)) (cwV 1 hts gX2_meets_X2_isLamp rfl rfl rfl (by decide +kernel) ⟨Nat.le_of_ble_eq_true rfl, Nat.le_of_ble_eq_true rfl⟩) (va_recv hK hP (ci := 3) (q0 := 0) rfl rfl) hP hK rfl hl.1 rfl (Nat.le_of_ble_eq_true rfl) dX2_meets_7 (Nat.le_of_ble_eq_true rfl) (Nat.le_of_ble_eq_true rfl) (fun r7 hr7 => ?_)
  subst hr7
  refine nq_top (show (bI (lpB n (nI k))) = (bI true) from congrArg bI (lpB_t hk hO1)) ?_
  refine bq_if_eq (tgt := 27) hx hb dX2_meets_10 (by decide) (fun h10 => ?_) (fun h10 => ?_)
  · skip
    exact absurd h10 (by decide)
  · skip
    refine lv_aload_n hx hb dX2_meets_13 rfl (lv_at hl 0 rfl) ?_
    refine lv_iload_n hx hb dX2_meets_14 rfl (lv_at hl 1 rfl) ?_
    refine lv_aload_n hx hb dX2_meets_15 rfl (lv_at hl 0 rfl) ?_
    refine va_get (D := E.1) (ci := 3) (v := .ref (b 3)) (C := RX2) (T := TX2) (N := 10) hx hb hts hiX2 hown hK hP 0 rfl rfl 5 (by decide) (hts (.fieldLink RX2 20 "PulseLoomModel" "shift" "[I") (List.mem_of_getElem? (i := 2) (by rfl))) (fun _ h9 => h9) rfl dX2_meets_16 ?_
    refine lv_iload_n hx hb dX2_meets_19 rfl (lv_at hl 1 rfl) ?_
    refine va_iald hx hb hK hP 3 0 rfl rfl (by exact vp_in_nI (by omega) (by omega)) dX2_meets_20 ?_
    refine nq_top (show (nI (F (((nI k)).toNatClampNeg) 3)) = (nI (F k 3)) from by rw [nI_clamp (by omega)]) ?_
    refine csV_i (rest := []) (As := [.int (nI k), .int (nI (F k 3))]) ⟨hx, hb, hml, hown, hts⟩ (c_X2_met l E _ b n lim t F t MV_self hO (Nat.le_refl _) k (F k 3) (by omega) (by omega)) (cwV 2 hts gX2_meets_X2_met rfl rfl rfl (by decide +kernel) ⟨Nat.le_of_ble_eq_true rfl, Nat.le_of_ble_eq_true rfl⟩) (va_recv hK hP (ci := 3) (q0 := 0) rfl rfl) hP hK rfl hl.1 rfl (Nat.le_of_ble_eq_true rfl) dX2_meets_21 (Nat.le_of_ble_eq_true rfl) (Nat.le_of_ble_eq_true rfl) (fun r21 hr21 => ?_)
    subst hr21
    refine lv_goto (tgt := 32) hx hb dX2_meets_24 (by decide) ?_
    exact retM_i (E := E) (A0 := A) (v := (nI (mtS F k (((F k 3) : Nat) : Int) n))) (post := fun r _ => r = (nI (mtS F k ((F k 3 : Nat) : Int) n))) (u := ()) (W1 := fun _ => wM E b (nI 0) n lim F (NW t F) kp) hx hb hr hlocks hP hK hD hS (rfl) dX2_meets_32

set_option maxHeartbeats 4000000 in
set_option maxRecDepth 100000 in
/-- X2_meets, refused -/
theorem c_X2_meets_x (l : Launch) (E : GE) (sz : Nat) (b : Nat → Nat) (th : Int32) (n lim t : Nat) (F : LR) (kp : Nat → Int32) (hO : OkS n t lim F) (x : Int32) (hx9 : lpB n x = false) : Met l yX2_meets wsX2_meets ({ frames := 3, cells := 0, slots := 0, locals := 71 } : Room) (va_Pc [.ref (b 0), .int x] (pcM E (wM E b th n lim F (NW t F) kp) sz)) (va_Qi (S := Unit) (fun r _ => r = nI 0) (fun uQ tQ => atM E (va_A (wM E b th n lim F (NW t F) kp) sz) ((fun _ => wM E b (nI 1) n lim F (NW t F) kp) uQ) tQ) (va_A (wM E b th n lim F (NW t F) kp) sz)) 0 0 (va_A (wM E b th n lim F (NW t F) kp) sz) := by
  refine metM (by decide) rfl (Nat.le_of_ble_eq_true rfl) ?_
  intro p e s m args below meth c ls A hAe hA hx hb hr hml hts hown hlocks hin hP hK hD hS hl
  rw [hAe]
  have hiX2 : ∀ q ∈ wsX20, q ∈ wsX2_meets := by decide +kernel
  obtain ⟨hO1, hO2, hO3, hO4, hO5⟩ := id hO
  refine lv_aload_n hx hb dX2_meets_0 rfl (lv_at hl 0 rfl) ?_
  refine lv_iconst (v := (nI 0)) hx hb dX2_meets_1 (by decide) ?_
  refine va_put (D := E.1) (ci := 3) (v := .int (nI 0)) (ty := .int) (C := RX2) (T := TX2) (N := 10) hx hb hts hiX2 tyX2 tyX2_ok nmX2 hown hK hP hD hS 0 rfl rfl 0 (by decide) (hts (.fieldLink RX2 35 "PulseLoomModel" "thrown" "I") (List.mem_of_getElem? (i := 1) (by rfl))) (fun _ h9 => h9) rfl (by decide +kernel) rfl (by rfl) (Nat.le_of_ble_eq_true rfl) dX2_meets_2 (fun H locs hP hD hS => ?_)
  have hP : va_P E.1 vwCl (wM E b (nI 0) n lim F (NW t F) kp) H := hP
  have hD : va_D A (wM E b (nI 0) n lim F (NW t F) kp) := hD
  refine lv_aload_n hx hb dX2_meets_5 rfl (lv_at hl 0 rfl) ?_
  refine lv_iload_n hx hb dX2_meets_6 rfl (lv_at hl 1 rfl) ?_
  refine csV_i (rest := []) (As := [.int x]) ⟨hx, hb, hml, hown, hts⟩ (c_X2_isLamp l E _ b n lim t F t MV_self hO (Nat.le_refl _) x) (cwV 1 hts gX2_meets_X2_isLamp rfl rfl rfl (by decide +kernel) ⟨Nat.le_of_ble_eq_true rfl, Nat.le_of_ble_eq_true rfl⟩) (va_recv hK hP (ci := 3) (q0 := 0) rfl rfl) hP hK rfl hl.1 rfl (Nat.le_of_ble_eq_true rfl) dX2_meets_7 (Nat.le_of_ble_eq_true rfl) (Nat.le_of_ble_eq_true rfl) (fun r7 hr7 => ?_)
  subst hr7
  refine nq_top (show (bI (lpB n x)) = (bI false) from congrArg bI hx9) ?_
  refine bq_if_eq (tgt := 27) hx hb dX2_meets_10 (by decide) (fun h10 => ?_) (fun h10 => ?_)
  · skip
    refine lv_aload_n hx hb dX2_meets_27 rfl (lv_at hl 0 rfl) ?_
    refine lv_iconst (v := (nI 1)) hx hb dX2_meets_28 (by decide) ?_
    refine cmV_i (rest := []) (As := [.int (nI 1)]) ⟨hx, hb, hml, hown, hts⟩ (c_X2_no l E _ b (nI 0) n lim t F kp (nI 1)) (cwV 1 hts gX2_meets_X2_no rfl rfl rfl (by decide +kernel) ⟨Nat.le_of_ble_eq_true rfl, Nat.le_of_ble_eq_true rfl⟩) (va_recv hK hP (ci := 3) (q0 := 0) rfl rfl) hP hK hD hS hA rfl hl.1 rfl (Nat.le_of_ble_eq_true rfl) dX2_meets_29 ⟨Nat.le_of_ble_eq_true rfl, Nat.le_of_ble_eq_true rfl⟩ (fun r29 u29 H locs hr29 hP hD hS => ?_)
    subst hr29
    exact retM_i (E := E) (A0 := A) (v := (nI 0)) (post := fun r _ => r = nI 0) (u := ()) (W1 := fun _ => wM E b (nI 1) n lim F (NW t F) kp) hx hb hr hlocks hP hK hD hS (rfl) dX2_meets_32
  · skip
    exact absurd h10 (by decide)

set_option maxHeartbeats 4000000 in
set_option maxRecDepth 100000 in
/-- X2_bestShift -/
theorem c_X2_bestShift (l : Launch) (E : GE) (sz : Nat) (b : Nat → Nat) (th : Int32) (n lim t : Nat) (F : LR) (kp : Nat → Int32) (hO : OkS n t lim F) (k : Nat) (hk : k < n) : Met l yX2_bestShift wsX2_bestShift ({ frames := 4, cells := 0, slots := 0, locals := 94 } : Room) (va_Pc [.ref (b 0), .int (nI k)] (pcM E (wM E b th n lim F (NW t F) kp) sz)) (va_Qi (S := Unit) (fun r _ => r = (nI (bestS F n k (F k 0 - 1)))) (fun uQ tQ => atM E (va_A (wM E b th n lim F (NW t F) kp) sz) ((fun _ => wM E b (nI 0) n lim F (NW t F) kp) uQ) tQ) (va_A (wM E b th n lim F (NW t F) kp) sz)) 0 0 (va_A (wM E b th n lim F (NW t F) kp) sz) := by
  refine metM (by decide) rfl (Nat.le_of_ble_eq_true rfl) ?_
  intro p e s m args below meth c ls A hAe hA hx hb hr hml hts hown hlocks hin hP hK hD hS hl
  rw [hAe]
  have hiX2 : ∀ q ∈ wsX20, q ∈ wsX2_bestShift := by decide +kernel
  obtain ⟨hO1, hO2, hO3, hO4, hO5⟩ := id hO
  have hk9 := hO4 k hk
  refine lv_aload_n hx hb dX2_bestShift_0 rfl (lv_at hl 0 rfl) ?_
  refine lv_iconst (v := (nI 0)) hx hb dX2_bestShift_1 (by decide) ?_
  refine va_put (D := E.1) (ci := 3) (v := .int (nI 0)) (ty := .int) (C := RX2) (T := TX2) (N := 10) hx hb hts hiX2 tyX2 tyX2_ok nmX2 hown hK hP hD hS 0 rfl rfl 0 (by decide) (hts (.fieldLink RX2 35 "PulseLoomModel" "thrown" "I") (List.mem_of_getElem? (i := 1) (by rfl))) (fun _ h9 => h9) rfl (by decide +kernel) rfl (by rfl) (Nat.le_of_ble_eq_true rfl) dX2_bestShift_2 (fun H locs hP hD hS => ?_)
  have hP : va_P E.1 vwCl (wM E b (nI 0) n lim F (NW t F) kp) H := hP
  have hD : va_D A (wM E b (nI 0) n lim F (NW t F) kp) := hD
  refine lv_aload_n hx hb dX2_bestShift_5 rfl (lv_at hl 0 rfl) ?_
  refine lv_iload_n hx hb dX2_bestShift_6 rfl (lv_at hl 1 rfl) ?_
  refine csV_i (rest := []) (As := [.int (nI k)]) ⟨hx, hb, hml, hown, hts⟩ (c_X2_isLamp l E _ b n lim t F t MV_self hO (Nat.le_refl _) (nI k)) (cwV 1 hts gX2_bestShift_X2_isLamp rfl rfl rfl (by decide +kernel) ⟨Nat.le_of_ble_eq_true rfl, Nat.le_of_ble_eq_true rfl⟩) (va_recv hK hP (ci := 3) (q0 := 0) rfl rfl) hP hK rfl hl.1 rfl (Nat.le_of_ble_eq_true rfl) dX2_bestShift_7 (Nat.le_of_ble_eq_true rfl) (Nat.le_of_ble_eq_true rfl) (fun r7 hr7 => ?_)
  subst hr7
  refine nq_top (show (bI (lpB n (nI k))) = (bI true) from congrArg bI (lpB_t hk hO1)) ?_
  refine bq_if_eq (tgt := 21) hx hb dX2_bestShift_10 (by decide) (fun h10 => ?_) (fun h10 => ?_)
  · skip
    exact absurd h10 (by decide)
  · skip
    refine lv_aload_n hx hb dX2_bestShift_13 rfl (lv_at hl 0 rfl) ?_
    refine lv_iload_n hx hb dX2_bestShift_14 rfl (lv_at hl 1 rfl) ?_
    refine csV_i (rest := []) (As := [.int (nI k)]) ⟨hx, hb, hml, hown, hts⟩ (c_X2_shiftFor l E _ b n lim t F t MV_self hO (Nat.le_refl _) k (by omega)) (cwV 1 hts gX2_bestShift_X2_shiftFor rfl rfl rfl (by decide +kernel) ⟨Nat.le_of_ble_eq_true rfl, Nat.le_of_ble_eq_true rfl⟩) (va_recv hK hP (ci := 3) (q0 := 0) rfl rfl) hP hK rfl hl.1 rfl (Nat.le_of_ble_eq_true rfl) dX2_bestShift_15 (Nat.le_of_ble_eq_true rfl) (Nat.le_of_ble_eq_true rfl) (fun r15 hr15 => ?_)
    subst hr15
    refine lv_goto (tgt := 26) hx hb dX2_bestShift_18 (by decide) ?_
    exact retM_i (E := E) (A0 := A) (v := (nI (bestS F n k (F k 0 - 1)))) (post := fun r _ => r = (nI (bestS F n k (F k 0 - 1)))) (u := ()) (W1 := fun _ => wM E b (nI 0) n lim F (NW t F) kp) hx hb hr hlocks hP hK hD hS (rfl) dX2_bestShift_26

set_option maxHeartbeats 4000000 in
set_option maxRecDepth 100000 in
/-- X2_bestShift, refused -/
theorem c_X2_bestShift_x (l : Launch) (E : GE) (sz : Nat) (b : Nat → Nat) (th : Int32) (n lim t : Nat) (F : LR) (kp : Nat → Int32) (hO : OkS n t lim F) (x : Int32) (hx9 : lpB n x = false) : Met l yX2_bestShift wsX2_bestShift ({ frames := 4, cells := 0, slots := 0, locals := 94 } : Room) (va_Pc [.ref (b 0), .int x] (pcM E (wM E b th n lim F (NW t F) kp) sz)) (va_Qi (S := Unit) (fun r _ => r = nI 0) (fun uQ tQ => atM E (va_A (wM E b th n lim F (NW t F) kp) sz) ((fun _ => wM E b (nI 1) n lim F (NW t F) kp) uQ) tQ) (va_A (wM E b th n lim F (NW t F) kp) sz)) 0 0 (va_A (wM E b th n lim F (NW t F) kp) sz) := by
  refine metM (by decide) rfl (Nat.le_of_ble_eq_true rfl) ?_
  intro p e s m args below meth c ls A hAe hA hx hb hr hml hts hown hlocks hin hP hK hD hS hl
  rw [hAe]
  have hiX2 : ∀ q ∈ wsX20, q ∈ wsX2_bestShift := by decide +kernel
  obtain ⟨hO1, hO2, hO3, hO4, hO5⟩ := id hO
  refine lv_aload_n hx hb dX2_bestShift_0 rfl (lv_at hl 0 rfl) ?_
  refine lv_iconst (v := (nI 0)) hx hb dX2_bestShift_1 (by decide) ?_
  refine va_put (D := E.1) (ci := 3) (v := .int (nI 0)) (ty := .int) (C := RX2) (T := TX2) (N := 10) hx hb hts hiX2 tyX2 tyX2_ok nmX2 hown hK hP hD hS 0 rfl rfl 0 (by decide) (hts (.fieldLink RX2 35 "PulseLoomModel" "thrown" "I") (List.mem_of_getElem? (i := 1) (by rfl))) (fun _ h9 => h9) rfl (by decide +kernel) rfl (by rfl) (Nat.le_of_ble_eq_true rfl) dX2_bestShift_2 (fun H locs hP hD hS => ?_)
  have hP : va_P E.1 vwCl (wM E b (nI 0) n lim F (NW t F) kp) H := hP
  have hD : va_D A (wM E b (nI 0) n lim F (NW t F) kp) := hD
  refine lv_aload_n hx hb dX2_bestShift_5 rfl (lv_at hl 0 rfl) ?_
  refine lv_iload_n hx hb dX2_bestShift_6 rfl (lv_at hl 1 rfl) ?_
  refine csV_i (rest := []) (As := [.int x]) ⟨hx, hb, hml, hown, hts⟩ (c_X2_isLamp l E _ b n lim t F t MV_self hO (Nat.le_refl _) x) (cwV 1 hts gX2_bestShift_X2_isLamp rfl rfl rfl (by decide +kernel) ⟨Nat.le_of_ble_eq_true rfl, Nat.le_of_ble_eq_true rfl⟩) (va_recv hK hP (ci := 3) (q0 := 0) rfl rfl) hP hK rfl hl.1 rfl (Nat.le_of_ble_eq_true rfl) dX2_bestShift_7 (Nat.le_of_ble_eq_true rfl) (Nat.le_of_ble_eq_true rfl) (fun r7 hr7 => ?_)
  subst hr7
  refine nq_top (show (bI (lpB n x)) = (bI false) from congrArg bI hx9) ?_
  refine bq_if_eq (tgt := 21) hx hb dX2_bestShift_10 (by decide) (fun h10 => ?_) (fun h10 => ?_)
  · skip
    refine lv_aload_n hx hb dX2_bestShift_21 rfl (lv_at hl 0 rfl) ?_
    refine lv_iconst (v := (nI 1)) hx hb dX2_bestShift_22 (by decide) ?_
    refine cmV_i (rest := []) (As := [.int (nI 1)]) ⟨hx, hb, hml, hown, hts⟩ (c_X2_no l E _ b (nI 0) n lim t F kp (nI 1)) (cwV 1 hts gX2_bestShift_X2_no rfl rfl rfl (by decide +kernel) ⟨Nat.le_of_ble_eq_true rfl, Nat.le_of_ble_eq_true rfl⟩) (va_recv hK hP (ci := 3) (q0 := 0) rfl rfl) hP hK hD hS hA rfl hl.1 rfl (Nat.le_of_ble_eq_true rfl) dX2_bestShift_23 ⟨Nat.le_of_ble_eq_true rfl, Nat.le_of_ble_eq_true rfl⟩ (fun r23 u23 H locs hr23 hP hD hS => ?_)
    subst hr23
    exact retM_i (E := E) (A0 := A) (v := (nI 0)) (post := fun r _ => r = nI 0) (u := ()) (W1 := fun _ => wM E b (nI 1) n lim F (NW t F) kp) hx hb hr hlocks hP hK hD hS (rfl) dX2_bestShift_26
  · skip
    exact absurd h10 (by decide)

set_option maxHeartbeats 4000000 in
set_option maxRecDepth 100000 in
/-- X2_brightest -/
theorem c_X2_brightest (l : Launch) (E : GE) (sz : Nat) (b : Nat → Nat) (th : Int32) (n lim t : Nat) (F : LR) (kp : Nat → Int32) (hO : OkS n t lim F) (k : Nat) (hk : 1 ≤ k ∧ k ≤ 200) (hk9 : t + 200 ≤ 100000000) : Met l yX2_brightest wsX2_brightest ({ frames := 4, cells := 0, slots := 0, locals := 91 } : Room) (va_Pc [.ref (b 0), .int (nI k)] (pcM E (wM E b th n lim F (NW t F) kp) sz)) (va_Qi (S := Unit) (fun r _ => r = (nI (mxA F lim t n k))) (fun uQ tQ => atM E (va_A (wM E b th n lim F (NW t F) kp) sz) ((fun _ => wM E b (nI 0) n lim F (NW t F) (va_cpy (NW t F) kp 0 0 17)) uQ) tQ) (va_A (wM E b th n lim F (NW t F) kp) sz)) 0 0 (va_A (wM E b th n lim F (NW t F) kp) sz) := by
  refine metM (by decide) rfl (Nat.le_of_ble_eq_true rfl) ?_
  intro p e s m args below meth c ls A hAe hA hx hb hr hml hts hown hlocks hin hP hK hD hS hl
  rw [hAe]
  have hiX2 : ∀ q ∈ wsX20, q ∈ wsX2_brightest := by decide +kernel
  obtain ⟨hO1, hO2, hO3, hO4, hO5⟩ := id hO
  refine lv_aload_n hx hb dX2_brightest_0 rfl (lv_at hl 0 rfl) ?_
  refine lv_iconst (v := (nI 0)) hx hb dX2_brightest_1 (by decide) ?_
  refine va_put (D := E.1) (ci := 3) (v := .int (nI 0)) (ty := .int) (C := RX2) (T := TX2) (N := 10) hx hb hts hiX2 tyX2 tyX2_ok nmX2 hown hK hP hD hS 0 rfl rfl 0 (by decide) (hts (.fieldLink RX2 35 "PulseLoomModel" "thrown" "I") (List.mem_of_getElem? (i := 1) (by rfl))) (fun _ h9 => h9) rfl (by decide +kernel) rfl (by rfl) (Nat.le_of_ble_eq_true rfl) dX2_brightest_2 (fun H locs hP hD hS => ?_)
  have hP : va_P E.1 vwCl (wM E b (nI 0) n lim F (NW t F) kp) H := hP
  have hD : va_D A (wM E b (nI 0) n lim F (NW t F) kp) := hD
  refine lv_iload_n hx hb dX2_brightest_5 rfl (lv_at hl 1 rfl) ?_
  refine lv_iconst (v := (nI 1)) hx hb dX2_brightest_6 (by decide) ?_
  refine lv_sipush (v := (nI 200)) hx hb dX2_brightest_7 (by decide) ?_
  refine csS_i (rest := []) (As := [.int (nI k), .int (nI 1), .int (nI 200)]) ⟨hx, hb, hml, hown, hts⟩ (c_X2_isIn l E _ (nI k) (nI 1) (nI 200)) (va_cwS 3 hts gX2_brightest_X2_isIn rfl rfl rfl (by decide +kernel) ⟨Nat.le_of_ble_eq_true rfl, Nat.le_of_ble_eq_true rfl⟩) hP hK rfl hl.1 rfl (Nat.le_of_ble_eq_true rfl) dX2_brightest_10 (Nat.le_of_ble_eq_true rfl) (Nat.le_of_ble_eq_true rfl) (fun r10 hr10 => ?_)
  subst hr10
  refine nq_top (show (bI (inB (nI k) (nI 1) (nI 200))) = (bI true) from congrArg bI (inB_t (by omega) (by omega))) ?_
  refine bq_if_eq (tgt := 25) hx hb dX2_brightest_13 (by decide) (fun h13 => ?_) (fun h13 => ?_)
  · skip
    exact absurd h13 (by decide)
  · skip
    refine lv_aload_n hx hb dX2_brightest_16 rfl (lv_at hl 0 rfl) ?_
    refine lv_iload_n hx hb dX2_brightest_17 rfl (lv_at hl 1 rfl) ?_
    refine lv_iconst (v := (nI 0)) hx hb dX2_brightest_18 (by decide) ?_
    refine cmV_i (rest := []) (As := [.int (nI k), .int (nI 0)]) ⟨hx, hb, hml, hown, hts⟩ (c_X2_most_f l E _ b (nI 0) n lim t F kp hO k (by omega)) (cwV 2 hts gX2_brightest_X2_most rfl rfl rfl (by decide +kernel) ⟨Nat.le_of_ble_eq_true rfl, Nat.le_of_ble_eq_true rfl⟩) (va_recv hK hP (ci := 3) (q0 := 0) rfl rfl) hP hK hD hS hA rfl hl.1 rfl (Nat.le_of_ble_eq_true rfl) dX2_brightest_19 ⟨Nat.le_of_ble_eq_true rfl, Nat.le_of_ble_eq_true rfl⟩ (fun r19 u19 H locs hr19 hP hD hS => ?_)
    subst hr19
    refine lv_goto (tgt := 30) hx hb dX2_brightest_22 (by decide) ?_
    exact retM_i (E := E) (A0 := A) (v := (nI (mxA F lim t n k))) (post := fun r _ => r = (nI (mxA F lim t n k))) (u := ()) (W1 := fun _ => wM E b (nI 0) n lim F (NW t F) (va_cpy (NW t F) kp 0 0 17)) hx hb hr hlocks hP hK hD hS (rfl) dX2_brightest_30

set_option maxHeartbeats 4000000 in
set_option maxRecDepth 100000 in
/-- X2_brightest, refused -/
theorem c_X2_brightest_x (l : Launch) (E : GE) (sz : Nat) (b : Nat → Nat) (th : Int32) (n lim t : Nat) (F : LR) (kp : Nat → Int32) (hO : OkS n t lim F) (x : Int32) (hx9 : inB x (nI 1) (nI 200) = false) : Met l yX2_brightest wsX2_brightest ({ frames := 4, cells := 0, slots := 0, locals := 91 } : Room) (va_Pc [.ref (b 0), .int x] (pcM E (wM E b th n lim F (NW t F) kp) sz)) (va_Qi (S := Unit) (fun r _ => r = nI 0) (fun uQ tQ => atM E (va_A (wM E b th n lim F (NW t F) kp) sz) ((fun _ => wM E b (nI 1) n lim F (NW t F) kp) uQ) tQ) (va_A (wM E b th n lim F (NW t F) kp) sz)) 0 0 (va_A (wM E b th n lim F (NW t F) kp) sz) := by
  refine metM (by decide) rfl (Nat.le_of_ble_eq_true rfl) ?_
  intro p e s m args below meth c ls A hAe hA hx hb hr hml hts hown hlocks hin hP hK hD hS hl
  rw [hAe]
  have hiX2 : ∀ q ∈ wsX20, q ∈ wsX2_brightest := by decide +kernel
  obtain ⟨hO1, hO2, hO3, hO4, hO5⟩ := id hO
  refine lv_aload_n hx hb dX2_brightest_0 rfl (lv_at hl 0 rfl) ?_
  refine lv_iconst (v := (nI 0)) hx hb dX2_brightest_1 (by decide) ?_
  refine va_put (D := E.1) (ci := 3) (v := .int (nI 0)) (ty := .int) (C := RX2) (T := TX2) (N := 10) hx hb hts hiX2 tyX2 tyX2_ok nmX2 hown hK hP hD hS 0 rfl rfl 0 (by decide) (hts (.fieldLink RX2 35 "PulseLoomModel" "thrown" "I") (List.mem_of_getElem? (i := 1) (by rfl))) (fun _ h9 => h9) rfl (by decide +kernel) rfl (by rfl) (Nat.le_of_ble_eq_true rfl) dX2_brightest_2 (fun H locs hP hD hS => ?_)
  have hP : va_P E.1 vwCl (wM E b (nI 0) n lim F (NW t F) kp) H := hP
  have hD : va_D A (wM E b (nI 0) n lim F (NW t F) kp) := hD
  refine lv_iload_n hx hb dX2_brightest_5 rfl (lv_at hl 1 rfl) ?_
  refine lv_iconst (v := (nI 1)) hx hb dX2_brightest_6 (by decide) ?_
  refine lv_sipush (v := (nI 200)) hx hb dX2_brightest_7 (by decide) ?_
  refine csS_i (rest := []) (As := [.int x, .int (nI 1), .int (nI 200)]) ⟨hx, hb, hml, hown, hts⟩ (c_X2_isIn l E _ x (nI 1) (nI 200)) (va_cwS 3 hts gX2_brightest_X2_isIn rfl rfl rfl (by decide +kernel) ⟨Nat.le_of_ble_eq_true rfl, Nat.le_of_ble_eq_true rfl⟩) hP hK rfl hl.1 rfl (Nat.le_of_ble_eq_true rfl) dX2_brightest_10 (Nat.le_of_ble_eq_true rfl) (Nat.le_of_ble_eq_true rfl) (fun r10 hr10 => ?_)
  subst hr10
  refine nq_top (show (bI (inB x (nI 1) (nI 200))) = (bI false) from congrArg bI hx9) ?_
  refine bq_if_eq (tgt := 25) hx hb dX2_brightest_13 (by decide) (fun h13 => ?_) (fun h13 => ?_)
  · skip
    refine lv_aload_n hx hb dX2_brightest_25 rfl (lv_at hl 0 rfl) ?_
    refine lv_iconst (v := (nI 1)) hx hb dX2_brightest_26 (by decide) ?_
    refine cmV_i (rest := []) (As := [.int (nI 1)]) ⟨hx, hb, hml, hown, hts⟩ (c_X2_no l E _ b (nI 0) n lim t F kp (nI 1)) (cwV 1 hts gX2_brightest_X2_no rfl rfl rfl (by decide +kernel) ⟨Nat.le_of_ble_eq_true rfl, Nat.le_of_ble_eq_true rfl⟩) (va_recv hK hP (ci := 3) (q0 := 0) rfl rfl) hP hK hD hS hA rfl hl.1 rfl (Nat.le_of_ble_eq_true rfl) dX2_brightest_27 ⟨Nat.le_of_ble_eq_true rfl, Nat.le_of_ble_eq_true rfl⟩ (fun r27 u27 H locs hr27 hP hD hS => ?_)
    subst hr27
    exact retM_i (E := E) (A0 := A) (v := (nI 0)) (post := fun r _ => r = nI 0) (u := ()) (W1 := fun _ => wM E b (nI 1) n lim F (NW t F) kp) hx hb hr hlocks hP hK hD hS (rfl) dX2_brightest_30
  · skip
    exact absurd h13 (by decide)

set_option maxHeartbeats 4000000 in
set_option maxRecDepth 100000 in
/-- X2_limitWanted -/
theorem c_X2_limitWanted (l : Launch) (E : GE) (sz : Nat) (b : Nat → Nat) (th : Int32) (n lim t : Nat) (F : LR) (kp : Nat → Int32) (hO : OkS n t lim F) (k : Nat) (hk : 1 ≤ k ∧ k ≤ 200) (hk9 : t + 200 ≤ 100000000) : Met l yX2_limitWanted wsX2_limitWanted ({ frames := 4, cells := 0, slots := 0, locals := 91 } : Room) (va_Pc [.ref (b 0), .int (nI k)] (pcM E (wM E b th n lim F (NW t F) kp) sz)) (va_Qi (S := Unit) (fun r _ => r = (nI (mxA F 99 t n k))) (fun uQ tQ => atM E (va_A (wM E b th n lim F (NW t F) kp) sz) ((fun _ => wM E b (nI 0) n lim F (NW t F) (va_cpy (NW t F) kp 0 0 17)) uQ) tQ) (va_A (wM E b th n lim F (NW t F) kp) sz)) 0 0 (va_A (wM E b th n lim F (NW t F) kp) sz) := by
  refine metM (by decide) rfl (Nat.le_of_ble_eq_true rfl) ?_
  intro p e s m args below meth c ls A hAe hA hx hb hr hml hts hown hlocks hin hP hK hD hS hl
  rw [hAe]
  have hiX2 : ∀ q ∈ wsX20, q ∈ wsX2_limitWanted := by decide +kernel
  obtain ⟨hO1, hO2, hO3, hO4, hO5⟩ := id hO
  refine lv_aload_n hx hb dX2_limitWanted_0 rfl (lv_at hl 0 rfl) ?_
  refine lv_iconst (v := (nI 0)) hx hb dX2_limitWanted_1 (by decide) ?_
  refine va_put (D := E.1) (ci := 3) (v := .int (nI 0)) (ty := .int) (C := RX2) (T := TX2) (N := 10) hx hb hts hiX2 tyX2 tyX2_ok nmX2 hown hK hP hD hS 0 rfl rfl 0 (by decide) (hts (.fieldLink RX2 35 "PulseLoomModel" "thrown" "I") (List.mem_of_getElem? (i := 1) (by rfl))) (fun _ h9 => h9) rfl (by decide +kernel) rfl (by rfl) (Nat.le_of_ble_eq_true rfl) dX2_limitWanted_2 (fun H locs hP hD hS => ?_)
  have hP : va_P E.1 vwCl (wM E b (nI 0) n lim F (NW t F) kp) H := hP
  have hD : va_D A (wM E b (nI 0) n lim F (NW t F) kp) := hD
  refine lv_iload_n hx hb dX2_limitWanted_5 rfl (lv_at hl 1 rfl) ?_
  refine lv_iconst (v := (nI 1)) hx hb dX2_limitWanted_6 (by decide) ?_
  refine lv_sipush (v := (nI 200)) hx hb dX2_limitWanted_7 (by decide) ?_
  refine csS_i (rest := []) (As := [.int (nI k), .int (nI 1), .int (nI 200)]) ⟨hx, hb, hml, hown, hts⟩ (c_X2_isIn l E _ (nI k) (nI 1) (nI 200)) (va_cwS 3 hts gX2_limitWanted_X2_isIn rfl rfl rfl (by decide +kernel) ⟨Nat.le_of_ble_eq_true rfl, Nat.le_of_ble_eq_true rfl⟩) hP hK rfl hl.1 rfl (Nat.le_of_ble_eq_true rfl) dX2_limitWanted_10 (Nat.le_of_ble_eq_true rfl) (Nat.le_of_ble_eq_true rfl) (fun r10 hr10 => ?_)
  subst hr10
  refine nq_top (show (bI (inB (nI k) (nI 1) (nI 200))) = (bI true) from congrArg bI (inB_t (by omega) (by omega))) ?_
  refine bq_if_eq (tgt := 25) hx hb dX2_limitWanted_13 (by decide) (fun h13 => ?_) (fun h13 => ?_)
  · skip
    exact absurd h13 (by decide)
  · skip
    refine lv_aload_n hx hb dX2_limitWanted_16 rfl (lv_at hl 0 rfl) ?_
    refine lv_iload_n hx hb dX2_limitWanted_17 rfl (lv_at hl 1 rfl) ?_
    refine lv_iconst (v := (nI 1)) hx hb dX2_limitWanted_18 (by decide) ?_
    refine cmV_i (rest := []) (As := [.int (nI k), .int (nI 1)]) ⟨hx, hb, hml, hown, hts⟩ (c_X2_most_t l E _ b (nI 0) n lim t F kp hO k (by omega)) (cwV 2 hts gX2_limitWanted_X2_most rfl rfl rfl (by decide +kernel) ⟨Nat.le_of_ble_eq_true rfl, Nat.le_of_ble_eq_true rfl⟩) (va_recv hK hP (ci := 3) (q0 := 0) rfl rfl) hP hK hD hS hA rfl hl.1 rfl (Nat.le_of_ble_eq_true rfl) dX2_limitWanted_19 ⟨Nat.le_of_ble_eq_true rfl, Nat.le_of_ble_eq_true rfl⟩ (fun r19 u19 H locs hr19 hP hD hS => ?_)
    subst hr19
    refine lv_goto (tgt := 30) hx hb dX2_limitWanted_22 (by decide) ?_
    exact retM_i (E := E) (A0 := A) (v := (nI (mxA F 99 t n k))) (post := fun r _ => r = (nI (mxA F 99 t n k))) (u := ()) (W1 := fun _ => wM E b (nI 0) n lim F (NW t F) (va_cpy (NW t F) kp 0 0 17)) hx hb hr hlocks hP hK hD hS (rfl) dX2_limitWanted_30

set_option maxHeartbeats 4000000 in
set_option maxRecDepth 100000 in
/-- X2_limitWanted, refused -/
theorem c_X2_limitWanted_x (l : Launch) (E : GE) (sz : Nat) (b : Nat → Nat) (th : Int32) (n lim t : Nat) (F : LR) (kp : Nat → Int32) (hO : OkS n t lim F) (x : Int32) (hx9 : inB x (nI 1) (nI 200) = false) : Met l yX2_limitWanted wsX2_limitWanted ({ frames := 4, cells := 0, slots := 0, locals := 91 } : Room) (va_Pc [.ref (b 0), .int x] (pcM E (wM E b th n lim F (NW t F) kp) sz)) (va_Qi (S := Unit) (fun r _ => r = nI 0) (fun uQ tQ => atM E (va_A (wM E b th n lim F (NW t F) kp) sz) ((fun _ => wM E b (nI 1) n lim F (NW t F) kp) uQ) tQ) (va_A (wM E b th n lim F (NW t F) kp) sz)) 0 0 (va_A (wM E b th n lim F (NW t F) kp) sz) := by
  refine metM (by decide) rfl (Nat.le_of_ble_eq_true rfl) ?_
  intro p e s m args below meth c ls A hAe hA hx hb hr hml hts hown hlocks hin hP hK hD hS hl
  rw [hAe]
  have hiX2 : ∀ q ∈ wsX20, q ∈ wsX2_limitWanted := by decide +kernel
  obtain ⟨hO1, hO2, hO3, hO4, hO5⟩ := id hO
  refine lv_aload_n hx hb dX2_limitWanted_0 rfl (lv_at hl 0 rfl) ?_
  refine lv_iconst (v := (nI 0)) hx hb dX2_limitWanted_1 (by decide) ?_
  refine va_put (D := E.1) (ci := 3) (v := .int (nI 0)) (ty := .int) (C := RX2) (T := TX2) (N := 10) hx hb hts hiX2 tyX2 tyX2_ok nmX2 hown hK hP hD hS 0 rfl rfl 0 (by decide) (hts (.fieldLink RX2 35 "PulseLoomModel" "thrown" "I") (List.mem_of_getElem? (i := 1) (by rfl))) (fun _ h9 => h9) rfl (by decide +kernel) rfl (by rfl) (Nat.le_of_ble_eq_true rfl) dX2_limitWanted_2 (fun H locs hP hD hS => ?_)
  have hP : va_P E.1 vwCl (wM E b (nI 0) n lim F (NW t F) kp) H := hP
  have hD : va_D A (wM E b (nI 0) n lim F (NW t F) kp) := hD
  refine lv_iload_n hx hb dX2_limitWanted_5 rfl (lv_at hl 1 rfl) ?_
  refine lv_iconst (v := (nI 1)) hx hb dX2_limitWanted_6 (by decide) ?_
  refine lv_sipush (v := (nI 200)) hx hb dX2_limitWanted_7 (by decide) ?_
  refine csS_i (rest := []) (As := [.int x, .int (nI 1), .int (nI 200)]) ⟨hx, hb, hml, hown, hts⟩ (c_X2_isIn l E _ x (nI 1) (nI 200)) (va_cwS 3 hts gX2_limitWanted_X2_isIn rfl rfl rfl (by decide +kernel) ⟨Nat.le_of_ble_eq_true rfl, Nat.le_of_ble_eq_true rfl⟩) hP hK rfl hl.1 rfl (Nat.le_of_ble_eq_true rfl) dX2_limitWanted_10 (Nat.le_of_ble_eq_true rfl) (Nat.le_of_ble_eq_true rfl) (fun r10 hr10 => ?_)
  subst hr10
  refine nq_top (show (bI (inB x (nI 1) (nI 200))) = (bI false) from congrArg bI hx9) ?_
  refine bq_if_eq (tgt := 25) hx hb dX2_limitWanted_13 (by decide) (fun h13 => ?_) (fun h13 => ?_)
  · skip
    refine lv_aload_n hx hb dX2_limitWanted_25 rfl (lv_at hl 0 rfl) ?_
    refine lv_iconst (v := (nI 1)) hx hb dX2_limitWanted_26 (by decide) ?_
    refine cmV_i (rest := []) (As := [.int (nI 1)]) ⟨hx, hb, hml, hown, hts⟩ (c_X2_no l E _ b (nI 0) n lim t F kp (nI 1)) (cwV 1 hts gX2_limitWanted_X2_no rfl rfl rfl (by decide +kernel) ⟨Nat.le_of_ble_eq_true rfl, Nat.le_of_ble_eq_true rfl⟩) (va_recv hK hP (ci := 3) (q0 := 0) rfl rfl) hP hK hD hS hA rfl hl.1 rfl (Nat.le_of_ble_eq_true rfl) dX2_limitWanted_27 ⟨Nat.le_of_ble_eq_true rfl, Nat.le_of_ble_eq_true rfl⟩ (fun r27 u27 H locs hr27 hP hD hS => ?_)
    subst hr27
    exact retM_i (E := E) (A0 := A) (v := (nI 0)) (post := fun r _ => r = nI 0) (u := ()) (W1 := fun _ => wM E b (nI 1) n lim F (NW t F) kp) hx hb hr hlocks hP hK hD hS (rfl) dX2_limitWanted_30
  · skip
    exact absurd h13 (by decide)

set_option maxHeartbeats 4000000 in
set_option maxRecDepth 100000 in
/-- X2_unfairnessIn -/
theorem c_X2_unfairnessIn (l : Launch) (E : GE) (sz : Nat) (b : Nat → Nat) (th : Int32) (n lim t : Nat) (F : LR) (kp : Nat → Int32) (hO : OkS n t lim F) (k : Nat) (hk : 1 ≤ k ∧ k ≤ 200) (hk9 : t + 200 ≤ 100000000) : Met l yX2_unfairnessIn wsX2_unfairnessIn ({ frames := 5, cells := 0, slots := 0, locals := 112 } : Room) (va_Pc [.ref (b 0), .int (nI k)] (pcM E (wM E b th n lim F (NW t F) kp) sz)) (va_Qi (S := Unit) (fun r _ => r = (nI (unfS (passF F lim t n k) n))) (fun uQ tQ => atM E (va_A (wM E b th n lim F (NW t F) kp) sz) ((fun _ => wM E b (nI 0) n lim F (NW t F) (va_cpy (NW t F) kp 0 0 17)) uQ) tQ) (va_A (wM E b th n lim F (NW t F) kp) sz)) 0 0 (va_A (wM E b th n lim F (NW t F) kp) sz) := by
  refine metM (by decide) rfl (Nat.le_of_ble_eq_true rfl) ?_
  intro p e s m args below meth c ls A hAe hA hx hb hr hml hts hown hlocks hin hP hK hD hS hl
  rw [hAe]
  have hiX2 : ∀ q ∈ wsX20, q ∈ wsX2_unfairnessIn := by decide +kernel
  obtain ⟨hO1, hO2, hO3, hO4, hO5⟩ := id hO
  refine lv_aload_n hx hb dX2_unfairnessIn_0 rfl (lv_at hl 0 rfl) ?_
  refine lv_iconst (v := (nI 0)) hx hb dX2_unfairnessIn_1 (by decide) ?_
  refine va_put (D := E.1) (ci := 3) (v := .int (nI 0)) (ty := .int) (C := RX2) (T := TX2) (N := 10) hx hb hts hiX2 tyX2 tyX2_ok nmX2 hown hK hP hD hS 0 rfl rfl 0 (by decide) (hts (.fieldLink RX2 35 "PulseLoomModel" "thrown" "I") (List.mem_of_getElem? (i := 1) (by rfl))) (fun _ h9 => h9) rfl (by decide +kernel) rfl (by rfl) (Nat.le_of_ble_eq_true rfl) dX2_unfairnessIn_2 (fun H locs hP hD hS => ?_)
  have hP : va_P E.1 vwCl (wM E b (nI 0) n lim F (NW t F) kp) H := hP
  have hD : va_D A (wM E b (nI 0) n lim F (NW t F) kp) := hD
  refine lv_iload_n hx hb dX2_unfairnessIn_5 rfl (lv_at hl 1 rfl) ?_
  refine lv_iconst (v := (nI 1)) hx hb dX2_unfairnessIn_6 (by decide) ?_
  refine lv_sipush (v := (nI 200)) hx hb dX2_unfairnessIn_7 (by decide) ?_
  refine csS_i (rest := []) (As := [.int (nI k), .int (nI 1), .int (nI 200)]) ⟨hx, hb, hml, hown, hts⟩ (c_X2_isIn l E _ (nI k) (nI 1) (nI 200)) (va_cwS 3 hts gX2_unfairnessIn_X2_isIn rfl rfl rfl (by decide +kernel) ⟨Nat.le_of_ble_eq_true rfl, Nat.le_of_ble_eq_true rfl⟩) hP hK rfl hl.1 rfl (Nat.le_of_ble_eq_true rfl) dX2_unfairnessIn_10 (Nat.le_of_ble_eq_true rfl) (Nat.le_of_ble_eq_true rfl) (fun r10 hr10 => ?_)
  subst hr10
  refine nq_top (show (bI (inB (nI k) (nI 1) (nI 200))) = (bI true) from congrArg bI (inB_t (by omega) (by omega))) ?_
  refine bq_if_eq (tgt := 24) hx hb dX2_unfairnessIn_13 (by decide) (fun h13 => ?_) (fun h13 => ?_)
  · skip
    exact absurd h13 (by decide)
  · skip
    refine lv_aload_n hx hb dX2_unfairnessIn_16 rfl (lv_at hl 0 rfl) ?_
    refine lv_iload_n hx hb dX2_unfairnessIn_17 rfl (lv_at hl 1 rfl) ?_
    refine cmV_i (rest := []) (As := [.int (nI k)]) ⟨hx, hb, hml, hown, hts⟩ (c_X2_unfairBehind l E _ b (nI 0) n lim t F kp hO k (by omega)) (cwV 1 hts gX2_unfairnessIn_X2_unfairBehind rfl rfl rfl (by decide +kernel) ⟨Nat.le_of_ble_eq_true rfl, Nat.le_of_ble_eq_true rfl⟩) (va_recv hK hP (ci := 3) (q0 := 0) rfl rfl) hP hK hD hS hA rfl hl.1 rfl (Nat.le_of_ble_eq_true rfl) dX2_unfairnessIn_18 ⟨Nat.le_of_ble_eq_true rfl, Nat.le_of_ble_eq_true rfl⟩ (fun r18 u18 H locs hr18 hP hD hS => ?_)
    subst hr18
    refine lv_goto (tgt := 29) hx hb dX2_unfairnessIn_21 (by decide) ?_
    exact retM_i (E := E) (A0 := A) (v := (nI (unfS (passF F lim t n k) n))) (post := fun r _ => r = (nI (unfS (passF F lim t n k) n))) (u := ()) (W1 := fun _ => wM E b (nI 0) n lim F (NW t F) (va_cpy (NW t F) kp 0 0 17)) hx hb hr hlocks hP hK hD hS (rfl) dX2_unfairnessIn_29

set_option maxHeartbeats 4000000 in
set_option maxRecDepth 100000 in
/-- X2_unfairnessIn, refused -/
theorem c_X2_unfairnessIn_x (l : Launch) (E : GE) (sz : Nat) (b : Nat → Nat) (th : Int32) (n lim t : Nat) (F : LR) (kp : Nat → Int32) (hO : OkS n t lim F) (x : Int32) (hx9 : inB x (nI 1) (nI 200) = false) : Met l yX2_unfairnessIn wsX2_unfairnessIn ({ frames := 5, cells := 0, slots := 0, locals := 112 } : Room) (va_Pc [.ref (b 0), .int x] (pcM E (wM E b th n lim F (NW t F) kp) sz)) (va_Qi (S := Unit) (fun r _ => r = nI 0) (fun uQ tQ => atM E (va_A (wM E b th n lim F (NW t F) kp) sz) ((fun _ => wM E b (nI 1) n lim F (NW t F) kp) uQ) tQ) (va_A (wM E b th n lim F (NW t F) kp) sz)) 0 0 (va_A (wM E b th n lim F (NW t F) kp) sz) := by
  refine metM (by decide) rfl (Nat.le_of_ble_eq_true rfl) ?_
  intro p e s m args below meth c ls A hAe hA hx hb hr hml hts hown hlocks hin hP hK hD hS hl
  rw [hAe]
  have hiX2 : ∀ q ∈ wsX20, q ∈ wsX2_unfairnessIn := by decide +kernel
  obtain ⟨hO1, hO2, hO3, hO4, hO5⟩ := id hO
  refine lv_aload_n hx hb dX2_unfairnessIn_0 rfl (lv_at hl 0 rfl) ?_
  refine lv_iconst (v := (nI 0)) hx hb dX2_unfairnessIn_1 (by decide) ?_
  refine va_put (D := E.1) (ci := 3) (v := .int (nI 0)) (ty := .int) (C := RX2) (T := TX2) (N := 10) hx hb hts hiX2 tyX2 tyX2_ok nmX2 hown hK hP hD hS 0 rfl rfl 0 (by decide) (hts (.fieldLink RX2 35 "PulseLoomModel" "thrown" "I") (List.mem_of_getElem? (i := 1) (by rfl))) (fun _ h9 => h9) rfl (by decide +kernel) rfl (by rfl) (Nat.le_of_ble_eq_true rfl) dX2_unfairnessIn_2 (fun H locs hP hD hS => ?_)
  have hP : va_P E.1 vwCl (wM E b (nI 0) n lim F (NW t F) kp) H := hP
  have hD : va_D A (wM E b (nI 0) n lim F (NW t F) kp) := hD
  refine lv_iload_n hx hb dX2_unfairnessIn_5 rfl (lv_at hl 1 rfl) ?_
  refine lv_iconst (v := (nI 1)) hx hb dX2_unfairnessIn_6 (by decide) ?_
  refine lv_sipush (v := (nI 200)) hx hb dX2_unfairnessIn_7 (by decide) ?_
  refine csS_i (rest := []) (As := [.int x, .int (nI 1), .int (nI 200)]) ⟨hx, hb, hml, hown, hts⟩ (c_X2_isIn l E _ x (nI 1) (nI 200)) (va_cwS 3 hts gX2_unfairnessIn_X2_isIn rfl rfl rfl (by decide +kernel) ⟨Nat.le_of_ble_eq_true rfl, Nat.le_of_ble_eq_true rfl⟩) hP hK rfl hl.1 rfl (Nat.le_of_ble_eq_true rfl) dX2_unfairnessIn_10 (Nat.le_of_ble_eq_true rfl) (Nat.le_of_ble_eq_true rfl) (fun r10 hr10 => ?_)
  subst hr10
  refine nq_top (show (bI (inB x (nI 1) (nI 200))) = (bI false) from congrArg bI hx9) ?_
  refine bq_if_eq (tgt := 24) hx hb dX2_unfairnessIn_13 (by decide) (fun h13 => ?_) (fun h13 => ?_)
  · skip
    refine lv_aload_n hx hb dX2_unfairnessIn_24 rfl (lv_at hl 0 rfl) ?_
    refine lv_iconst (v := (nI 1)) hx hb dX2_unfairnessIn_25 (by decide) ?_
    refine cmV_i (rest := []) (As := [.int (nI 1)]) ⟨hx, hb, hml, hown, hts⟩ (c_X2_no l E _ b (nI 0) n lim t F kp (nI 1)) (cwV 1 hts gX2_unfairnessIn_X2_no rfl rfl rfl (by decide +kernel) ⟨Nat.le_of_ble_eq_true rfl, Nat.le_of_ble_eq_true rfl⟩) (va_recv hK hP (ci := 3) (q0 := 0) rfl rfl) hP hK hD hS hA rfl hl.1 rfl (Nat.le_of_ble_eq_true rfl) dX2_unfairnessIn_26 ⟨Nat.le_of_ble_eq_true rfl, Nat.le_of_ble_eq_true rfl⟩ (fun r26 u26 H locs hr26 hP hD hS => ?_)
    subst hr26
    exact retM_i (E := E) (A0 := A) (v := (nI 0)) (post := fun r _ => r = nI 0) (u := ()) (W1 := fun _ => wM E b (nI 1) n lim F (NW t F) kp) hx hb hr hlocks hP hK hD hS (rfl) dX2_unfairnessIn_29
  · skip
    exact absurd h13 (by decide)

set_option maxHeartbeats 4000000 in
set_option maxRecDepth 100000 in
/-- X2_dueIn_ -/
theorem c_X2_dueIn_ (l : Launch) (E : GE) (sz : Nat) (b : Nat → Nat) (th : Int32) (n lim t : Nat) (F : LR) (kp : Nat → Int32) (hO : OkS n t lim F) (k : Nat) (hk : k < n) (j : Nat) (hj : 1 ≤ j ∧ j ≤ 100000) : Met l yX2_dueIn_ wsX2_dueIn_ ({ frames := 2, cells := 0, slots := 0, locals := 46 } : Room) (va_Pc [.ref (b 0), .int (nI k), .int (nI j)] (pcM E (wM E b th n lim F (NW t F) kp) sz)) (va_Qi (S := Unit) (fun r _ => r = (nI (mdS F k t j))) (fun uQ tQ => atM E (va_A (wM E b th n lim F (NW t F) kp) sz) ((fun _ => wM E b (nI 0) n lim F (NW t F) kp) uQ) tQ) (va_A (wM E b th n lim F (NW t F) kp) sz)) 0 0 (va_A (wM E b th n lim F (NW t F) kp) sz) := by
  refine metM (by decide) rfl (Nat.le_of_ble_eq_true rfl) ?_
  intro p e s m args below meth c ls A hAe hA hx hb hr hml hts hown hlocks hin hP hK hD hS hl
  rw [hAe]
  have hiX2 : ∀ q ∈ wsX20, q ∈ wsX2_dueIn_ := by decide +kernel
  obtain ⟨hO1, hO2, hO3, hO4, hO5⟩ := id hO
  have hk9 := hO4 k hk
  refine lv_aload_n hx hb dX2_dueIn__0 rfl (lv_at hl 0 rfl) ?_
  refine lv_iconst (v := (nI 0)) hx hb dX2_dueIn__1 (by decide) ?_
  refine va_put (D := E.1) (ci := 3) (v := .int (nI 0)) (ty := .int) (C := RX2) (T := TX2) (N := 10) hx hb hts hiX2 tyX2 tyX2_ok nmX2 hown hK hP hD hS 0 rfl rfl 0 (by decide) (hts (.fieldLink RX2 35 "PulseLoomModel" "thrown" "I") (List.mem_of_getElem? (i := 1) (by rfl))) (fun _ h9 => h9) rfl (by decide +kernel) rfl (by rfl) (Nat.le_of_ble_eq_true rfl) dX2_dueIn__2 (fun H locs hP hD hS => ?_)
  have hP : va_P E.1 vwCl (wM E b (nI 0) n lim F (NW t F) kp) H := hP
  have hD : va_D A (wM E b (nI 0) n lim F (NW t F) kp) := hD
  refine lv_aload_n hx hb dX2_dueIn__5 rfl (lv_at hl 0 rfl) ?_
  refine lv_iload_n hx hb dX2_dueIn__6 rfl (lv_at hl 1 rfl) ?_
  refine csV_i (rest := []) (As := [.int (nI k)]) ⟨hx, hb, hml, hown, hts⟩ (c_X2_isLamp l E _ b n lim t F t MV_self hO (Nat.le_refl _) (nI k)) (cwV 1 hts gX2_dueIn__X2_isLamp rfl rfl rfl (by decide +kernel) ⟨Nat.le_of_ble_eq_true rfl, Nat.le_of_ble_eq_true rfl⟩) (va_recv hK hP (ci := 3) (q0 := 0) rfl rfl) hP hK rfl hl.1 rfl (Nat.le_of_ble_eq_true rfl) dX2_dueIn__7 (Nat.le_of_ble_eq_true rfl) (Nat.le_of_ble_eq_true rfl) (fun r7 hr7 => ?_)
  subst hr7
  refine nq_top (show (bI (lpB n (nI k))) = (bI true) from congrArg bI (lpB_t hk hO1)) ?_
  refine bq_if_ne (tgt := 19) hx hb dX2_dueIn__10 (by decide) (fun h10 => ?_) (fun h10 => ?_)
  · skip
    refine lv_iload_n hx hb dX2_dueIn__19 rfl (lv_at hl 2 rfl) ?_
    refine lv_iconst (v := (nI 1)) hx hb dX2_dueIn__20 (by decide) ?_
    refine lv_ldc (v := nI 100000) hx hb hown (show (Jvm.Cond.constant RX2 132 (nI 100000)).before args s = true from (hts (.constant RX2 132 (100000)) (List.mem_of_getElem? (i := 2) (by rfl)))) dX2_dueIn__21 ?_
    refine csS_i (rest := []) (As := [.int (nI j), .int (nI 1), .int (nI 100000)]) ⟨hx, hb, hml, hown, hts⟩ (c_X2_isIn l E _ (nI j) (nI 1) (nI 100000)) (va_cwS 3 hts gX2_dueIn__X2_isIn rfl rfl rfl (by decide +kernel) ⟨Nat.le_of_ble_eq_true rfl, Nat.le_of_ble_eq_true rfl⟩) hP hK rfl hl.1 rfl (Nat.le_of_ble_eq_true rfl) dX2_dueIn__23 (Nat.le_of_ble_eq_true rfl) (Nat.le_of_ble_eq_true rfl) (fun r23 hr23 => ?_)
    subst hr23
    refine nq_top (show (bI (inB (nI j) (nI 1) (nI 100000))) = (bI true) from congrArg bI (inB_t (by omega) (by omega))) ?_
    refine bq_if_eq (tgt := 38) hx hb dX2_dueIn__26 (by decide) (fun h26 => ?_) (fun h26 => ?_)
    · skip
      exact absurd h26 (by decide)
    · skip
      refine lv_aload_n hx hb dX2_dueIn__29 rfl (lv_at hl 0 rfl) ?_
      refine lv_iload_n hx hb dX2_dueIn__30 rfl (lv_at hl 1 rfl) ?_
      refine lv_iload_n hx hb dX2_dueIn__31 rfl (lv_at hl 2 rfl) ?_
      refine csV_i (rest := []) (As := [.int (nI k), .int (nI j)]) ⟨hx, hb, hml, hown, hts⟩ (c_X2_manyDue l E _ b n lim t F t MV_self hO (Nat.le_refl _) k j (by omega) (by omega)) (cwV 2 hts gX2_dueIn__X2_manyDue rfl rfl rfl (by decide +kernel) ⟨Nat.le_of_ble_eq_true rfl, Nat.le_of_ble_eq_true rfl⟩) (va_recv hK hP (ci := 3) (q0 := 0) rfl rfl) hP hK rfl hl.1 rfl (Nat.le_of_ble_eq_true rfl) dX2_dueIn__32 (Nat.le_of_ble_eq_true rfl) (Nat.le_of_ble_eq_true rfl) (fun r32 hr32 => ?_)
      subst hr32
      refine lv_goto (tgt := 43) hx hb dX2_dueIn__35 (by decide) ?_
      exact retM_i (E := E) (A0 := A) (v := (nI (mdS F k t j))) (post := fun r _ => r = (nI (mdS F k t j))) (u := ()) (W1 := fun _ => wM E b (nI 0) n lim F (NW t F) kp) hx hb hr hlocks hP hK hD hS (rfl) dX2_dueIn__43
  · skip
    exact absurd h10 (by decide)

set_option maxHeartbeats 4000000 in
set_option maxRecDepth 100000 in
/-- X2_dueIn_, refused -/
theorem c_X2_dueIn__x (l : Launch) (E : GE) (sz : Nat) (b : Nat → Nat) (th : Int32) (n lim t : Nat) (F : LR) (kp : Nat → Int32) (hO : OkS n t lim F) (x : Int32) (hx9 : lpB n x = false) (z : Int32) : Met l yX2_dueIn_ wsX2_dueIn_ ({ frames := 2, cells := 0, slots := 0, locals := 46 } : Room) (va_Pc [.ref (b 0), .int x, .int z] (pcM E (wM E b th n lim F (NW t F) kp) sz)) (va_Qi (S := Unit) (fun r _ => r = nI 0) (fun uQ tQ => atM E (va_A (wM E b th n lim F (NW t F) kp) sz) ((fun _ => wM E b (nI 1) n lim F (NW t F) kp) uQ) tQ) (va_A (wM E b th n lim F (NW t F) kp) sz)) 0 0 (va_A (wM E b th n lim F (NW t F) kp) sz) := by
  refine metM (by decide) rfl (Nat.le_of_ble_eq_true rfl) ?_
  intro p e s m args below meth c ls A hAe hA hx hb hr hml hts hown hlocks hin hP hK hD hS hl
  rw [hAe]
  have hiX2 : ∀ q ∈ wsX20, q ∈ wsX2_dueIn_ := by decide +kernel
  obtain ⟨hO1, hO2, hO3, hO4, hO5⟩ := id hO
  refine lv_aload_n hx hb dX2_dueIn__0 rfl (lv_at hl 0 rfl) ?_
  refine lv_iconst (v := (nI 0)) hx hb dX2_dueIn__1 (by decide) ?_
  refine va_put (D := E.1) (ci := 3) (v := .int (nI 0)) (ty := .int) (C := RX2) (T := TX2) (N := 10) hx hb hts hiX2 tyX2 tyX2_ok nmX2 hown hK hP hD hS 0 rfl rfl 0 (by decide) (hts (.fieldLink RX2 35 "PulseLoomModel" "thrown" "I") (List.mem_of_getElem? (i := 1) (by rfl))) (fun _ h9 => h9) rfl (by decide +kernel) rfl (by rfl) (Nat.le_of_ble_eq_true rfl) dX2_dueIn__2 (fun H locs hP hD hS => ?_)
  have hP : va_P E.1 vwCl (wM E b (nI 0) n lim F (NW t F) kp) H := hP
  have hD : va_D A (wM E b (nI 0) n lim F (NW t F) kp) := hD
  refine lv_aload_n hx hb dX2_dueIn__5 rfl (lv_at hl 0 rfl) ?_
  refine lv_iload_n hx hb dX2_dueIn__6 rfl (lv_at hl 1 rfl) ?_
  refine csV_i (rest := []) (As := [.int x]) ⟨hx, hb, hml, hown, hts⟩ (c_X2_isLamp l E _ b n lim t F t MV_self hO (Nat.le_refl _) x) (cwV 1 hts gX2_dueIn__X2_isLamp rfl rfl rfl (by decide +kernel) ⟨Nat.le_of_ble_eq_true rfl, Nat.le_of_ble_eq_true rfl⟩) (va_recv hK hP (ci := 3) (q0 := 0) rfl rfl) hP hK rfl hl.1 rfl (Nat.le_of_ble_eq_true rfl) dX2_dueIn__7 (Nat.le_of_ble_eq_true rfl) (Nat.le_of_ble_eq_true rfl) (fun r7 hr7 => ?_)
  subst hr7
  refine nq_top (show (bI (lpB n x)) = (bI false) from congrArg bI hx9) ?_
  refine bq_if_ne (tgt := 19) hx hb dX2_dueIn__10 (by decide) (fun h10 => ?_) (fun h10 => ?_)
  · skip
    exact absurd h10 (by decide)
  · skip
    refine lv_aload_n hx hb dX2_dueIn__13 rfl (lv_at hl 0 rfl) ?_
    refine lv_iconst (v := (nI 1)) hx hb dX2_dueIn__14 (by decide) ?_
    refine cmV_i (rest := []) (As := [.int (nI 1)]) ⟨hx, hb, hml, hown, hts⟩ (c_X2_no l E _ b (nI 0) n lim t F kp (nI 1)) (cwV 1 hts gX2_dueIn__X2_no rfl rfl rfl (by decide +kernel) ⟨Nat.le_of_ble_eq_true rfl, Nat.le_of_ble_eq_true rfl⟩) (va_recv hK hP (ci := 3) (q0 := 0) rfl rfl) hP hK hD hS hA rfl hl.1 rfl (Nat.le_of_ble_eq_true rfl) dX2_dueIn__15 ⟨Nat.le_of_ble_eq_true rfl, Nat.le_of_ble_eq_true rfl⟩ (fun r15 u15 H locs hr15 hP hD hS => ?_)
    subst hr15
    exact retM_i (E := E) (A0 := A) (v := (nI 0)) (post := fun r _ => r = nI 0) (u := ()) (W1 := fun _ => wM E b (nI 1) n lim F (NW t F) kp) hx hb hr hlocks hP hK hD hS (rfl) dX2_dueIn__18

set_option maxHeartbeats 4000000 in
set_option maxRecDepth 100000 in
/-- X2_dueIn_, refused -/
theorem c_X2_dueIn__y (l : Launch) (E : GE) (sz : Nat) (b : Nat → Nat) (th : Int32) (n lim t : Nat) (F : LR) (kp : Nat → Int32) (hO : OkS n t lim F) (k : Nat) (hk : k < n) (z : Int32) (hz9 : inB z (nI 1) (nI 100000) = false) : Met l yX2_dueIn_ wsX2_dueIn_ ({ frames := 2, cells := 0, slots := 0, locals := 46 } : Room) (va_Pc [.ref (b 0), .int (nI k), .int z] (pcM E (wM E b th n lim F (NW t F) kp) sz)) (va_Qi (S := Unit) (fun r _ => r = nI 0) (fun uQ tQ => atM E (va_A (wM E b th n lim F (NW t F) kp) sz) ((fun _ => wM E b (nI 2) n lim F (NW t F) kp) uQ) tQ) (va_A (wM E b th n lim F (NW t F) kp) sz)) 0 0 (va_A (wM E b th n lim F (NW t F) kp) sz) := by
  refine metM (by decide) rfl (Nat.le_of_ble_eq_true rfl) ?_
  intro p e s m args below meth c ls A hAe hA hx hb hr hml hts hown hlocks hin hP hK hD hS hl
  rw [hAe]
  have hiX2 : ∀ q ∈ wsX20, q ∈ wsX2_dueIn_ := by decide +kernel
  obtain ⟨hO1, hO2, hO3, hO4, hO5⟩ := id hO
  refine lv_aload_n hx hb dX2_dueIn__0 rfl (lv_at hl 0 rfl) ?_
  refine lv_iconst (v := (nI 0)) hx hb dX2_dueIn__1 (by decide) ?_
  refine va_put (D := E.1) (ci := 3) (v := .int (nI 0)) (ty := .int) (C := RX2) (T := TX2) (N := 10) hx hb hts hiX2 tyX2 tyX2_ok nmX2 hown hK hP hD hS 0 rfl rfl 0 (by decide) (hts (.fieldLink RX2 35 "PulseLoomModel" "thrown" "I") (List.mem_of_getElem? (i := 1) (by rfl))) (fun _ h9 => h9) rfl (by decide +kernel) rfl (by rfl) (Nat.le_of_ble_eq_true rfl) dX2_dueIn__2 (fun H locs hP hD hS => ?_)
  have hP : va_P E.1 vwCl (wM E b (nI 0) n lim F (NW t F) kp) H := hP
  have hD : va_D A (wM E b (nI 0) n lim F (NW t F) kp) := hD
  refine lv_aload_n hx hb dX2_dueIn__5 rfl (lv_at hl 0 rfl) ?_
  refine lv_iload_n hx hb dX2_dueIn__6 rfl (lv_at hl 1 rfl) ?_
  refine csV_i (rest := []) (As := [.int (nI k)]) ⟨hx, hb, hml, hown, hts⟩ (c_X2_isLamp l E _ b n lim t F t MV_self hO (Nat.le_refl _) (nI k)) (cwV 1 hts gX2_dueIn__X2_isLamp rfl rfl rfl (by decide +kernel) ⟨Nat.le_of_ble_eq_true rfl, Nat.le_of_ble_eq_true rfl⟩) (va_recv hK hP (ci := 3) (q0 := 0) rfl rfl) hP hK rfl hl.1 rfl (Nat.le_of_ble_eq_true rfl) dX2_dueIn__7 (Nat.le_of_ble_eq_true rfl) (Nat.le_of_ble_eq_true rfl) (fun r7 hr7 => ?_)
  subst hr7
  refine nq_top (show (bI (lpB n (nI k))) = (bI true) from congrArg bI (lpB_t hk hO1)) ?_
  refine bq_if_ne (tgt := 19) hx hb dX2_dueIn__10 (by decide) (fun h10 => ?_) (fun h10 => ?_)
  · skip
    refine lv_iload_n hx hb dX2_dueIn__19 rfl (lv_at hl 2 rfl) ?_
    refine lv_iconst (v := (nI 1)) hx hb dX2_dueIn__20 (by decide) ?_
    refine lv_ldc (v := nI 100000) hx hb hown (show (Jvm.Cond.constant RX2 132 (nI 100000)).before args s = true from (hts (.constant RX2 132 (100000)) (List.mem_of_getElem? (i := 2) (by rfl)))) dX2_dueIn__21 ?_
    refine csS_i (rest := []) (As := [.int z, .int (nI 1), .int (nI 100000)]) ⟨hx, hb, hml, hown, hts⟩ (c_X2_isIn l E _ z (nI 1) (nI 100000)) (va_cwS 3 hts gX2_dueIn__X2_isIn rfl rfl rfl (by decide +kernel) ⟨Nat.le_of_ble_eq_true rfl, Nat.le_of_ble_eq_true rfl⟩) hP hK rfl hl.1 rfl (Nat.le_of_ble_eq_true rfl) dX2_dueIn__23 (Nat.le_of_ble_eq_true rfl) (Nat.le_of_ble_eq_true rfl) (fun r23 hr23 => ?_)
    subst hr23
    refine nq_top (show (bI (inB z (nI 1) (nI 100000))) = (bI false) from congrArg bI hz9) ?_
    refine bq_if_eq (tgt := 38) hx hb dX2_dueIn__26 (by decide) (fun h26 => ?_) (fun h26 => ?_)
    · skip
      refine lv_aload_n hx hb dX2_dueIn__38 rfl (lv_at hl 0 rfl) ?_
      refine lv_iconst (v := (nI 2)) hx hb dX2_dueIn__39 (by decide) ?_
      refine cmV_i (rest := []) (As := [.int (nI 2)]) ⟨hx, hb, hml, hown, hts⟩ (c_X2_no l E _ b (nI 0) n lim t F kp (nI 2)) (cwV 1 hts gX2_dueIn__X2_no rfl rfl rfl (by decide +kernel) ⟨Nat.le_of_ble_eq_true rfl, Nat.le_of_ble_eq_true rfl⟩) (va_recv hK hP (ci := 3) (q0 := 0) rfl rfl) hP hK hD hS hA rfl hl.1 rfl (Nat.le_of_ble_eq_true rfl) dX2_dueIn__40 ⟨Nat.le_of_ble_eq_true rfl, Nat.le_of_ble_eq_true rfl⟩ (fun r40 u40 H locs hr40 hP hD hS => ?_)
      subst hr40
      exact retM_i (E := E) (A0 := A) (v := (nI 0)) (post := fun r _ => r = nI 0) (u := ()) (W1 := fun _ => wM E b (nI 2) n lim F (NW t F) kp) hx hb hr hlocks hP hK hD hS (rfl) dX2_dueIn__43
    · skip
      exact absurd h26 (by decide)
  · skip
    exact absurd h10 (by decide)

set_option maxHeartbeats 4000000 in
set_option maxRecDepth 100000 in
/-- X2_setShift -/
theorem c_X2_setShift (l : Launch) (E : GE) (sz : Nat) (b : Nat → Nat) (th : Int32) (n lim t : Nat) (F : LR) (kp : Nat → Int32) (hO : OkS n t lim F) (k : Nat) (hk : k < n) (v : Nat) (hv : 0 ≤ v ∧ v < F k 0) : Met l yX2_setShift wsX2_setShift ({ frames := 2, cells := 0, slots := 0, locals := 43 } : Room) (va_Pc [.ref (b 0), .int (nI k), .int (nI v)] (pcM E (wM E b th n lim F (NW t F) kp) sz)) (va_Qi (S := Unit) (fun r _ => r = (nI (F k 3))) (fun uQ tQ => atM E (va_A (wM E b th n lim F (NW t F) kp) sz) ((fun _ => wM E b (nI 0) n lim (up2 F k 3 v) (NW t (up2 F k 3 v)) kp) uQ) tQ) (va_A (wM E b th n lim F (NW t F) kp) sz)) 0 0 (va_A (wM E b th n lim F (NW t F) kp) sz) := by
  refine metM (by decide) rfl (Nat.le_of_ble_eq_true rfl) ?_
  intro p e s m args below meth c ls A hAe hA hx hb hr hml hts hown hlocks hin hP hK hD hS hl
  rw [hAe]
  have hiX2 : ∀ q ∈ wsX20, q ∈ wsX2_setShift := by decide +kernel
  obtain ⟨hO1, hO2, hO3, hO4, hO5⟩ := id hO
  have hk9 := hO4 k hk
  refine lv_aload_n hx hb dX2_setShift_0 rfl (lv_at hl 0 rfl) ?_
  refine lv_iconst (v := (nI 0)) hx hb dX2_setShift_1 (by decide) ?_
  refine va_put (D := E.1) (ci := 3) (v := .int (nI 0)) (ty := .int) (C := RX2) (T := TX2) (N := 10) hx hb hts hiX2 tyX2 tyX2_ok nmX2 hown hK hP hD hS 0 rfl rfl 0 (by decide) (hts (.fieldLink RX2 35 "PulseLoomModel" "thrown" "I") (List.mem_of_getElem? (i := 1) (by rfl))) (fun _ h9 => h9) rfl (by decide +kernel) rfl (by rfl) (Nat.le_of_ble_eq_true rfl) dX2_setShift_2 (fun H locs hP hD hS => ?_)
  have hP : va_P E.1 vwCl (wM E b (nI 0) n lim F (NW t F) kp) H := hP
  have hD : va_D A (wM E b (nI 0) n lim F (NW t F) kp) := hD
  refine lv_aload_n hx hb dX2_setShift_5 rfl (lv_at hl 0 rfl) ?_
  refine lv_iload_n hx hb dX2_setShift_6 rfl (lv_at hl 1 rfl) ?_
  refine csV_i (rest := []) (As := [.int (nI k)]) ⟨hx, hb, hml, hown, hts⟩ (c_X2_isLamp l E _ b n lim t F t MV_self hO (Nat.le_refl _) (nI k)) (cwV 1 hts gX2_setShift_X2_isLamp rfl rfl rfl (by decide +kernel) ⟨Nat.le_of_ble_eq_true rfl, Nat.le_of_ble_eq_true rfl⟩) (va_recv hK hP (ci := 3) (q0 := 0) rfl rfl) hP hK rfl hl.1 rfl (Nat.le_of_ble_eq_true rfl) dX2_setShift_7 (Nat.le_of_ble_eq_true rfl) (Nat.le_of_ble_eq_true rfl) (fun r7 hr7 => ?_)
  subst hr7
  refine nq_top (show (bI (lpB n (nI k))) = (bI true) from congrArg bI (lpB_t hk hO1)) ?_
  refine bq_if_ne (tgt := 19) hx hb dX2_setShift_10 (by decide) (fun h10 => ?_) (fun h10 => ?_)
  · skip
    refine lv_iload_n hx hb dX2_setShift_19 rfl (lv_at hl 2 rfl) ?_
    refine lv_iconst (v := (nI 0)) hx hb dX2_setShift_20 (by decide) ?_
    refine lv_aload_n hx hb dX2_setShift_21 rfl (lv_at hl 0 rfl) ?_
    refine va_get (D := E.1) (ci := 3) (v := .ref (b 2)) (C := RX2) (T := TX2) (N := 10) hx hb hts hiX2 hown hK hP 0 rfl rfl 4 (by decide) (hts (.fieldLink RX2 17 "PulseLoomModel" "period" "[I") (List.mem_of_getElem? (i := 2) (by rfl))) (fun _ h9 => h9) rfl dX2_setShift_22 ?_
    refine lv_iload_n hx hb dX2_setShift_25 rfl (lv_at hl 1 rfl) ?_
    refine va_iald hx hb hK hP 2 0 rfl rfl (by exact vp_in_nI (by omega) (by omega)) dX2_setShift_26 ?_
    refine nq_top (show (nI (F (((nI k)).toNatClampNeg) 0)) = (nI (F k 0)) from by rw [nI_clamp (by omega)]) ?_
    refine lv_iconst (v := (nI 1)) hx hb dX2_setShift_27 (by decide) ?_
    refine nq_sub hx hb dX2_setShift_28 (by omega) ?_
    refine csS_i (rest := []) (As := [.int (nI v), .int (nI 0), .int (nI ((F k 0) - 1))]) ⟨hx, hb, hml, hown, hts⟩ (c_X2_isIn l E _ (nI v) (nI 0) (nI ((F k 0) - 1))) (va_cwS 3 hts gX2_setShift_X2_isIn rfl rfl rfl (by decide +kernel) ⟨Nat.le_of_ble_eq_true rfl, Nat.le_of_ble_eq_true rfl⟩) hP hK rfl hl.1 rfl (Nat.le_of_ble_eq_true rfl) dX2_setShift_29 (Nat.le_of_ble_eq_true rfl) (Nat.le_of_ble_eq_true rfl) (fun r29 hr29 => ?_)
    subst hr29
    refine nq_top (show (bI (inB (nI v) (nI 0) (nI ((F k 0) - 1)))) = (bI true) from congrArg bI (inB_t (by omega) (by omega))) ?_
    refine bq_if_ne (tgt := 41) hx hb dX2_setShift_32 (by decide) (fun h32 => ?_) (fun h32 => ?_)
    · skip
      refine lv_aload_n hx hb dX2_setShift_41 rfl (lv_at hl 0 rfl) ?_
      refine va_get (D := E.1) (ci := 3) (v := .ref (b 3)) (C := RX2) (T := TX2) (N := 10) hx hb hts hiX2 hown hK hP 0 rfl rfl 5 (by decide) (hts (.fieldLink RX2 20 "PulseLoomModel" "shift" "[I") (List.mem_of_getElem? (i := 3) (by rfl))) (fun _ h9 => h9) rfl dX2_setShift_42 ?_
      refine lv_iload_n hx hb dX2_setShift_45 rfl (lv_at hl 1 rfl) ?_
      refine va_iald hx hb hK hP 3 0 rfl rfl (by exact vp_in_nI (by omega) (by omega)) dX2_setShift_46 ?_
      refine nq_top (show (nI (F (((nI k)).toNatClampNeg) 3)) = (nI (F k 3)) from by rw [nI_clamp (by omega)]) ?_
      refine lv_istore_n (lv' := [(3, .int (nI (F k 3))), (0, .ref (b 0)), (1, .int (nI k)), (2, .int (nI v))]) hx hb dX2_setShift_47 rfl hl (by decide) rfl (fun ls hl => ?_)
      refine lv_aload_n hx hb dX2_setShift_48 rfl (lv_at hl 1 rfl) ?_
      refine va_get (D := E.1) (ci := 3) (v := .ref (b 3)) (C := RX2) (T := TX2) (N := 10) hx hb hts hiX2 hown hK hP 0 rfl rfl 5 (by decide) (hts (.fieldLink RX2 20 "PulseLoomModel" "shift" "[I") (List.mem_of_getElem? (i := 3) (by rfl))) (fun _ h9 => h9) rfl dX2_setShift_49 ?_
      refine lv_iload_n hx hb dX2_setShift_52 rfl (lv_at hl 2 rfl) ?_
      refine lv_iload_n hx hb dX2_setShift_53 rfl (lv_at hl 3 rfl) ?_
      refine va_iast hx hb hK hP hD hS 3 0 rfl rfl (by exact vp_in_nI (by omega) (by omega)) dX2_setShift_54 (fun H locs hP hD hS => ?_)
      rw [wM_s3 (by omega)] at hP hD
      refine lv_iload_n hx hb dX2_setShift_55 rfl (lv_at hl 0 rfl) ?_
      exact retM_i (E := E) (A0 := A) (v := (nI (F k 3))) (post := fun r _ => r = (nI (F k 3))) (u := ()) (W1 := fun _ => wM E b (nI 0) n lim (up2 F k 3 v) (NW t (up2 F k 3 v)) kp) hx hb hr hlocks hP hK hD hS (rfl) dX2_setShift_56
    · skip
      exact absurd h32 (by decide)
  · skip
    exact absurd h10 (by decide)

set_option maxHeartbeats 4000000 in
set_option maxRecDepth 100000 in
/-- X2_setShift, refused -/
theorem c_X2_setShift_x (l : Launch) (E : GE) (sz : Nat) (b : Nat → Nat) (th : Int32) (n lim t : Nat) (F : LR) (kp : Nat → Int32) (hO : OkS n t lim F) (x : Int32) (hx9 : lpB n x = false) (z : Int32) : Met l yX2_setShift wsX2_setShift ({ frames := 2, cells := 0, slots := 0, locals := 43 } : Room) (va_Pc [.ref (b 0), .int x, .int z] (pcM E (wM E b th n lim F (NW t F) kp) sz)) (va_Qi (S := Unit) (fun r _ => r = nI 0) (fun uQ tQ => atM E (va_A (wM E b th n lim F (NW t F) kp) sz) ((fun _ => wM E b (nI 1) n lim F (NW t F) kp) uQ) tQ) (va_A (wM E b th n lim F (NW t F) kp) sz)) 0 0 (va_A (wM E b th n lim F (NW t F) kp) sz) := by
  refine metM (by decide) rfl (Nat.le_of_ble_eq_true rfl) ?_
  intro p e s m args below meth c ls A hAe hA hx hb hr hml hts hown hlocks hin hP hK hD hS hl
  rw [hAe]
  have hiX2 : ∀ q ∈ wsX20, q ∈ wsX2_setShift := by decide +kernel
  obtain ⟨hO1, hO2, hO3, hO4, hO5⟩ := id hO
  refine lv_aload_n hx hb dX2_setShift_0 rfl (lv_at hl 0 rfl) ?_
  refine lv_iconst (v := (nI 0)) hx hb dX2_setShift_1 (by decide) ?_
  refine va_put (D := E.1) (ci := 3) (v := .int (nI 0)) (ty := .int) (C := RX2) (T := TX2) (N := 10) hx hb hts hiX2 tyX2 tyX2_ok nmX2 hown hK hP hD hS 0 rfl rfl 0 (by decide) (hts (.fieldLink RX2 35 "PulseLoomModel" "thrown" "I") (List.mem_of_getElem? (i := 1) (by rfl))) (fun _ h9 => h9) rfl (by decide +kernel) rfl (by rfl) (Nat.le_of_ble_eq_true rfl) dX2_setShift_2 (fun H locs hP hD hS => ?_)
  have hP : va_P E.1 vwCl (wM E b (nI 0) n lim F (NW t F) kp) H := hP
  have hD : va_D A (wM E b (nI 0) n lim F (NW t F) kp) := hD
  refine lv_aload_n hx hb dX2_setShift_5 rfl (lv_at hl 0 rfl) ?_
  refine lv_iload_n hx hb dX2_setShift_6 rfl (lv_at hl 1 rfl) ?_
  refine csV_i (rest := []) (As := [.int x]) ⟨hx, hb, hml, hown, hts⟩ (c_X2_isLamp l E _ b n lim t F t MV_self hO (Nat.le_refl _) x) (cwV 1 hts gX2_setShift_X2_isLamp rfl rfl rfl (by decide +kernel) ⟨Nat.le_of_ble_eq_true rfl, Nat.le_of_ble_eq_true rfl⟩) (va_recv hK hP (ci := 3) (q0 := 0) rfl rfl) hP hK rfl hl.1 rfl (Nat.le_of_ble_eq_true rfl) dX2_setShift_7 (Nat.le_of_ble_eq_true rfl) (Nat.le_of_ble_eq_true rfl) (fun r7 hr7 => ?_)
  subst hr7
  refine nq_top (show (bI (lpB n x)) = (bI false) from congrArg bI hx9) ?_
  refine bq_if_ne (tgt := 19) hx hb dX2_setShift_10 (by decide) (fun h10 => ?_) (fun h10 => ?_)
  · skip
    exact absurd h10 (by decide)
  · skip
    refine lv_aload_n hx hb dX2_setShift_13 rfl (lv_at hl 0 rfl) ?_
    refine lv_iconst (v := (nI 1)) hx hb dX2_setShift_14 (by decide) ?_
    refine cmV_i (rest := []) (As := [.int (nI 1)]) ⟨hx, hb, hml, hown, hts⟩ (c_X2_no l E _ b (nI 0) n lim t F kp (nI 1)) (cwV 1 hts gX2_setShift_X2_no rfl rfl rfl (by decide +kernel) ⟨Nat.le_of_ble_eq_true rfl, Nat.le_of_ble_eq_true rfl⟩) (va_recv hK hP (ci := 3) (q0 := 0) rfl rfl) hP hK hD hS hA rfl hl.1 rfl (Nat.le_of_ble_eq_true rfl) dX2_setShift_15 ⟨Nat.le_of_ble_eq_true rfl, Nat.le_of_ble_eq_true rfl⟩ (fun r15 u15 H locs hr15 hP hD hS => ?_)
    subst hr15
    exact retM_i (E := E) (A0 := A) (v := (nI 0)) (post := fun r _ => r = nI 0) (u := ()) (W1 := fun _ => wM E b (nI 1) n lim F (NW t F) kp) hx hb hr hlocks hP hK hD hS (rfl) dX2_setShift_18

set_option maxHeartbeats 4000000 in
set_option maxRecDepth 100000 in
/-- X2_setShift, refused -/
theorem c_X2_setShift_y (l : Launch) (E : GE) (sz : Nat) (b : Nat → Nat) (th : Int32) (n lim t : Nat) (F : LR) (kp : Nat → Int32) (hO : OkS n t lim F) (k : Nat) (hk : k < n) (z : Int32) (hz9 : inB z (nI 0) (nI (F k 0 - 1)) = false) : Met l yX2_setShift wsX2_setShift ({ frames := 2, cells := 0, slots := 0, locals := 43 } : Room) (va_Pc [.ref (b 0), .int (nI k), .int z] (pcM E (wM E b th n lim F (NW t F) kp) sz)) (va_Qi (S := Unit) (fun r _ => r = nI 0) (fun uQ tQ => atM E (va_A (wM E b th n lim F (NW t F) kp) sz) ((fun _ => wM E b (nI 2) n lim F (NW t F) kp) uQ) tQ) (va_A (wM E b th n lim F (NW t F) kp) sz)) 0 0 (va_A (wM E b th n lim F (NW t F) kp) sz) := by
  refine metM (by decide) rfl (Nat.le_of_ble_eq_true rfl) ?_
  intro p e s m args below meth c ls A hAe hA hx hb hr hml hts hown hlocks hin hP hK hD hS hl
  rw [hAe]
  have hiX2 : ∀ q ∈ wsX20, q ∈ wsX2_setShift := by decide +kernel
  obtain ⟨hO1, hO2, hO3, hO4, hO5⟩ := id hO
  refine lv_aload_n hx hb dX2_setShift_0 rfl (lv_at hl 0 rfl) ?_
  refine lv_iconst (v := (nI 0)) hx hb dX2_setShift_1 (by decide) ?_
  refine va_put (D := E.1) (ci := 3) (v := .int (nI 0)) (ty := .int) (C := RX2) (T := TX2) (N := 10) hx hb hts hiX2 tyX2 tyX2_ok nmX2 hown hK hP hD hS 0 rfl rfl 0 (by decide) (hts (.fieldLink RX2 35 "PulseLoomModel" "thrown" "I") (List.mem_of_getElem? (i := 1) (by rfl))) (fun _ h9 => h9) rfl (by decide +kernel) rfl (by rfl) (Nat.le_of_ble_eq_true rfl) dX2_setShift_2 (fun H locs hP hD hS => ?_)
  have hP : va_P E.1 vwCl (wM E b (nI 0) n lim F (NW t F) kp) H := hP
  have hD : va_D A (wM E b (nI 0) n lim F (NW t F) kp) := hD
  refine lv_aload_n hx hb dX2_setShift_5 rfl (lv_at hl 0 rfl) ?_
  refine lv_iload_n hx hb dX2_setShift_6 rfl (lv_at hl 1 rfl) ?_
  refine csV_i (rest := []) (As := [.int (nI k)]) ⟨hx, hb, hml, hown, hts⟩ (c_X2_isLamp l E _ b n lim t F t MV_self hO (Nat.le_refl _) (nI k)) (cwV 1 hts gX2_setShift_X2_isLamp rfl rfl rfl (by decide +kernel) ⟨Nat.le_of_ble_eq_true rfl, Nat.le_of_ble_eq_true rfl⟩) (va_recv hK hP (ci := 3) (q0 := 0) rfl rfl) hP hK rfl hl.1 rfl (Nat.le_of_ble_eq_true rfl) dX2_setShift_7 (Nat.le_of_ble_eq_true rfl) (Nat.le_of_ble_eq_true rfl) (fun r7 hr7 => ?_)
  subst hr7
  refine nq_top (show (bI (lpB n (nI k))) = (bI true) from congrArg bI (lpB_t hk hO1)) ?_
  refine bq_if_ne (tgt := 19) hx hb dX2_setShift_10 (by decide) (fun h10 => ?_) (fun h10 => ?_)
  · skip
    refine lv_iload_n hx hb dX2_setShift_19 rfl (lv_at hl 2 rfl) ?_
    refine lv_iconst (v := (nI 0)) hx hb dX2_setShift_20 (by decide) ?_
    refine lv_aload_n hx hb dX2_setShift_21 rfl (lv_at hl 0 rfl) ?_
    refine va_get (D := E.1) (ci := 3) (v := .ref (b 2)) (C := RX2) (T := TX2) (N := 10) hx hb hts hiX2 hown hK hP 0 rfl rfl 4 (by decide) (hts (.fieldLink RX2 17 "PulseLoomModel" "period" "[I") (List.mem_of_getElem? (i := 2) (by rfl))) (fun _ h9 => h9) rfl dX2_setShift_22 ?_
    refine lv_iload_n hx hb dX2_setShift_25 rfl (lv_at hl 1 rfl) ?_
    have hk9 := hO4 k hk
    refine va_iald hx hb hK hP 2 0 rfl rfl (by exact vp_in_nI (by omega) (by omega)) dX2_setShift_26 ?_
    refine nq_top (show (nI (F (((nI k)).toNatClampNeg) 0)) = (nI (F k 0)) from by rw [nI_clamp (by omega)]) ?_
    refine lv_iconst (v := (nI 1)) hx hb dX2_setShift_27 (by decide) ?_
    refine nq_sub hx hb dX2_setShift_28 (by omega) ?_
    refine csS_i (rest := []) (As := [.int z, .int (nI 0), .int (nI ((F k 0) - 1))]) ⟨hx, hb, hml, hown, hts⟩ (c_X2_isIn l E _ z (nI 0) (nI ((F k 0) - 1))) (va_cwS 3 hts gX2_setShift_X2_isIn rfl rfl rfl (by decide +kernel) ⟨Nat.le_of_ble_eq_true rfl, Nat.le_of_ble_eq_true rfl⟩) hP hK rfl hl.1 rfl (Nat.le_of_ble_eq_true rfl) dX2_setShift_29 (Nat.le_of_ble_eq_true rfl) (Nat.le_of_ble_eq_true rfl) (fun r29 hr29 => ?_)
    subst hr29
    refine nq_top (show (bI (inB z (nI 0) (nI ((F k 0) - 1)))) = (bI false) from congrArg bI hz9) ?_
    refine bq_if_ne (tgt := 41) hx hb dX2_setShift_32 (by decide) (fun h32 => ?_) (fun h32 => ?_)
    · skip
      exact absurd h32 (by decide)
    · skip
      refine lv_aload_n hx hb dX2_setShift_35 rfl (lv_at hl 0 rfl) ?_
      refine lv_iconst (v := (nI 2)) hx hb dX2_setShift_36 (by decide) ?_
      refine cmV_i (rest := []) (As := [.int (nI 2)]) ⟨hx, hb, hml, hown, hts⟩ (c_X2_no l E _ b (nI 0) n lim t F kp (nI 2)) (cwV 1 hts gX2_setShift_X2_no rfl rfl rfl (by decide +kernel) ⟨Nat.le_of_ble_eq_true rfl, Nat.le_of_ble_eq_true rfl⟩) (va_recv hK hP (ci := 3) (q0 := 0) rfl rfl) hP hK hD hS hA rfl hl.1 rfl (Nat.le_of_ble_eq_true rfl) dX2_setShift_37 ⟨Nat.le_of_ble_eq_true rfl, Nat.le_of_ble_eq_true rfl⟩ (fun r37 u37 H locs hr37 hP hD hS => ?_)
      subst hr37
      exact retM_i (E := E) (A0 := A) (v := (nI 0)) (post := fun r _ => r = nI 0) (u := ()) (W1 := fun _ => wM E b (nI 2) n lim F (NW t F) kp) hx hb hr hlocks hP hK hD hS (rfl) dX2_setShift_40
  · skip
    exact absurd h10 (by decide)

set_option maxHeartbeats 4000000 in
set_option maxRecDepth 100000 in
/-- X2_setLength -/
theorem c_X2_setLength (l : Launch) (E : GE) (sz : Nat) (b : Nat → Nat) (th : Int32) (n lim t : Nat) (F : LR) (kp : Nat → Int32) (hO : OkS n t lim F) (k : Nat) (hk : k < n) (v : Nat) (hv : 1 ≤ v ∧ v < F k 0) : Met l yX2_setLength wsX2_setLength ({ frames := 2, cells := 0, slots := 0, locals := 43 } : Room) (va_Pc [.ref (b 0), .int (nI k), .int (nI v)] (pcM E (wM E b th n lim F (NW t F) kp) sz)) (va_Qi (S := Unit) (fun r _ => r = (nI (F k 4))) (fun uQ tQ => atM E (va_A (wM E b th n lim F (NW t F) kp) sz) ((fun _ => wM E b (nI 0) n lim (up2 F k 4 v) (NW t (up2 F k 4 v)) kp) uQ) tQ) (va_A (wM E b th n lim F (NW t F) kp) sz)) 0 0 (va_A (wM E b th n lim F (NW t F) kp) sz) := by
  refine metM (by decide) rfl (Nat.le_of_ble_eq_true rfl) ?_
  intro p e s m args below meth c ls A hAe hA hx hb hr hml hts hown hlocks hin hP hK hD hS hl
  rw [hAe]
  have hiX2 : ∀ q ∈ wsX20, q ∈ wsX2_setLength := by decide +kernel
  obtain ⟨hO1, hO2, hO3, hO4, hO5⟩ := id hO
  have hk9 := hO4 k hk
  refine lv_aload_n hx hb dX2_setLength_0 rfl (lv_at hl 0 rfl) ?_
  refine lv_iconst (v := (nI 0)) hx hb dX2_setLength_1 (by decide) ?_
  refine va_put (D := E.1) (ci := 3) (v := .int (nI 0)) (ty := .int) (C := RX2) (T := TX2) (N := 10) hx hb hts hiX2 tyX2 tyX2_ok nmX2 hown hK hP hD hS 0 rfl rfl 0 (by decide) (hts (.fieldLink RX2 35 "PulseLoomModel" "thrown" "I") (List.mem_of_getElem? (i := 1) (by rfl))) (fun _ h9 => h9) rfl (by decide +kernel) rfl (by rfl) (Nat.le_of_ble_eq_true rfl) dX2_setLength_2 (fun H locs hP hD hS => ?_)
  have hP : va_P E.1 vwCl (wM E b (nI 0) n lim F (NW t F) kp) H := hP
  have hD : va_D A (wM E b (nI 0) n lim F (NW t F) kp) := hD
  refine lv_aload_n hx hb dX2_setLength_5 rfl (lv_at hl 0 rfl) ?_
  refine lv_iload_n hx hb dX2_setLength_6 rfl (lv_at hl 1 rfl) ?_
  refine csV_i (rest := []) (As := [.int (nI k)]) ⟨hx, hb, hml, hown, hts⟩ (c_X2_isLamp l E _ b n lim t F t MV_self hO (Nat.le_refl _) (nI k)) (cwV 1 hts gX2_setLength_X2_isLamp rfl rfl rfl (by decide +kernel) ⟨Nat.le_of_ble_eq_true rfl, Nat.le_of_ble_eq_true rfl⟩) (va_recv hK hP (ci := 3) (q0 := 0) rfl rfl) hP hK rfl hl.1 rfl (Nat.le_of_ble_eq_true rfl) dX2_setLength_7 (Nat.le_of_ble_eq_true rfl) (Nat.le_of_ble_eq_true rfl) (fun r7 hr7 => ?_)
  subst hr7
  refine nq_top (show (bI (lpB n (nI k))) = (bI true) from congrArg bI (lpB_t hk hO1)) ?_
  refine bq_if_ne (tgt := 19) hx hb dX2_setLength_10 (by decide) (fun h10 => ?_) (fun h10 => ?_)
  · skip
    refine lv_iload_n hx hb dX2_setLength_19 rfl (lv_at hl 2 rfl) ?_
    refine lv_iconst (v := (nI 1)) hx hb dX2_setLength_20 (by decide) ?_
    refine lv_aload_n hx hb dX2_setLength_21 rfl (lv_at hl 0 rfl) ?_
    refine va_get (D := E.1) (ci := 3) (v := .ref (b 2)) (C := RX2) (T := TX2) (N := 10) hx hb hts hiX2 hown hK hP 0 rfl rfl 4 (by decide) (hts (.fieldLink RX2 17 "PulseLoomModel" "period" "[I") (List.mem_of_getElem? (i := 2) (by rfl))) (fun _ h9 => h9) rfl dX2_setLength_22 ?_
    refine lv_iload_n hx hb dX2_setLength_25 rfl (lv_at hl 1 rfl) ?_
    refine va_iald hx hb hK hP 2 0 rfl rfl (by exact vp_in_nI (by omega) (by omega)) dX2_setLength_26 ?_
    refine nq_top (show (nI (F (((nI k)).toNatClampNeg) 0)) = (nI (F k 0)) from by rw [nI_clamp (by omega)]) ?_
    refine lv_iconst (v := (nI 1)) hx hb dX2_setLength_27 (by decide) ?_
    refine nq_sub hx hb dX2_setLength_28 (by omega) ?_
    refine csS_i (rest := []) (As := [.int (nI v), .int (nI 1), .int (nI ((F k 0) - 1))]) ⟨hx, hb, hml, hown, hts⟩ (c_X2_isIn l E _ (nI v) (nI 1) (nI ((F k 0) - 1))) (va_cwS 3 hts gX2_setLength_X2_isIn rfl rfl rfl (by decide +kernel) ⟨Nat.le_of_ble_eq_true rfl, Nat.le_of_ble_eq_true rfl⟩) hP hK rfl hl.1 rfl (Nat.le_of_ble_eq_true rfl) dX2_setLength_29 (Nat.le_of_ble_eq_true rfl) (Nat.le_of_ble_eq_true rfl) (fun r29 hr29 => ?_)
    subst hr29
    refine nq_top (show (bI (inB (nI v) (nI 1) (nI ((F k 0) - 1)))) = (bI true) from congrArg bI (inB_t (by omega) (by omega))) ?_
    refine bq_if_ne (tgt := 41) hx hb dX2_setLength_32 (by decide) (fun h32 => ?_) (fun h32 => ?_)
    · skip
      refine lv_aload_n hx hb dX2_setLength_41 rfl (lv_at hl 0 rfl) ?_
      refine va_get (D := E.1) (ci := 3) (v := .ref (b 4)) (C := RX2) (T := TX2) (N := 10) hx hb hts hiX2 hown hK hP 0 rfl rfl 6 (by decide) (hts (.fieldLink RX2 23 "PulseLoomModel" "length" "[I") (List.mem_of_getElem? (i := 3) (by rfl))) (fun _ h9 => h9) rfl dX2_setLength_42 ?_
      refine lv_iload_n hx hb dX2_setLength_45 rfl (lv_at hl 1 rfl) ?_
      refine va_iald hx hb hK hP 4 0 rfl rfl (by exact vp_in_nI (by omega) (by omega)) dX2_setLength_46 ?_
      refine nq_top (show (nI (F (((nI k)).toNatClampNeg) 4)) = (nI (F k 4)) from by rw [nI_clamp (by omega)]) ?_
      refine lv_istore_n (lv' := [(3, .int (nI (F k 4))), (0, .ref (b 0)), (1, .int (nI k)), (2, .int (nI v))]) hx hb dX2_setLength_47 rfl hl (by decide) rfl (fun ls hl => ?_)
      refine lv_aload_n hx hb dX2_setLength_48 rfl (lv_at hl 1 rfl) ?_
      refine va_get (D := E.1) (ci := 3) (v := .ref (b 4)) (C := RX2) (T := TX2) (N := 10) hx hb hts hiX2 hown hK hP 0 rfl rfl 6 (by decide) (hts (.fieldLink RX2 23 "PulseLoomModel" "length" "[I") (List.mem_of_getElem? (i := 3) (by rfl))) (fun _ h9 => h9) rfl dX2_setLength_49 ?_
      refine lv_iload_n hx hb dX2_setLength_52 rfl (lv_at hl 2 rfl) ?_
      refine lv_iload_n hx hb dX2_setLength_53 rfl (lv_at hl 3 rfl) ?_
      refine va_iast hx hb hK hP hD hS 4 0 rfl rfl (by exact vp_in_nI (by omega) (by omega)) dX2_setLength_54 (fun H locs hP hD hS => ?_)
      rw [wM_s4 (by omega)] at hP hD
      refine lv_iload_n hx hb dX2_setLength_55 rfl (lv_at hl 0 rfl) ?_
      exact retM_i (E := E) (A0 := A) (v := (nI (F k 4))) (post := fun r _ => r = (nI (F k 4))) (u := ()) (W1 := fun _ => wM E b (nI 0) n lim (up2 F k 4 v) (NW t (up2 F k 4 v)) kp) hx hb hr hlocks hP hK hD hS (rfl) dX2_setLength_56
    · skip
      exact absurd h32 (by decide)
  · skip
    exact absurd h10 (by decide)

set_option maxHeartbeats 4000000 in
set_option maxRecDepth 100000 in
/-- X2_setLength, refused -/
theorem c_X2_setLength_x (l : Launch) (E : GE) (sz : Nat) (b : Nat → Nat) (th : Int32) (n lim t : Nat) (F : LR) (kp : Nat → Int32) (hO : OkS n t lim F) (x : Int32) (hx9 : lpB n x = false) (z : Int32) : Met l yX2_setLength wsX2_setLength ({ frames := 2, cells := 0, slots := 0, locals := 43 } : Room) (va_Pc [.ref (b 0), .int x, .int z] (pcM E (wM E b th n lim F (NW t F) kp) sz)) (va_Qi (S := Unit) (fun r _ => r = nI 0) (fun uQ tQ => atM E (va_A (wM E b th n lim F (NW t F) kp) sz) ((fun _ => wM E b (nI 1) n lim F (NW t F) kp) uQ) tQ) (va_A (wM E b th n lim F (NW t F) kp) sz)) 0 0 (va_A (wM E b th n lim F (NW t F) kp) sz) := by
  refine metM (by decide) rfl (Nat.le_of_ble_eq_true rfl) ?_
  intro p e s m args below meth c ls A hAe hA hx hb hr hml hts hown hlocks hin hP hK hD hS hl
  rw [hAe]
  have hiX2 : ∀ q ∈ wsX20, q ∈ wsX2_setLength := by decide +kernel
  obtain ⟨hO1, hO2, hO3, hO4, hO5⟩ := id hO
  refine lv_aload_n hx hb dX2_setLength_0 rfl (lv_at hl 0 rfl) ?_
  refine lv_iconst (v := (nI 0)) hx hb dX2_setLength_1 (by decide) ?_
  refine va_put (D := E.1) (ci := 3) (v := .int (nI 0)) (ty := .int) (C := RX2) (T := TX2) (N := 10) hx hb hts hiX2 tyX2 tyX2_ok nmX2 hown hK hP hD hS 0 rfl rfl 0 (by decide) (hts (.fieldLink RX2 35 "PulseLoomModel" "thrown" "I") (List.mem_of_getElem? (i := 1) (by rfl))) (fun _ h9 => h9) rfl (by decide +kernel) rfl (by rfl) (Nat.le_of_ble_eq_true rfl) dX2_setLength_2 (fun H locs hP hD hS => ?_)
  have hP : va_P E.1 vwCl (wM E b (nI 0) n lim F (NW t F) kp) H := hP
  have hD : va_D A (wM E b (nI 0) n lim F (NW t F) kp) := hD
  refine lv_aload_n hx hb dX2_setLength_5 rfl (lv_at hl 0 rfl) ?_
  refine lv_iload_n hx hb dX2_setLength_6 rfl (lv_at hl 1 rfl) ?_
  refine csV_i (rest := []) (As := [.int x]) ⟨hx, hb, hml, hown, hts⟩ (c_X2_isLamp l E _ b n lim t F t MV_self hO (Nat.le_refl _) x) (cwV 1 hts gX2_setLength_X2_isLamp rfl rfl rfl (by decide +kernel) ⟨Nat.le_of_ble_eq_true rfl, Nat.le_of_ble_eq_true rfl⟩) (va_recv hK hP (ci := 3) (q0 := 0) rfl rfl) hP hK rfl hl.1 rfl (Nat.le_of_ble_eq_true rfl) dX2_setLength_7 (Nat.le_of_ble_eq_true rfl) (Nat.le_of_ble_eq_true rfl) (fun r7 hr7 => ?_)
  subst hr7
  refine nq_top (show (bI (lpB n x)) = (bI false) from congrArg bI hx9) ?_
  refine bq_if_ne (tgt := 19) hx hb dX2_setLength_10 (by decide) (fun h10 => ?_) (fun h10 => ?_)
  · skip
    exact absurd h10 (by decide)
  · skip
    refine lv_aload_n hx hb dX2_setLength_13 rfl (lv_at hl 0 rfl) ?_
    refine lv_iconst (v := (nI 1)) hx hb dX2_setLength_14 (by decide) ?_
    refine cmV_i (rest := []) (As := [.int (nI 1)]) ⟨hx, hb, hml, hown, hts⟩ (c_X2_no l E _ b (nI 0) n lim t F kp (nI 1)) (cwV 1 hts gX2_setLength_X2_no rfl rfl rfl (by decide +kernel) ⟨Nat.le_of_ble_eq_true rfl, Nat.le_of_ble_eq_true rfl⟩) (va_recv hK hP (ci := 3) (q0 := 0) rfl rfl) hP hK hD hS hA rfl hl.1 rfl (Nat.le_of_ble_eq_true rfl) dX2_setLength_15 ⟨Nat.le_of_ble_eq_true rfl, Nat.le_of_ble_eq_true rfl⟩ (fun r15 u15 H locs hr15 hP hD hS => ?_)
    subst hr15
    exact retM_i (E := E) (A0 := A) (v := (nI 0)) (post := fun r _ => r = nI 0) (u := ()) (W1 := fun _ => wM E b (nI 1) n lim F (NW t F) kp) hx hb hr hlocks hP hK hD hS (rfl) dX2_setLength_18

set_option maxHeartbeats 4000000 in
set_option maxRecDepth 100000 in
/-- X2_setLength, refused -/
theorem c_X2_setLength_y (l : Launch) (E : GE) (sz : Nat) (b : Nat → Nat) (th : Int32) (n lim t : Nat) (F : LR) (kp : Nat → Int32) (hO : OkS n t lim F) (k : Nat) (hk : k < n) (z : Int32) (hz9 : inB z (nI 1) (nI (F k 0 - 1)) = false) : Met l yX2_setLength wsX2_setLength ({ frames := 2, cells := 0, slots := 0, locals := 43 } : Room) (va_Pc [.ref (b 0), .int (nI k), .int z] (pcM E (wM E b th n lim F (NW t F) kp) sz)) (va_Qi (S := Unit) (fun r _ => r = nI 0) (fun uQ tQ => atM E (va_A (wM E b th n lim F (NW t F) kp) sz) ((fun _ => wM E b (nI 2) n lim F (NW t F) kp) uQ) tQ) (va_A (wM E b th n lim F (NW t F) kp) sz)) 0 0 (va_A (wM E b th n lim F (NW t F) kp) sz) := by
  refine metM (by decide) rfl (Nat.le_of_ble_eq_true rfl) ?_
  intro p e s m args below meth c ls A hAe hA hx hb hr hml hts hown hlocks hin hP hK hD hS hl
  rw [hAe]
  have hiX2 : ∀ q ∈ wsX20, q ∈ wsX2_setLength := by decide +kernel
  obtain ⟨hO1, hO2, hO3, hO4, hO5⟩ := id hO
  refine lv_aload_n hx hb dX2_setLength_0 rfl (lv_at hl 0 rfl) ?_
  refine lv_iconst (v := (nI 0)) hx hb dX2_setLength_1 (by decide) ?_
  refine va_put (D := E.1) (ci := 3) (v := .int (nI 0)) (ty := .int) (C := RX2) (T := TX2) (N := 10) hx hb hts hiX2 tyX2 tyX2_ok nmX2 hown hK hP hD hS 0 rfl rfl 0 (by decide) (hts (.fieldLink RX2 35 "PulseLoomModel" "thrown" "I") (List.mem_of_getElem? (i := 1) (by rfl))) (fun _ h9 => h9) rfl (by decide +kernel) rfl (by rfl) (Nat.le_of_ble_eq_true rfl) dX2_setLength_2 (fun H locs hP hD hS => ?_)
  have hP : va_P E.1 vwCl (wM E b (nI 0) n lim F (NW t F) kp) H := hP
  have hD : va_D A (wM E b (nI 0) n lim F (NW t F) kp) := hD
  refine lv_aload_n hx hb dX2_setLength_5 rfl (lv_at hl 0 rfl) ?_
  refine lv_iload_n hx hb dX2_setLength_6 rfl (lv_at hl 1 rfl) ?_
  refine csV_i (rest := []) (As := [.int (nI k)]) ⟨hx, hb, hml, hown, hts⟩ (c_X2_isLamp l E _ b n lim t F t MV_self hO (Nat.le_refl _) (nI k)) (cwV 1 hts gX2_setLength_X2_isLamp rfl rfl rfl (by decide +kernel) ⟨Nat.le_of_ble_eq_true rfl, Nat.le_of_ble_eq_true rfl⟩) (va_recv hK hP (ci := 3) (q0 := 0) rfl rfl) hP hK rfl hl.1 rfl (Nat.le_of_ble_eq_true rfl) dX2_setLength_7 (Nat.le_of_ble_eq_true rfl) (Nat.le_of_ble_eq_true rfl) (fun r7 hr7 => ?_)
  subst hr7
  refine nq_top (show (bI (lpB n (nI k))) = (bI true) from congrArg bI (lpB_t hk hO1)) ?_
  refine bq_if_ne (tgt := 19) hx hb dX2_setLength_10 (by decide) (fun h10 => ?_) (fun h10 => ?_)
  · skip
    refine lv_iload_n hx hb dX2_setLength_19 rfl (lv_at hl 2 rfl) ?_
    refine lv_iconst (v := (nI 1)) hx hb dX2_setLength_20 (by decide) ?_
    refine lv_aload_n hx hb dX2_setLength_21 rfl (lv_at hl 0 rfl) ?_
    refine va_get (D := E.1) (ci := 3) (v := .ref (b 2)) (C := RX2) (T := TX2) (N := 10) hx hb hts hiX2 hown hK hP 0 rfl rfl 4 (by decide) (hts (.fieldLink RX2 17 "PulseLoomModel" "period" "[I") (List.mem_of_getElem? (i := 2) (by rfl))) (fun _ h9 => h9) rfl dX2_setLength_22 ?_
    refine lv_iload_n hx hb dX2_setLength_25 rfl (lv_at hl 1 rfl) ?_
    have hk9 := hO4 k hk
    refine va_iald hx hb hK hP 2 0 rfl rfl (by exact vp_in_nI (by omega) (by omega)) dX2_setLength_26 ?_
    refine nq_top (show (nI (F (((nI k)).toNatClampNeg) 0)) = (nI (F k 0)) from by rw [nI_clamp (by omega)]) ?_
    refine lv_iconst (v := (nI 1)) hx hb dX2_setLength_27 (by decide) ?_
    refine nq_sub hx hb dX2_setLength_28 (by omega) ?_
    refine csS_i (rest := []) (As := [.int z, .int (nI 1), .int (nI ((F k 0) - 1))]) ⟨hx, hb, hml, hown, hts⟩ (c_X2_isIn l E _ z (nI 1) (nI ((F k 0) - 1))) (va_cwS 3 hts gX2_setLength_X2_isIn rfl rfl rfl (by decide +kernel) ⟨Nat.le_of_ble_eq_true rfl, Nat.le_of_ble_eq_true rfl⟩) hP hK rfl hl.1 rfl (Nat.le_of_ble_eq_true rfl) dX2_setLength_29 (Nat.le_of_ble_eq_true rfl) (Nat.le_of_ble_eq_true rfl) (fun r29 hr29 => ?_)
    subst hr29
    refine nq_top (show (bI (inB z (nI 1) (nI ((F k 0) - 1)))) = (bI false) from congrArg bI hz9) ?_
    refine bq_if_ne (tgt := 41) hx hb dX2_setLength_32 (by decide) (fun h32 => ?_) (fun h32 => ?_)
    · skip
      exact absurd h32 (by decide)
    · skip
      refine lv_aload_n hx hb dX2_setLength_35 rfl (lv_at hl 0 rfl) ?_
      refine lv_iconst (v := (nI 2)) hx hb dX2_setLength_36 (by decide) ?_
      refine cmV_i (rest := []) (As := [.int (nI 2)]) ⟨hx, hb, hml, hown, hts⟩ (c_X2_no l E _ b (nI 0) n lim t F kp (nI 2)) (cwV 1 hts gX2_setLength_X2_no rfl rfl rfl (by decide +kernel) ⟨Nat.le_of_ble_eq_true rfl, Nat.le_of_ble_eq_true rfl⟩) (va_recv hK hP (ci := 3) (q0 := 0) rfl rfl) hP hK hD hS hA rfl hl.1 rfl (Nat.le_of_ble_eq_true rfl) dX2_setLength_37 ⟨Nat.le_of_ble_eq_true rfl, Nat.le_of_ble_eq_true rfl⟩ (fun r37 u37 H locs hr37 hP hD hS => ?_)
      subst hr37
      exact retM_i (E := E) (A0 := A) (v := (nI 0)) (post := fun r _ => r = nI 0) (u := ()) (W1 := fun _ => wM E b (nI 2) n lim F (NW t F) kp) hx hb hr hlocks hP hK hD hS (rfl) dX2_setLength_40
  · skip
    exact absurd h10 (by decide)

set_option maxHeartbeats 4000000 in
set_option maxRecDepth 100000 in
/-- X2_setLimit -/
theorem c_X2_setLimit (l : Launch) (E : GE) (sz : Nat) (b : Nat → Nat) (th : Int32) (n lim t : Nat) (F : LR) (kp : Nat → Int32) (hO : OkS n t lim F) (v : Nat) (hv : v ≤ 99) : Met l yX2_setLimit wsX2_setLimit ({ frames := 1, cells := 0, slots := 0, locals := 22 } : Room) (va_Pc [.ref (b 0), .int (nI v)] (pcM E (wM E b th n lim F (NW t F) kp) sz)) (va_Qi (S := Unit) (fun r _ => r = (nI lim)) (fun uQ tQ => atM E (va_A (wM E b th n lim F (NW t F) kp) sz) ((fun _ => wM E b (nI 0) n v F (NW t F) kp) uQ) tQ) (va_A (wM E b th n lim F (NW t F) kp) sz)) 0 0 (va_A (wM E b th n lim F (NW t F) kp) sz) := by
  refine metM (by decide) rfl (Nat.le_of_ble_eq_true rfl) ?_
  intro p e s m args below meth c ls A hAe hA hx hb hr hml hts hown hlocks hin hP hK hD hS hl
  rw [hAe]
  have hiX2 : ∀ q ∈ wsX20, q ∈ wsX2_setLimit := by decide +kernel
  obtain ⟨hO1, hO2, hO3, hO4, hO5⟩ := id hO
  refine lv_aload_n hx hb dX2_setLimit_0 rfl (lv_at hl 0 rfl) ?_
  refine lv_iconst (v := (nI 0)) hx hb dX2_setLimit_1 (by decide) ?_
  refine va_put (D := E.1) (ci := 3) (v := .int (nI 0)) (ty := .int) (C := RX2) (T := TX2) (N := 10) hx hb hts hiX2 tyX2 tyX2_ok nmX2 hown hK hP hD hS 0 rfl rfl 0 (by decide) (hts (.fieldLink RX2 35 "PulseLoomModel" "thrown" "I") (List.mem_of_getElem? (i := 1) (by rfl))) (fun _ h9 => h9) rfl (by decide +kernel) rfl (by rfl) (Nat.le_of_ble_eq_true rfl) dX2_setLimit_2 (fun H locs hP hD hS => ?_)
  have hP : va_P E.1 vwCl (wM E b (nI 0) n lim F (NW t F) kp) H := hP
  have hD : va_D A (wM E b (nI 0) n lim F (NW t F) kp) := hD
  refine lv_iload_n hx hb dX2_setLimit_5 rfl (lv_at hl 1 rfl) ?_
  refine lv_iconst (v := (nI 0)) hx hb dX2_setLimit_6 (by decide) ?_
  refine lv_bipush (v := (nI 99)) hx hb dX2_setLimit_7 (by decide) ?_
  refine csS_i (rest := []) (As := [.int (nI v), .int (nI 0), .int (nI 99)]) ⟨hx, hb, hml, hown, hts⟩ (c_X2_isIn l E _ (nI v) (nI 0) (nI 99)) (va_cwS 3 hts gX2_setLimit_X2_isIn rfl rfl rfl (by decide +kernel) ⟨Nat.le_of_ble_eq_true rfl, Nat.le_of_ble_eq_true rfl⟩) hP hK rfl hl.1 rfl (Nat.le_of_ble_eq_true rfl) dX2_setLimit_9 (Nat.le_of_ble_eq_true rfl) (Nat.le_of_ble_eq_true rfl) (fun r9 hr9 => ?_)
  subst hr9
  refine nq_top (show (bI (inB (nI v) (nI 0) (nI 99))) = (bI true) from congrArg bI (inB_t (by omega) (by omega))) ?_
  refine bq_if_ne (tgt := 21) hx hb dX2_setLimit_12 (by decide) (fun h12 => ?_) (fun h12 => ?_)
  · skip
    refine lv_aload_n hx hb dX2_setLimit_21 rfl (lv_at hl 0 rfl) ?_
    refine va_get (D := E.1) (ci := 3) (v := .int (nI lim)) (C := RX2) (T := TX2) (N := 10) hx hb hts hiX2 hown hK hP 0 rfl rfl 2 (by decide) (hts (.fieldLink RX2 9 "PulseLoomModel" "limit" "I") (List.mem_of_getElem? (i := 2) (by rfl))) (fun _ h9 => h9) rfl dX2_setLimit_22 ?_
    refine lv_istore_n (lv' := [(2, .int (nI lim)), (0, .ref (b 0)), (1, .int (nI v))]) hx hb dX2_setLimit_25 rfl hl (by decide) rfl (fun ls hl => ?_)
    refine lv_aload_n hx hb dX2_setLimit_26 rfl (lv_at hl 1 rfl) ?_
    refine lv_iload_n hx hb dX2_setLimit_27 rfl (lv_at hl 2 rfl) ?_
    refine va_put (D := E.1) (ci := 3) (v := .int (nI v)) (ty := .int) (C := RX2) (T := TX2) (N := 10) hx hb hts hiX2 tyX2 tyX2_ok nmX2 hown hK hP hD hS 0 rfl rfl 2 (by decide) (hts (.fieldLink RX2 9 "PulseLoomModel" "limit" "I") (List.mem_of_getElem? (i := 2) (by rfl))) (fun _ h9 => h9) rfl (by decide +kernel) rfl (by rfl) (Nat.le_of_ble_eq_true rfl) dX2_setLimit_28 (fun H locs hP hD hS => ?_)
    have hP : va_P E.1 vwCl (wM E b (nI 0) n v F (NW t F) kp) H := hP
    have hD : va_D A (wM E b (nI 0) n v F (NW t F) kp) := hD
    refine lv_iload_n hx hb dX2_setLimit_31 rfl (lv_at hl 0 rfl) ?_
    exact retM_i (E := E) (A0 := A) (v := (nI lim)) (post := fun r _ => r = (nI lim)) (u := ()) (W1 := fun _ => wM E b (nI 0) n v F (NW t F) kp) hx hb hr hlocks hP hK hD hS (rfl) dX2_setLimit_32
  · skip
    exact absurd h12 (by decide)

set_option maxHeartbeats 4000000 in
set_option maxRecDepth 100000 in
/-- X2_setLimit, refused -/
theorem c_X2_setLimit_x (l : Launch) (E : GE) (sz : Nat) (b : Nat → Nat) (th : Int32) (n lim t : Nat) (F : LR) (kp : Nat → Int32) (hO : OkS n t lim F) (x : Int32) (hx9 : inB x (nI 0) (nI 99) = false) : Met l yX2_setLimit wsX2_setLimit ({ frames := 1, cells := 0, slots := 0, locals := 22 } : Room) (va_Pc [.ref (b 0), .int x] (pcM E (wM E b th n lim F (NW t F) kp) sz)) (va_Qi (S := Unit) (fun r _ => r = nI 0) (fun uQ tQ => atM E (va_A (wM E b th n lim F (NW t F) kp) sz) ((fun _ => wM E b (nI 1) n lim F (NW t F) kp) uQ) tQ) (va_A (wM E b th n lim F (NW t F) kp) sz)) 0 0 (va_A (wM E b th n lim F (NW t F) kp) sz) := by
  refine metM (by decide) rfl (Nat.le_of_ble_eq_true rfl) ?_
  intro p e s m args below meth c ls A hAe hA hx hb hr hml hts hown hlocks hin hP hK hD hS hl
  rw [hAe]
  have hiX2 : ∀ q ∈ wsX20, q ∈ wsX2_setLimit := by decide +kernel
  obtain ⟨hO1, hO2, hO3, hO4, hO5⟩ := id hO
  refine lv_aload_n hx hb dX2_setLimit_0 rfl (lv_at hl 0 rfl) ?_
  refine lv_iconst (v := (nI 0)) hx hb dX2_setLimit_1 (by decide) ?_
  refine va_put (D := E.1) (ci := 3) (v := .int (nI 0)) (ty := .int) (C := RX2) (T := TX2) (N := 10) hx hb hts hiX2 tyX2 tyX2_ok nmX2 hown hK hP hD hS 0 rfl rfl 0 (by decide) (hts (.fieldLink RX2 35 "PulseLoomModel" "thrown" "I") (List.mem_of_getElem? (i := 1) (by rfl))) (fun _ h9 => h9) rfl (by decide +kernel) rfl (by rfl) (Nat.le_of_ble_eq_true rfl) dX2_setLimit_2 (fun H locs hP hD hS => ?_)
  have hP : va_P E.1 vwCl (wM E b (nI 0) n lim F (NW t F) kp) H := hP
  have hD : va_D A (wM E b (nI 0) n lim F (NW t F) kp) := hD
  refine lv_iload_n hx hb dX2_setLimit_5 rfl (lv_at hl 1 rfl) ?_
  refine lv_iconst (v := (nI 0)) hx hb dX2_setLimit_6 (by decide) ?_
  refine lv_bipush (v := (nI 99)) hx hb dX2_setLimit_7 (by decide) ?_
  refine csS_i (rest := []) (As := [.int x, .int (nI 0), .int (nI 99)]) ⟨hx, hb, hml, hown, hts⟩ (c_X2_isIn l E _ x (nI 0) (nI 99)) (va_cwS 3 hts gX2_setLimit_X2_isIn rfl rfl rfl (by decide +kernel) ⟨Nat.le_of_ble_eq_true rfl, Nat.le_of_ble_eq_true rfl⟩) hP hK rfl hl.1 rfl (Nat.le_of_ble_eq_true rfl) dX2_setLimit_9 (Nat.le_of_ble_eq_true rfl) (Nat.le_of_ble_eq_true rfl) (fun r9 hr9 => ?_)
  subst hr9
  refine nq_top (show (bI (inB x (nI 0) (nI 99))) = (bI false) from congrArg bI hx9) ?_
  refine bq_if_ne (tgt := 21) hx hb dX2_setLimit_12 (by decide) (fun h12 => ?_) (fun h12 => ?_)
  · skip
    exact absurd h12 (by decide)
  · skip
    refine lv_aload_n hx hb dX2_setLimit_15 rfl (lv_at hl 0 rfl) ?_
    refine lv_iconst (v := (nI 1)) hx hb dX2_setLimit_16 (by decide) ?_
    refine cmV_i (rest := []) (As := [.int (nI 1)]) ⟨hx, hb, hml, hown, hts⟩ (c_X2_no l E _ b (nI 0) n lim t F kp (nI 1)) (cwV 1 hts gX2_setLimit_X2_no rfl rfl rfl (by decide +kernel) ⟨Nat.le_of_ble_eq_true rfl, Nat.le_of_ble_eq_true rfl⟩) (va_recv hK hP (ci := 3) (q0 := 0) rfl rfl) hP hK hD hS hA rfl hl.1 rfl (Nat.le_of_ble_eq_true rfl) dX2_setLimit_17 ⟨Nat.le_of_ble_eq_true rfl, Nat.le_of_ble_eq_true rfl⟩ (fun r17 u17 H locs hr17 hP hD hS => ?_)
    subst hr17
    exact retM_i (E := E) (A0 := A) (v := (nI 0)) (post := fun r _ => r = nI 0) (u := ()) (W1 := fun _ => wM E b (nI 1) n lim F (NW t F) kp) hx hb hr hlocks hP hK hD hS (rfl) dX2_setLimit_20

set_option maxHeartbeats 4000000 in
set_option maxRecDepth 100000 in
/-- X2_swapColours -/
theorem c_X2_swapColours (l : Launch) (E : GE) (sz : Nat) (b : Nat → Nat) (th : Int32) (n lim t : Nat) (F : LR) (kp : Nat → Int32) (hO : OkS n t lim F) (k j : Nat) (hk : k < n) (hj : j < n) (hkj : k ≠ j) : Met l yX2_swapColours wsX2_swapColours ({ frames := 3, cells := 0, slots := 0, locals := 65 } : Room) (va_Pc [.ref (b 0), .int (nI k), .int (nI j)] (pcM E (wM E b th n lim F (NW t F) kp) sz)) (va_Qi (S := Unit) (fun r _ => r = (bI (decide (F j 2 ≠ F k 2)))) (fun uQ tQ => atM E (va_A (wM E b th n lim F (NW t F) kp) sz) ((fun _ => wM E b (nI 0) n lim (up2 (up2 F k 2 (F j 2)) j 2 (F k 2)) (NW t (up2 (up2 F k 2 (F j 2)) j 2 (F k 2))) kp) uQ) tQ) (va_A (wM E b th n lim F (NW t F) kp) sz)) 0 0 (va_A (wM E b th n lim F (NW t F) kp) sz) := by
  refine metM (by decide) rfl (Nat.le_of_ble_eq_true rfl) ?_
  intro p e s m args below meth c ls A hAe hA hx hb hr hml hts hown hlocks hin hP hK hD hS hl
  rw [hAe]
  have hiX2 : ∀ q ∈ wsX20, q ∈ wsX2_swapColours := by decide +kernel
  obtain ⟨hO1, hO2, hO3, hO4, hO5⟩ := id hO
  have hk9 := hO4 k hk
  have hj9 := hO4 j hj
  refine lv_aload_n hx hb dX2_swapColours_0 rfl (lv_at hl 0 rfl) ?_
  refine lv_iconst (v := (nI 0)) hx hb dX2_swapColours_1 (by decide) ?_
  refine va_put (D := E.1) (ci := 3) (v := .int (nI 0)) (ty := .int) (C := RX2) (T := TX2) (N := 10) hx hb hts hiX2 tyX2 tyX2_ok nmX2 hown hK hP hD hS 0 rfl rfl 0 (by decide) (hts (.fieldLink RX2 35 "PulseLoomModel" "thrown" "I") (List.mem_of_getElem? (i := 1) (by rfl))) (fun _ h9 => h9) rfl (by decide +kernel) rfl (by rfl) (Nat.le_of_ble_eq_true rfl) dX2_swapColours_2 (fun H locs hP hD hS => ?_)
  have hP : va_P E.1 vwCl (wM E b (nI 0) n lim F (NW t F) kp) H := hP
  have hD : va_D A (wM E b (nI 0) n lim F (NW t F) kp) := hD
  refine lv_aload_n hx hb dX2_swapColours_5 rfl (lv_at hl 0 rfl) ?_
  refine lv_iload_n hx hb dX2_swapColours_6 rfl (lv_at hl 1 rfl) ?_
  refine lv_iload_n hx hb dX2_swapColours_7 rfl (lv_at hl 2 rfl) ?_
  refine csV_i (rest := []) (As := [.int (nI k), .int (nI j)]) ⟨hx, hb, hml, hown, hts⟩ (c_X2_areLamps l E _ b n lim t F t MV_self hO (Nat.le_refl _) (nI k) (nI j)) (cwV 2 hts gX2_swapColours_X2_areLamps rfl rfl rfl (by decide +kernel) ⟨Nat.le_of_ble_eq_true rfl, Nat.le_of_ble_eq_true rfl⟩) (va_recv hK hP (ci := 3) (q0 := 0) rfl rfl) hP hK rfl hl.1 rfl (Nat.le_of_ble_eq_true rfl) dX2_swapColours_8 (Nat.le_of_ble_eq_true rfl) (Nat.le_of_ble_eq_true rfl) (fun r8 hr8 => ?_)
  subst hr8
  refine nq_top (show (bI (lpB n (nI k) && lpB n (nI j))) = (bI true) from by rw [lpB_t hk hO1, lpB_t hj hO1]; rfl) ?_
  refine bq_if_ne (tgt := 20) hx hb dX2_swapColours_11 (by decide) (fun h11 => ?_) (fun h11 => ?_)
  · skip
    refine lv_iload_n hx hb dX2_swapColours_20 rfl (lv_at hl 1 rfl) ?_
    refine lv_iload_n hx hb dX2_swapColours_21 rfl (lv_at hl 2 rfl) ?_
    refine nq_icmp_ne (tgt := 31) hx hb dX2_swapColours_22 (by decide) (by omega) (by omega) (fun h22 => ?_) (fun h22 => ?_)
    · skip
      refine lv_aload_n hx hb dX2_swapColours_31 rfl (lv_at hl 0 rfl) ?_
      refine va_get (D := E.1) (ci := 3) (v := .ref (b 1)) (C := RX2) (T := TX2) (N := 10) hx hb hts hiX2 hown hK hP 0 rfl rfl 3 (by decide) (hts (.fieldLink RX2 13 "PulseLoomModel" "colour" "[I") (List.mem_of_getElem? (i := 2) (by rfl))) (fun _ h9 => h9) rfl dX2_swapColours_32 ?_
      refine lv_iload_n hx hb dX2_swapColours_35 rfl (lv_at hl 1 rfl) ?_
      refine va_iald hx hb hK hP 1 0 rfl rfl (by exact vp_in_nI (by omega) (by omega)) dX2_swapColours_36 ?_
      refine nq_top (show (nI (F (((nI k)).toNatClampNeg) 2)) = (nI (F k 2)) from by rw [nI_clamp (by omega)]) ?_
      refine lv_istore_n (lv' := [(3, .int (nI (F k 2))), (0, .ref (b 0)), (1, .int (nI k)), (2, .int (nI j))]) hx hb dX2_swapColours_37 rfl hl (by decide) rfl (fun ls hl => ?_)
      refine lv_aload_n hx hb dX2_swapColours_38 rfl (lv_at hl 1 rfl) ?_
      refine va_get (D := E.1) (ci := 3) (v := .ref (b 1)) (C := RX2) (T := TX2) (N := 10) hx hb hts hiX2 hown hK hP 0 rfl rfl 3 (by decide) (hts (.fieldLink RX2 13 "PulseLoomModel" "colour" "[I") (List.mem_of_getElem? (i := 2) (by rfl))) (fun _ h9 => h9) rfl dX2_swapColours_39 ?_
      refine lv_iload_n hx hb dX2_swapColours_42 rfl (lv_at hl 2 rfl) ?_
      refine lv_aload_n hx hb dX2_swapColours_43 rfl (lv_at hl 1 rfl) ?_
      refine va_get (D := E.1) (ci := 3) (v := .ref (b 1)) (C := RX2) (T := TX2) (N := 10) hx hb hts hiX2 hown hK hP 0 rfl rfl 3 (by decide) (hts (.fieldLink RX2 13 "PulseLoomModel" "colour" "[I") (List.mem_of_getElem? (i := 2) (by rfl))) (fun _ h9 => h9) rfl dX2_swapColours_44 ?_
      refine lv_iload_n hx hb dX2_swapColours_47 rfl (lv_at hl 3 rfl) ?_
      refine va_iald hx hb hK hP 1 0 rfl rfl (by exact vp_in_nI (by omega) (by omega)) dX2_swapColours_48 ?_
      refine nq_top (show (nI (F (((nI j)).toNatClampNeg) 2)) = (nI (F j 2)) from by rw [nI_clamp (by omega)]) ?_
      refine va_iast hx hb hK hP hD hS 1 0 rfl rfl (by exact vp_in_nI (by omega) (by omega)) dX2_swapColours_49 (fun H locs hP hD hS => ?_)
      rw [wM_s1 (by omega)] at hP hD
      refine lv_aload_n hx hb dX2_swapColours_50 rfl (lv_at hl 1 rfl) ?_
      refine va_get (D := E.1) (ci := 3) (v := .ref (b 1)) (C := RX2) (T := TX2) (N := 10) hx hb hts hiX2 hown hK hP 0 rfl rfl 3 (by decide) (hts (.fieldLink RX2 13 "PulseLoomModel" "colour" "[I") (List.mem_of_getElem? (i := 2) (by rfl))) (fun _ h9 => h9) rfl dX2_swapColours_51 ?_
      refine lv_iload_n hx hb dX2_swapColours_54 rfl (lv_at hl 3 rfl) ?_
      refine lv_iload_n hx hb dX2_swapColours_55 rfl (lv_at hl 0 rfl) ?_
      refine va_iast hx hb hK hP hD hS 1 0 rfl rfl (by exact vp_in_nI (by omega) (by omega)) dX2_swapColours_56 (fun H locs hP hD hS => ?_)
      rw [wM_s1 (by omega)] at hP hD
      refine lv_iload_n hx hb dX2_swapColours_57 rfl (lv_at hl 0 rfl) ?_
      refine lv_aload_n hx hb dX2_swapColours_58 rfl (lv_at hl 1 rfl) ?_
      refine va_get (D := E.1) (ci := 3) (v := .ref (b 1)) (C := RX2) (T := TX2) (N := 10) hx hb hts hiX2 hown hK hP 0 rfl rfl 3 (by decide) (hts (.fieldLink RX2 13 "PulseLoomModel" "colour" "[I") (List.mem_of_getElem? (i := 2) (by rfl))) (fun _ h9 => h9) rfl dX2_swapColours_59 ?_
      refine lv_iload_n hx hb dX2_swapColours_62 rfl (lv_at hl 2 rfl) ?_
      refine va_iald hx hb hK hP 1 0 rfl rfl (by exact vp_in_nI (by omega) (by omega)) dX2_swapColours_63 ?_
      refine nq_top (show (nI ((up2 (up2 F k 2 (F j 2)) j 2 (F k 2)) (((nI k)).toNatClampNeg) 2)) = (nI ((up2 (up2 F k 2 (F j 2)) j 2 (F k 2)) k 2)) from by rw [nI_clamp (by omega)]) ?_
      refine nq_top (show (nI ((up2 (up2 F k 2 (F j 2)) j 2 (F k 2)) k 2)) = (nI (F j 2)) from congrArg nI (by unfold up2; rw [if_neg (fun z => hkj z.1), if_pos ⟨rfl, rfl⟩])) ?_
      refine nq_icmp_eq (tgt := 71) hx hb dX2_swapColours_64 (by decide) (by omega) (by omega) (fun h64 => ?_) (fun h64 => ?_)
      · skip
        refine lv_iconst (v := (nI 0)) hx hb dX2_swapColours_71 (by decide) ?_
        refine nq_top (show nI 0 = bI (decide (F j 2 ≠ F k 2)) from congrArg bI (decide_eq_false (show ¬ (F j 2 ≠ F k 2) from fun z => z h64.symm)).symm) ?_
        skip
        exact retM_z (E := E) (A0 := A) (b := decide (F j 2 ≠ F k 2)) (post := fun r _ => r = (bI (decide (F j 2 ≠ F k 2)))) (u := ()) (W1 := fun _ => wM E b (nI 0) n lim (up2 (up2 F k 2 (F j 2)) j 2 (F k 2)) (NW t (up2 (up2 F k 2 (F j 2)) j 2 (F k 2))) kp) hx hb hr hlocks hP hK hD hS (rfl) dX2_swapColours_72
      · skip
        refine lv_iconst (v := (nI 1)) hx hb dX2_swapColours_67 (by decide) ?_
        refine lv_goto (tgt := 72) hx hb dX2_swapColours_68 (by decide) ?_
        refine nq_top (show nI 1 = bI (decide (F j 2 ≠ F k 2)) from congrArg bI (decide_eq_true (show F j 2 ≠ F k 2 from fun z => h64 z.symm)).symm) ?_
        skip
        exact retM_z (E := E) (A0 := A) (b := decide (F j 2 ≠ F k 2)) (post := fun r _ => r = (bI (decide (F j 2 ≠ F k 2)))) (u := ()) (W1 := fun _ => wM E b (nI 0) n lim (up2 (up2 F k 2 (F j 2)) j 2 (F k 2)) (NW t (up2 (up2 F k 2 (F j 2)) j 2 (F k 2))) kp) hx hb hr hlocks hP hK hD hS (rfl) dX2_swapColours_72
    · skip
      exact absurd h22 hkj
  · skip
    exact absurd h11 (by decide)

set_option maxHeartbeats 4000000 in
set_option maxRecDepth 100000 in
/-- X2_swapColours, refused -/
theorem c_X2_swapColours_x (l : Launch) (E : GE) (sz : Nat) (b : Nat → Nat) (th : Int32) (n lim t : Nat) (F : LR) (kp : Nat → Int32) (hO : OkS n t lim F) (x z : Int32) (hx9 : (lpB n x && lpB n z) = false) : Met l yX2_swapColours wsX2_swapColours ({ frames := 3, cells := 0, slots := 0, locals := 65 } : Room) (va_Pc [.ref (b 0), .int x, .int z] (pcM E (wM E b th n lim F (NW t F) kp) sz)) (va_Qi (S := Unit) (fun r _ => r = bI false) (fun uQ tQ => atM E (va_A (wM E b th n lim F (NW t F) kp) sz) ((fun _ => wM E b (nI 1) n lim F (NW t F) kp) uQ) tQ) (va_A (wM E b th n lim F (NW t F) kp) sz)) 0 0 (va_A (wM E b th n lim F (NW t F) kp) sz) := by
  refine metM (by decide) rfl (Nat.le_of_ble_eq_true rfl) ?_
  intro p e s m args below meth c ls A hAe hA hx hb hr hml hts hown hlocks hin hP hK hD hS hl
  rw [hAe]
  have hiX2 : ∀ q ∈ wsX20, q ∈ wsX2_swapColours := by decide +kernel
  obtain ⟨hO1, hO2, hO3, hO4, hO5⟩ := id hO
  refine lv_aload_n hx hb dX2_swapColours_0 rfl (lv_at hl 0 rfl) ?_
  refine lv_iconst (v := (nI 0)) hx hb dX2_swapColours_1 (by decide) ?_
  refine va_put (D := E.1) (ci := 3) (v := .int (nI 0)) (ty := .int) (C := RX2) (T := TX2) (N := 10) hx hb hts hiX2 tyX2 tyX2_ok nmX2 hown hK hP hD hS 0 rfl rfl 0 (by decide) (hts (.fieldLink RX2 35 "PulseLoomModel" "thrown" "I") (List.mem_of_getElem? (i := 1) (by rfl))) (fun _ h9 => h9) rfl (by decide +kernel) rfl (by rfl) (Nat.le_of_ble_eq_true rfl) dX2_swapColours_2 (fun H locs hP hD hS => ?_)
  have hP : va_P E.1 vwCl (wM E b (nI 0) n lim F (NW t F) kp) H := hP
  have hD : va_D A (wM E b (nI 0) n lim F (NW t F) kp) := hD
  refine lv_aload_n hx hb dX2_swapColours_5 rfl (lv_at hl 0 rfl) ?_
  refine lv_iload_n hx hb dX2_swapColours_6 rfl (lv_at hl 1 rfl) ?_
  refine lv_iload_n hx hb dX2_swapColours_7 rfl (lv_at hl 2 rfl) ?_
  refine csV_i (rest := []) (As := [.int x, .int z]) ⟨hx, hb, hml, hown, hts⟩ (c_X2_areLamps l E _ b n lim t F t MV_self hO (Nat.le_refl _) x z) (cwV 2 hts gX2_swapColours_X2_areLamps rfl rfl rfl (by decide +kernel) ⟨Nat.le_of_ble_eq_true rfl, Nat.le_of_ble_eq_true rfl⟩) (va_recv hK hP (ci := 3) (q0 := 0) rfl rfl) hP hK rfl hl.1 rfl (Nat.le_of_ble_eq_true rfl) dX2_swapColours_8 (Nat.le_of_ble_eq_true rfl) (Nat.le_of_ble_eq_true rfl) (fun r8 hr8 => ?_)
  subst hr8
  refine nq_top (show (bI (lpB n x && lpB n z)) = (bI false) from congrArg bI hx9) ?_
  refine bq_if_ne (tgt := 20) hx hb dX2_swapColours_11 (by decide) (fun h11 => ?_) (fun h11 => ?_)
  · skip
    exact absurd h11 (by decide)
  · skip
    refine lv_aload_n hx hb dX2_swapColours_14 rfl (lv_at hl 0 rfl) ?_
    refine lv_iconst (v := (nI 1)) hx hb dX2_swapColours_15 (by decide) ?_
    refine cmV_i (rest := []) (As := [.int (nI 1)]) ⟨hx, hb, hml, hown, hts⟩ (c_X2_isNot l E _ b (nI 0) n lim t F kp (nI 1)) (cwV 1 hts gX2_swapColours_X2_isNot rfl rfl rfl (by decide +kernel) ⟨Nat.le_of_ble_eq_true rfl, Nat.le_of_ble_eq_true rfl⟩) (va_recv hK hP (ci := 3) (q0 := 0) rfl rfl) hP hK hD hS hA rfl hl.1 rfl (Nat.le_of_ble_eq_true rfl) dX2_swapColours_16 ⟨Nat.le_of_ble_eq_true rfl, Nat.le_of_ble_eq_true rfl⟩ (fun r16 u16 H locs hr16 hP hD hS => ?_)
    subst hr16
    exact retM_z (E := E) (A0 := A) (b := false) (post := fun r _ => r = bI false) (u := ()) (W1 := fun _ => wM E b (nI 1) n lim F (NW t F) kp) hx hb hr hlocks hP hK hD hS (rfl) dX2_swapColours_19

set_option maxHeartbeats 4000000 in
set_option maxRecDepth 100000 in
/-- X2_swapColours, refused -/
theorem c_X2_swapColours_y (l : Launch) (E : GE) (sz : Nat) (b : Nat → Nat) (th : Int32) (n lim t : Nat) (F : LR) (kp : Nat → Int32) (hO : OkS n t lim F) (k : Nat) (hk : k < n) : Met l yX2_swapColours wsX2_swapColours ({ frames := 3, cells := 0, slots := 0, locals := 65 } : Room) (va_Pc [.ref (b 0), .int (nI k), .int (nI k)] (pcM E (wM E b th n lim F (NW t F) kp) sz)) (va_Qi (S := Unit) (fun r _ => r = bI false) (fun uQ tQ => atM E (va_A (wM E b th n lim F (NW t F) kp) sz) ((fun _ => wM E b (nI 2) n lim F (NW t F) kp) uQ) tQ) (va_A (wM E b th n lim F (NW t F) kp) sz)) 0 0 (va_A (wM E b th n lim F (NW t F) kp) sz) := by
  refine metM (by decide) rfl (Nat.le_of_ble_eq_true rfl) ?_
  intro p e s m args below meth c ls A hAe hA hx hb hr hml hts hown hlocks hin hP hK hD hS hl
  rw [hAe]
  have hiX2 : ∀ q ∈ wsX20, q ∈ wsX2_swapColours := by decide +kernel
  obtain ⟨hO1, hO2, hO3, hO4, hO5⟩ := id hO
  refine lv_aload_n hx hb dX2_swapColours_0 rfl (lv_at hl 0 rfl) ?_
  refine lv_iconst (v := (nI 0)) hx hb dX2_swapColours_1 (by decide) ?_
  refine va_put (D := E.1) (ci := 3) (v := .int (nI 0)) (ty := .int) (C := RX2) (T := TX2) (N := 10) hx hb hts hiX2 tyX2 tyX2_ok nmX2 hown hK hP hD hS 0 rfl rfl 0 (by decide) (hts (.fieldLink RX2 35 "PulseLoomModel" "thrown" "I") (List.mem_of_getElem? (i := 1) (by rfl))) (fun _ h9 => h9) rfl (by decide +kernel) rfl (by rfl) (Nat.le_of_ble_eq_true rfl) dX2_swapColours_2 (fun H locs hP hD hS => ?_)
  have hP : va_P E.1 vwCl (wM E b (nI 0) n lim F (NW t F) kp) H := hP
  have hD : va_D A (wM E b (nI 0) n lim F (NW t F) kp) := hD
  refine lv_aload_n hx hb dX2_swapColours_5 rfl (lv_at hl 0 rfl) ?_
  refine lv_iload_n hx hb dX2_swapColours_6 rfl (lv_at hl 1 rfl) ?_
  refine lv_iload_n hx hb dX2_swapColours_7 rfl (lv_at hl 2 rfl) ?_
  refine csV_i (rest := []) (As := [.int (nI k), .int (nI k)]) ⟨hx, hb, hml, hown, hts⟩ (c_X2_areLamps l E _ b n lim t F t MV_self hO (Nat.le_refl _) (nI k) (nI k)) (cwV 2 hts gX2_swapColours_X2_areLamps rfl rfl rfl (by decide +kernel) ⟨Nat.le_of_ble_eq_true rfl, Nat.le_of_ble_eq_true rfl⟩) (va_recv hK hP (ci := 3) (q0 := 0) rfl rfl) hP hK rfl hl.1 rfl (Nat.le_of_ble_eq_true rfl) dX2_swapColours_8 (Nat.le_of_ble_eq_true rfl) (Nat.le_of_ble_eq_true rfl) (fun r8 hr8 => ?_)
  subst hr8
  refine nq_top (show (bI (lpB n (nI k) && lpB n (nI k))) = (bI true) from by rw [lpB_t hk hO1]; rfl) ?_
  refine bq_if_ne (tgt := 20) hx hb dX2_swapColours_11 (by decide) (fun h11 => ?_) (fun h11 => ?_)
  · skip
    refine lv_iload_n hx hb dX2_swapColours_20 rfl (lv_at hl 1 rfl) ?_
    refine lv_iload_n hx hb dX2_swapColours_21 rfl (lv_at hl 2 rfl) ?_
    refine nq_icmp_ne (tgt := 31) hx hb dX2_swapColours_22 (by decide) (by omega) (by omega) (fun h22 => ?_) (fun h22 => ?_)
    · skip
      exact absurd rfl h22
    · skip
      refine lv_aload_n hx hb dX2_swapColours_25 rfl (lv_at hl 0 rfl) ?_
      refine lv_iconst (v := (nI 2)) hx hb dX2_swapColours_26 (by decide) ?_
      refine cmV_i (rest := []) (As := [.int (nI 2)]) ⟨hx, hb, hml, hown, hts⟩ (c_X2_isNot l E _ b (nI 0) n lim t F kp (nI 2)) (cwV 1 hts gX2_swapColours_X2_isNot rfl rfl rfl (by decide +kernel) ⟨Nat.le_of_ble_eq_true rfl, Nat.le_of_ble_eq_true rfl⟩) (va_recv hK hP (ci := 3) (q0 := 0) rfl rfl) hP hK hD hS hA rfl hl.1 rfl (Nat.le_of_ble_eq_true rfl) dX2_swapColours_27 ⟨Nat.le_of_ble_eq_true rfl, Nat.le_of_ble_eq_true rfl⟩ (fun r27 u27 H locs hr27 hP hD hS => ?_)
      subst hr27
      exact retM_z (E := E) (A0 := A) (b := false) (post := fun r _ => r = bI false) (u := ()) (W1 := fun _ => wM E b (nI 2) n lim F (NW t F) kp) hx hb hr hlocks hP hK hD hS (rfl) dX2_swapColours_30
  · skip
    exact absurd h11 (by decide)

set_option maxHeartbeats 4000000 in
set_option maxRecDepth 100000 in
/-- X2_pass -/
theorem c_X2_pass (l : Launch) (E : GE) (sz : Nat) (b : Nat → Nat) (th : Int32) (n lim t : Nat) (F : LR) (kp : Nat → Int32) (hO : OkS n t lim F) (k : Nat) (hk : 1 ≤ k ∧ k ≤ 200) (hk9 : t + 200 ≤ 100000000) : Met l yX2_pass wsX2_pass ({ frames := 4, cells := 0, slots := 0, locals := 90 } : Room) (va_Pc [.ref (b 0), .int (nI k)] (pcM E (wM E b th n lim F (NW t F) kp) sz)) (va_Qi (S := Unit) (fun r _ => r = (nI (passD F lim t n k))) (fun uQ tQ => atM E (va_A (wM E b th n lim F (NW t F) kp) sz) ((fun _ => wM E b (nI 0) n lim (passF F lim t n k) (NW (t + k) (passF F lim t n k)) kp) uQ) tQ) (va_A (wM E b th n lim F (NW t F) kp) sz)) 0 0 (va_A (wM E b th n lim F (NW t F) kp) sz) := by
  refine metM (by decide) rfl (Nat.le_of_ble_eq_true rfl) ?_
  intro p e s m args below meth c ls A hAe hA hx hb hr hml hts hown hlocks hin hP hK hD hS hl
  rw [hAe]
  have hiX2 : ∀ q ∈ wsX20, q ∈ wsX2_pass := by decide +kernel
  obtain ⟨QQ, hQ⟩ : ∃ zQ, zQ = MQ below (va_Qi (S := Unit) (fun r _ => r = (nI (passD F lim t n k))) (fun uQ tQ => atM E A ((fun _ => wM E b (nI 0) n lim (passF F lim t n k) (NW (t + k) (passF F lim t n k)) kp) uQ) tQ) A) args s 0 0 A := ⟨_, rfl⟩
  rw [← hQ]
  obtain ⟨hO1, hO2, hO3, hO4, hO5⟩ := id hO
  refine lv_aload_n hx hb dX2_pass_0 rfl (lv_at hl 0 rfl) ?_
  refine lv_iconst (v := (nI 0)) hx hb dX2_pass_1 (by decide) ?_
  refine va_put (D := E.1) (ci := 3) (v := .int (nI 0)) (ty := .int) (C := RX2) (T := TX2) (N := 10) hx hb hts hiX2 tyX2 tyX2_ok nmX2 hown hK hP hD hS 0 rfl rfl 0 (by decide) (hts (.fieldLink RX2 35 "PulseLoomModel" "thrown" "I") (List.mem_of_getElem? (i := 1) (by rfl))) (fun _ h9 => h9) rfl (by decide +kernel) rfl (by rfl) (Nat.le_of_ble_eq_true rfl) dX2_pass_2 (fun H locs hP hD hS => ?_)
  have hP : va_P E.1 vwCl (wM E b (nI 0) n lim F (NW t F) kp) H := hP
  have hD : va_D A (wM E b (nI 0) n lim F (NW t F) kp) := hD
  refine lv_iload_n hx hb dX2_pass_5 rfl (lv_at hl 1 rfl) ?_
  refine lv_iconst (v := (nI 1)) hx hb dX2_pass_6 (by decide) ?_
  refine lv_sipush (v := (nI 200)) hx hb dX2_pass_7 (by decide) ?_
  refine csS_i (rest := []) (As := [.int (nI k), .int (nI 1), .int (nI 200)]) ⟨hx, hb, hml, hown, hts⟩ (c_X2_isIn l E _ (nI k) (nI 1) (nI 200)) (va_cwS 3 hts gX2_pass_X2_isIn rfl rfl rfl (by decide +kernel) ⟨Nat.le_of_ble_eq_true rfl, Nat.le_of_ble_eq_true rfl⟩) hP hK rfl hl.1 rfl (Nat.le_of_ble_eq_true rfl) dX2_pass_10 (Nat.le_of_ble_eq_true rfl) (Nat.le_of_ble_eq_true rfl) (fun r10 hr10 => ?_)
  subst hr10
  refine nq_top (show (bI (inB (nI k) (nI 1) (nI 200))) = (bI true) from congrArg bI (inB_t (by omega) (by omega))) ?_
  refine bq_if_ne (tgt := 22) hx hb dX2_pass_13 (by decide) (fun h13 => ?_) (fun h13 => ?_)
  · skip
    refine lv_iconst (v := (nI 0)) hx hb dX2_pass_22 (by decide) ?_
    refine lv_istore_n (lv' := [(2, .int (nI 0)), (0, .ref (b 0)), (1, .int (nI k))]) hx hb dX2_pass_23 rfl hl (by decide) rfl (fun ls hl => ?_)
    refine lv_iconst (v := (nI 0)) hx hb dX2_pass_24 (by decide) ?_
    refine lv_istore_n (lv' := [(3, .int (nI 0)), (2, .int (nI 0)), (0, .ref (b 0)), (1, .int (nI k))]) hx hb dX2_pass_25 rfl hl (by decide) rfl (fun ls hl => ?_)
    have loop26 : ∀ (tk : Nat) (i : Nat) (H : Heap) (locs : List Loc) (ls : Array Slot), (i ≤ k) → (k - i) < tk → va_P E.1 vwCl (wM E b (nI 0) n lim (passF F lim t n i) (NW (t + i) (passF F lim t n i)) kp) H → va_D A (wM E b (nI 0) n lim (passF F lim t n i) (NW (t + i) (passF F lim t n i)) kp) → va_S A s.heap H locs → lv_has ls 4 [(0, .ref (b 0)), (1, .int (nI k)), (2, .int (nI (passD F lim t n i))), (3, .int (nI i))] → W p l e ({ frames := 4, cells := 0, slots := 0, locals := 90 } : Room) s m args below meth c H locs 0 0 QQ (F0 m 26 ls []) := by
      intro tk
      induction tk with
      | zero => intro i H locs ls hi hk hP hD hS hl; exact absurd hk (Nat.not_lt_zero _)
      | succ tk ih26 =>
        intro i H locs ls hi hk hP hD hS hl
        have hOi := pass_ok hO i (by omega)
        have hpd := passD_le F lim t n i
        refine lv_iload_n hx hb dX2_pass_26 rfl (lv_at hl 3 rfl) ?_
        refine lv_iload_n hx hb dX2_pass_27 rfl (lv_at hl 1 rfl) ?_
        refine nq_icmp_ge (tgt := 44) hx hb dX2_pass_28 (by decide) (by omega) (by omega) (fun h28 => ?_) (fun h28 => ?_)
        · skip
          rw [show i = k by omega] at hP hD
          refine lv_iload_n hx hb dX2_pass_44 rfl (lv_at hl 2 rfl) ?_
          rw [hQ]
          exact retM_i (E := E) (A0 := A) (v := (nI (passD F lim t n i))) (post := fun r _ => r = (nI (passD F lim t n k))) (u := ()) (W1 := fun _ => wM E b (nI 0) n lim (passF F lim t n k) (NW (t + k) (passF F lim t n k)) kp) hx hb hr hlocks hP hK hD hS (congrArg nI (by rw [show i = k by omega])) dX2_pass_45
        · skip
          refine lv_iload_n hx hb dX2_pass_31 rfl (lv_at hl 2 rfl) ?_
          refine lv_aload_n hx hb dX2_pass_32 rfl (lv_at hl 0 rfl) ?_
          refine cmV_i (rest := [.int (nI (passD F lim t n i))]) (As := []) ⟨hx, hb, hml, hown, hts⟩ (c_X2_beatOn l E _ b (nI 0) n lim (t + i) (passF F lim t n i) kp hOi (by omega)) (cwV 0 hts gX2_pass_X2_beatOn rfl rfl rfl (by decide +kernel) ⟨Nat.le_of_ble_eq_true rfl, Nat.le_of_ble_eq_true rfl⟩) (va_recv hK hP (ci := 3) (q0 := 0) rfl rfl) hP hK hD hS hA rfl hl.1 rfl (Nat.le_of_ble_eq_true rfl) dX2_pass_33 ⟨Nat.le_of_ble_eq_true rfl, Nat.le_of_ble_eq_true rfl⟩ (fun r33 u33 H locs hr33 hP hD hS => ?_)
          subst hr33
          refine nq_add hx hb dX2_pass_36 ?_
          refine lv_istore_n (lv' := [(2, .int (nI ((passD F lim t n i) + ((drkS (passF F lim t n i) lim (t + i) n).toNat)))), (0, .ref (b 0)), (1, .int (nI k)), (3, .int (nI i))]) hx hb dX2_pass_37 rfl hl (by decide) rfl (fun ls hl => ?_)
          refine nq_inc (lv' := [(3, .int (nI (i + 1))), (2, .int (nI ((passD F lim t n i) + ((drkS (passF F lim t n i) lim (t + i) n).toNat)))), (0, .ref (b 0)), (1, .int (nI k))]) hx hb dX2_pass_38 (d := 1) rfl hl (k := 3) rfl (by decide) rfl (fun ls hl => ?_)
          refine lv_goto (tgt := 26) hx hb dX2_pass_41 (by decide) ?_
          have hl : lv_has ls 4 [(3, .int (nI (i + 1))), (2, .int (nI (passD F lim t n (i + 1)))), (0, .ref (b 0)), (1, .int (nI k))] := lv_rep hl 1 rfl (congrArg Value.int (show (nI ((passD F lim t n i) + ((drkS (passF F lim t n i) lim (t + i) n).toNat))) = (nI (passD F lim t n (i + 1))) from rfl))
          rw [show wM E b (nI 0) n lim (stepF (passF F lim t n i) lim (t + i) n) (NW (t + i + 1) (stepF (passF F lim t n i) lim (t + i) n)) kp = wM E b (nI 0) n lim (passF F lim t n (i + 1)) (NW (t + (i + 1)) (passF F lim t n (i + 1))) kp from rfl] at hP hD
          exact ih26 (i + 1) _ _ ls (by omega) (by omega) hP hD hS (lv_sub hl [2, 3, 1, 0] rfl)
    have hl : lv_has ls 4 [(3, .int (nI 0)), (2, .int (nI (passD F lim t n 0))), (0, .ref (b 0)), (1, .int (nI k))] := lv_rep hl 1 rfl (congrArg Value.int (show (nI 0) = (nI (passD F lim t n 0)) from rfl))
    rw [show wM E b (nI 0) n lim F (NW t F) kp = wM E b (nI 0) n lim (passF F lim t n 0) (NW (t + 0) (passF F lim t n 0)) kp from rfl] at hP hD
    exact loop26 ((k - 0) + 1) 0 _ _ ls (by omega) (Nat.lt_succ_self _) hP hD hS (lv_sub hl [2, 3, 1, 0] rfl)
  · skip
    exact absurd h13 (by decide)

set_option maxHeartbeats 4000000 in
set_option maxRecDepth 100000 in
/-- X2_pass, refused -/
theorem c_X2_pass_x (l : Launch) (E : GE) (sz : Nat) (b : Nat → Nat) (th : Int32) (n lim t : Nat) (F : LR) (kp : Nat → Int32) (hO : OkS n t lim F) (x : Int32) (hx9 : inB x (nI 1) (nI 200) = false) : Met l yX2_pass wsX2_pass ({ frames := 4, cells := 0, slots := 0, locals := 90 } : Room) (va_Pc [.ref (b 0), .int x] (pcM E (wM E b th n lim F (NW t F) kp) sz)) (va_Qi (S := Unit) (fun r _ => r = nI 0) (fun uQ tQ => atM E (va_A (wM E b th n lim F (NW t F) kp) sz) ((fun _ => wM E b (nI 1) n lim F (NW t F) kp) uQ) tQ) (va_A (wM E b th n lim F (NW t F) kp) sz)) 0 0 (va_A (wM E b th n lim F (NW t F) kp) sz) := by
  refine metM (by decide) rfl (Nat.le_of_ble_eq_true rfl) ?_
  intro p e s m args below meth c ls A hAe hA hx hb hr hml hts hown hlocks hin hP hK hD hS hl
  rw [hAe]
  have hiX2 : ∀ q ∈ wsX20, q ∈ wsX2_pass := by decide +kernel
  obtain ⟨hO1, hO2, hO3, hO4, hO5⟩ := id hO
  refine lv_aload_n hx hb dX2_pass_0 rfl (lv_at hl 0 rfl) ?_
  refine lv_iconst (v := (nI 0)) hx hb dX2_pass_1 (by decide) ?_
  refine va_put (D := E.1) (ci := 3) (v := .int (nI 0)) (ty := .int) (C := RX2) (T := TX2) (N := 10) hx hb hts hiX2 tyX2 tyX2_ok nmX2 hown hK hP hD hS 0 rfl rfl 0 (by decide) (hts (.fieldLink RX2 35 "PulseLoomModel" "thrown" "I") (List.mem_of_getElem? (i := 1) (by rfl))) (fun _ h9 => h9) rfl (by decide +kernel) rfl (by rfl) (Nat.le_of_ble_eq_true rfl) dX2_pass_2 (fun H locs hP hD hS => ?_)
  have hP : va_P E.1 vwCl (wM E b (nI 0) n lim F (NW t F) kp) H := hP
  have hD : va_D A (wM E b (nI 0) n lim F (NW t F) kp) := hD
  refine lv_iload_n hx hb dX2_pass_5 rfl (lv_at hl 1 rfl) ?_
  refine lv_iconst (v := (nI 1)) hx hb dX2_pass_6 (by decide) ?_
  refine lv_sipush (v := (nI 200)) hx hb dX2_pass_7 (by decide) ?_
  refine csS_i (rest := []) (As := [.int x, .int (nI 1), .int (nI 200)]) ⟨hx, hb, hml, hown, hts⟩ (c_X2_isIn l E _ x (nI 1) (nI 200)) (va_cwS 3 hts gX2_pass_X2_isIn rfl rfl rfl (by decide +kernel) ⟨Nat.le_of_ble_eq_true rfl, Nat.le_of_ble_eq_true rfl⟩) hP hK rfl hl.1 rfl (Nat.le_of_ble_eq_true rfl) dX2_pass_10 (Nat.le_of_ble_eq_true rfl) (Nat.le_of_ble_eq_true rfl) (fun r10 hr10 => ?_)
  subst hr10
  refine nq_top (show (bI (inB x (nI 1) (nI 200))) = (bI false) from congrArg bI hx9) ?_
  refine bq_if_ne (tgt := 22) hx hb dX2_pass_13 (by decide) (fun h13 => ?_) (fun h13 => ?_)
  · skip
    exact absurd h13 (by decide)
  · skip
    refine lv_aload_n hx hb dX2_pass_16 rfl (lv_at hl 0 rfl) ?_
    refine lv_iconst (v := (nI 1)) hx hb dX2_pass_17 (by decide) ?_
    refine cmV_i (rest := []) (As := [.int (nI 1)]) ⟨hx, hb, hml, hown, hts⟩ (c_X2_no l E _ b (nI 0) n lim t F kp (nI 1)) (cwV 1 hts gX2_pass_X2_no rfl rfl rfl (by decide +kernel) ⟨Nat.le_of_ble_eq_true rfl, Nat.le_of_ble_eq_true rfl⟩) (va_recv hK hP (ci := 3) (q0 := 0) rfl rfl) hP hK hD hS hA rfl hl.1 rfl (Nat.le_of_ble_eq_true rfl) dX2_pass_18 ⟨Nat.le_of_ble_eq_true rfl, Nat.le_of_ble_eq_true rfl⟩ (fun r18 u18 H locs hr18 hP hD hS => ?_)
    subst hr18
    exact retM_i (E := E) (A0 := A) (v := (nI 0)) (post := fun r _ => r = nI 0) (u := ()) (W1 := fun _ => wM E b (nI 1) n lim F (NW t F) kp) hx hb hr hlocks hP hK hD hS (rfl) dX2_pass_21

set_option maxHeartbeats 4000000 in
set_option maxRecDepth 100000 in
/-- X2_addLamp -/
theorem c_X2_addLamp (l : Launch) (E : GE) (sz : Nat) (b : Nat → Nat) (th : Int32) (n lim t : Nat) (F : LR) (kp : Nat → Int32) (hO : OkS n t lim F) (k v u z : Nat) (hc9 : k ≤ 5) (hp9 : 2 ≤ v ∧ v ≤ 20) (hl9 : 1 ≤ u ∧ u < v) (hw9 : 1 ≤ z ∧ z ≤ 9) (hn9 : n < 8) : Met l yX2_addLamp wsX2_addLamp ({ frames := 2, cells := 0, slots := 0, locals := 42 } : Room) (va_Pc [.ref (b 0), .int (nI k), .int (nI v), .int (nI u), .int (nI z)] (pcM E (wM E b th n lim F (NW t F) kp) sz)) (va_Qi (S := Unit) (fun r _ => r = (nI n)) (fun uQ tQ => atM E (va_A (wM E b th n lim F (NW t F) kp) sz) ((fun _ => wM E b (nI 0) (n + 1) lim (up2 (up2 (up2 (up2 F n 2 k) n 0 v) n 4 u) n 1 z) (NW t (up2 (up2 (up2 (up2 F n 2 k) n 0 v) n 4 u) n 1 z)) kp) uQ) tQ) (va_A (wM E b th n lim F (NW t F) kp) sz)) 0 0 (va_A (wM E b th n lim F (NW t F) kp) sz) := by
  refine metM (by decide) rfl (Nat.le_of_ble_eq_true rfl) ?_
  intro p e s m args below meth c ls A hAe hA hx hb hr hml hts hown hlocks hin hP hK hD hS hl
  rw [hAe]
  have hiX2 : ∀ q ∈ wsX20, q ∈ wsX2_addLamp := by decide +kernel
  obtain ⟨hO1, hO2, hO3, hO4, hO5⟩ := id hO
  refine lv_aload_n hx hb dX2_addLamp_0 rfl (lv_at hl 0 rfl) ?_
  refine lv_iconst (v := (nI 0)) hx hb dX2_addLamp_1 (by decide) ?_
  refine va_put (D := E.1) (ci := 3) (v := .int (nI 0)) (ty := .int) (C := RX2) (T := TX2) (N := 10) hx hb hts hiX2 tyX2 tyX2_ok nmX2 hown hK hP hD hS 0 rfl rfl 0 (by decide) (hts (.fieldLink RX2 35 "PulseLoomModel" "thrown" "I") (List.mem_of_getElem? (i := 1) (by rfl))) (fun _ h9 => h9) rfl (by decide +kernel) rfl (by rfl) (Nat.le_of_ble_eq_true rfl) dX2_addLamp_2 (fun H locs hP hD hS => ?_)
  have hP : va_P E.1 vwCl (wM E b (nI 0) n lim F (NW t F) kp) H := hP
  have hD : va_D A (wM E b (nI 0) n lim F (NW t F) kp) := hD
  refine lv_iload_n hx hb dX2_addLamp_5 rfl (lv_at hl 1 rfl) ?_
  refine csS_i (rest := []) (As := [.int (nI k)]) ⟨hx, hb, hml, hown, hts⟩ (c_X2_isColour l E _ (nI k)) (va_cwS 1 hts gX2_addLamp_X2_isColour rfl rfl rfl (by decide +kernel) ⟨Nat.le_of_ble_eq_true rfl, Nat.le_of_ble_eq_true rfl⟩) hP hK rfl hl.1 rfl (Nat.le_of_ble_eq_true rfl) dX2_addLamp_6 (Nat.le_of_ble_eq_true rfl) (Nat.le_of_ble_eq_true rfl) (fun r6 hr6 => ?_)
  subst hr6
  refine nq_top (show (bI (inB (nI k) (nI 0) (nI 5))) = (bI true) from congrArg bI (inB_t (by omega) (by omega))) ?_
  refine bq_if_eq (tgt := 44) hx hb dX2_addLamp_9 (by decide) (fun h9 => ?_) (fun h9 => ?_)
  · skip
    exact absurd h9 (by decide)
  · skip
    refine lv_iload_n hx hb dX2_addLamp_12 rfl (lv_at hl 2 rfl) ?_
    refine lv_iconst (v := (nI 2)) hx hb dX2_addLamp_13 (by decide) ?_
    refine lv_bipush (v := (nI 20)) hx hb dX2_addLamp_14 (by decide) ?_
    refine csS_i (rest := []) (As := [.int (nI v), .int (nI 2), .int (nI 20)]) ⟨hx, hb, hml, hown, hts⟩ (c_X2_isIn l E _ (nI v) (nI 2) (nI 20)) (va_cwS 3 hts gX2_addLamp_X2_isIn rfl rfl rfl (by decide +kernel) ⟨Nat.le_of_ble_eq_true rfl, Nat.le_of_ble_eq_true rfl⟩) hP hK rfl hl.1 rfl (Nat.le_of_ble_eq_true rfl) dX2_addLamp_16 (Nat.le_of_ble_eq_true rfl) (Nat.le_of_ble_eq_true rfl) (fun r16 hr16 => ?_)
    subst hr16
    refine nq_top (show (bI (inB (nI v) (nI 2) (nI 20))) = (bI true) from congrArg bI (inB_t (by omega) (by omega))) ?_
    refine bq_if_eq (tgt := 44) hx hb dX2_addLamp_19 (by decide) (fun h19 => ?_) (fun h19 => ?_)
    · skip
      exact absurd h19 (by decide)
    · skip
      refine lv_iload_n hx hb dX2_addLamp_22 rfl (lv_at hl 3 rfl) ?_
      refine lv_iconst (v := (nI 1)) hx hb dX2_addLamp_23 (by decide) ?_
      refine lv_iload_n hx hb dX2_addLamp_24 rfl (lv_at hl 2 rfl) ?_
      refine lv_iconst (v := (nI 1)) hx hb dX2_addLamp_25 (by decide) ?_
      refine nq_sub hx hb dX2_addLamp_26 (by omega) ?_
      refine csS_i (rest := []) (As := [.int (nI u), .int (nI 1), .int (nI (v - 1))]) ⟨hx, hb, hml, hown, hts⟩ (c_X2_isIn l E _ (nI u) (nI 1) (nI (v - 1))) (va_cwS 3 hts gX2_addLamp_X2_isIn rfl rfl rfl (by decide +kernel) ⟨Nat.le_of_ble_eq_true rfl, Nat.le_of_ble_eq_true rfl⟩) hP hK rfl hl.1 rfl (Nat.le_of_ble_eq_true rfl) dX2_addLamp_27 (Nat.le_of_ble_eq_true rfl) (Nat.le_of_ble_eq_true rfl) (fun r27 hr27 => ?_)
      subst hr27
      refine nq_top (show (bI (inB (nI u) (nI 1) (nI (v - 1)))) = (bI true) from congrArg bI (inB_t (by omega) (by omega))) ?_
      refine bq_if_eq (tgt := 44) hx hb dX2_addLamp_30 (by decide) (fun h30 => ?_) (fun h30 => ?_)
      · skip
        exact absurd h30 (by decide)
      · skip
        refine lv_iload hx hb dX2_addLamp_33 (lv_at hl 4 rfl) ?_
        refine lv_iconst (v := (nI 1)) hx hb dX2_addLamp_35 (by decide) ?_
        refine lv_bipush (v := (nI 9)) hx hb dX2_addLamp_36 (by decide) ?_
        refine csS_i (rest := []) (As := [.int (nI z), .int (nI 1), .int (nI 9)]) ⟨hx, hb, hml, hown, hts⟩ (c_X2_isIn l E _ (nI z) (nI 1) (nI 9)) (va_cwS 3 hts gX2_addLamp_X2_isIn rfl rfl rfl (by decide +kernel) ⟨Nat.le_of_ble_eq_true rfl, Nat.le_of_ble_eq_true rfl⟩) hP hK rfl hl.1 rfl (Nat.le_of_ble_eq_true rfl) dX2_addLamp_38 (Nat.le_of_ble_eq_true rfl) (Nat.le_of_ble_eq_true rfl) (fun r38 hr38 => ?_)
        subst hr38
        refine nq_top (show (bI (inB (nI z) (nI 1) (nI 9))) = (bI true) from congrArg bI (inB_t (by omega) (by omega))) ?_
        refine bq_if_ne (tgt := 50) hx hb dX2_addLamp_41 (by decide) (fun h41 => ?_) (fun h41 => ?_)
        · skip
          refine lv_aload_n hx hb dX2_addLamp_50 rfl (lv_at hl 0 rfl) ?_
          refine va_get (D := E.1) (ci := 3) (v := .int (nI n)) (C := RX2) (T := TX2) (N := 10) hx hb hts hiX2 hown hK hP 0 rfl rfl 1 (by decide) (hts (.fieldLink RX2 38 "PulseLoomModel" "lamps" "I") (List.mem_of_getElem? (i := 2) (by rfl))) (fun _ h9 => h9) rfl dX2_addLamp_51 ?_
          refine lv_bipush (v := (nI 8)) hx hb dX2_addLamp_54 (by decide) ?_
          refine nq_icmp_ne (tgt := 65) hx hb dX2_addLamp_56 (by decide) (by omega) (by omega) (fun h56 => ?_) (fun h56 => ?_)
          · skip
            refine lv_aload_n hx hb dX2_addLamp_65 rfl (lv_at hl 0 rfl) ?_
            refine va_get (D := E.1) (ci := 3) (v := .ref (b 1)) (C := RX2) (T := TX2) (N := 10) hx hb hts hiX2 hown hK hP 0 rfl rfl 3 (by decide) (hts (.fieldLink RX2 13 "PulseLoomModel" "colour" "[I") (List.mem_of_getElem? (i := 3) (by rfl))) (fun _ h9 => h9) rfl dX2_addLamp_66 ?_
            refine lv_aload_n hx hb dX2_addLamp_69 rfl (lv_at hl 0 rfl) ?_
            refine va_get (D := E.1) (ci := 3) (v := .int (nI n)) (C := RX2) (T := TX2) (N := 10) hx hb hts hiX2 hown hK hP 0 rfl rfl 1 (by decide) (hts (.fieldLink RX2 38 "PulseLoomModel" "lamps" "I") (List.mem_of_getElem? (i := 2) (by rfl))) (fun _ h9 => h9) rfl dX2_addLamp_70 ?_
            refine lv_iload_n hx hb dX2_addLamp_73 rfl (lv_at hl 1 rfl) ?_
            refine va_iast hx hb hK hP hD hS 1 0 rfl rfl (by exact vp_in_nI (by omega) (by omega)) dX2_addLamp_74 (fun H locs hP hD hS => ?_)
            rw [wM_s1 (by omega)] at hP hD
            refine lv_aload_n hx hb dX2_addLamp_75 rfl (lv_at hl 0 rfl) ?_
            refine va_get (D := E.1) (ci := 3) (v := .ref (b 2)) (C := RX2) (T := TX2) (N := 10) hx hb hts hiX2 hown hK hP 0 rfl rfl 4 (by decide) (hts (.fieldLink RX2 17 "PulseLoomModel" "period" "[I") (List.mem_of_getElem? (i := 4) (by rfl))) (fun _ h9 => h9) rfl dX2_addLamp_76 ?_
            refine lv_aload_n hx hb dX2_addLamp_79 rfl (lv_at hl 0 rfl) ?_
            refine va_get (D := E.1) (ci := 3) (v := .int (nI n)) (C := RX2) (T := TX2) (N := 10) hx hb hts hiX2 hown hK hP 0 rfl rfl 1 (by decide) (hts (.fieldLink RX2 38 "PulseLoomModel" "lamps" "I") (List.mem_of_getElem? (i := 2) (by rfl))) (fun _ h9 => h9) rfl dX2_addLamp_80 ?_
            refine lv_iload_n hx hb dX2_addLamp_83 rfl (lv_at hl 2 rfl) ?_
            refine va_iast hx hb hK hP hD hS 2 0 rfl rfl (by exact vp_in_nI (by omega) (by omega)) dX2_addLamp_84 (fun H locs hP hD hS => ?_)
            rw [wM_s2 (by omega)] at hP hD
            refine lv_aload_n hx hb dX2_addLamp_85 rfl (lv_at hl 0 rfl) ?_
            refine va_get (D := E.1) (ci := 3) (v := .ref (b 4)) (C := RX2) (T := TX2) (N := 10) hx hb hts hiX2 hown hK hP 0 rfl rfl 6 (by decide) (hts (.fieldLink RX2 23 "PulseLoomModel" "length" "[I") (List.mem_of_getElem? (i := 5) (by rfl))) (fun _ h9 => h9) rfl dX2_addLamp_86 ?_
            refine lv_aload_n hx hb dX2_addLamp_89 rfl (lv_at hl 0 rfl) ?_
            refine va_get (D := E.1) (ci := 3) (v := .int (nI n)) (C := RX2) (T := TX2) (N := 10) hx hb hts hiX2 hown hK hP 0 rfl rfl 1 (by decide) (hts (.fieldLink RX2 38 "PulseLoomModel" "lamps" "I") (List.mem_of_getElem? (i := 2) (by rfl))) (fun _ h9 => h9) rfl dX2_addLamp_90 ?_
            refine lv_iload_n hx hb dX2_addLamp_93 rfl (lv_at hl 3 rfl) ?_
            refine va_iast hx hb hK hP hD hS 4 0 rfl rfl (by exact vp_in_nI (by omega) (by omega)) dX2_addLamp_94 (fun H locs hP hD hS => ?_)
            rw [wM_s4 (by omega)] at hP hD
            refine lv_aload_n hx hb dX2_addLamp_95 rfl (lv_at hl 0 rfl) ?_
            refine va_get (D := E.1) (ci := 3) (v := .ref (b 5)) (C := RX2) (T := TX2) (N := 10) hx hb hts hiX2 hown hK hP 0 rfl rfl 7 (by decide) (hts (.fieldLink RX2 26 "PulseLoomModel" "power" "[I") (List.mem_of_getElem? (i := 6) (by rfl))) (fun _ h9 => h9) rfl dX2_addLamp_96 ?_
            refine lv_aload_n hx hb dX2_addLamp_99 rfl (lv_at hl 0 rfl) ?_
            refine va_get (D := E.1) (ci := 3) (v := .int (nI n)) (C := RX2) (T := TX2) (N := 10) hx hb hts hiX2 hown hK hP 0 rfl rfl 1 (by decide) (hts (.fieldLink RX2 38 "PulseLoomModel" "lamps" "I") (List.mem_of_getElem? (i := 2) (by rfl))) (fun _ h9 => h9) rfl dX2_addLamp_100 ?_
            refine lv_iload hx hb dX2_addLamp_103 (lv_at hl 4 rfl) ?_
            refine va_iast hx hb hK hP hD hS 5 0 rfl rfl (by exact vp_in_nI (by omega) (by omega)) dX2_addLamp_105 (fun H locs hP hD hS => ?_)
            rw [wM_s5 (by omega)] at hP hD
            refine lv_aload_n hx hb dX2_addLamp_106 rfl (lv_at hl 0 rfl) ?_
            refine lv_dup hx hb dX2_addLamp_107 rfl ?_
            refine va_get (D := E.1) (ci := 3) (v := .int (nI n)) (C := RX2) (T := TX2) (N := 10) hx hb hts hiX2 hown hK hP 0 rfl rfl 1 (by decide) (hts (.fieldLink RX2 38 "PulseLoomModel" "lamps" "I") (List.mem_of_getElem? (i := 2) (by rfl))) (fun _ h9 => h9) rfl dX2_addLamp_108 ?_
            refine lv_iconst (v := (nI 1)) hx hb dX2_addLamp_111 (by decide) ?_
            refine nq_add hx hb dX2_addLamp_112 ?_
            refine va_put (D := E.1) (ci := 3) (v := .int (nI (n + 1))) (ty := .int) (C := RX2) (T := TX2) (N := 10) hx hb hts hiX2 tyX2 tyX2_ok nmX2 hown hK hP hD hS 0 rfl rfl 1 (by decide) (hts (.fieldLink RX2 38 "PulseLoomModel" "lamps" "I") (List.mem_of_getElem? (i := 2) (by rfl))) (fun _ h9 => h9) rfl (by decide +kernel) rfl (by rfl) (Nat.le_of_ble_eq_true rfl) dX2_addLamp_113 (fun H locs hP hD hS => ?_)
            have hP : va_P E.1 vwCl (wM E b (nI 0) (n + 1) lim (up2 (up2 (up2 (up2 F n 2 k) n 0 v) n 4 u) n 1 z) (NW t (up2 (up2 (up2 (up2 F n 2 k) n 0 v) n 4 u) n 1 z)) kp) H := hP
            have hD : va_D A (wM E b (nI 0) (n + 1) lim (up2 (up2 (up2 (up2 F n 2 k) n 0 v) n 4 u) n 1 z) (NW t (up2 (up2 (up2 (up2 F n 2 k) n 0 v) n 4 u) n 1 z)) kp) := hD
            refine lv_aload_n hx hb dX2_addLamp_116 rfl (lv_at hl 0 rfl) ?_
            refine va_get (D := E.1) (ci := 3) (v := .int (nI (n + 1))) (C := RX2) (T := TX2) (N := 10) hx hb hts hiX2 hown hK hP 0 rfl rfl 1 (by decide) (hts (.fieldLink RX2 38 "PulseLoomModel" "lamps" "I") (List.mem_of_getElem? (i := 2) (by rfl))) (fun _ h9 => h9) rfl dX2_addLamp_117 ?_
            refine lv_iconst (v := (nI 1)) hx hb dX2_addLamp_120 (by decide) ?_
            refine nq_sub hx hb dX2_addLamp_121 (by omega) ?_
            exact retM_i (E := E) (A0 := A) (v := (nI ((n + 1) - 1))) (post := fun r _ => r = (nI n)) (u := ()) (W1 := fun _ => wM E b (nI 0) (n + 1) lim (up2 (up2 (up2 (up2 F n 2 k) n 0 v) n 4 u) n 1 z) (NW t (up2 (up2 (up2 (up2 F n 2 k) n 0 v) n 4 u) n 1 z)) kp) hx hb hr hlocks hP hK hD hS (congrArg nI (by omega)) dX2_addLamp_122
          · skip
            exact absurd h56 (by omega)
        · skip
          exact absurd h41 (by decide)

set_option maxHeartbeats 4000000 in
set_option maxRecDepth 100000 in
/-- X2_addLamp, refused -/
theorem c_X2_addLamp_y (l : Launch) (E : GE) (sz : Nat) (b : Nat → Nat) (th : Int32) (n lim t : Nat) (F : LR) (kp : Nat → Int32) (hO : OkS n t lim F) (k v u z : Nat) (hc9 : k ≤ 5) (hp9 : 2 ≤ v ∧ v ≤ 20) (hl9 : 1 ≤ u ∧ u < v) (hw9 : 1 ≤ z ∧ z ≤ 9) (hn9 : n = 8) : Met l yX2_addLamp wsX2_addLamp ({ frames := 2, cells := 0, slots := 0, locals := 42 } : Room) (va_Pc [.ref (b 0), .int (nI k), .int (nI v), .int (nI u), .int (nI z)] (pcM E (wM E b th n lim F (NW t F) kp) sz)) (va_Qi (S := Unit) (fun r _ => r = nI 0) (fun uQ tQ => atM E (va_A (wM E b th n lim F (NW t F) kp) sz) ((fun _ => wM E b (nI 2) n lim F (NW t F) kp) uQ) tQ) (va_A (wM E b th n lim F (NW t F) kp) sz)) 0 0 (va_A (wM E b th n lim F (NW t F) kp) sz) := by
  refine metM (by decide) rfl (Nat.le_of_ble_eq_true rfl) ?_
  intro p e s m args below meth c ls A hAe hA hx hb hr hml hts hown hlocks hin hP hK hD hS hl
  rw [hAe]
  have hiX2 : ∀ q ∈ wsX20, q ∈ wsX2_addLamp := by decide +kernel
  obtain ⟨hO1, hO2, hO3, hO4, hO5⟩ := id hO
  refine lv_aload_n hx hb dX2_addLamp_0 rfl (lv_at hl 0 rfl) ?_
  refine lv_iconst (v := (nI 0)) hx hb dX2_addLamp_1 (by decide) ?_
  refine va_put (D := E.1) (ci := 3) (v := .int (nI 0)) (ty := .int) (C := RX2) (T := TX2) (N := 10) hx hb hts hiX2 tyX2 tyX2_ok nmX2 hown hK hP hD hS 0 rfl rfl 0 (by decide) (hts (.fieldLink RX2 35 "PulseLoomModel" "thrown" "I") (List.mem_of_getElem? (i := 1) (by rfl))) (fun _ h9 => h9) rfl (by decide +kernel) rfl (by rfl) (Nat.le_of_ble_eq_true rfl) dX2_addLamp_2 (fun H locs hP hD hS => ?_)
  have hP : va_P E.1 vwCl (wM E b (nI 0) n lim F (NW t F) kp) H := hP
  have hD : va_D A (wM E b (nI 0) n lim F (NW t F) kp) := hD
  refine lv_iload_n hx hb dX2_addLamp_5 rfl (lv_at hl 1 rfl) ?_
  refine csS_i (rest := []) (As := [.int (nI k)]) ⟨hx, hb, hml, hown, hts⟩ (c_X2_isColour l E _ (nI k)) (va_cwS 1 hts gX2_addLamp_X2_isColour rfl rfl rfl (by decide +kernel) ⟨Nat.le_of_ble_eq_true rfl, Nat.le_of_ble_eq_true rfl⟩) hP hK rfl hl.1 rfl (Nat.le_of_ble_eq_true rfl) dX2_addLamp_6 (Nat.le_of_ble_eq_true rfl) (Nat.le_of_ble_eq_true rfl) (fun r6 hr6 => ?_)
  subst hr6
  refine nq_top (show (bI (inB (nI k) (nI 0) (nI 5))) = (bI true) from congrArg bI (inB_t (by omega) (by omega))) ?_
  refine bq_if_eq (tgt := 44) hx hb dX2_addLamp_9 (by decide) (fun h9 => ?_) (fun h9 => ?_)
  · skip
    exact absurd h9 (by decide)
  · skip
    refine lv_iload_n hx hb dX2_addLamp_12 rfl (lv_at hl 2 rfl) ?_
    refine lv_iconst (v := (nI 2)) hx hb dX2_addLamp_13 (by decide) ?_
    refine lv_bipush (v := (nI 20)) hx hb dX2_addLamp_14 (by decide) ?_
    refine csS_i (rest := []) (As := [.int (nI v), .int (nI 2), .int (nI 20)]) ⟨hx, hb, hml, hown, hts⟩ (c_X2_isIn l E _ (nI v) (nI 2) (nI 20)) (va_cwS 3 hts gX2_addLamp_X2_isIn rfl rfl rfl (by decide +kernel) ⟨Nat.le_of_ble_eq_true rfl, Nat.le_of_ble_eq_true rfl⟩) hP hK rfl hl.1 rfl (Nat.le_of_ble_eq_true rfl) dX2_addLamp_16 (Nat.le_of_ble_eq_true rfl) (Nat.le_of_ble_eq_true rfl) (fun r16 hr16 => ?_)
    subst hr16
    refine nq_top (show (bI (inB (nI v) (nI 2) (nI 20))) = (bI true) from congrArg bI (inB_t (by omega) (by omega))) ?_
    refine bq_if_eq (tgt := 44) hx hb dX2_addLamp_19 (by decide) (fun h19 => ?_) (fun h19 => ?_)
    · skip
      exact absurd h19 (by decide)
    · skip
      refine lv_iload_n hx hb dX2_addLamp_22 rfl (lv_at hl 3 rfl) ?_
      refine lv_iconst (v := (nI 1)) hx hb dX2_addLamp_23 (by decide) ?_
      refine lv_iload_n hx hb dX2_addLamp_24 rfl (lv_at hl 2 rfl) ?_
      refine lv_iconst (v := (nI 1)) hx hb dX2_addLamp_25 (by decide) ?_
      refine nq_sub hx hb dX2_addLamp_26 (by omega) ?_
      refine csS_i (rest := []) (As := [.int (nI u), .int (nI 1), .int (nI (v - 1))]) ⟨hx, hb, hml, hown, hts⟩ (c_X2_isIn l E _ (nI u) (nI 1) (nI (v - 1))) (va_cwS 3 hts gX2_addLamp_X2_isIn rfl rfl rfl (by decide +kernel) ⟨Nat.le_of_ble_eq_true rfl, Nat.le_of_ble_eq_true rfl⟩) hP hK rfl hl.1 rfl (Nat.le_of_ble_eq_true rfl) dX2_addLamp_27 (Nat.le_of_ble_eq_true rfl) (Nat.le_of_ble_eq_true rfl) (fun r27 hr27 => ?_)
      subst hr27
      refine nq_top (show (bI (inB (nI u) (nI 1) (nI (v - 1)))) = (bI true) from congrArg bI (inB_t (by omega) (by omega))) ?_
      refine bq_if_eq (tgt := 44) hx hb dX2_addLamp_30 (by decide) (fun h30 => ?_) (fun h30 => ?_)
      · skip
        exact absurd h30 (by decide)
      · skip
        refine lv_iload hx hb dX2_addLamp_33 (lv_at hl 4 rfl) ?_
        refine lv_iconst (v := (nI 1)) hx hb dX2_addLamp_35 (by decide) ?_
        refine lv_bipush (v := (nI 9)) hx hb dX2_addLamp_36 (by decide) ?_
        refine csS_i (rest := []) (As := [.int (nI z), .int (nI 1), .int (nI 9)]) ⟨hx, hb, hml, hown, hts⟩ (c_X2_isIn l E _ (nI z) (nI 1) (nI 9)) (va_cwS 3 hts gX2_addLamp_X2_isIn rfl rfl rfl (by decide +kernel) ⟨Nat.le_of_ble_eq_true rfl, Nat.le_of_ble_eq_true rfl⟩) hP hK rfl hl.1 rfl (Nat.le_of_ble_eq_true rfl) dX2_addLamp_38 (Nat.le_of_ble_eq_true rfl) (Nat.le_of_ble_eq_true rfl) (fun r38 hr38 => ?_)
        subst hr38
        refine nq_top (show (bI (inB (nI z) (nI 1) (nI 9))) = (bI true) from congrArg bI (inB_t (by omega) (by omega))) ?_
        refine bq_if_ne (tgt := 50) hx hb dX2_addLamp_41 (by decide) (fun h41 => ?_) (fun h41 => ?_)
        · skip
          refine lv_aload_n hx hb dX2_addLamp_50 rfl (lv_at hl 0 rfl) ?_
          refine va_get (D := E.1) (ci := 3) (v := .int (nI n)) (C := RX2) (T := TX2) (N := 10) hx hb hts hiX2 hown hK hP 0 rfl rfl 1 (by decide) (hts (.fieldLink RX2 38 "PulseLoomModel" "lamps" "I") (List.mem_of_getElem? (i := 2) (by rfl))) (fun _ h9 => h9) rfl dX2_addLamp_51 ?_
          refine lv_bipush (v := (nI 8)) hx hb dX2_addLamp_54 (by decide) ?_
          refine nq_icmp_ne (tgt := 65) hx hb dX2_addLamp_56 (by decide) (by omega) (by omega) (fun h56 => ?_) (fun h56 => ?_)
          · skip
            exact absurd hn9 h56
          · skip
            refine lv_aload_n hx hb dX2_addLamp_59 rfl (lv_at hl 0 rfl) ?_
            refine lv_iconst (v := (nI 2)) hx hb dX2_addLamp_60 (by decide) ?_
            refine cmV_i (rest := []) (As := [.int (nI 2)]) ⟨hx, hb, hml, hown, hts⟩ (c_X2_no l E _ b (nI 0) n lim t F kp (nI 2)) (cwV 1 hts gX2_addLamp_X2_no rfl rfl rfl (by decide +kernel) ⟨Nat.le_of_ble_eq_true rfl, Nat.le_of_ble_eq_true rfl⟩) (va_recv hK hP (ci := 3) (q0 := 0) rfl rfl) hP hK hD hS hA rfl hl.1 rfl (Nat.le_of_ble_eq_true rfl) dX2_addLamp_61 ⟨Nat.le_of_ble_eq_true rfl, Nat.le_of_ble_eq_true rfl⟩ (fun r61 u61 H locs hr61 hP hD hS => ?_)
            subst hr61
            exact retM_i (E := E) (A0 := A) (v := (nI 0)) (post := fun r _ => r = nI 0) (u := ()) (W1 := fun _ => wM E b (nI 2) n lim F (NW t F) kp) hx hb hr hlocks hP hK hD hS (rfl) dX2_addLamp_64
        · skip
          exact absurd h41 (by decide)

set_option maxHeartbeats 4000000 in
set_option maxRecDepth 100000 in
/-- X2_addLamp, refused -/
theorem c_X2_addLamp_x (l : Launch) (E : GE) (sz : Nat) (b : Nat → Nat) (th : Int32) (n lim t : Nat) (F : LR) (kp : Nat → Int32) (hO : OkS n t lim F) (x1 x2 x3 x4 : Int32) (hx9 : (inB x1 (nI 0) (nI 5) && inB x2 (nI 2) (nI 20) && inB x3 (nI 1) (x2 - nI 1) && inB x4 (nI 1) (nI 9)) = false) : Met l yX2_addLamp wsX2_addLamp ({ frames := 2, cells := 0, slots := 0, locals := 42 } : Room) (va_Pc [.ref (b 0), .int x1, .int x2, .int x3, .int x4] (pcM E (wM E b th n lim F (NW t F) kp) sz)) (va_Qi (S := Unit) (fun r _ => r = nI 0) (fun uQ tQ => atM E (va_A (wM E b th n lim F (NW t F) kp) sz) ((fun _ => wM E b (nI 1) n lim F (NW t F) kp) uQ) tQ) (va_A (wM E b th n lim F (NW t F) kp) sz)) 0 0 (va_A (wM E b th n lim F (NW t F) kp) sz) := by
  refine metM (by decide) rfl (Nat.le_of_ble_eq_true rfl) ?_
  intro p e s m args below meth c ls A hAe hA hx hb hr hml hts hown hlocks hin hP hK hD hS hl
  rw [hAe]
  have hiX2 : ∀ q ∈ wsX20, q ∈ wsX2_addLamp := by decide +kernel
  obtain ⟨hO1, hO2, hO3, hO4, hO5⟩ := id hO
  refine lv_aload_n hx hb dX2_addLamp_0 rfl (lv_at hl 0 rfl) ?_
  refine lv_iconst (v := (nI 0)) hx hb dX2_addLamp_1 (by decide) ?_
  refine va_put (D := E.1) (ci := 3) (v := .int (nI 0)) (ty := .int) (C := RX2) (T := TX2) (N := 10) hx hb hts hiX2 tyX2 tyX2_ok nmX2 hown hK hP hD hS 0 rfl rfl 0 (by decide) (hts (.fieldLink RX2 35 "PulseLoomModel" "thrown" "I") (List.mem_of_getElem? (i := 1) (by rfl))) (fun _ h9 => h9) rfl (by decide +kernel) rfl (by rfl) (Nat.le_of_ble_eq_true rfl) dX2_addLamp_2 (fun H locs hP hD hS => ?_)
  have hP : va_P E.1 vwCl (wM E b (nI 0) n lim F (NW t F) kp) H := hP
  have hD : va_D A (wM E b (nI 0) n lim F (NW t F) kp) := hD
  refine lv_iload_n hx hb dX2_addLamp_5 rfl (lv_at hl 1 rfl) ?_
  refine csS_i (rest := []) (As := [.int x1]) ⟨hx, hb, hml, hown, hts⟩ (c_X2_isColour l E _ x1) (va_cwS 1 hts gX2_addLamp_X2_isColour rfl rfl rfl (by decide +kernel) ⟨Nat.le_of_ble_eq_true rfl, Nat.le_of_ble_eq_true rfl⟩) hP hK rfl hl.1 rfl (Nat.le_of_ble_eq_true rfl) dX2_addLamp_6 (Nat.le_of_ble_eq_true rfl) (Nat.le_of_ble_eq_true rfl) (fun r6 hr6 => ?_)
  subst hr6
  refine bq_if_eq (tgt := 44) hx hb dX2_addLamp_9 (by decide) (fun h9 => ?_) (fun h9 => ?_)
  · skip
    refine lv_aload_n hx hb dX2_addLamp_44 rfl (lv_at hl 0 rfl) ?_
    refine lv_iconst (v := (nI 1)) hx hb dX2_addLamp_45 (by decide) ?_
    refine cmV_i (rest := []) (As := [.int (nI 1)]) ⟨hx, hb, hml, hown, hts⟩ (c_X2_no l E _ b (nI 0) n lim t F kp (nI 1)) (cwV 1 hts gX2_addLamp_X2_no rfl rfl rfl (by decide +kernel) ⟨Nat.le_of_ble_eq_true rfl, Nat.le_of_ble_eq_true rfl⟩) (va_recv hK hP (ci := 3) (q0 := 0) rfl rfl) hP hK hD hS hA rfl hl.1 rfl (Nat.le_of_ble_eq_true rfl) dX2_addLamp_46 ⟨Nat.le_of_ble_eq_true rfl, Nat.le_of_ble_eq_true rfl⟩ (fun r46 u46 H locs hr46 hP hD hS => ?_)
    subst hr46
    exact retM_i (E := E) (A0 := A) (v := (nI 0)) (post := fun r _ => r = nI 0) (u := ()) (W1 := fun _ => wM E b (nI 1) n lim F (NW t F) kp) hx hb hr hlocks hP hK hD hS (rfl) dX2_addLamp_49
  · skip
    refine lv_iload_n hx hb dX2_addLamp_12 rfl (lv_at hl 2 rfl) ?_
    refine lv_iconst (v := (nI 2)) hx hb dX2_addLamp_13 (by decide) ?_
    refine lv_bipush (v := (nI 20)) hx hb dX2_addLamp_14 (by decide) ?_
    refine csS_i (rest := []) (As := [.int x2, .int (nI 2), .int (nI 20)]) ⟨hx, hb, hml, hown, hts⟩ (c_X2_isIn l E _ x2 (nI 2) (nI 20)) (va_cwS 3 hts gX2_addLamp_X2_isIn rfl rfl rfl (by decide +kernel) ⟨Nat.le_of_ble_eq_true rfl, Nat.le_of_ble_eq_true rfl⟩) hP hK rfl hl.1 rfl (Nat.le_of_ble_eq_true rfl) dX2_addLamp_16 (Nat.le_of_ble_eq_true rfl) (Nat.le_of_ble_eq_true rfl) (fun r16 hr16 => ?_)
    subst hr16
    refine bq_if_eq (tgt := 44) hx hb dX2_addLamp_19 (by decide) (fun h19 => ?_) (fun h19 => ?_)
    · skip
      refine lv_aload_n hx hb dX2_addLamp_44 rfl (lv_at hl 0 rfl) ?_
      refine lv_iconst (v := (nI 1)) hx hb dX2_addLamp_45 (by decide) ?_
      refine cmV_i (rest := []) (As := [.int (nI 1)]) ⟨hx, hb, hml, hown, hts⟩ (c_X2_no l E _ b (nI 0) n lim t F kp (nI 1)) (cwV 1 hts gX2_addLamp_X2_no rfl rfl rfl (by decide +kernel) ⟨Nat.le_of_ble_eq_true rfl, Nat.le_of_ble_eq_true rfl⟩) (va_recv hK hP (ci := 3) (q0 := 0) rfl rfl) hP hK hD hS hA rfl hl.1 rfl (Nat.le_of_ble_eq_true rfl) dX2_addLamp_46 ⟨Nat.le_of_ble_eq_true rfl, Nat.le_of_ble_eq_true rfl⟩ (fun r46 u46 H locs hr46 hP hD hS => ?_)
      subst hr46
      exact retM_i (E := E) (A0 := A) (v := (nI 0)) (post := fun r _ => r = nI 0) (u := ()) (W1 := fun _ => wM E b (nI 1) n lim F (NW t F) kp) hx hb hr hlocks hP hK hD hS (rfl) dX2_addLamp_49
    · skip
      refine lv_iload_n hx hb dX2_addLamp_22 rfl (lv_at hl 3 rfl) ?_
      refine lv_iconst (v := (nI 1)) hx hb dX2_addLamp_23 (by decide) ?_
      refine lv_iload_n hx hb dX2_addLamp_24 rfl (lv_at hl 2 rfl) ?_
      refine lv_iconst (v := (nI 1)) hx hb dX2_addLamp_25 (by decide) ?_
      refine lv_isub hx hb dX2_addLamp_26 ?_
      refine csS_i (rest := []) (As := [.int x3, .int (nI 1), .int (x2 - (nI 1))]) ⟨hx, hb, hml, hown, hts⟩ (c_X2_isIn l E _ x3 (nI 1) (x2 - (nI 1))) (va_cwS 3 hts gX2_addLamp_X2_isIn rfl rfl rfl (by decide +kernel) ⟨Nat.le_of_ble_eq_true rfl, Nat.le_of_ble_eq_true rfl⟩) hP hK rfl hl.1 rfl (Nat.le_of_ble_eq_true rfl) dX2_addLamp_27 (Nat.le_of_ble_eq_true rfl) (Nat.le_of_ble_eq_true rfl) (fun r27 hr27 => ?_)
      subst hr27
      refine bq_if_eq (tgt := 44) hx hb dX2_addLamp_30 (by decide) (fun h30 => ?_) (fun h30 => ?_)
      · skip
        refine lv_aload_n hx hb dX2_addLamp_44 rfl (lv_at hl 0 rfl) ?_
        refine lv_iconst (v := (nI 1)) hx hb dX2_addLamp_45 (by decide) ?_
        refine cmV_i (rest := []) (As := [.int (nI 1)]) ⟨hx, hb, hml, hown, hts⟩ (c_X2_no l E _ b (nI 0) n lim t F kp (nI 1)) (cwV 1 hts gX2_addLamp_X2_no rfl rfl rfl (by decide +kernel) ⟨Nat.le_of_ble_eq_true rfl, Nat.le_of_ble_eq_true rfl⟩) (va_recv hK hP (ci := 3) (q0 := 0) rfl rfl) hP hK hD hS hA rfl hl.1 rfl (Nat.le_of_ble_eq_true rfl) dX2_addLamp_46 ⟨Nat.le_of_ble_eq_true rfl, Nat.le_of_ble_eq_true rfl⟩ (fun r46 u46 H locs hr46 hP hD hS => ?_)
        subst hr46
        exact retM_i (E := E) (A0 := A) (v := (nI 0)) (post := fun r _ => r = nI 0) (u := ()) (W1 := fun _ => wM E b (nI 1) n lim F (NW t F) kp) hx hb hr hlocks hP hK hD hS (rfl) dX2_addLamp_49
      · skip
        refine lv_iload hx hb dX2_addLamp_33 (lv_at hl 4 rfl) ?_
        refine lv_iconst (v := (nI 1)) hx hb dX2_addLamp_35 (by decide) ?_
        refine lv_bipush (v := (nI 9)) hx hb dX2_addLamp_36 (by decide) ?_
        refine csS_i (rest := []) (As := [.int x4, .int (nI 1), .int (nI 9)]) ⟨hx, hb, hml, hown, hts⟩ (c_X2_isIn l E _ x4 (nI 1) (nI 9)) (va_cwS 3 hts gX2_addLamp_X2_isIn rfl rfl rfl (by decide +kernel) ⟨Nat.le_of_ble_eq_true rfl, Nat.le_of_ble_eq_true rfl⟩) hP hK rfl hl.1 rfl (Nat.le_of_ble_eq_true rfl) dX2_addLamp_38 (Nat.le_of_ble_eq_true rfl) (Nat.le_of_ble_eq_true rfl) (fun r38 hr38 => ?_)
        subst hr38
        refine bq_if_ne (tgt := 50) hx hb dX2_addLamp_41 (by decide) (fun h41 => ?_) (fun h41 => ?_)
        · skip
          exact absurd hx9 (by rw [h9, h19, h30, h41]; decide)
        · skip
          refine lv_aload_n hx hb dX2_addLamp_44 rfl (lv_at hl 0 rfl) ?_
          refine lv_iconst (v := (nI 1)) hx hb dX2_addLamp_45 (by decide) ?_
          refine cmV_i (rest := []) (As := [.int (nI 1)]) ⟨hx, hb, hml, hown, hts⟩ (c_X2_no l E _ b (nI 0) n lim t F kp (nI 1)) (cwV 1 hts gX2_addLamp_X2_no rfl rfl rfl (by decide +kernel) ⟨Nat.le_of_ble_eq_true rfl, Nat.le_of_ble_eq_true rfl⟩) (va_recv hK hP (ci := 3) (q0 := 0) rfl rfl) hP hK hD hS hA rfl hl.1 rfl (Nat.le_of_ble_eq_true rfl) dX2_addLamp_46 ⟨Nat.le_of_ble_eq_true rfl, Nat.le_of_ble_eq_true rfl⟩ (fun r46 u46 H locs hr46 hP hD hS => ?_)
          subst hr46
          exact retM_i (E := E) (A0 := A) (v := (nI 0)) (post := fun r _ => r = nI 0) (u := ()) (W1 := fun _ => wM E b (nI 1) n lim F (NW t F) kp) hx hb hr hlocks hP hK hD hS (rfl) dX2_addLamp_49

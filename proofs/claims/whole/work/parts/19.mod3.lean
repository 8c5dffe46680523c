/-! the reference's cells as they change: a beat gone by, looking ahead -/
theorem step_okk {F : LR} {n now lim : Nat} (h : OkS n now lim F) (b k : Nat) (hk : k ≤ n) (hn : now < 100000000) : OkS n (now + 1) lim (stepF F lim b k) := by
  obtain ⟨h1, h2, h3, h4, h5⟩ := h
  refine ⟨h1, by omega, h3, fun i hi => ?_, fun i hi q => ?_⟩
  · have h6 := h4 i hi
    rw [stepF_q (q := 0) (by decide) (by decide), stepF_q (q := 1) (by decide) (by decide), stepF_q (q := 2) (by decide) (by decide), stepF_q (q := 3) (by decide) (by decide), stepF_q (q := 4) (by decide) (by decide)]
    have h7 : stepF F lim b k i 5 + stepF F lim b k i 6 ≤ F i 5 + F i 6 + 1 := by
      unfold stepF
      by_cases hik : i < k
      · simp only [hik, true_and, if_true, if_false, show ¬ (6 : Nat) = 5 by decide]
        cases litS F lim b i <;> cases due F i b <;> simp <;> omega
      · simp [hik]
    omega
  · unfold stepF
    rw [if_neg (by omega), if_neg (by omega)]
    exact h5 i hi q
theorem OkS_mono {F : LR} {n now now' lim : Nat} (h : OkS n now lim F) (h1 : now ≤ now') (h2 : now' ≤ 100000000) : OkS n now' lim F := ⟨h.1, h2, h.2.2.1, fun i hi => by have := h.2.2.2.1 i hi; omega, h.2.2.2.2⟩
theorem OkS_lim {F : LR} {n now lim l2 : Nat} (h : OkS n now lim F) (h1 : l2 ≤ 99) : OkS n now l2 F := ⟨h.1, h.2.1, h1, h.2.2.2⟩
theorem wM_F {E : GE} {b : Nat → Nat} {th : Int32} {n lim : Nat} {F G : LR} {fn kp : Nat → Int32} (h : ∀ j q, q < 5 → F j q = G j q) : wM E b th n lim F fn kp = wM E b th n lim G fn kp := by
  unfold wM
  have e0 : (fun j => nI (F j 0)) = (fun j => nI (G j 0)) := funext fun j => by rw [h j 0 (by decide)]
  have e1 : (fun j => nI (F j 1)) = (fun j => nI (G j 1)) := funext fun j => by rw [h j 1 (by decide)]
  have e2 : (fun j => nI (F j 2)) = (fun j => nI (G j 2)) := funext fun j => by rw [h j 2 (by decide)]
  have e3 : (fun j => nI (F j 3)) = (fun j => nI (G j 3)) := funext fun j => by rw [h j 3 (by decide)]
  have e4 : (fun j => nI (F j 4)) = (fun j => nI (G j 4)) := funext fun j => by rw [h j 4 (by decide)]
  rw [e0, e1, e2, e3, e4]
theorem wM_st {E : GE} {b : Nat → Nat} {th : Int32} {n lim lm t k k' : Nat} {F : LR} {fn kp : Nat → Int32} : wM E b th n lim (stepF F lm t k) fn kp = wM E b th n lim (stepF F lm t k') fn kp := wM_F (fun j q hq => by rw [stepF_q (by omega) (by omega), stepF_q (by omega) (by omega)])
theorem wM_pa {E : GE} {b : Nat → Nat} {th : Int32} {n lim lm t n' k : Nat} {F : LR} {fn kp : Nat → Int32} : wM E b th n lim (passF F lm t n' k) fn kp = wM E b th n lim F fn kp := wM_F (fun j q hq => pass_q (by omega) (by omega) k)
theorem NW_up5 {t k v : Nat} {F G : LR} (hk : k < 8) (h5 : ∀ j, G j 5 = if j = k then v else F j 5) (h6 : ∀ j, G j 6 = F j 6) : upd (NW t F) ((nI (1 + k)).toNatClampNeg) (nI v) = NW t G := by
  rw [nI_clamp (by omega)]
  funext j
  unfold upd NW
  by_cases hj : j = 1 + k
  · rw [if_pos hj, if_neg (by omega), if_pos (by omega), h5, if_pos (by omega)]
  · rw [if_neg hj]
    by_cases h0 : j = 0
    · rw [if_pos h0, if_pos h0]
    · rw [if_neg h0, if_neg h0]
      by_cases h9 : j < 9
      · rw [if_pos h9, if_pos h9, h5, if_neg (by omega)]
      · rw [if_neg h9, if_neg h9, h6]
theorem NW_up6 {t k v : Nat} {F G : LR} (hk : k < 8) (h6 : ∀ j, G j 6 = if j = k then v else F j 6) (h5 : ∀ j, G j 5 = F j 5) : upd (NW t F) ((nI (9 + k)).toNatClampNeg) (nI v) = NW t G := by
  rw [nI_clamp (by omega)]
  funext j
  unfold upd NW
  by_cases hj : j = 9 + k
  · rw [if_pos hj, if_neg (by omega), if_neg (by omega), h6, if_pos (by omega)]
  · rw [if_neg hj]
    by_cases h0 : j = 0
    · rw [if_pos h0, if_pos h0]
    · rw [if_neg h0, if_neg h0]
      by_cases h9 : j < 9
      · rw [if_pos h9, if_pos h9, h5]
      · rw [if_neg h9, if_neg h9, h6, if_neg (by omega)]
theorem NW_up0 {t v : Nat} {F : LR} : upd (NW t F) ((nI 0).toNatClampNeg) (nI v) = NW v F := by
  rw [nI_clamp (by omega)]
  funext j
  unfold upd NW
  by_cases h0 : j = 0
  · rw [if_pos h0, if_pos h0]
  · rw [if_neg h0, if_neg h0, if_neg h0]
theorem wM_lit {E : GE} {b : Nat → Nat} {th : Int32} {n lim lm t k : Nat} {F : LR} {kp : Nat → Int32} (h : litS F lm t k = true) (hk : k < 8) : wM E b th n lim (stepF F lm t k) (upd (NW t (stepF F lm t k)) ((nI (1 + k)).toNatClampNeg) (nI (stepF F lm t k k 5 + 1))) kp = wM E b th n lim (stepF F lm t (k + 1)) (NW t (stepF F lm t (k + 1))) kp := by
  rw [NW_up5 (G := stepF F lm t (k + 1)) hk, wM_st (k' := k + 1)]
  · intro j
    rw [← stepF_lit h]
    simp [up2]
  · intro j
    rw [← stepF_lit h]
    simp [up2]
theorem wM_dark {E : GE} {b : Nat → Nat} {th : Int32} {n lim lm t k : Nat} {F : LR} {kp : Nat → Int32} (h : litS F lm t k = false) (hd : due F k t = true) (hk : k < 8) : wM E b th n lim (stepF F lm t k) (upd (NW t (stepF F lm t k)) ((nI (9 + k)).toNatClampNeg) (nI (stepF F lm t k k 6 + 1))) kp = wM E b th n lim (stepF F lm t (k + 1)) (NW t (stepF F lm t (k + 1))) kp := by
  rw [NW_up6 (G := stepF F lm t (k + 1)) hk, wM_st (k' := k + 1)]
  · intro j
    rw [← stepF_dark h hd]
    simp [up2]
  · intro j
    rw [← stepF_dark h hd]
    simp [up2]
theorem cpy_back {t t2 : Nat} {F G : LR} {kp : Nat → Int32} (h : ∀ j, 8 ≤ j → G j 6 = F j 6) : va_cpy (va_cpy (NW t F) kp 0 0 17) (NW t2 G) 0 0 17 = NW t F := by
  funext j
  unfold va_cpy
  by_cases hj : j < 17
  · rw [if_pos (by omega), if_pos (by omega), show 0 + (0 + (j - 0) - 0) = j by omega]
  · rw [if_neg (by omega)]
    unfold NW
    rw [if_neg (by omega), if_neg (by omega), if_neg (by omega), if_neg (by omega), h (j - 9) (by omega)]
theorem acS_99 {n now lim : Nat} {F : LR} (h : OkS n now lim F) (b : Nat) : ∀ k, k ≤ n → acS F 99 b k = dpS F b k
  | 0, _ => rfl
  | k + 1, hk => by
    have h1 := acS_99 h b k (by omega)
    have h2 := dpS_le h b k (by omega)
    have h3 := h.2.2.2.1 k (by omega)
    have h4 := h.1
    rw [acS_s, dpS_s]
    have e : litS F 99 b k = due F k b := by
      unfold litS
      rw [decide_eq_true (show acS F 99 b k + F k 1 ≤ 99 by omega), Bool.and_true]
    rw [e, h1]
    cases due F k b <;> rfl
theorem mxA_99 {n now lim : Nat} {F : LR} (h : OkS n now lim F) (b : Nat) : ∀ k, mxA F 99 b n k = mxD F b n k
  | 0 => rfl
  | k + 1 => by
    rw [mxA_s, mxD_s, mxA_99 h b k, acS_99 h (b + k) n (Nat.le_refl _)]
theorem drk_and {F : LR} {lim b k : Nat} : drkS F lim b (k + 1) = (drkS F lim b k || (due F k b && !litS F lim b k)) := rfl

set_option maxHeartbeats 4000000 in
set_option maxRecDepth 100000 in
/-- no(x) -/
theorem c_X2_no (l : Launch) (E : GE) (sz : Nat) (b : Nat → Nat) (th : Int32) (n lim t : Nat) (F : LR) (kp : Nat → Int32) (x : Int32) : Met l yX2_no wsX2_no ({ frames := 0, cells := 0, slots := 0, locals := 0 } : Room) (va_Pc [.ref (b 0), .int x] (pcM E (wM E b th n lim F (NW t F) kp) sz)) (va_Qi (S := Unit) (fun r _ => r = nI 0) (fun uQ tQ => atM E (va_A (wM E b th n lim F (NW t F) kp) sz) ((fun _ => wM E b x n lim F (NW t F) kp) uQ) tQ) (va_A (wM E b th n lim F (NW t F) kp) sz)) 0 0 (va_A (wM E b th n lim F (NW t F) kp) sz) := by
  refine metM (by decide) rfl (Nat.le_of_ble_eq_true rfl) ?_
  intro p e s m args below meth c ls A hAe hA hx hb hr hml hts hown hlocks hin hP hK hD hS hl
  rw [hAe]
  have hiX2 : ∀ q ∈ wsX20, q ∈ wsX2_no := by decide +kernel
  refine lv_aload_n hx hb dX2_no_0 rfl (lv_at hl 0 rfl) ?_
  refine lv_iload_n hx hb dX2_no_1 rfl (lv_at hl 1 rfl) ?_
  refine va_put (D := E.1) (ci := 3) (v := .int x) (ty := .int) (C := RX2) (T := TX2) (N := 10) hx hb hts hiX2 tyX2 tyX2_ok nmX2 hown hK hP hD hS 0 rfl rfl 0 (by decide) (hts (.fieldLink RX2 35 "PulseLoomModel" "thrown" "I") (List.mem_of_getElem? (i := 1) (by rfl))) (fun _ h9 => h9) rfl (by decide +kernel) rfl (by rfl) (Nat.le_of_ble_eq_true rfl) dX2_no_2 (fun H locs hP hD hS => ?_)
  have hP : va_P E.1 vwCl (wM E b x n lim F (NW t F) kp) H := hP
  have hD : va_D A (wM E b x n lim F (NW t F) kp) := hD
  refine lv_iconst (v := (nI 0)) hx hb dX2_no_5 (by decide) ?_
  exact retM_i (E := E) (A0 := A) (v := (nI 0)) (post := fun r _ => r = nI 0) (u := ()) (W1 := fun _ => wM E b x n lim F (NW t F) kp) hx hb hr hlocks hP hK hD hS (rfl) dX2_no_6

set_option maxHeartbeats 4000000 in
set_option maxRecDepth 100000 in
/-- isNot(x) -/
theorem c_X2_isNot (l : Launch) (E : GE) (sz : Nat) (b : Nat → Nat) (th : Int32) (n lim t : Nat) (F : LR) (kp : Nat → Int32) (x : Int32) : Met l yX2_isNot wsX2_isNot ({ frames := 0, cells := 0, slots := 0, locals := 0 } : Room) (va_Pc [.ref (b 0), .int x] (pcM E (wM E b th n lim F (NW t F) kp) sz)) (va_Qi (S := Unit) (fun r _ => r = bI false) (fun uQ tQ => atM E (va_A (wM E b th n lim F (NW t F) kp) sz) ((fun _ => wM E b x n lim F (NW t F) kp) uQ) tQ) (va_A (wM E b th n lim F (NW t F) kp) sz)) 0 0 (va_A (wM E b th n lim F (NW t F) kp) sz) := by
  refine metM (by decide) rfl (Nat.le_of_ble_eq_true rfl) ?_
  intro p e s m args below meth c ls A hAe hA hx hb hr hml hts hown hlocks hin hP hK hD hS hl
  rw [hAe]
  have hiX2 : ∀ q ∈ wsX20, q ∈ wsX2_isNot := by decide +kernel
  refine lv_aload_n hx hb dX2_isNot_0 rfl (lv_at hl 0 rfl) ?_
  refine lv_iload_n hx hb dX2_isNot_1 rfl (lv_at hl 1 rfl) ?_
  refine va_put (D := E.1) (ci := 3) (v := .int x) (ty := .int) (C := RX2) (T := TX2) (N := 10) hx hb hts hiX2 tyX2 tyX2_ok nmX2 hown hK hP hD hS 0 rfl rfl 0 (by decide) (hts (.fieldLink RX2 35 "PulseLoomModel" "thrown" "I") (List.mem_of_getElem? (i := 1) (by rfl))) (fun _ h9 => h9) rfl (by decide +kernel) rfl (by rfl) (Nat.le_of_ble_eq_true rfl) dX2_isNot_2 (fun H locs hP hD hS => ?_)
  have hP : va_P E.1 vwCl (wM E b x n lim F (NW t F) kp) H := hP
  have hD : va_D A (wM E b x n lim F (NW t F) kp) := hD
  refine lv_iconst (v := (nI 0)) hx hb dX2_isNot_5 (by decide) ?_
  refine nq_top (show nI 0 = bI false from rfl) ?_
  exact retM_z (E := E) (A0 := A) (b := false) (post := fun r _ => r = bI false) (u := ()) (W1 := fun _ => wM E b x n lim F (NW t F) kp) hx hb hr hlocks hP hK hD hS (rfl) dX2_isNot_6

set_option maxHeartbeats 4000000 in
set_option maxRecDepth 100000 in
/-- ok(x) -/
theorem c_X2_ok (l : Launch) (E : GE) (sz : Nat) (b : Nat → Nat) (th : Int32) (n lim t : Nat) (F : LR) (kp : Nat → Int32) (x : Int32) : Met l yX2_ok wsX2_ok ({ frames := 0, cells := 0, slots := 0, locals := 0 } : Room) (va_Pc [.ref (b 0), .int x] (pcM E (wM E b th n lim F (NW t F) kp) sz)) (va_Qi (S := Unit) (fun r _ => r = x) (fun uQ tQ => atM E (va_A (wM E b th n lim F (NW t F) kp) sz) ((fun _ => wM E b (nI 0) n lim F (NW t F) kp) uQ) tQ) (va_A (wM E b th n lim F (NW t F) kp) sz)) 0 0 (va_A (wM E b th n lim F (NW t F) kp) sz) := by
  refine metM (by decide) rfl (Nat.le_of_ble_eq_true rfl) ?_
  intro p e s m args below meth c ls A hAe hA hx hb hr hml hts hown hlocks hin hP hK hD hS hl
  rw [hAe]
  have hiX2 : ∀ q ∈ wsX20, q ∈ wsX2_ok := by decide +kernel
  refine lv_aload_n hx hb dX2_ok_0 rfl (lv_at hl 0 rfl) ?_
  refine lv_iconst (v := (nI 0)) hx hb dX2_ok_1 (by decide) ?_
  refine va_put (D := E.1) (ci := 3) (v := .int (nI 0)) (ty := .int) (C := RX2) (T := TX2) (N := 10) hx hb hts hiX2 tyX2 tyX2_ok nmX2 hown hK hP hD hS 0 rfl rfl 0 (by decide) (hts (.fieldLink RX2 35 "PulseLoomModel" "thrown" "I") (List.mem_of_getElem? (i := 1) (by rfl))) (fun _ h9 => h9) rfl (by decide +kernel) rfl (by rfl) (Nat.le_of_ble_eq_true rfl) dX2_ok_2 (fun H locs hP hD hS => ?_)
  have hP : va_P E.1 vwCl (wM E b (nI 0) n lim F (NW t F) kp) H := hP
  have hD : va_D A (wM E b (nI 0) n lim F (NW t F) kp) := hD
  refine lv_iload_n hx hb dX2_ok_5 rfl (lv_at hl 1 rfl) ?_
  exact retM_i (E := E) (A0 := A) (v := x) (post := fun r _ => r = x) (u := ()) (W1 := fun _ => wM E b (nI 0) n lim F (NW t F) kp) hx hb hr hlocks hP hK hD hS (rfl) dX2_ok_6

set_option maxHeartbeats 4000000 in
set_option maxRecDepth 100000 in
/-- keep() -/
theorem c_X2_keep (l : Launch) (E : GE) (sz : Nat) (b : Nat → Nat) (th : Int32) (n lim t : Nat) (F : LR) (kp : Nat → Int32) : Met l yX2_keep wsX2_keep ({ frames := 1, cells := 0, slots := 0, locals := 40 } : Room) (va_Pc [.ref (b 0)] (pcM E (wM E b th n lim F (NW t F) kp) sz)) (va_Qv (S := Unit) (fun _ => True) (fun uQ tQ => atM E (va_A (wM E b th n lim F (NW t F) kp) sz) ((fun _ => wM E b th n lim F (NW t F) (va_cpy (NW t F) kp 0 0 17)) uQ) tQ) (va_A (wM E b th n lim F (NW t F) kp) sz)) 0 0 (va_A (wM E b th n lim F (NW t F) kp) sz) := by
  refine metM (by decide) rfl (Nat.le_of_ble_eq_true rfl) ?_
  intro p e s m args below meth c ls A hAe hA hx hb hr hml hts hown hlocks hin hP hK hD hS hl
  rw [hAe]
  have hiX2 : ∀ q ∈ wsX20, q ∈ wsX2_keep := by decide +kernel
  refine lv_aload_n hx hb dX2_keep_0 rfl (lv_at hl 0 rfl) ?_
  refine va_get (D := E.1) (ci := 3) (v := .ref (b 6)) (C := RX2) (T := TX2) (N := 10) hx hb hts hiX2 hown hK hP 0 rfl rfl 8 (by decide) (hts (.fieldLink RX2 29 "PulseLoomModel" "now" "[I") (List.mem_of_getElem? (i := 1) (by rfl))) (fun _ h9 => h9) rfl dX2_keep_1 ?_
  refine lv_iconst (v := (nI 0)) hx hb dX2_keep_4 (by decide) ?_
  refine lv_aload_n hx hb dX2_keep_5 rfl (lv_at hl 0 rfl) ?_
  refine va_get (D := E.1) (ci := 3) (v := .ref (b 7)) (C := RX2) (T := TX2) (N := 10) hx hb hts hiX2 hown hK hP 0 rfl rfl 9 (by decide) (hts (.fieldLink RX2 32 "PulseLoomModel" "kept" "[I") (List.mem_of_getElem? (i := 2) (by rfl))) (fun _ h9 => h9) rfl dX2_keep_6 ?_
  refine lv_iconst (v := (nI 0)) hx hb dX2_keep_9 (by decide) ?_
  refine lv_bipush (v := (nI 17)) hx hb dX2_keep_10 (by decide) ?_
  refine va_copyi hx hb (hml.trans hl.1.symm) hown (hts (.methodLink RX2 60 arraycopyName) (List.mem_of_getElem? (i := 3) (by rfl))) (hts (.native arraycopyName) (List.mem_of_getElem? (i := 4) (by rfl))) (hts (.static arraycopyName) (List.mem_of_getElem? (i := 5) (by rfl))) (hts (.initialized "java/lang/System") (List.mem_of_getElem? (i := 6) (by rfl))) hK hP hD hS 6 7 0 0 (ha0 := rfl) (ha1 := rfl) (ht0 := rfl) (ht1 := rfl) rfl (by decide) (by decide) (by decide) (by decide) (by decide) (fun _ _ => rfl) (Nat.le_of_ble_eq_true rfl) (Nat.le_of_ble_eq_true rfl) dX2_keep_12 (fun H locs hP hD hS => ?_)
  have hP : va_P E.1 vwCl (wM E b th n lim F (NW t F) (va_cpy (NW t F) kp (nI 0).toNatClampNeg (nI 0).toNatClampNeg (nI 17).toNatClampNeg)) H := hP
  have hD : va_D A (wM E b th n lim F (NW t F) (va_cpy (NW t F) kp (nI 0).toNatClampNeg (nI 0).toNatClampNeg (nI 17).toNatClampNeg)) := hD
  rw [show (nI 0).toNatClampNeg = 0 from rfl, show (nI 17).toNatClampNeg = 17 from rfl] at hP hD
  exact retM_v (E := E) (A0 := A) (post := fun _ => True) (u := ()) (W1 := fun _ => wM E b th n lim F (NW t F) (va_cpy (NW t F) kp 0 0 17)) hx hb hr hlocks hP hK hD hS (trivial) dX2_keep_15

set_option maxHeartbeats 4000000 in
set_option maxRecDepth 100000 in
/-- bringBack() -/
theorem c_X2_bringBack (l : Launch) (E : GE) (sz : Nat) (b : Nat → Nat) (th : Int32) (n lim : Nat) (F : LR) (fn kp : Nat → Int32) : Met l yX2_bringBack wsX2_bringBack ({ frames := 1, cells := 0, slots := 0, locals := 40 } : Room) (va_Pc [.ref (b 0)] (pcM E (wM E b th n lim F fn kp) sz)) (va_Qv (S := Unit) (fun _ => True) (fun uQ tQ => atM E (va_A (wM E b th n lim F fn kp) sz) ((fun _ => wM E b th n lim F (va_cpy kp fn 0 0 17) kp) uQ) tQ) (va_A (wM E b th n lim F fn kp) sz)) 0 0 (va_A (wM E b th n lim F fn kp) sz) := by
  refine metM (by decide) rfl (Nat.le_of_ble_eq_true rfl) ?_
  intro p e s m args below meth c ls A hAe hA hx hb hr hml hts hown hlocks hin hP hK hD hS hl
  rw [hAe]
  have hiX2 : ∀ q ∈ wsX20, q ∈ wsX2_bringBack := by decide +kernel
  refine lv_aload_n hx hb dX2_bringBack_0 rfl (lv_at hl 0 rfl) ?_
  refine va_get (D := E.1) (ci := 3) (v := .ref (b 7)) (C := RX2) (T := TX2) (N := 10) hx hb hts hiX2 hown hK hP 0 rfl rfl 9 (by decide) (hts (.fieldLink RX2 32 "PulseLoomModel" "kept" "[I") (List.mem_of_getElem? (i := 1) (by rfl))) (fun _ h9 => h9) rfl dX2_bringBack_1 ?_
  refine lv_iconst (v := (nI 0)) hx hb dX2_bringBack_4 (by decide) ?_
  refine lv_aload_n hx hb dX2_bringBack_5 rfl (lv_at hl 0 rfl) ?_
  refine va_get (D := E.1) (ci := 3) (v := .ref (b 6)) (C := RX2) (T := TX2) (N := 10) hx hb hts hiX2 hown hK hP 0 rfl rfl 8 (by decide) (hts (.fieldLink RX2 29 "PulseLoomModel" "now" "[I") (List.mem_of_getElem? (i := 2) (by rfl))) (fun _ h9 => h9) rfl dX2_bringBack_6 ?_
  refine lv_iconst (v := (nI 0)) hx hb dX2_bringBack_9 (by decide) ?_
  refine lv_bipush (v := (nI 17)) hx hb dX2_bringBack_10 (by decide) ?_
  refine va_copyi hx hb (hml.trans hl.1.symm) hown (hts (.methodLink RX2 60 arraycopyName) (List.mem_of_getElem? (i := 3) (by rfl))) (hts (.native arraycopyName) (List.mem_of_getElem? (i := 4) (by rfl))) (hts (.static arraycopyName) (List.mem_of_getElem? (i := 5) (by rfl))) (hts (.initialized "java/lang/System") (List.mem_of_getElem? (i := 6) (by rfl))) hK hP hD hS 7 6 0 0 (ha0 := rfl) (ha1 := rfl) (ht0 := rfl) (ht1 := rfl) rfl (by decide) (by decide) (by decide) (by decide) (by decide) (fun _ _ => rfl) (Nat.le_of_ble_eq_true rfl) (Nat.le_of_ble_eq_true rfl) dX2_bringBack_12 (fun H locs hP hD hS => ?_)
  have hP : va_P E.1 vwCl (wM E b th n lim F (va_cpy kp fn (nI 0).toNatClampNeg (nI 0).toNatClampNeg (nI 17).toNatClampNeg) kp) H := hP
  have hD : va_D A (wM E b th n lim F (va_cpy kp fn (nI 0).toNatClampNeg (nI 0).toNatClampNeg (nI 17).toNatClampNeg) kp) := hD
  rw [show (nI 0).toNatClampNeg = 0 from rfl, show (nI 17).toNatClampNeg = 17 from rfl] at hP hD
  exact retM_v (E := E) (A0 := A) (post := fun _ => True) (u := ()) (W1 := fun _ => wM E b th n lim F (va_cpy kp fn 0 0 17) kp) hx hb hr hlocks hP hK hD hS (trivial) dX2_bringBack_15

set_option maxHeartbeats 4000000 in
set_option maxRecDepth 100000 in
/-- beatOn() -/
theorem c_X2_beatOn (l : Launch) (E : GE) (sz : Nat) (b : Nat → Nat) (th : Int32) (n lim t : Nat) (F : LR) (kp : Nat → Int32) (hO : OkS n t lim F) (ht : t < 100000000) : Met l yX2_beatOn wsX2_beatOn ({ frames := 3, cells := 0, slots := 0, locals := 66 } : Room) (va_Pc [.ref (b 0)] (pcM E (wM E b th n lim F (NW t F) kp) sz)) (va_Qi (S := Unit) (fun r _ => r = nI ((drkS F lim t n).toNat)) (fun uQ tQ => atM E (va_A (wM E b th n lim F (NW t F) kp) sz) ((fun _ => wM E b th n lim (stepF F lim t n) (NW (t + 1) (stepF F lim t n)) kp) uQ) tQ) (va_A (wM E b th n lim F (NW t F) kp) sz)) 0 0 (va_A (wM E b th n lim F (NW t F) kp) sz) := by
  refine metM (by decide) rfl (Nat.le_of_ble_eq_true rfl) ?_
  intro p e s m args below meth c ls A hAe hA hx hb hr hml hts hown hlocks hin hP hK hD hS hl
  rw [hAe]
  have hiX2 : ∀ q ∈ wsX20, q ∈ wsX2_beatOn := by decide +kernel
  obtain ⟨QQ, hQ⟩ : ∃ zQ, zQ = MQ below (va_Qi (S := Unit) (fun r _ => r = nI ((drkS F lim t n).toNat)) (fun uQ tQ => atM E A ((fun _ => wM E b th n lim (stepF F lim t n) (NW (t + 1) (stepF F lim t n)) kp) uQ) tQ) A) args s 0 0 A := ⟨_, rfl⟩
  rw [← hQ]
  obtain ⟨hO1, hO2, hO3, hO4, hO5⟩ := id hO
  refine lv_aload_n hx hb dX2_beatOn_0 rfl (lv_at hl 0 rfl) ?_
  refine csV_i (rest := []) (As := []) ⟨hx, hb, hml, hown, hts⟩ (c_X2_shining l E _ b n lim t F t MV_self hO (Nat.le_refl _)) (cwV 0 hts gX2_beatOn_X2_shining rfl rfl rfl (by decide +kernel) ⟨Nat.le_of_ble_eq_true rfl, Nat.le_of_ble_eq_true rfl⟩) (va_recv hK hP (ci := 3) (q0 := 0) rfl rfl) hP hK rfl hl.1 rfl (Nat.le_of_ble_eq_true rfl) dX2_beatOn_1 (Nat.le_of_ble_eq_true rfl) (Nat.le_of_ble_eq_true rfl) (fun r1 hr1 => ?_)
  subst hr1
  refine lv_istore_n (lv' := [(1, .int (nI (shN F lim t n))), (0, .ref (b 0))]) hx hb dX2_beatOn_4 rfl hl (by decide) rfl (fun ls hl => ?_)
  refine lv_iconst (v := (nI 0)) hx hb dX2_beatOn_5 (by decide) ?_
  refine lv_istore_n (lv' := [(2, .int (nI 0)), (1, .int (nI (shN F lim t n))), (0, .ref (b 0))]) hx hb dX2_beatOn_6 rfl hl (by decide) rfl (fun ls hl => ?_)
  refine lv_iconst (v := (nI 0)) hx hb dX2_beatOn_7 (by decide) ?_
  refine lv_istore_n (lv' := [(3, .int (nI 0)), (2, .int (nI 0)), (1, .int (nI (shN F lim t n))), (0, .ref (b 0))]) hx hb dX2_beatOn_8 rfl hl (by decide) rfl (fun ls hl => ?_)
  have loop9 : ∀ (tk : Nat) (i : Nat) (H : Heap) (locs : List Loc) (ls : Array Slot), (i ≤ n) → (n - i) < tk → va_P E.1 vwCl (wM E b th n lim (stepF F lim t i) (NW t (stepF F lim t i)) kp) H → va_D A (wM E b th n lim (stepF F lim t i) (NW t (stepF F lim t i)) kp) → va_S A s.heap H locs → lv_has ls 5 [(0, .ref (b 0)), (1, .int (nI (shN F lim t n))), (2, .int (nI ((drkS F lim t i).toNat))), (3, .int (nI i))] → W p l e ({ frames := 3, cells := 0, slots := 0, locals := 66 } : Room) s m args below meth c H locs 0 0 QQ (F0 m 9 ls []) := by
    intro tk
    induction tk with
    | zero => intro i H locs ls hi hk hP hD hS hl; exact absurd hk (Nat.not_lt_zero _)
    | succ tk ih9 =>
      intro i H locs ls hi hk hP hD hS hl
      have hF5 : stepF F lim t i i 5 = F i 5 := stepF_at F lim t i 5
      have hF6 : stepF F lim t i i 6 = F i 6 := stepF_at F lim t i 6
      have htn : (litS F lim t i).toNat ≤ 1 := Bool.toNat_le _
      have hdn : (drkS F lim t i).toNat ≤ 1 := Bool.toNat_le _
      refine lv_iload_n hx hb dX2_beatOn_9 rfl (lv_at hl 3 rfl) ?_
      refine lv_aload_n hx hb dX2_beatOn_10 rfl (lv_at hl 0 rfl) ?_
      refine va_get (D := E.1) (ci := 3) (v := .int (nI n)) (C := RX2) (T := TX2) (N := 10) hx hb hts hiX2 hown hK hP 0 rfl rfl 1 (by decide) (hts (.fieldLink RX2 38 "PulseLoomModel" "lamps" "I") (List.mem_of_getElem? (i := 1) (by rfl))) (fun _ h9 => h9) rfl dX2_beatOn_11 ?_
      refine nq_icmp_ge (tgt := 81) hx hb dX2_beatOn_14 (by decide) (by omega) (by omega) (fun h14 => ?_) (fun h14 => ?_)
      · skip
        rw [show i = n by omega] at hP hD
        refine lv_aload_n hx hb dX2_beatOn_81 rfl (lv_at hl 0 rfl) ?_
        refine va_get (D := E.1) (ci := 3) (v := .ref (b 6)) (C := RX2) (T := TX2) (N := 10) hx hb hts hiX2 hown hK hP 0 rfl rfl 8 (by decide) (hts (.fieldLink RX2 29 "PulseLoomModel" "now" "[I") (List.mem_of_getElem? (i := 2) (by rfl))) (fun _ h9 => h9) rfl dX2_beatOn_82 ?_
        refine lv_iconst (v := (nI 0)) hx hb dX2_beatOn_85 (by decide) ?_
        refine lv_dup2_11 hx hb dX2_beatOn_86 rfl rfl ?_
        refine va_iald hx hb hK hP 6 0 rfl rfl (by exact vp_in_nI (by omega) (by omega)) dX2_beatOn_87 ?_
        refine nq_top (show (NW t (stepF F lim t n) (((nI 0)).toNatClampNeg)) = (nI t) from by rw [nI_clamp (by omega)]; rfl) ?_
        refine lv_iconst (v := (nI 1)) hx hb dX2_beatOn_88 (by decide) ?_
        refine nq_add hx hb dX2_beatOn_89 ?_
        refine va_iast hx hb hK hP hD hS 6 0 rfl rfl (by exact vp_in_nI (by omega) (by omega)) dX2_beatOn_90 (fun H locs hP hD hS => ?_)
        have hP : va_P E.1 vwCl (wM E b th n lim (stepF F lim t n) (upd (NW t (stepF F lim t n)) (((nI 0)).toNatClampNeg) ((nI (t + 1)))) kp) H := hP
        have hD : va_D A (wM E b th n lim (stepF F lim t n) (upd (NW t (stepF F lim t n)) (((nI 0)).toNatClampNeg) ((nI (t + 1)))) kp) := hD
        rw [NW_up0] at hP hD
        refine lv_iload_n hx hb dX2_beatOn_91 rfl (lv_at hl 2 rfl) ?_
        rw [hQ]
        exact retM_i (E := E) (A0 := A) (v := (nI ((drkS F lim t i).toNat))) (post := fun r _ => r = nI ((drkS F lim t n).toNat)) (u := ()) (W1 := fun _ => wM E b th n lim (stepF F lim t n) (NW (t + 1) (stepF F lim t n)) kp) hx hb hr hlocks hP hK hD hS (congrArg (fun c => nI (Bool.toNat c)) (by rw [show i = n by omega])) dX2_beatOn_92
      · skip
        have hi9 := hO4 i h14
        refine lv_aload_n hx hb dX2_beatOn_17 rfl (lv_at hl 0 rfl) ?_
        refine lv_iload_n hx hb dX2_beatOn_18 rfl (lv_at hl 3 rfl) ?_
        refine csV_i (rest := []) (As := [.int (nI i)]) ⟨hx, hb, hml, hown, hts⟩ (c_X2_dueIn l E _ b n lim t (stepF F lim t i) (t + 1) MV_self (step_okk hO t i (by omega) ht) (by omega) i (by omega)) (cwV 1 hts gX2_beatOn_X2_dueIn rfl rfl rfl (by decide +kernel) ⟨Nat.le_of_ble_eq_true rfl, Nat.le_of_ble_eq_true rfl⟩) (va_recv hK hP (ci := 3) (q0 := 0) rfl rfl) hP hK rfl hl.1 rfl (Nat.le_of_ble_eq_true rfl) dX2_beatOn_19 (Nat.le_of_ble_eq_true rfl) (Nat.le_of_ble_eq_true rfl) (fun r19 hr19 => ?_)
        subst hr19
        refine nq_top (show (bI (due (stepF F lim t i) i t)) = (bI (due F i t)) from congrArg bI (step_due F lim t i i t)) ?_
        refine bq_if_ne (tgt := 28) hx hb dX2_beatOn_22 (by decide) (fun h22 => ?_) (fun h22 => ?_)
        · skip
          refine lv_iload_n hx hb dX2_beatOn_28 rfl (lv_at hl 1 rfl) ?_
          refine lv_iload_n hx hb dX2_beatOn_29 rfl (lv_at hl 3 rfl) ?_
          refine lv_ishr hx hb dX2_beatOn_30 ?_
          refine lv_iconst (v := (nI 1)) hx hb dX2_beatOn_31 (by decide) ?_
          refine lv_iand hx hb dX2_beatOn_32 ?_
          refine nq_top (show (((nI (shN F lim t n)) >>> ((nI i) &&& 31)) &&& (nI 1)) = (nI ((litS F lim t i).toNat)) from sh_bit hO1 (by omega)) ?_
          refine lv_iconst (v := (nI 1)) hx hb dX2_beatOn_33 (by decide) ?_
          refine nq_icmp_ne (tgt := 41) hx hb dX2_beatOn_34 (by decide) (by omega) (by omega) (fun h34 => ?_) (fun h34 => ?_)
          · skip
            have hlf : litS F lim t i = false := by cases hq : litS F lim t i; rfl; exact absurd ((toNat_1 _).mpr hq) h34
            refine lv_iconst (v := (nI 0)) hx hb dX2_beatOn_41 (by decide) ?_
            refine lv_istore (lv' := [(4, .int (nI 0)), (0, .ref (b 0)), (1, .int (nI (shN F lim t n))), (2, .int (nI ((drkS F lim t i).toNat))), (3, .int (nI i))]) hx hb dX2_beatOn_42 hl (by decide) rfl (fun ls hl => ?_)
            refine lv_aload_n hx hb dX2_beatOn_44 rfl (lv_at hl 1 rfl) ?_
            refine va_get (D := E.1) (ci := 3) (v := .ref (b 6)) (C := RX2) (T := TX2) (N := 10) hx hb hts hiX2 hown hK hP 0 rfl rfl 8 (by decide) (hts (.fieldLink RX2 29 "PulseLoomModel" "now" "[I") (List.mem_of_getElem? (i := 2) (by rfl))) (fun _ h9 => h9) rfl dX2_beatOn_45 ?_
            refine lv_iload hx hb dX2_beatOn_48 (lv_at hl 0 rfl) ?_
            refine nq_if_eq (tgt := 59) hx hb dX2_beatOn_50 (by decide) (by decide) (fun h50 => ?_) (fun h50 => ?_)
            · skip
              refine lv_bipush (v := (nI 9)) hx hb dX2_beatOn_59 (by decide) ?_
              refine lv_iload_n hx hb dX2_beatOn_61 rfl (lv_at hl 4 rfl) ?_
              refine nq_add hx hb dX2_beatOn_62 ?_
              refine lv_dup2_11 hx hb dX2_beatOn_63 rfl rfl ?_
              refine va_iald hx hb hK hP 6 0 rfl rfl (by exact vp_in_nI (by omega) (by omega)) dX2_beatOn_64 ?_
              refine nq_top (show (NW t (stepF F lim t i) (((nI (9 + i))).toNatClampNeg)) = (nI ((stepF F lim t i) i 6)) from by rw [nI_clamp (by omega)]; exact NW_d _ _ _) ?_
              refine lv_iconst (v := (nI 1)) hx hb dX2_beatOn_65 (by decide) ?_
              refine nq_add hx hb dX2_beatOn_66 ?_
              refine va_iast hx hb hK hP hD hS 6 0 rfl rfl (by exact vp_in_nI (by omega) (by omega)) dX2_beatOn_67 (fun H locs hP hD hS => ?_)
              have hP : va_P E.1 vwCl (wM E b th n lim (stepF F lim t i) (upd (NW t (stepF F lim t i)) (((nI (9 + i))).toNatClampNeg) ((nI (((stepF F lim t i) i 6) + 1)))) kp) H := hP
              have hD : va_D A (wM E b th n lim (stepF F lim t i) (upd (NW t (stepF F lim t i)) (((nI (9 + i))).toNatClampNeg) ((nI (((stepF F lim t i) i 6) + 1)))) kp) := hD
              rw [wM_dark hlf h22 (by omega)] at hP hD
              refine lv_iload hx hb dX2_beatOn_68 (lv_at hl 0 rfl) ?_
              refine nq_if_ne (tgt := 75) hx hb dX2_beatOn_70 (by decide) (by decide) (fun h70 => ?_) (fun h70 => ?_)
              · skip
                exact absurd h70 (by decide)
              · skip
                refine lv_iconst (v := (nI 1)) hx hb dX2_beatOn_73 (by decide) ?_
                refine lv_istore_n (lv' := [(2, .int (nI 1)), (4, .int (nI 0)), (0, .ref (b 0)), (1, .int (nI (shN F lim t n))), (3, .int (nI i))]) hx hb dX2_beatOn_74 rfl hl (by decide) rfl (fun ls hl => ?_)
                refine nq_inc (lv' := [(3, .int (nI (i + 1))), (2, .int (nI 1)), (4, .int (nI 0)), (0, .ref (b 0)), (1, .int (nI (shN F lim t n)))]) hx hb dX2_beatOn_75 (d := 1) rfl hl (k := 4) rfl (by decide) rfl (fun ls hl => ?_)
                refine lv_goto (tgt := 9) hx hb dX2_beatOn_78 (by decide) ?_
                have hl : lv_has ls 5 [(3, .int (nI (i + 1))), (2, .int (nI ((drkS F lim t (i + 1)).toNat))), (4, .int (nI 0)), (0, .ref (b 0)), (1, .int (nI (shN F lim t n)))] := lv_rep hl 1 rfl (congrArg Value.int (show (nI 1) = (nI ((drkS F lim t (i + 1)).toNat)) from by rw [show drkS F lim t (i + 1) = true from by rw [drk_and, hlf, h22]; simp]; rfl))
                exact ih9 (i + 1) _ _ ls (by omega) (by omega) hP hD hS (lv_sub hl [3, 4, 1, 0] rfl)
            · skip
              exact absurd h50 (by decide)
          · skip
            refine lv_iconst (v := (nI 1)) hx hb dX2_beatOn_37 (by decide) ?_
            refine lv_goto (tgt := 42) hx hb dX2_beatOn_38 (by decide) ?_
            refine lv_istore (lv' := [(4, .int (nI 1)), (0, .ref (b 0)), (1, .int (nI (shN F lim t n))), (2, .int (nI ((drkS F lim t i).toNat))), (3, .int (nI i))]) hx hb dX2_beatOn_42 hl (by decide) rfl (fun ls hl => ?_)
            refine lv_aload_n hx hb dX2_beatOn_44 rfl (lv_at hl 1 rfl) ?_
            refine va_get (D := E.1) (ci := 3) (v := .ref (b 6)) (C := RX2) (T := TX2) (N := 10) hx hb hts hiX2 hown hK hP 0 rfl rfl 8 (by decide) (hts (.fieldLink RX2 29 "PulseLoomModel" "now" "[I") (List.mem_of_getElem? (i := 2) (by rfl))) (fun _ h9 => h9) rfl dX2_beatOn_45 ?_
            refine lv_iload hx hb dX2_beatOn_48 (lv_at hl 0 rfl) ?_
            refine nq_if_eq (tgt := 59) hx hb dX2_beatOn_50 (by decide) (by decide) (fun h50 => ?_) (fun h50 => ?_)
            · skip
              exact absurd h50 (by decide)
            · skip
              refine lv_iconst (v := (nI 1)) hx hb dX2_beatOn_53 (by decide) ?_
              refine lv_iload_n hx hb dX2_beatOn_54 rfl (lv_at hl 4 rfl) ?_
              refine nq_add hx hb dX2_beatOn_55 ?_
              refine lv_goto (tgt := 63) hx hb dX2_beatOn_56 (by decide) ?_
              refine lv_dup2_11 hx hb dX2_beatOn_63 rfl rfl ?_
              refine va_iald hx hb hK hP 6 0 rfl rfl (by exact vp_in_nI (by omega) (by omega)) dX2_beatOn_64 ?_
              refine nq_top (show (NW t (stepF F lim t i) (((nI (1 + i))).toNatClampNeg)) = (nI ((stepF F lim t i) i 5)) from by rw [nI_clamp (by omega)]; exact NW_s _ _ (by omega)) ?_
              refine lv_iconst (v := (nI 1)) hx hb dX2_beatOn_65 (by decide) ?_
              refine nq_add hx hb dX2_beatOn_66 ?_
              refine va_iast hx hb hK hP hD hS 6 0 rfl rfl (by exact vp_in_nI (by omega) (by omega)) dX2_beatOn_67 (fun H locs hP hD hS => ?_)
              have hP : va_P E.1 vwCl (wM E b th n lim (stepF F lim t i) (upd (NW t (stepF F lim t i)) (((nI (1 + i))).toNatClampNeg) ((nI (((stepF F lim t i) i 5) + 1)))) kp) H := hP
              have hD : va_D A (wM E b th n lim (stepF F lim t i) (upd (NW t (stepF F lim t i)) (((nI (1 + i))).toNatClampNeg) ((nI (((stepF F lim t i) i 5) + 1)))) kp) := hD
              rw [wM_lit ((toNat_1 _).mp h34) (by omega)] at hP hD
              refine lv_iload hx hb dX2_beatOn_68 (lv_at hl 0 rfl) ?_
              refine nq_if_ne (tgt := 75) hx hb dX2_beatOn_70 (by decide) (by decide) (fun h70 => ?_) (fun h70 => ?_)
              · skip
                refine nq_inc (lv' := [(3, .int (nI (i + 1))), (4, .int (nI 1)), (0, .ref (b 0)), (1, .int (nI (shN F lim t n))), (2, .int (nI ((drkS F lim t i).toNat)))]) hx hb dX2_beatOn_75 (d := 1) rfl hl (k := 4) rfl (by decide) rfl (fun ls hl => ?_)
                refine lv_goto (tgt := 9) hx hb dX2_beatOn_78 (by decide) ?_
                have hl : lv_has ls 5 [(3, .int (nI (i + 1))), (4, .int (nI 1)), (0, .ref (b 0)), (1, .int (nI (shN F lim t n))), (2, .int (nI ((drkS F lim t (i + 1)).toNat)))] := lv_rep hl 4 rfl (congrArg Value.int (show (nI ((drkS F lim t i).toNat)) = (nI ((drkS F lim t (i + 1)).toNat)) from congrArg (fun c => nI (Bool.toNat c)) (show drkS F lim t i = drkS F lim t (i + 1) by rw [drk_and, (toNat_1 _).mp h34]; simp)))
                exact ih9 (i + 1) _ _ ls (by omega) (by omega) hP hD hS (lv_sub hl [2, 3, 4, 0] rfl)
              · skip
                exact absurd h70 (by decide)
        · skip
          refine lv_goto (tgt := 75) hx hb dX2_beatOn_25 (by decide) ?_
          refine nq_inc (lv' := [(3, .int (nI (i + 1))), (0, .ref (b 0)), (1, .int (nI (shN F lim t n))), (2, .int (nI ((drkS F lim t i).toNat)))]) hx hb dX2_beatOn_75 (d := 1) rfl hl (k := 3) rfl (by decide) rfl (fun ls hl => ?_)
          refine lv_goto (tgt := 9) hx hb dX2_beatOn_78 (by decide) ?_
          have hl : lv_has ls 5 [(3, .int (nI (i + 1))), (0, .ref (b 0)), (1, .int (nI (shN F lim t n))), (2, .int (nI ((drkS F lim t (i + 1)).toNat)))] := lv_rep hl 3 rfl (congrArg Value.int (show (nI ((drkS F lim t i).toNat)) = (nI ((drkS F lim t (i + 1)).toNat)) from congrArg (fun c => nI (Bool.toNat c)) (show drkS F lim t i = drkS F lim t (i + 1) by rw [drk_and, h22]; simp)))
          rw [show wM E b th n lim (stepF F lim t i) (NW t (stepF F lim t i)) kp = wM E b th n lim (stepF F lim t (i + 1)) (NW t (stepF F lim t (i + 1))) kp from by rw [show stepF F lim t i = stepF F lim t (i + 1) from stepF_none (by simp [litS, h22]) h22]] at hP hD
          exact ih9 (i + 1) _ _ ls (by omega) (by omega) hP hD hS (lv_sub hl [1, 2, 3, 0] rfl)
  have hl : lv_has ls 5 [(3, .int (nI 0)), (2, .int (nI ((drkS F lim t 0).toNat))), (1, .int (nI (shN F lim t n))), (0, .ref (b 0))] := lv_rep hl 1 rfl (congrArg Value.int (show (nI 0) = (nI ((drkS F lim t 0).toNat)) from rfl))
  rw [show wM E b th n lim F (NW t F) kp = wM E b th n lim (stepF F lim t 0) (NW t (stepF F lim t 0)) kp from by rw [stepF_0]] at hP hD
  exact loop9 ((n - 0) + 1) 0 _ _ ls (by omega) (Nat.lt_succ_self _) hP hD hS (lv_sub hl [3, 2, 1, 0] rfl)

/-! a new reference -/
def F00 : LR := fun _ _ => 0
theorem okS_0 : OkS 0 0 20 F00 := ⟨by omega, by omega, by omega, fun i h => by omega, fun _ _ _ => rfl⟩
theorem NW_z : (fun _ => 0 : Nat → Int32) = NW 0 F00 := by
  funext j
  unfold NW F00
  by_cases h0 : j = 0
  · rw [if_pos h0]; rfl
  · rw [if_neg h0]
    by_cases h9 : j < 9
    · rw [if_pos h9]; rfl
    · rw [if_neg h9]; rfl
theorem wM_z {E : GE} {b : Nat → Nat} {th : Int32} {n lim : Nat} {F : LR} {kp : Nat → Int32} : wM E b th n lim F (fun _ => 0) kp = wM E b th n lim F (NW 0 F00) kp := by rw [NW_z]
def bOf (x : List Nat) : Nat → Nat := fun j => x.getD j 0

set_option maxHeartbeats 4000000 in
set_option maxRecDepth 100000 in
/-- a new reference -/
theorem c_X2_init (l : Launch) (E : GE) (sz : Nat) (x : Nat) : Met l yX2_init wsX2_init ({ frames := 1, cells := 7, slots := 74, locals := 20 } : Room) (va_Pc [.ref x] (pcM E ([(x, .inr (3, [.int 0, .int 0, .int 0, .null, .null, .null, .null, .null, .null, .null]))]) sz)) (va_Qv (S := Nat → Nat) (fun b => b 0 = x) (fun uQ tQ => atM E (va_A ([(x, .inr (3, [.int 0, .int 0, .int 0, .null, .null, .null, .null, .null, .null, .null]))]) sz) ((fun b => wM E b (nI 0) 0 20 F00 (NW 0 F00) (fun _ => 0)) uQ) tQ) (va_A ([(x, .inr (3, [.int 0, .int 0, .int 0, .null, .null, .null, .null, .null, .null, .null]))]) sz)) 7 74 (va_A ([(x, .inr (3, [.int 0, .int 0, .int 0, .null, .null, .null, .null, .null, .null, .null]))]) sz) := by
  refine metM (by decide) rfl (Nat.le_of_ble_eq_true rfl) ?_
  intro p e s m args below meth c ls A hAe hA hx hb hr hml hts hown hlocks hin hP hK hD hS hl
  rw [hAe]
  have hiX2 : ∀ q ∈ wsX20, q ∈ wsX2_init := by decide +kernel
  refine lv_aload_n hx hb dX2_init_0 rfl (lv_at hl 0 rfl) ?_
  refine W.objInit hx hb hown (hts (.methodLink RX2 3 objectInit) (List.mem_of_getElem? (i := 1) (by rfl))) (hts (.instanceMethod objectInit) (List.mem_of_getElem? (i := 2) (by rfl))) (hts _ (List.mem_of_getElem? (i := 3) (by rfl))) rfl (by rw [hml]; exact hl.1) rfl dX2_init_1 (Nat.le_of_ble_eq_true rfl) (Nat.le_of_ble_eq_true rfl) ?_
  refine W.eq (g2 := F0 m 4 ls ([])) rfl ?_
  refine lv_aload_n hx hb dX2_init_4 rfl (lv_at hl 0 rfl) ?_
  refine lv_bipush (v := (nI 20)) hx hb dX2_init_5 (by decide) ?_
  refine va_put (D := E.1) (ci := 3) (v := .int (nI 20)) (ty := .int) (C := RX2) (T := TX2) (N := 10) hx hb hts hiX2 tyX2 tyX2_ok nmX2 hown hK hP hD hS 0 rfl rfl 2 (by decide) (hts (.fieldLink RX2 9 "PulseLoomModel" "limit" "I") (List.mem_of_getElem? (i := 4) (by rfl))) (fun _ h9 => h9) rfl (by decide +kernel) rfl (by rfl) (Nat.le_of_ble_eq_true rfl) dX2_init_7 (fun H locs hP hD hS => ?_)
  have hP : va_P E.1 vwCl ([(x, .inr (3, [.int 0, .int 0, .int (nI 20), .null, .null, .null, .null, .null, .null, .null]))]) H := hP
  have hD : va_D A ([(x, .inr (3, [.int 0, .int 0, .int (nI 20), .null, .null, .null, .null, .null, .null, .null]))]) := hD
  refine lv_aload_n hx hb dX2_init_10 rfl (lv_at hl 0 rfl) ?_
  refine lv_bipush (v := (nI 8)) hx hb dX2_init_11 (by decide) ?_
  refine nq_newa (atype := .int) (N := 8) hx hb (hts (.arrayClass .int) (List.mem_of_getElem? (i := 5) (by rfl))) rfl hK hP hD hS hA (by decide) (by show 0 + 1 ≤ 7; omega) (by show 0 + 8 ≤ 74; omega) dX2_init_13 (fun q13 H hP hD hS => ?_)
  have hP : va_P E.1 vwCl ([(x, .inr (3, [.int 0, .int 0, .int (nI 20), .null, .null, .null, .null, .null, .null, .null]))] ++ [(q13, .inl (E.2.1, 8, .inl (fun _ => 0)))]) H := hP
  have hD : va_D A ([(x, .inr (3, [.int 0, .int 0, .int (nI 20), .null, .null, .null, .null, .null, .null, .null]))] ++ [(q13, .inl (E.2.1, 8, .inl (fun _ => 0)))]) := hD
  refine va_putF (D := E.1) (ci := 3) (v := .ref q13) (ty := (.array .int)) (C := RX2) (T := TX2) (N := 10) hx hb hts hiX2 tyX2 tyX2_ok nmX2 hown hK hP hD hS 0 rfl rfl 3 (by decide) (hts (.fieldLink RX2 13 "PulseLoomModel" "colour" "[I") (List.mem_of_getElem? (i := 6) (by rfl))) (fun _ h9 => h9) rfl hin rfl (by decide +kernel) rfl (by rfl) (Nat.le_of_ble_eq_true rfl) dX2_init_15 (fun H locs hP hD hS => ?_)
  have hP : va_P E.1 vwCl ([(x, .inr (3, [.int 0, .int 0, .int (nI 20), .ref q13, .null, .null, .null, .null, .null, .null]))] ++ [(q13, .inl (E.2.1, 8, .inl (fun _ => 0)))]) H := hP
  have hD : va_D A ([(x, .inr (3, [.int 0, .int 0, .int (nI 20), .ref q13, .null, .null, .null, .null, .null, .null]))] ++ [(q13, .inl (E.2.1, 8, .inl (fun _ => 0)))]) := hD
  refine lv_aload_n hx hb dX2_init_18 rfl (lv_at hl 0 rfl) ?_
  refine lv_bipush (v := (nI 8)) hx hb dX2_init_19 (by decide) ?_
  refine nq_newa (atype := .int) (N := 8) hx hb (hts (.arrayClass .int) (List.mem_of_getElem? (i := 5) (by rfl))) rfl hK hP hD hS hA (by decide) (by show (0 + 1) + 1 ≤ 7; omega) (by show (0 + 8) + 8 ≤ 74; omega) dX2_init_21 (fun q21 H hP hD hS => ?_)
  have hP : va_P E.1 vwCl ([(x, .inr (3, [.int 0, .int 0, .int (nI 20), .ref q13, .null, .null, .null, .null, .null, .null]))] ++ [(q13, .inl (E.2.1, 8, .inl (fun _ => 0)))] ++ [(q21, .inl (E.2.1, 8, .inl (fun _ => 0)))]) H := hP
  have hD : va_D A ([(x, .inr (3, [.int 0, .int 0, .int (nI 20), .ref q13, .null, .null, .null, .null, .null, .null]))] ++ [(q13, .inl (E.2.1, 8, .inl (fun _ => 0)))] ++ [(q21, .inl (E.2.1, 8, .inl (fun _ => 0)))]) := hD
  refine va_putF (D := E.1) (ci := 3) (v := .ref q21) (ty := (.array .int)) (C := RX2) (T := TX2) (N := 10) hx hb hts hiX2 tyX2 tyX2_ok nmX2 hown hK hP hD hS 0 rfl rfl 4 (by decide) (hts (.fieldLink RX2 17 "PulseLoomModel" "period" "[I") (List.mem_of_getElem? (i := 7) (by rfl))) (fun _ h9 => h9) rfl hin rfl (by decide +kernel) rfl (by rfl) (Nat.le_of_ble_eq_true rfl) dX2_init_23 (fun H locs hP hD hS => ?_)
  have hP : va_P E.1 vwCl ([(x, .inr (3, [.int 0, .int 0, .int (nI 20), .ref q13, .ref q21, .null, .null, .null, .null, .null]))] ++ [(q13, .inl (E.2.1, 8, .inl (fun _ => 0)))] ++ [(q21, .inl (E.2.1, 8, .inl (fun _ => 0)))]) H := hP
  have hD : va_D A ([(x, .inr (3, [.int 0, .int 0, .int (nI 20), .ref q13, .ref q21, .null, .null, .null, .null, .null]))] ++ [(q13, .inl (E.2.1, 8, .inl (fun _ => 0)))] ++ [(q21, .inl (E.2.1, 8, .inl (fun _ => 0)))]) := hD
  refine lv_aload_n hx hb dX2_init_26 rfl (lv_at hl 0 rfl) ?_
  refine lv_bipush (v := (nI 8)) hx hb dX2_init_27 (by decide) ?_
  refine nq_newa (atype := .int) (N := 8) hx hb (hts (.arrayClass .int) (List.mem_of_getElem? (i := 5) (by rfl))) rfl hK hP hD hS hA (by decide) (by show ((0 + 1) + 1) + 1 ≤ 7; omega) (by show ((0 + 8) + 8) + 8 ≤ 74; omega) dX2_init_29 (fun q29 H hP hD hS => ?_)
  have hP : va_P E.1 vwCl ([(x, .inr (3, [.int 0, .int 0, .int (nI 20), .ref q13, .ref q21, .null, .null, .null, .null, .null]))] ++ [(q13, .inl (E.2.1, 8, .inl (fun _ => 0)))] ++ [(q21, .inl (E.2.1, 8, .inl (fun _ => 0)))] ++ [(q29, .inl (E.2.1, 8, .inl (fun _ => 0)))]) H := hP
  have hD : va_D A ([(x, .inr (3, [.int 0, .int 0, .int (nI 20), .ref q13, .ref q21, .null, .null, .null, .null, .null]))] ++ [(q13, .inl (E.2.1, 8, .inl (fun _ => 0)))] ++ [(q21, .inl (E.2.1, 8, .inl (fun _ => 0)))] ++ [(q29, .inl (E.2.1, 8, .inl (fun _ => 0)))]) := hD
  refine va_putF (D := E.1) (ci := 3) (v := .ref q29) (ty := (.array .int)) (C := RX2) (T := TX2) (N := 10) hx hb hts hiX2 tyX2 tyX2_ok nmX2 hown hK hP hD hS 0 rfl rfl 5 (by decide) (hts (.fieldLink RX2 20 "PulseLoomModel" "shift" "[I") (List.mem_of_getElem? (i := 8) (by rfl))) (fun _ h9 => h9) rfl hin rfl (by decide +kernel) rfl (by rfl) (Nat.le_of_ble_eq_true rfl) dX2_init_31 (fun H locs hP hD hS => ?_)
  have hP : va_P E.1 vwCl ([(x, .inr (3, [.int 0, .int 0, .int (nI 20), .ref q13, .ref q21, .ref q29, .null, .null, .null, .null]))] ++ [(q13, .inl (E.2.1, 8, .inl (fun _ => 0)))] ++ [(q21, .inl (E.2.1, 8, .inl (fun _ => 0)))] ++ [(q29, .inl (E.2.1, 8, .inl (fun _ => 0)))]) H := hP
  have hD : va_D A ([(x, .inr (3, [.int 0, .int 0, .int (nI 20), .ref q13, .ref q21, .ref q29, .null, .null, .null, .null]))] ++ [(q13, .inl (E.2.1, 8, .inl (fun _ => 0)))] ++ [(q21, .inl (E.2.1, 8, .inl (fun _ => 0)))] ++ [(q29, .inl (E.2.1, 8, .inl (fun _ => 0)))]) := hD
  refine lv_aload_n hx hb dX2_init_34 rfl (lv_at hl 0 rfl) ?_
  refine lv_bipush (v := (nI 8)) hx hb dX2_init_35 (by decide) ?_
  refine nq_newa (atype := .int) (N := 8) hx hb (hts (.arrayClass .int) (List.mem_of_getElem? (i := 5) (by rfl))) rfl hK hP hD hS hA (by decide) (by show (((0 + 1) + 1) + 1) + 1 ≤ 7; omega) (by show (((0 + 8) + 8) + 8) + 8 ≤ 74; omega) dX2_init_37 (fun q37 H hP hD hS => ?_)
  have hP : va_P E.1 vwCl ([(x, .inr (3, [.int 0, .int 0, .int (nI 20), .ref q13, .ref q21, .ref q29, .null, .null, .null, .null]))] ++ [(q13, .inl (E.2.1, 8, .inl (fun _ => 0)))] ++ [(q21, .inl (E.2.1, 8, .inl (fun _ => 0)))] ++ [(q29, .inl (E.2.1, 8, .inl (fun _ => 0)))] ++ [(q37, .inl (E.2.1, 8, .inl (fun _ => 0)))]) H := hP
  have hD : va_D A ([(x, .inr (3, [.int 0, .int 0, .int (nI 20), .ref q13, .ref q21, .ref q29, .null, .null, .null, .null]))] ++ [(q13, .inl (E.2.1, 8, .inl (fun _ => 0)))] ++ [(q21, .inl (E.2.1, 8, .inl (fun _ => 0)))] ++ [(q29, .inl (E.2.1, 8, .inl (fun _ => 0)))] ++ [(q37, .inl (E.2.1, 8, .inl (fun _ => 0)))]) := hD
  refine va_putF (D := E.1) (ci := 3) (v := .ref q37) (ty := (.array .int)) (C := RX2) (T := TX2) (N := 10) hx hb hts hiX2 tyX2 tyX2_ok nmX2 hown hK hP hD hS 0 rfl rfl 6 (by decide) (hts (.fieldLink RX2 23 "PulseLoomModel" "length" "[I") (List.mem_of_getElem? (i := 9) (by rfl))) (fun _ h9 => h9) rfl hin rfl (by decide +kernel) rfl (by rfl) (Nat.le_of_ble_eq_true rfl) dX2_init_39 (fun H locs hP hD hS => ?_)
  have hP : va_P E.1 vwCl ([(x, .inr (3, [.int 0, .int 0, .int (nI 20), .ref q13, .ref q21, .ref q29, .ref q37, .null, .null, .null]))] ++ [(q13, .inl (E.2.1, 8, .inl (fun _ => 0)))] ++ [(q21, .inl (E.2.1, 8, .inl (fun _ => 0)))] ++ [(q29, .inl (E.2.1, 8, .inl (fun _ => 0)))] ++ [(q37, .inl (E.2.1, 8, .inl (fun _ => 0)))]) H := hP
  have hD : va_D A ([(x, .inr (3, [.int 0, .int 0, .int (nI 20), .ref q13, .ref q21, .ref q29, .ref q37, .null, .null, .null]))] ++ [(q13, .inl (E.2.1, 8, .inl (fun _ => 0)))] ++ [(q21, .inl (E.2.1, 8, .inl (fun _ => 0)))] ++ [(q29, .inl (E.2.1, 8, .inl (fun _ => 0)))] ++ [(q37, .inl (E.2.1, 8, .inl (fun _ => 0)))]) := hD
  refine lv_aload_n hx hb dX2_init_42 rfl (lv_at hl 0 rfl) ?_
  refine lv_bipush (v := (nI 8)) hx hb dX2_init_43 (by decide) ?_
  refine nq_newa (atype := .int) (N := 8) hx hb (hts (.arrayClass .int) (List.mem_of_getElem? (i := 5) (by rfl))) rfl hK hP hD hS hA (by decide) (by show ((((0 + 1) + 1) + 1) + 1) + 1 ≤ 7; omega) (by show ((((0 + 8) + 8) + 8) + 8) + 8 ≤ 74; omega) dX2_init_45 (fun q45 H hP hD hS => ?_)
  have hP : va_P E.1 vwCl ([(x, .inr (3, [.int 0, .int 0, .int (nI 20), .ref q13, .ref q21, .ref q29, .ref q37, .null, .null, .null]))] ++ [(q13, .inl (E.2.1, 8, .inl (fun _ => 0)))] ++ [(q21, .inl (E.2.1, 8, .inl (fun _ => 0)))] ++ [(q29, .inl (E.2.1, 8, .inl (fun _ => 0)))] ++ [(q37, .inl (E.2.1, 8, .inl (fun _ => 0)))] ++ [(q45, .inl (E.2.1, 8, .inl (fun _ => 0)))]) H := hP
  have hD : va_D A ([(x, .inr (3, [.int 0, .int 0, .int (nI 20), .ref q13, .ref q21, .ref q29, .ref q37, .null, .null, .null]))] ++ [(q13, .inl (E.2.1, 8, .inl (fun _ => 0)))] ++ [(q21, .inl (E.2.1, 8, .inl (fun _ => 0)))] ++ [(q29, .inl (E.2.1, 8, .inl (fun _ => 0)))] ++ [(q37, .inl (E.2.1, 8, .inl (fun _ => 0)))] ++ [(q45, .inl (E.2.1, 8, .inl (fun _ => 0)))]) := hD
  refine va_putF (D := E.1) (ci := 3) (v := .ref q45) (ty := (.array .int)) (C := RX2) (T := TX2) (N := 10) hx hb hts hiX2 tyX2 tyX2_ok nmX2 hown hK hP hD hS 0 rfl rfl 7 (by decide) (hts (.fieldLink RX2 26 "PulseLoomModel" "power" "[I") (List.mem_of_getElem? (i := 10) (by rfl))) (fun _ h9 => h9) rfl hin rfl (by decide +kernel) rfl (by rfl) (Nat.le_of_ble_eq_true rfl) dX2_init_47 (fun H locs hP hD hS => ?_)
  have hP : va_P E.1 vwCl ([(x, .inr (3, [.int 0, .int 0, .int (nI 20), .ref q13, .ref q21, .ref q29, .ref q37, .ref q45, .null, .null]))] ++ [(q13, .inl (E.2.1, 8, .inl (fun _ => 0)))] ++ [(q21, .inl (E.2.1, 8, .inl (fun _ => 0)))] ++ [(q29, .inl (E.2.1, 8, .inl (fun _ => 0)))] ++ [(q37, .inl (E.2.1, 8, .inl (fun _ => 0)))] ++ [(q45, .inl (E.2.1, 8, .inl (fun _ => 0)))]) H := hP
  have hD : va_D A ([(x, .inr (3, [.int 0, .int 0, .int (nI 20), .ref q13, .ref q21, .ref q29, .ref q37, .ref q45, .null, .null]))] ++ [(q13, .inl (E.2.1, 8, .inl (fun _ => 0)))] ++ [(q21, .inl (E.2.1, 8, .inl (fun _ => 0)))] ++ [(q29, .inl (E.2.1, 8, .inl (fun _ => 0)))] ++ [(q37, .inl (E.2.1, 8, .inl (fun _ => 0)))] ++ [(q45, .inl (E.2.1, 8, .inl (fun _ => 0)))]) := hD
  refine lv_aload_n hx hb dX2_init_50 rfl (lv_at hl 0 rfl) ?_
  refine lv_bipush (v := (nI 17)) hx hb dX2_init_51 (by decide) ?_
  refine nq_newa (atype := .int) (N := 17) hx hb (hts (.arrayClass .int) (List.mem_of_getElem? (i := 5) (by rfl))) rfl hK hP hD hS hA (by decide) (by show (((((0 + 1) + 1) + 1) + 1) + 1) + 1 ≤ 7; omega) (by show (((((0 + 8) + 8) + 8) + 8) + 8) + 17 ≤ 74; omega) dX2_init_53 (fun q53 H hP hD hS => ?_)
  have hP : va_P E.1 vwCl ([(x, .inr (3, [.int 0, .int 0, .int (nI 20), .ref q13, .ref q21, .ref q29, .ref q37, .ref q45, .null, .null]))] ++ [(q13, .inl (E.2.1, 8, .inl (fun _ => 0)))] ++ [(q21, .inl (E.2.1, 8, .inl (fun _ => 0)))] ++ [(q29, .inl (E.2.1, 8, .inl (fun _ => 0)))] ++ [(q37, .inl (E.2.1, 8, .inl (fun _ => 0)))] ++ [(q45, .inl (E.2.1, 8, .inl (fun _ => 0)))] ++ [(q53, .inl (E.2.1, 17, .inl (fun _ => 0)))]) H := hP
  have hD : va_D A ([(x, .inr (3, [.int 0, .int 0, .int (nI 20), .ref q13, .ref q21, .ref q29, .ref q37, .ref q45, .null, .null]))] ++ [(q13, .inl (E.2.1, 8, .inl (fun _ => 0)))] ++ [(q21, .inl (E.2.1, 8, .inl (fun _ => 0)))] ++ [(q29, .inl (E.2.1, 8, .inl (fun _ => 0)))] ++ [(q37, .inl (E.2.1, 8, .inl (fun _ => 0)))] ++ [(q45, .inl (E.2.1, 8, .inl (fun _ => 0)))] ++ [(q53, .inl (E.2.1, 17, .inl (fun _ => 0)))]) := hD
  refine va_putF (D := E.1) (ci := 3) (v := .ref q53) (ty := (.array .int)) (C := RX2) (T := TX2) (N := 10) hx hb hts hiX2 tyX2 tyX2_ok nmX2 hown hK hP hD hS 0 rfl rfl 8 (by decide) (hts (.fieldLink RX2 29 "PulseLoomModel" "now" "[I") (List.mem_of_getElem? (i := 11) (by rfl))) (fun _ h9 => h9) rfl hin rfl (by decide +kernel) rfl (by rfl) (Nat.le_of_ble_eq_true rfl) dX2_init_55 (fun H locs hP hD hS => ?_)
  have hP : va_P E.1 vwCl ([(x, .inr (3, [.int 0, .int 0, .int (nI 20), .ref q13, .ref q21, .ref q29, .ref q37, .ref q45, .ref q53, .null]))] ++ [(q13, .inl (E.2.1, 8, .inl (fun _ => 0)))] ++ [(q21, .inl (E.2.1, 8, .inl (fun _ => 0)))] ++ [(q29, .inl (E.2.1, 8, .inl (fun _ => 0)))] ++ [(q37, .inl (E.2.1, 8, .inl (fun _ => 0)))] ++ [(q45, .inl (E.2.1, 8, .inl (fun _ => 0)))] ++ [(q53, .inl (E.2.1, 17, .inl (fun _ => 0)))]) H := hP
  have hD : va_D A ([(x, .inr (3, [.int 0, .int 0, .int (nI 20), .ref q13, .ref q21, .ref q29, .ref q37, .ref q45, .ref q53, .null]))] ++ [(q13, .inl (E.2.1, 8, .inl (fun _ => 0)))] ++ [(q21, .inl (E.2.1, 8, .inl (fun _ => 0)))] ++ [(q29, .inl (E.2.1, 8, .inl (fun _ => 0)))] ++ [(q37, .inl (E.2.1, 8, .inl (fun _ => 0)))] ++ [(q45, .inl (E.2.1, 8, .inl (fun _ => 0)))] ++ [(q53, .inl (E.2.1, 17, .inl (fun _ => 0)))]) := hD
  refine lv_aload_n hx hb dX2_init_58 rfl (lv_at hl 0 rfl) ?_
  refine lv_bipush (v := (nI 17)) hx hb dX2_init_59 (by decide) ?_
  refine nq_newa (atype := .int) (N := 17) hx hb (hts (.arrayClass .int) (List.mem_of_getElem? (i := 5) (by rfl))) rfl hK hP hD hS hA (by decide) (by show ((((((0 + 1) + 1) + 1) + 1) + 1) + 1) + 1 ≤ 7; omega) (by show ((((((0 + 8) + 8) + 8) + 8) + 8) + 17) + 17 ≤ 74; omega) dX2_init_61 (fun q61 H hP hD hS => ?_)
  have hP : va_P E.1 vwCl ([(x, .inr (3, [.int 0, .int 0, .int (nI 20), .ref q13, .ref q21, .ref q29, .ref q37, .ref q45, .ref q53, .null]))] ++ [(q13, .inl (E.2.1, 8, .inl (fun _ => 0)))] ++ [(q21, .inl (E.2.1, 8, .inl (fun _ => 0)))] ++ [(q29, .inl (E.2.1, 8, .inl (fun _ => 0)))] ++ [(q37, .inl (E.2.1, 8, .inl (fun _ => 0)))] ++ [(q45, .inl (E.2.1, 8, .inl (fun _ => 0)))] ++ [(q53, .inl (E.2.1, 17, .inl (fun _ => 0)))] ++ [(q61, .inl (E.2.1, 17, .inl (fun _ => 0)))]) H := hP
  have hD : va_D A ([(x, .inr (3, [.int 0, .int 0, .int (nI 20), .ref q13, .ref q21, .ref q29, .ref q37, .ref q45, .ref q53, .null]))] ++ [(q13, .inl (E.2.1, 8, .inl (fun _ => 0)))] ++ [(q21, .inl (E.2.1, 8, .inl (fun _ => 0)))] ++ [(q29, .inl (E.2.1, 8, .inl (fun _ => 0)))] ++ [(q37, .inl (E.2.1, 8, .inl (fun _ => 0)))] ++ [(q45, .inl (E.2.1, 8, .inl (fun _ => 0)))] ++ [(q53, .inl (E.2.1, 17, .inl (fun _ => 0)))] ++ [(q61, .inl (E.2.1, 17, .inl (fun _ => 0)))]) := hD
  refine va_putF (D := E.1) (ci := 3) (v := .ref q61) (ty := (.array .int)) (C := RX2) (T := TX2) (N := 10) hx hb hts hiX2 tyX2 tyX2_ok nmX2 hown hK hP hD hS 0 rfl rfl 9 (by decide) (hts (.fieldLink RX2 32 "PulseLoomModel" "kept" "[I") (List.mem_of_getElem? (i := 12) (by rfl))) (fun _ h9 => h9) rfl hin rfl (by decide +kernel) rfl (by rfl) (Nat.le_of_ble_eq_true rfl) dX2_init_63 (fun H locs hP hD hS => ?_)
  have hP : va_P E.1 vwCl ([(x, .inr (3, [.int 0, .int 0, .int (nI 20), .ref q13, .ref q21, .ref q29, .ref q37, .ref q45, .ref q53, .ref q61]))] ++ [(q13, .inl (E.2.1, 8, .inl (fun _ => 0)))] ++ [(q21, .inl (E.2.1, 8, .inl (fun _ => 0)))] ++ [(q29, .inl (E.2.1, 8, .inl (fun _ => 0)))] ++ [(q37, .inl (E.2.1, 8, .inl (fun _ => 0)))] ++ [(q45, .inl (E.2.1, 8, .inl (fun _ => 0)))] ++ [(q53, .inl (E.2.1, 17, .inl (fun _ => 0)))] ++ [(q61, .inl (E.2.1, 17, .inl (fun _ => 0)))]) H := hP
  have hD : va_D A ([(x, .inr (3, [.int 0, .int 0, .int (nI 20), .ref q13, .ref q21, .ref q29, .ref q37, .ref q45, .ref q53, .ref q61]))] ++ [(q13, .inl (E.2.1, 8, .inl (fun _ => 0)))] ++ [(q21, .inl (E.2.1, 8, .inl (fun _ => 0)))] ++ [(q29, .inl (E.2.1, 8, .inl (fun _ => 0)))] ++ [(q37, .inl (E.2.1, 8, .inl (fun _ => 0)))] ++ [(q45, .inl (E.2.1, 8, .inl (fun _ => 0)))] ++ [(q53, .inl (E.2.1, 17, .inl (fun _ => 0)))] ++ [(q61, .inl (E.2.1, 17, .inl (fun _ => 0)))]) := hD
  have hP : va_P E.1 vwCl (wM E (bOf [x, q13, q21, q29, q37, q45, q53, q61]) (nI 0) 0 20 F00 (fun _ => 0) (fun _ => 0)) H := hP
  have hD : va_D A (wM E (bOf [x, q13, q21, q29, q37, q45, q53, q61]) (nI 0) 0 20 F00 (fun _ => 0) (fun _ => 0)) := hD
  rw [wM_z] at hP hD
  skip
  exact retM_v (E := E) (A0 := A) (post := fun b => b 0 = x) (u := (bOf [x, q13, q21, q29, q37, q45, q53, q61])) (W1 := fun b => wM E b (nI 0) 0 20 F00 (NW 0 F00) (fun _ => 0)) hx hb hr hlocks hP hK hD hS (rfl) dX2_init_66

/-! a lamp is added to a list that has a row of ten -/

set_option maxHeartbeats 4000000 in
set_option maxRecDepth 100000 in
/-- add(lamp, row, n), the row has room -/
theorem c_Jx4a65c_add_72be8 (l : Launch) (E : GE) (sz : Nat) (w : va_W) (z0 x g9 v9 k9 : Nat) (mc : Int32) (n : Nat) (hn9 : n < 10) (f : Nat → Option Nat) (vs : List Value) (h1w : w[1]? = some (x, .inr (0, [.int mc, .ref g9, .int (nI n)]))) (h2w : w[2]? = some (g9, .inl (E.2.2.1, 10, .inr (.inr (.inr (.inr (f))))))) (hvw : w[k9]? = some (v9, .inr (1, vs))) : Met l yJx4a65c_add_72be8 wsJx4a65c_add_72be8 ({ frames := 3, cells := 0, slots := 0, locals := 64 } : Room) (va_Pc [.ref x, .ref v9, .ref g9, .int (nI n)] (pcZ E (w) sz z0)) (va_Qv (S := Unit) (fun _ => True) (fun uQ tQ => atM E (va_A (w) sz) ((fun _ => ((w.set 2 (g9, .inl (E.2.2.1, 10, .inr (.inr (.inr (.inr (va_up f n (some v9)))))))).set 1 (x, .inr (0, [.int mc, .ref g9, .int (nI (n + 1))])))) uQ) tQ) (va_A (w) sz)) 0 0 (va_A (w) sz) := by
  refine metZ (by decide) rfl (Nat.le_of_ble_eq_true rfl) ?_
  intro p e s m args below meth c ls A hAe hA hx hb hr hml hts hown hlocks hin hP hK hD hZ hS hl
  rw [hAe]
  have hiJx4a65c : ∀ q ∈ wsJx4a65c0, q ∈ wsJx4a65c_add_72be8 := by decide +kernel
  refine lv_iload_n hx hb dJx4a65c_add_72be8_0 rfl (lv_at hl 3 rfl) ?_
  refine lv_aload_n hx hb dJx4a65c_add_72be8_1 rfl (lv_at hl 2 rfl) ?_
  refine va_alen hx hb hK hP 2 1 h2w rfl (v := nI 10) rfl dJx4a65c_add_72be8_2 ?_
  refine nq_icmp_ne (tgt := 11) hx hb dJx4a65c_add_72be8_3 (by decide) (by omega) (by omega) (fun h3 => ?_) (fun h3 => ?_)
  · skip
    refine lv_aload_n hx hb dJx4a65c_add_72be8_11 rfl (lv_at hl 2 rfl) ?_
    refine lv_iload_n hx hb dJx4a65c_add_72be8_12 rfl (lv_at hl 3 rfl) ?_
    refine lv_aload_n hx hb dJx4a65c_add_72be8_13 rfl (lv_at hl 1 rfl) ?_
    refine va_asto hx hb hZ.2.2.2 hK hP hD hS 2 k9 h2w hvw (by exact vp_in_nI (by omega) (by omega)) dJx4a65c_add_72be8_14 (fun H locs hP hD hS => ?_)
    rw [nI_clamp (by omega)] at hP hD
    refine lv_aload_n hx hb dJx4a65c_add_72be8_15 rfl (lv_at hl 0 rfl) ?_
    refine lv_iload_n hx hb dJx4a65c_add_72be8_16 rfl (lv_at hl 3 rfl) ?_
    refine lv_iconst (v := (nI 1)) hx hb dJx4a65c_add_72be8_17 (by decide) ?_
    refine nq_add hx hb dJx4a65c_add_72be8_18 ?_
    refine va_put (D := E.1) (ci := 0) (v := .int (nI (n + 1))) (ty := .int) (C := RJx4a65c) (T := TJx4a65c) (N := 3) hx hb hts hiJx4a65c tyJx4a65c tyJx4a65c_ok nmJx4a65c hown hK hP hD hS 1 (by rw [List.getElem?_set_ne (by decide)]; exact h1w) rfl 2 (by decide) (hts (.fieldLink RJx4a65c 48 "java/util/ArrayList" "size" "I") (List.mem_of_getElem? (i := 1) (by rfl))) (fun _ h9 => h9) rfl (by decide +kernel) rfl (by rfl) (Nat.le_of_ble_eq_true rfl) dJx4a65c_add_72be8_19 (fun H locs hP hD hS => ?_)
    have hP : va_P E.1 vwCl ((w.set 2 (g9, .inl (E.2.2.1, 10, .inr (.inr (.inr (.inr (va_up f n (some v9)))))))).set 1 (x, .inr (0, [.int mc, .ref g9, .int (nI (n + 1))]))) _ := hP
    have hD : va_D A ((w.set 2 (g9, .inl (E.2.2.1, 10, .inr (.inr (.inr (.inr (va_up f n (some v9)))))))).set 1 (x, .inr (0, [.int mc, .ref g9, .int (nI (n + 1))]))) := hD
    exact retM_v (E := E) (A0 := A) (post := fun _ => True) (u := ()) (W1 := fun _ => ((w.set 2 (g9, .inl (E.2.2.1, 10, .inr (.inr (.inr (.inr (va_up f n (some v9)))))))).set 1 (x, .inr (0, [.int mc, .ref g9, .int (nI (n + 1))])))) hx hb hr hlocks hP hK hD hS (trivial) dJx4a65c_add_72be8_22
  · skip
    exact absurd h3 (by omega)

/-! a new loom -/
def bOf (x : List Nat) : Nat → Nat := fun j => x.getD j 0
def C00 (E : GE) (a : Nat → Nat) : va_W := wC E a 0 0 0 20 (LF F00 (fun _ => false) (fun _ => 0))

set_option maxHeartbeats 4000000 in
set_option maxRecDepth 100000 in
/-- a new loom -/
theorem c_X1_init (l : Launch) (E : GE) (sz : Nat) (x z0 : Nat) : Met l yX1_init wsX1_init ({ frames := 4, cells := 1, slots := 3, locals := 80 } : Room) (va_Pc [.ref x] (pcZ E ([(x, .inr (2, [.null, .int 0, .int 0]))]) sz z0)) (va_Qv (S := Nat → Nat) (fun a => a 0 = x ∧ a 2 = z0) (fun uQ tQ => atM E (va_A ([(x, .inr (2, [.null, .int 0, .int 0]))]) sz) ((fun a => C00 E a) uQ) tQ) (va_A ([(x, .inr (2, [.null, .int 0, .int 0]))]) sz)) 1 3 (va_A ([(x, .inr (2, [.null, .int 0, .int 0]))]) sz) := by
  refine metZ (by decide) rfl (Nat.le_of_ble_eq_true rfl) ?_
  intro p e s m args below meth c ls A hAe hA hx hb hr hml hts hown hlocks hin hP hK hD hZ hS hl
  rw [hAe]
  have hiJx4a65c : ∀ q ∈ wsJx4a65c0, q ∈ wsX1_init := by decide +kernel
  have hiX1 : ∀ q ∈ wsX10, q ∈ wsX1_init := by decide +kernel
  refine lv_aload_n hx hb dX1_init_0 rfl (lv_at hl 0 rfl) ?_
  refine W.objInit hx hb hown (hts (.methodLink RX1 1 objectInit) (List.mem_of_getElem? (i := 1) (by rfl))) (hts (.instanceMethod objectInit) (List.mem_of_getElem? (i := 2) (by rfl))) (hts _ (List.mem_of_getElem? (i := 3) (by rfl))) rfl (by rw [hml]; exact hl.1) rfl dX1_init_1 (Nat.le_of_ble_eq_true rfl) (Nat.le_of_ble_eq_true rfl) ?_
  refine W.eq (g2 := F0 m 4 ls ([])) rfl ?_
  refine lv_aload_n hx hb dX1_init_4 rfl (lv_at hl 0 rfl) ?_
  refine va_new (ci := 0) (C := RJx4a65c) (T := TJx4a65c) (N := 3) (fs := [.int 0, .null, .int 0]) hx hb hts hiJx4a65c tyJx4a65c tyJx4a65c_ok hown (hts (.classLink RX1 7 RJx4a65c) (List.mem_of_getElem? (i := 4) (by rfl))) (hts (.instantiable RJx4a65c 3) (List.mem_of_getElem? (i := 5) (by rfl))) (hts (.initialized RJx4a65c) (List.mem_of_getElem? (i := 6) (by rfl))) hK hP hD hS hA rfl (fun j h9 => by match j, h9 with | 0, _ => rfl | 1, _ => rfl | 2, _ => rfl | j9 + 3, h9 => omega) (by show 0 + 1 ≤ 1; omega) (by show 0 + 3 ≤ 3; omega) dX1_init_5 (fun q5 H hP hD hS => ?_)
  have hP : va_P E.1 vwCl ([(x, .inr (2, [.null, .int 0, .int 0]))] ++ [(q5, .inr (0, [.int 0, .null, .int 0]))]) _ := hP
  have hD : va_D A ([(x, .inr (2, [.null, .int 0, .int 0]))] ++ [(q5, .inr (0, [.int 0, .null, .int 0]))]) := hD
  refine lv_dup hx hb dX1_init_8 rfl ?_
  have hP : va_P E.1 vwCl (([(x, .inr (2, [.null, .int 0, .int 0]))]) ++ (([(q5, .inr (0, [.int 0, .null, .int 0]))]) ++ ([]))) _ := hP
  have hD : va_D A (([(x, .inr (2, [.null, .int 0, .int 0]))]) ++ (([(q5, .inr (0, [.int 0, .null, .int 0]))]) ++ ([]))) := hD
  refine cmIZ_v (wx := [(x, .inr (2, [.null, .int 0, .int 0]))]) (wy := []) (rest := [.ref q5, .ref x]) (As := []) ⟨hx, hb, hml, hown, hts⟩ (c_Jx4a65c_init_da8c8 l E _ q5 z0) (cwI 0 hts gX1_init_Jx4a65c_init_da8c8 rfl rfl rfl (hts (.initialized RJx4a65c) (List.mem_of_getElem? (i := 6) (by rfl))) (hts (.methodLink RX1 9 yJx4a65c_init_da8c8) (List.mem_of_getElem? (i := 10) (by rfl))) (hts (.instanceMethod yJx4a65c_init_da8c8) (List.mem_of_getElem? (i := 11) (by rfl))) rfl (by decide +kernel) ⟨Nat.le_of_ble_eq_true rfl, Nat.le_of_ble_eq_true rfl⟩) hP hK hD hZ hS hA rfl hl.1 rfl (Nat.le_of_ble_eq_true rfl) dX1_init_9 ⟨Nat.le_of_ble_eq_true rfl, Nat.le_of_ble_eq_true rfl⟩ (fun u9 H locs hr9 hP hD hS => ?_)
  have hP : va_P E.1 vwCl ([(x, .inr (2, [.null, .int 0, .int 0]))] ++ [(q5, .inr (0, [.int 0, .ref z0, .int 0]))]) _ := hP
  have hD : va_D A ([(x, .inr (2, [.null, .int 0, .int 0]))] ++ [(q5, .inr (0, [.int 0, .ref z0, .int 0]))]) := hD
  refine va_putF (D := E.1) (ci := 2) (v := .ref q5) (ty := (.object "java/util/ArrayList")) (C := RX1) (T := TX1) (N := 3) hx hb hts hiX1 tyX1 tyX1_ok nmX1 hown hK hP hD hS 0 rfl rfl 0 (by decide) (hts (.fieldLink RX1 10 "PulseLoom" "row" "Ljava/util/ArrayList;") (List.mem_of_getElem? (i := 7) (by rfl))) (fun _ h9 => h9) rfl hin rfl (by decide +kernel) rfl (by rfl) (Nat.le_of_ble_eq_true rfl) dX1_init_12 (fun H locs hP hD hS => ?_)
  have hP : va_P E.1 vwCl ([(x, .inr (2, [.ref q5, .int 0, .int 0]))] ++ [(q5, .inr (0, [.int 0, .ref z0, .int 0]))]) _ := hP
  have hD : va_D A ([(x, .inr (2, [.ref q5, .int 0, .int 0]))] ++ [(q5, .inr (0, [.int 0, .ref z0, .int 0]))]) := hD
  refine lv_aload_n hx hb dX1_init_15 rfl (lv_at hl 0 rfl) ?_
  refine lv_iconst (v := (nI 0)) hx hb dX1_init_16 (by decide) ?_
  refine va_put (D := E.1) (ci := 2) (v := .int (nI 0)) (ty := .int) (C := RX1) (T := TX1) (N := 3) hx hb hts hiX1 tyX1 tyX1_ok nmX1 hown hK hP hD hS 0 rfl rfl 1 (by decide) (hts (.fieldLink RX1 16 "PulseLoom" "now" "I") (List.mem_of_getElem? (i := 8) (by rfl))) (fun _ h9 => h9) rfl (by decide +kernel) rfl (by rfl) (Nat.le_of_ble_eq_true rfl) dX1_init_17 (fun H locs hP hD hS => ?_)
  have hP : va_P E.1 vwCl ([(x, .inr (2, [.ref q5, .int (nI 0), .int 0]))] ++ [(q5, .inr (0, [.int 0, .ref z0, .int 0]))]) _ := hP
  have hD : va_D A ([(x, .inr (2, [.ref q5, .int (nI 0), .int 0]))] ++ [(q5, .inr (0, [.int 0, .ref z0, .int 0]))]) := hD
  refine lv_aload_n hx hb dX1_init_20 rfl (lv_at hl 0 rfl) ?_
  refine lv_bipush (v := (nI 20)) hx hb dX1_init_21 (by decide) ?_
  refine va_put (D := E.1) (ci := 2) (v := .int (nI 20)) (ty := .int) (C := RX1) (T := TX1) (N := 3) hx hb hts hiX1 tyX1 tyX1_ok nmX1 hown hK hP hD hS 0 rfl rfl 2 (by decide) (hts (.fieldLink RX1 20 "PulseLoom" "mostPower" "I") (List.mem_of_getElem? (i := 9) (by rfl))) (fun _ h9 => h9) rfl (by decide +kernel) rfl (by rfl) (Nat.le_of_ble_eq_true rfl) dX1_init_23 (fun H locs hP hD hS => ?_)
  have hP : va_P E.1 vwCl ([(x, .inr (2, [.ref q5, .int (nI 0), .int (nI 20)]))] ++ [(q5, .inr (0, [.int 0, .ref z0, .int 0]))]) _ := hP
  have hD : va_D A ([(x, .inr (2, [.ref q5, .int (nI 0), .int (nI 20)]))] ++ [(q5, .inr (0, [.int 0, .ref z0, .int 0]))]) := hD
  have hP : va_P E.1 vwCl (C00 E (bOf [x, q5, z0])) _ := hP
  have hD : va_D A (C00 E (bOf [x, q5, z0])) := hD
  skip
  exact retM_v (E := E) (A0 := A) (post := fun a => a 0 = x ∧ a 2 = z0) (u := (bOf [x, q5, z0])) (W1 := fun a => C00 E a) hx hb hr hlocks hP hK hD hS (⟨rfl, rfl⟩) dX1_init_26

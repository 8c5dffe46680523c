/-! the list that holds the lamps, as far as it is read: size, get -/
set_option maxHeartbeats 4000000 in
set_option maxRecDepth 100000 in
/-- size() -/
theorem c_Jx4a65c_size_8abf5 (l : Launch) (E : GE) (w : va_W) (q1 h1 : Nat) (mc : Int32) (h2 n : Nat) (hq1 : w[q1]? = some (h1, .inr (0, [.int mc, .ref h2, .int (nI n)]))) : Met l yJx4a65c_size_8abf5 wsJx4a65c_size_8abf5 ({ frames := 0, cells := 0, slots := 0, locals := 0 } : Room) (va_Pc [.ref h1] (pcS E (w))) (vp_Si (fun r => r = nI n)) 0 0 (fun _ => False) := by
  refine metS (by decide) rfl (Nat.le_of_ble_eq_true rfl) ?_
  intro p e s m args below meth c ls hx hb hr hml hts hown hlocks hP hK hl
  have hiJx4a65c : ∀ q ∈ wsJx4a65c0, q ∈ wsJx4a65c_size_8abf5 := by decide +kernel
  refine lv_aload_n hx hb dJx4a65c_size_8abf5_0 rfl (lv_at hl 0 rfl) ?_
  refine va_get (D := E.1) (ci := 0) (v := .int (nI n)) (C := RJx4a65c) (T := TJx4a65c) (N := 3) hx hb hts hiJx4a65c hown hK hP q1 hq1 rfl 2 (by decide) (hts (.fieldLink RJx4a65c 48 "java/util/ArrayList" "size" "I") (List.mem_of_getElem? (i := 1) (by rfl))) (fun _ h9 => h9) rfl dJx4a65c_size_8abf5_1 ?_
  exact retS_i hx hb hr hlocks (rfl) dJx4a65c_size_8abf5_4

set_option maxHeartbeats 4000000 in
set_option maxRecDepth 100000 in
/-- Preconditions.checkIndex(i, n, null) -/
theorem c_J3_checkIndex_8e157 (l : Launch) (E : GE) (w : va_W) (i n : Nat) (hi : i < n) (hn : n ≤ 1000) : Met l yJ3_checkIndex_8e157 wsJ3_checkIndex_8e157 ({ frames := 0, cells := 0, slots := 0, locals := 0 } : Room) (va_Pc [.int (nI i), .int (nI n), .null] (pcS E (w))) (vp_Si (fun r => r = nI i)) 0 0 (fun _ => False) := by
  refine metS (by decide) rfl (Nat.le_of_ble_eq_true rfl) ?_
  intro p e s m args below meth c ls hx hb hr hml hts hown hlocks hP hK hl
  refine lv_iload_n hx hb dJ3_checkIndex_8e157_0 rfl (lv_at hl 0 rfl) ?_
  refine nq_if_lt (tgt := 9) hx hb dJ3_checkIndex_8e157_1 (by decide) (by omega) ?_
  refine lv_iload_n hx hb dJ3_checkIndex_8e157_4 rfl (lv_at hl 0 rfl) ?_
  refine lv_iload_n hx hb dJ3_checkIndex_8e157_5 rfl (lv_at hl 1 rfl) ?_
  refine nq_icmp_lt (tgt := 16) hx hb dJ3_checkIndex_8e157_6 (by decide) (by omega) (by omega) (fun h6 => ?_) (fun h6 => ?_)
  · skip
    refine lv_iload_n hx hb dJ3_checkIndex_8e157_16 rfl (lv_at hl 0 rfl) ?_
    exact retS_i hx hb hr hlocks (rfl) dJ3_checkIndex_8e157_17
  · skip
    exact absurd h6 (by omega)

set_option maxHeartbeats 4000000 in
set_option maxRecDepth 100000 in
/-- Objects.checkIndex(i, n) -/
theorem c_J15_checkIndex_7cf53 (l : Launch) (E : GE) (w : va_W) (i n : Nat) (hi : i < n) (hn : n ≤ 1000) : Met l yJ15_checkIndex_7cf53 wsJ15_checkIndex_7cf53 ({ frames := 1, cells := 0, slots := 0, locals := 22 } : Room) (va_Pc [.int (nI i), .int (nI n)] (pcS E (w))) (vp_Si (fun r => r = nI i)) 0 0 (fun _ => False) := by
  refine metS (by decide) rfl (Nat.le_of_ble_eq_true rfl) ?_
  intro p e s m args below meth c ls hx hb hr hml hts hown hlocks hP hK hl
  refine lv_iload_n hx hb dJ15_checkIndex_7cf53_0 rfl (lv_at hl 0 rfl) ?_
  refine lv_iload_n hx hb dJ15_checkIndex_7cf53_1 rfl (lv_at hl 1 rfl) ?_
  refine lv_null hx hb dJ15_checkIndex_7cf53_2 ?_
  refine csS_i (rest := []) (As := [.int (nI i), .int (nI n), .null]) ⟨hx, hb, hml, hown, hts⟩ (c_J3_checkIndex_8e157 l E _ i n (by omega) (by omega)) (va_cwS 3 hts gJ15_checkIndex_7cf53_J3_checkIndex_8e157 rfl rfl rfl (by decide +kernel) ⟨Nat.le_of_ble_eq_true rfl, Nat.le_of_ble_eq_true rfl⟩) hP hK rfl hl.1 rfl (Nat.le_of_ble_eq_true rfl) dJ15_checkIndex_7cf53_3 (Nat.le_of_ble_eq_true rfl) (Nat.le_of_ble_eq_true rfl) (fun r3 hr3 => ?_)
  subst hr3
  exact retS_i hx hb hr hlocks (rfl) dJ15_checkIndex_7cf53_6

set_option maxHeartbeats 4000000 in
set_option maxRecDepth 100000 in
/-- elementData(i) -/
theorem c_Jx4a65c_elementData_915e3 (l : Launch) (E : GE) (w : va_W) (q1 h1 : Nat) (mc : Int32) (h2 n : Nat) (hq1 : w[q1]? = some (h1, .inr (0, [.int mc, .ref h2, .int (nI n)]))) (q2 : Nat) (f : Nat → Option Nat) (hq2 : w[q2]? = some (h2, .inl (E.2.2.1, 10, .inr (.inr (.inr (.inr f)))))) (i r : Nat) (hi : i < n) (hn : n ≤ 8) (hf : f i = some r) : Met l yJx4a65c_elementData_915e3 wsJx4a65c_elementData_915e3 ({ frames := 0, cells := 0, slots := 0, locals := 0 } : Room) (va_Pc [.ref h1, .int (nI i)] (pcS E (w))) (va_Sr (fun k => k = r) (fun k => .ref k)) 0 0 (fun _ => False) := by
  refine metS (by decide) rfl (Nat.le_of_ble_eq_true rfl) ?_
  intro p e s m args below meth c ls hx hb hr hml hts hown hlocks hP hK hl
  have hiJx4a65c : ∀ q ∈ wsJx4a65c0, q ∈ wsJx4a65c_elementData_915e3 := by decide +kernel
  refine lv_aload_n hx hb dJx4a65c_elementData_915e3_0 rfl (lv_at hl 0 rfl) ?_
  refine va_get (D := E.1) (ci := 0) (v := .ref h2) (C := RJx4a65c) (T := TJx4a65c) (N := 3) hx hb hts hiJx4a65c hown hK hP q1 hq1 rfl 1 (by decide) (hts (.fieldLink RJx4a65c 9 "java/util/ArrayList" "elementData" "[Ljava/lang/Object;") (List.mem_of_getElem? (i := 1) (by rfl))) (fun _ h9 => h9) rfl dJx4a65c_elementData_915e3_1 ?_
  refine lv_iload_n hx hb dJx4a65c_elementData_915e3_4 rfl (lv_at hl 1 rfl) ?_
  refine va_aldq hx hb hK hP q2 1 hq2 rfl (by exact vp_in_nI (by omega) (by omega)) dJx4a65c_elementData_915e3_5 ?_
  refine nq_topv (show va_rf (f ((nI i)).toNatClampNeg) = .ref r from by rw [nI_clamp (by omega), hf]; rfl) ?_
  exact retS_r hx hb hr hlocks (rfl) dJx4a65c_elementData_915e3_6

set_option maxHeartbeats 4000000 in
set_option maxRecDepth 100000 in
/-- get(i) -/
theorem c_Jx4a65c_get_915e3 (l : Launch) (E : GE) (w : va_W) (q1 h1 : Nat) (mc : Int32) (h2 n : Nat) (hq1 : w[q1]? = some (h1, .inr (0, [.int mc, .ref h2, .int (nI n)]))) (q2 : Nat) (f : Nat → Option Nat) (hq2 : w[q2]? = some (h2, .inl (E.2.2.1, 10, .inr (.inr (.inr (.inr f)))))) (i r : Nat) (hi : i < n) (hn : n ≤ 8) (hf : f i = some r) : Met l yJx4a65c_get_915e3 wsJx4a65c_get_915e3 ({ frames := 2, cells := 0, slots := 0, locals := 43 } : Room) (va_Pc [.ref h1, .int (nI i)] (pcS E (w))) (va_Sr (fun k => k = r) (fun k => .ref k)) 0 0 (fun _ => False) := by
  refine metS (by decide) rfl (Nat.le_of_ble_eq_true rfl) ?_
  intro p e s m args below meth c ls hx hb hr hml hts hown hlocks hP hK hl
  have hiJx4a65c : ∀ q ∈ wsJx4a65c0, q ∈ wsJx4a65c_get_915e3 := by decide +kernel
  refine lv_iload_n hx hb dJx4a65c_get_915e3_0 rfl (lv_at hl 1 rfl) ?_
  refine lv_aload_n hx hb dJx4a65c_get_915e3_1 rfl (lv_at hl 0 rfl) ?_
  refine va_get (D := E.1) (ci := 0) (v := .int (nI n)) (C := RJx4a65c) (T := TJx4a65c) (N := 3) hx hb hts hiJx4a65c hown hK hP q1 hq1 rfl 2 (by decide) (hts (.fieldLink RJx4a65c 48 "java/util/ArrayList" "size" "I") (List.mem_of_getElem? (i := 1) (by rfl))) (fun _ h9 => h9) rfl dJx4a65c_get_915e3_2 ?_
  refine csS_i (rest := []) (As := [.int (nI i), .int (nI n)]) ⟨hx, hb, hml, hown, hts⟩ (c_J15_checkIndex_7cf53 l E _ i n (by omega) (by omega)) (va_cwS 2 hts gJx4a65c_get_915e3_J15_checkIndex_7cf53 rfl rfl rfl (by decide +kernel) ⟨Nat.le_of_ble_eq_true rfl, Nat.le_of_ble_eq_true rfl⟩) hP hK rfl hl.1 rfl (Nat.le_of_ble_eq_true rfl) dJx4a65c_get_915e3_5 (Nat.le_of_ble_eq_true rfl) (Nat.le_of_ble_eq_true rfl) (fun r5 hr5 => ?_)
  subst hr5
  refine lv_pop hx hb dJx4a65c_get_915e3_8 rfl ?_
  refine lv_aload_n hx hb dJx4a65c_get_915e3_9 rfl (lv_at hl 0 rfl) ?_
  refine lv_iload_n hx hb dJx4a65c_get_915e3_10 rfl (lv_at hl 1 rfl) ?_
  refine csV_r (rest := []) (As := [.int (nI i)]) ⟨hx, hb, hml, hown, hts⟩ (c_Jx4a65c_elementData_915e3 l E _ q1 _ _ _ n hq1 q2 f hq2 i r hi hn hf) (cwV 1 hts gJx4a65c_get_915e3_Jx4a65c_elementData_915e3 rfl rfl rfl (by decide +kernel) ⟨Nat.le_of_ble_eq_true rfl, Nat.le_of_ble_eq_true rfl⟩) (va_recv hK hP (ci := 0) (q0 := q1) rfl hq1) hP hK rfl hl.1 rfl (Nat.le_of_ble_eq_true rfl) dJx4a65c_get_915e3_11 (Nat.le_of_ble_eq_true rfl) (Nat.le_of_ble_eq_true rfl) (fun r11 hr11 => ?_)
  subst hr11
  exact retS_r hx hb hr hlocks (rfl) dJx4a65c_get_915e3_14

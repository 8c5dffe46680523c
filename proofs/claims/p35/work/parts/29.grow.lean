/-! the list grows, once: from the shared empty row to a row of ten -/
section CG
variable {p : Program} {l : Launch} {e : Env} {R : Room} {s : State} {m : MethodId} {args : Array Value} {below : List Frame} {meth : Method} {c : Code} {H : Heap} {locs : List Loc} {cells slots : Nat} {Q : State → Prop}
variable {cc bytes : ByteArray} {pc maxL nL n index mc ms z0 : Nat} {ret : Option FieldType} {ls : Array Slot} {rest st As : List Value} {E : GE} {w wx wy : va_W} {y : MethodName} {ws : List Cond} {rm : Room} {Ts : List Cond} {own C : String} {b : Addr} {A0 : Nat → Prop} {W1 : Nat → va_W}
theorem retM_r {v : Nat} {ty : FieldType} (hx : p.tables.exec = Jvm.exec) (hb : c.code = cc) (hr : meth.sig.returnType = some (.array ty)) (hlocks : meth.locks = false) (hP : va_P E.1 vwCl (W1 v) H) (hK : va_K E.1 vwCl (tyE E) s) (hD : va_D A0 (W1 v)) (hS : va_S A0 s.heap H locs) (hdg : decode cc pc = .ok (.areturn, 1)) : W p l e R s m args below meth c H locs cells slots (MQ below (va_Qr (S := Unit) (fun _ => True) (fun _ aQ tQ => atM E A0 (W1 aQ) tQ) A0) args s cells slots A0) (F0 m pc ls [.ref v]) :=
  W.aret hx hb hr (Or.inr ⟨_, rfl⟩) (Or.inr ⟨v, rfl⟩) (fun t ht hW => ⟨⟨(), v, rfl, trivial, by rw [ht]; exact hP, va_K.moved hW.alike hK, hD⟩, hS.F ht⟩) hS.2.2 hdg hlocks
theorem cmZ_r (F : CallFix p m c cc nL s args Ts own) (hM : Met l y ws rm (va_Pc (.ref b :: As) (pcZ E w H.size z0)) (va_Qr (S := Unit) (fun _ => True) (fun _ aQ tQ => atM E (va_A w H.size) (W1 aQ) tQ) (va_A w H.size)) mc ms (va_A w H.size)) (cw : CallW R s args own C index y bytes maxL ret ws rm mc ms n) (hr : ∃ cell : Cell, H[b]? = some cell ∧ cell.vm.isStatics = false ∧ s.vm.findClass C = some cell.cls) (hP : va_P E.1 vwCl (wx ++ (w ++ wy)) H) (hK : va_K E.1 vwCl (tyE E) s) (hD : va_D A0 (wx ++ (w ++ wy))) (hZ : ZE z0 A0 s s.heap) (hS : va_S A0 s.heap H locs) (hA : ∀ q, s.heap.size ≤ q → A0 q)
    (hn : As.length = n) (hz : ls.size = nL) (hst : st = As.reverse ++ .ref b :: rest) (hW : (rest.map fun v => v.category).sum ≤ 8) (hdg : decode cc pc = .ok (.invokevirtual index, 3)) (hf : cells + mc ≤ R.cells ∧ slots + ms ≤ R.slots)
    (kk : ∀ (ra : Nat) (H1 : Heap) (locs1 : List Loc), va_P E.1 vwCl (wx ++ (W1 ra ++ wy)) H1 → va_D A0 (wx ++ (W1 ra ++ wy)) → va_S A0 s.heap H1 locs1 → W p l e R s m args below meth c H1 locs1 (cells + mc) (slots + ms) Q (F0 m (pc + 3) ls (.ref ra :: rest))) : W p l e R s m args below meth c H locs cells slots Q (F0 m pc ls st) :=
  va_callr (va_runV (As := As) (rest := rest) F hM cw ⟨fb_Z, hr, fun U hU hW => ⟨rfl, ⟨by rw [hU], by rw [hU]; exact va_Pm hP, va_K.moved hW.alike hK, (va_Dm hD).weaken (fun _ _ _ _ => trivial)⟩, ze_in hZ hS (va_freeW (va_Dm hD) hS hA) hU hW.alike⟩⟩ rfl hn hz hst (lv_room hW) hdg hf) hS (fun q _ h => va_freeW (va_Dm hD) hS hA q h) (va_freeW (va_Dm hD) hS hA)
    (fun _ ra t H1 locs1 ht hvm _ hB _ hk hS1 => by
      obtain ⟨b1, b2, b3⟩ := hB
      rw [ht] at b1
      obtain ⟨h1, h3⟩ := va_split hP hD hk (va_freeW (va_Dm hD) hS hA) b1 b3
      exact kk ra H1 locs1 h1 h3 hS1)
end CG

set_option maxHeartbeats 4000000 in
set_option maxRecDepth 100000 in
/-- the row grows -/
theorem c_Jx4a65c_grow_92f84 (l : Launch) (E : GE) (sz : Nat) (x z0 : Nat) (mc : Int32) : Met l yJx4a65c_grow_92f84 wsJx4a65c_grow_92f84 ({ frames := 1, cells := 1, slots := 10, locals := 21 } : Room) (va_Pc [.ref x, .int (nI 1)] (pcZ E ([(x, .inr (0, [.int mc, .ref z0, .int (nI 0)]))]) sz z0)) (va_Qr (S := Unit) (fun _ => True) (fun _ aQ tQ => atM E (va_A ([(x, .inr (0, [.int mc, .ref z0, .int (nI 0)]))]) sz) ((fun aG => [(x, .inr (0, [.int mc, .ref aG, .int (nI 0)]))] ++ [(aG, .inl (E.2.2.1, 10, .inr (.inr (.inr (.inr (fun _ => none))))))]) aQ) tQ) (va_A ([(x, .inr (0, [.int mc, .ref z0, .int (nI 0)]))]) sz)) 1 10 (va_A ([(x, .inr (0, [.int mc, .ref z0, .int (nI 0)]))]) sz) := by
  refine metZ (by decide) rfl (Nat.le_of_ble_eq_true rfl) ?_
  intro p e s m args below meth c ls A hAe hA hx hb hr hml hts hown hlocks hin hP hK hD hZ hS hl
  rw [hAe]
  have hiJx4a65c : ∀ q ∈ wsJx4a65c0, q ∈ wsJx4a65c_grow_92f84 := by decide +kernel
  refine lv_aload_n hx hb dJx4a65c_grow_92f84_0 rfl (lv_at hl 0 rfl) ?_
  refine va_get (D := E.1) (ci := 0) (v := .ref z0) (C := RJx4a65c) (T := TJx4a65c) (N := 3) hx hb hts hiJx4a65c hown hK hP 0 rfl rfl 1 (by decide) (hts (.fieldLink RJx4a65c 9 "java/util/ArrayList" "elementData" "[Ljava/lang/Object;") (List.mem_of_getElem? (i := 1) (by rfl))) (fun _ h9 => h9) rfl dJx4a65c_grow_92f84_1 ?_
  refine va_tlen (v := nI 0) hx hb hZ.2.1 hS rfl dJx4a65c_grow_92f84_4 ?_
  refine lv_istore_n (lv' := [(2, .int (nI 0)), (0, .ref x), (1, .int (nI 1))]) hx hb dJx4a65c_grow_92f84_5 rfl hl (by decide) rfl (fun ls hl => ?_)
  refine lv_iload_n hx hb dJx4a65c_grow_92f84_6 rfl (lv_at hl 0 rfl) ?_
  refine nq_if_gt (tgt := 20) hx hb dJx4a65c_grow_92f84_7 (by decide) (by omega) (fun h7 => ?_) (fun h7 => ?_)
  · skip
    exact absurd h7 (by omega)
  · skip
    refine lv_aload_n hx hb dJx4a65c_grow_92f84_10 rfl (lv_at hl 1 rfl) ?_
    refine va_get (D := E.1) (ci := 0) (v := .ref z0) (C := RJx4a65c) (T := TJx4a65c) (N := 3) hx hb hts hiJx4a65c hown hK hP 0 rfl rfl 1 (by decide) (hts (.fieldLink RJx4a65c 9 "java/util/ArrayList" "elementData" "[Ljava/lang/Object;") (List.mem_of_getElem? (i := 1) (by rfl))) (fun _ h9 => h9) rfl dJx4a65c_grow_92f84_11 ?_
    refine va_gets hx hb hZ.1 hS hown (hts (.fieldLink RJx4a65c 39 "java/util/ArrayList" "DEFAULTCAPACITY_EMPTY_ELEMENTDATA" "[Ljava/lang/Object;") (List.mem_of_getElem? (i := 2) (by rfl))) (fun _ h9 => h9) dJx4a65c_grow_92f84_14 ?_
    refine lv_acmp_eq (rx := (some z0)) (ry := (some z0)) (tgt := 45) hx hb dJx4a65c_grow_92f84_17 (by decide) (fun h17 => ?_) (fun h17 => ?_)
    · skip
      refine lv_aload_n hx hb dJx4a65c_grow_92f84_45 rfl (lv_at hl 1 rfl) ?_
      refine lv_bipush (v := (nI 10)) hx hb dJx4a65c_grow_92f84_46 (by decide) ?_
      refine lv_iload_n hx hb dJx4a65c_grow_92f84_48 rfl (lv_at hl 2 rfl) ?_
      refine va_mmax hx hb (hml.trans hl.1.symm) hown (hts (.methodLink RJx4a65c 79 Lib.Math.max.name) (List.mem_of_getElem? (i := 3) (by rfl))) (hts (.static Lib.Math.max.name) (List.mem_of_getElem? (i := 4) (by rfl))) (hts (.initialized "java/lang/Math") (List.mem_of_getElem? (i := 5) (by rfl))) (hts (.code Lib.Math.max.name Lib.Math.max.code 2 (some .int)) (List.mem_of_getElem? (i := 6) (by rfl))) (Nat.le_of_ble_eq_true rfl) (Nat.le_of_ble_eq_true rfl) (Nat.le_of_ble_eq_true rfl) (Nat.le_of_ble_eq_true rfl) dJx4a65c_grow_92f84_49 ?_
      refine nq_top (show (if (nI 10) < (nI 1) then (nI 1) else (nI 10)) = (nI 10) from by decide) ?_
      refine nq_newq (N := 10) hx hb hown (hts (.classLink RJx4a65c 7 "java/lang/Object") (List.mem_of_getElem? (i := 7) (by rfl))) hZ.2.2.1 hK hP hD hS hA (by decide) (by show 0 + 1 ≤ 1; omega) (by show 0 + 10 ≤ 10; omega) dJx4a65c_grow_92f84_52 (fun q52 H hP hD hS => ?_)
      have hP : va_P E.1 vwCl ([(x, .inr (0, [.int mc, .ref z0, .int (nI 0)]))] ++ [(q52, .inl (E.2.2.1, 10, .inr (.inr (.inr (.inr (fun _ => none))))))]) _ := hP
      have hD : va_D A ([(x, .inr (0, [.int mc, .ref z0, .int (nI 0)]))] ++ [(q52, .inl (E.2.2.1, 10, .inr (.inr (.inr (.inr (fun _ => none))))))]) := hD
      refine lv_dup_x1 hx hb dJx4a65c_grow_92f84_55 rfl rfl ?_
      refine va_put (D := E.1) (ci := 0) (v := .ref q52) (ty := (.array (.object "java/lang/Object"))) (C := RJx4a65c) (T := TJx4a65c) (N := 3) hx hb hts hiJx4a65c tyJx4a65c tyJx4a65c_ok nmJx4a65c hown hK hP hD hS 0 rfl rfl 1 (by decide) (hts (.fieldLink RJx4a65c 9 "java/util/ArrayList" "elementData" "[Ljava/lang/Object;") (List.mem_of_getElem? (i := 1) (by rfl))) (fun _ h9 => h9) rfl (by decide +kernel) rfl (by rfl) (Nat.le_of_ble_eq_true rfl) dJx4a65c_grow_92f84_56 (fun H locs hP hD hS => ?_)
      have hP : va_P E.1 vwCl ([(x, .inr (0, [.int mc, .ref q52, .int (nI 0)]))] ++ [(q52, .inl (E.2.2.1, 10, .inr (.inr (.inr (.inr (fun _ => none))))))]) _ := hP
      have hD : va_D A ([(x, .inr (0, [.int mc, .ref q52, .int (nI 0)]))] ++ [(q52, .inl (E.2.2.1, 10, .inr (.inr (.inr (.inr (fun _ => none))))))]) := hD
      exact retM_r (E := E) (A0 := A) (v := q52) (W1 := fun aG => [(x, .inr (0, [.int mc, .ref aG, .int (nI 0)]))] ++ [(aG, .inl (E.2.2.1, 10, .inr (.inr (.inr (.inr (fun _ => none))))))]) hx hb hr hlocks hP hK hD hS dJx4a65c_grow_92f84_59
    · skip
      exact absurd rfl h17

set_option maxHeartbeats 4000000 in
set_option maxRecDepth 100000 in
/-- the row grows -/
theorem c_Jx4a65c_grow_d5877 (l : Launch) (E : GE) (sz : Nat) (x z0 : Nat) (mc : Int32) : Met l yJx4a65c_grow_d5877 wsJx4a65c_grow_d5877 ({ frames := 2, cells := 1, slots := 10, locals := 44 } : Room) (va_Pc [.ref x] (pcZ E ([(x, .inr (0, [.int mc, .ref z0, .int (nI 0)]))]) sz z0)) (va_Qr (S := Unit) (fun _ => True) (fun _ aQ tQ => atM E (va_A ([(x, .inr (0, [.int mc, .ref z0, .int (nI 0)]))]) sz) ((fun aG => [(x, .inr (0, [.int mc, .ref aG, .int (nI 0)]))] ++ [(aG, .inl (E.2.2.1, 10, .inr (.inr (.inr (.inr (fun _ => none))))))]) aQ) tQ) (va_A ([(x, .inr (0, [.int mc, .ref z0, .int (nI 0)]))]) sz)) 1 10 (va_A ([(x, .inr (0, [.int mc, .ref z0, .int (nI 0)]))]) sz) := by
  refine metZ (by decide) rfl (Nat.le_of_ble_eq_true rfl) ?_
  intro p e s m args below meth c ls A hAe hA hx hb hr hml hts hown hlocks hin hP hK hD hZ hS hl
  rw [hAe]
  have hiJx4a65c : ∀ q ∈ wsJx4a65c0, q ∈ wsJx4a65c_grow_d5877 := by decide +kernel
  refine lv_aload_n hx hb dJx4a65c_grow_d5877_0 rfl (lv_at hl 0 rfl) ?_
  refine lv_aload_n hx hb dJx4a65c_grow_d5877_1 rfl (lv_at hl 0 rfl) ?_
  refine va_get (D := E.1) (ci := 0) (v := .int (nI 0)) (C := RJx4a65c) (T := TJx4a65c) (N := 3) hx hb hts hiJx4a65c hown hK hP 0 rfl rfl 2 (by decide) (hts (.fieldLink RJx4a65c 48 "java/util/ArrayList" "size" "I") (List.mem_of_getElem? (i := 1) (by rfl))) (fun _ h9 => h9) rfl dJx4a65c_grow_d5877_2 ?_
  refine lv_iconst (v := (nI 1)) hx hb dJx4a65c_grow_d5877_5 (by decide) ?_
  refine nq_add hx hb dJx4a65c_grow_d5877_6 ?_
  refine nq_top (show (nI (0 + 1)) = (nI 1) from rfl) ?_
  have hP : va_P E.1 vwCl (([]) ++ (([(x, .inr (0, [.int mc, .ref z0, .int (nI 0)]))]) ++ ([]))) _ := hP
  have hD : va_D A (([]) ++ (([(x, .inr (0, [.int mc, .ref z0, .int (nI 0)]))]) ++ ([]))) := hD
  refine cmZ_r (wx := []) (wy := []) (rest := []) (As := [.int (nI 1)]) ⟨hx, hb, hml, hown, hts⟩ (c_Jx4a65c_grow_92f84 l E _ x z0 mc) (cwV 1 hts gJx4a65c_grow_d5877_Jx4a65c_grow_92f84 rfl rfl rfl (by decide +kernel) ⟨Nat.le_of_ble_eq_true rfl, Nat.le_of_ble_eq_true rfl⟩) (va_recv hK hP (ci := 0) (q0 := 0) rfl rfl) hP hK hD hZ hS hA rfl hl.1 rfl (Nat.le_of_ble_eq_true rfl) dJx4a65c_grow_d5877_7 ⟨by show 0 + 1 ≤ 1; omega, by show 0 + 10 ≤ 10; omega⟩ (fun q7 H locs hP hD hS => ?_)
  have hP : va_P E.1 vwCl ([(x, .inr (0, [.int mc, .ref q7, .int (nI 0)]))] ++ [(q7, .inl (E.2.2.1, 10, .inr (.inr (.inr (.inr (fun _ => none))))))]) _ := hP
  have hD : va_D A ([(x, .inr (0, [.int mc, .ref q7, .int (nI 0)]))] ++ [(q7, .inl (E.2.2.1, 10, .inr (.inr (.inr (.inr (fun _ => none))))))]) := hD
  exact retM_r (E := E) (A0 := A) (v := q7) (W1 := fun aG => [(x, .inr (0, [.int mc, .ref aG, .int (nI 0)]))] ++ [(aG, .inl (E.2.2.1, 10, .inr (.inr (.inr (.inr (fun _ => none))))))]) hx hb hr hlocks hP hK hD hS dJx4a65c_grow_d5877_10

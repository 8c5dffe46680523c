/-! new lamps, and the list's beginnings -/
section CI
variable {p : Program} {l : Launch} {e : Env} {R : Room} {s : State} {m : MethodId} {args : Array Value} {below : List Frame} {meth : Method} {c : Code} {H : Heap} {locs : List Loc} {cells slots : Nat} {Q : State → Prop}
variable {cc bytes : ByteArray} {pc maxL nL n index mc ms : Nat} {ls : Array Slot} {rest st As : List Value} {E : GE} {w wx wy : va_W} {y : MethodName} {ws : List Cond} {rm : Room} {Ts : List Cond} {own : String} {b : Addr} {A0 : Nat → Prop} {S : Type} {W1 : S → va_W}
theorem cmI_v {post : S → Prop} (F : CallFix p m c cc nL s args Ts own) (hM : Met l y ws rm (va_Pc (.ref b :: As) (pcM E w H.size)) (va_Qv post (fun u t => atM E (va_A w H.size) (W1 u) t) (va_A w H.size)) mc ms (va_A w H.size)) (cw : CallB R s args own index y bytes maxL none ws rm mc ms n ∧ y.name = "<init>" ∧ (Cond.instanceMethod y).before args s = true) (hP : va_P E.1 vwCl (wx ++ (w ++ wy)) H) (hK : va_K E.1 vwCl (tyE E) s) (hD : va_D A0 (wx ++ (w ++ wy))) (hS : va_S A0 s.heap H locs) (hA : ∀ q, s.heap.size ≤ q → A0 q)
    (hn : As.length = n) (hz : ls.size = nL) (hst : st = As.reverse ++ .ref b :: rest) (hW : (rest.map fun v => v.category).sum ≤ 8) (hdg : decode cc pc = .ok (.invokespecial index, 3)) (hf : cells + mc ≤ R.cells ∧ slots + ms ≤ R.slots)
    (kk : ∀ (u : S) (H1 : Heap) (locs1 : List Loc), post u → va_P E.1 vwCl (wx ++ (W1 u ++ wy)) H1 → va_D A0 (wx ++ (W1 u ++ wy)) → va_S A0 s.heap H1 locs1 → W p l e R s m args below meth c H1 locs1 (cells + mc) (slots + ms) Q (F0 m (pc + 3) ls rest)) : W p l e R s m args below meth c H locs cells slots Q (F0 m pc ls st) :=
  va_callv (va_runI (As := As) (rest := rest) F hM cw ⟨fb_M, fun U hU hW => ⟨rfl, by rw [hU], by rw [hU]; exact va_Pm hP, va_K.moved hW.alike hK, (va_Dm hD).weaken (fun _ _ _ _ => trivial)⟩⟩ rfl hn hz hst (lv_room hW) hdg hf) hS (fun q _ h => va_freeW (va_Dm hD) hS hA q h) (va_freeW (va_Dm hD) hS hA)
    (fun u t H1 locs1 ht hvm hw hB _ hk hS1 => by
      obtain ⟨b1, b2, b3⟩ := hB
      rw [ht] at b1
      obtain ⟨h1, h3⟩ := va_split hP hD hk (va_freeW (va_Dm hD) hS hA) b1 b3
      exact kk u H1 locs1 hw h1 h3 hS1)
end CI

set_option maxHeartbeats 4000000 in
set_option maxRecDepth 100000 in
/-- a new lamp -/
theorem c_X0_init (l : Launch) (E : GE) (sz : Nat) (x k z v u : Nat) : Met l yX0_init wsX0_init ({ frames := 1, cells := 0, slots := 0, locals := 20 } : Room) (va_Pc [.ref x, .int (nI v), .int (nI k), .int (nI u), .int (nI z)] (pcM E ([(x, .inr (1, [.int 0, .int 0, .int 0, .int 0, .int 0, .int 0, .int 0, .int 0, .int 0]))]) sz)) (va_Qv (S := Unit) (fun _ => True) (fun uQ tQ => atM E (va_A ([(x, .inr (1, [.int 0, .int 0, .int 0, .int 0, .int 0, .int 0, .int 0, .int 0, .int 0]))]) sz) ((fun _ => [(x, .inr (1, [.int (nI k), .int (nI z), .int (nI v), .int (nI 0), .int (nI u), .int (nI 0), .int (nI 0), .int (bI false), .int (nI 0)]))]) uQ) tQ) (va_A ([(x, .inr (1, [.int 0, .int 0, .int 0, .int 0, .int 0, .int 0, .int 0, .int 0, .int 0]))]) sz)) 0 0 (va_A ([(x, .inr (1, [.int 0, .int 0, .int 0, .int 0, .int 0, .int 0, .int 0, .int 0, .int 0]))]) sz) := by
  refine metM (by decide) rfl (Nat.le_of_ble_eq_true rfl) ?_
  intro p e s m args below meth c ls A hAe hA hx hb hr hml hts hown hlocks hin hP hK hD hS hl
  rw [hAe]
  have hiX0 : ∀ q ∈ wsX00, q ∈ wsX0_init := by decide +kernel
  refine lv_aload_n hx hb dX0_init_0 rfl (lv_at hl 0 rfl) ?_
  refine W.objInit hx hb hown (hts (.methodLink RX0 1 objectInit) (List.mem_of_getElem? (i := 1) (by rfl))) (hts (.instanceMethod objectInit) (List.mem_of_getElem? (i := 2) (by rfl))) (hts _ (List.mem_of_getElem? (i := 3) (by rfl))) rfl (by rw [hml]; exact hl.1) rfl dX0_init_1 (Nat.le_of_ble_eq_true rfl) (Nat.le_of_ble_eq_true rfl) ?_
  refine W.eq (g2 := F0 m 4 ls ([])) rfl ?_
  refine lv_aload_n hx hb dX0_init_4 rfl (lv_at hl 0 rfl) ?_
  refine lv_iload_n hx hb dX0_init_5 rfl (lv_at hl 1 rfl) ?_
  refine va_put (D := E.1) (ci := 1) (v := .int (nI v)) (ty := .int) (C := RX0) (T := TX0) (N := 9) hx hb hts hiX0 tyX0 tyX0_ok nmX0 hown hK hP hD hS 0 rfl rfl 2 (by decide) (hts (.fieldLink RX0 7 "PulseLoom$Lamp" "colour" "I") (List.mem_of_getElem? (i := 4) (by rfl))) (fun _ h9 => h9) rfl (by decide +kernel) rfl (by rfl) (Nat.le_of_ble_eq_true rfl) dX0_init_6 (fun H locs hP hD hS => ?_)
  have hP : va_P E.1 vwCl ([(x, .inr (1, [.int 0, .int 0, .int (nI v), .int 0, .int 0, .int 0, .int 0, .int 0, .int 0]))]) H := hP
  have hD : va_D A ([(x, .inr (1, [.int 0, .int 0, .int (nI v), .int 0, .int 0, .int 0, .int 0, .int 0, .int 0]))]) := hD
  refine lv_aload_n hx hb dX0_init_9 rfl (lv_at hl 0 rfl) ?_
  refine lv_iload_n hx hb dX0_init_10 rfl (lv_at hl 2 rfl) ?_
  refine va_putF (D := E.1) (ci := 1) (v := .int (nI k)) (ty := .int) (C := RX0) (T := TX0) (N := 9) hx hb hts hiX0 tyX0 tyX0_ok nmX0 hown hK hP hD hS 0 rfl rfl 0 (by decide) (hts (.fieldLink RX0 13 "PulseLoom$Lamp" "period" "I") (List.mem_of_getElem? (i := 5) (by rfl))) (fun _ h9 => h9) rfl hin rfl (by decide +kernel) rfl (by rfl) (Nat.le_of_ble_eq_true rfl) dX0_init_11 (fun H locs hP hD hS => ?_)
  have hP : va_P E.1 vwCl ([(x, .inr (1, [.int (nI k), .int 0, .int (nI v), .int 0, .int 0, .int 0, .int 0, .int 0, .int 0]))]) H := hP
  have hD : va_D A ([(x, .inr (1, [.int (nI k), .int 0, .int (nI v), .int 0, .int 0, .int 0, .int 0, .int 0, .int 0]))]) := hD
  refine lv_aload_n hx hb dX0_init_14 rfl (lv_at hl 0 rfl) ?_
  refine lv_iload_n hx hb dX0_init_15 rfl (lv_at hl 3 rfl) ?_
  refine va_put (D := E.1) (ci := 1) (v := .int (nI u)) (ty := .int) (C := RX0) (T := TX0) (N := 9) hx hb hts hiX0 tyX0 tyX0_ok nmX0 hown hK hP hD hS 0 rfl rfl 4 (by decide) (hts (.fieldLink RX0 16 "PulseLoom$Lamp" "length" "I") (List.mem_of_getElem? (i := 6) (by rfl))) (fun _ h9 => h9) rfl (by decide +kernel) rfl (by rfl) (Nat.le_of_ble_eq_true rfl) dX0_init_16 (fun H locs hP hD hS => ?_)
  have hP : va_P E.1 vwCl ([(x, .inr (1, [.int (nI k), .int 0, .int (nI v), .int 0, .int (nI u), .int 0, .int 0, .int 0, .int 0]))]) H := hP
  have hD : va_D A ([(x, .inr (1, [.int (nI k), .int 0, .int (nI v), .int 0, .int (nI u), .int 0, .int 0, .int 0, .int 0]))]) := hD
  refine lv_aload_n hx hb dX0_init_19 rfl (lv_at hl 0 rfl) ?_
  refine lv_iload hx hb dX0_init_20 (lv_at hl 4 rfl) ?_
  refine va_putF (D := E.1) (ci := 1) (v := .int (nI z)) (ty := .int) (C := RX0) (T := TX0) (N := 9) hx hb hts hiX0 tyX0 tyX0_ok nmX0 hown hK hP hD hS 0 rfl rfl 1 (by decide) (hts (.fieldLink RX0 19 "PulseLoom$Lamp" "power" "I") (List.mem_of_getElem? (i := 7) (by rfl))) (fun _ h9 => h9) rfl hin rfl (by decide +kernel) rfl (by rfl) (Nat.le_of_ble_eq_true rfl) dX0_init_22 (fun H locs hP hD hS => ?_)
  have hP : va_P E.1 vwCl ([(x, .inr (1, [.int (nI k), .int (nI z), .int (nI v), .int 0, .int (nI u), .int 0, .int 0, .int 0, .int 0]))]) H := hP
  have hD : va_D A ([(x, .inr (1, [.int (nI k), .int (nI z), .int (nI v), .int 0, .int (nI u), .int 0, .int 0, .int 0, .int 0]))]) := hD
  refine lv_aload_n hx hb dX0_init_25 rfl (lv_at hl 0 rfl) ?_
  refine lv_iconst (v := (nI 0)) hx hb dX0_init_26 (by decide) ?_
  refine va_put (D := E.1) (ci := 1) (v := .int (nI 0)) (ty := .int) (C := RX0) (T := TX0) (N := 9) hx hb hts hiX0 tyX0 tyX0_ok nmX0 hown hK hP hD hS 0 rfl rfl 3 (by decide) (hts (.fieldLink RX0 22 "PulseLoom$Lamp" "shift" "I") (List.mem_of_getElem? (i := 8) (by rfl))) (fun _ h9 => h9) rfl (by decide +kernel) rfl (by rfl) (Nat.le_of_ble_eq_true rfl) dX0_init_27 (fun H locs hP hD hS => ?_)
  have hP : va_P E.1 vwCl ([(x, .inr (1, [.int (nI k), .int (nI z), .int (nI v), .int (nI 0), .int (nI u), .int 0, .int 0, .int 0, .int 0]))]) H := hP
  have hD : va_D A ([(x, .inr (1, [.int (nI k), .int (nI z), .int (nI v), .int (nI 0), .int (nI u), .int 0, .int 0, .int 0, .int 0]))]) := hD
  refine lv_aload_n hx hb dX0_init_30 rfl (lv_at hl 0 rfl) ?_
  refine lv_iconst (v := (nI 0)) hx hb dX0_init_31 (by decide) ?_
  refine va_put (D := E.1) (ci := 1) (v := .int (nI 0)) (ty := .int) (C := RX0) (T := TX0) (N := 9) hx hb hts hiX0 tyX0 tyX0_ok nmX0 hown hK hP hD hS 0 rfl rfl 5 (by decide) (hts (.fieldLink RX0 25 "PulseLoom$Lamp" "beatsShone" "I") (List.mem_of_getElem? (i := 9) (by rfl))) (fun _ h9 => h9) rfl (by decide +kernel) rfl (by rfl) (Nat.le_of_ble_eq_true rfl) dX0_init_32 (fun H locs hP hD hS => ?_)
  have hP : va_P E.1 vwCl ([(x, .inr (1, [.int (nI k), .int (nI z), .int (nI v), .int (nI 0), .int (nI u), .int (nI 0), .int 0, .int 0, .int 0]))]) H := hP
  have hD : va_D A ([(x, .inr (1, [.int (nI k), .int (nI z), .int (nI v), .int (nI 0), .int (nI u), .int (nI 0), .int 0, .int 0, .int 0]))]) := hD
  refine lv_aload_n hx hb dX0_init_35 rfl (lv_at hl 0 rfl) ?_
  refine lv_iconst (v := (nI 0)) hx hb dX0_init_36 (by decide) ?_
  refine va_put (D := E.1) (ci := 1) (v := .int (nI 0)) (ty := .int) (C := RX0) (T := TX0) (N := 9) hx hb hts hiX0 tyX0 tyX0_ok nmX0 hown hK hP hD hS 0 rfl rfl 6 (by decide) (hts (.fieldLink RX0 28 "PulseLoom$Lamp" "beatsDark" "I") (List.mem_of_getElem? (i := 10) (by rfl))) (fun _ h9 => h9) rfl (by decide +kernel) rfl (by rfl) (Nat.le_of_ble_eq_true rfl) dX0_init_37 (fun H locs hP hD hS => ?_)
  have hP : va_P E.1 vwCl ([(x, .inr (1, [.int (nI k), .int (nI z), .int (nI v), .int (nI 0), .int (nI u), .int (nI 0), .int (nI 0), .int 0, .int 0]))]) H := hP
  have hD : va_D A ([(x, .inr (1, [.int (nI k), .int (nI z), .int (nI v), .int (nI 0), .int (nI u), .int (nI 0), .int (nI 0), .int 0, .int 0]))]) := hD
  refine lv_aload_n hx hb dX0_init_40 rfl (lv_at hl 0 rfl) ?_
  refine lv_iconst (v := (nI 0)) hx hb dX0_init_41 (by decide) ?_
  refine nq_top (show (nI 0) = (bI false) from rfl) ?_
  refine va_put (D := E.1) (ci := 1) (v := .int (bI false)) (ty := .boolean) (C := RX0) (T := TX0) (N := 9) hx hb hts hiX0 tyX0 tyX0_ok nmX0 hown hK hP hD hS 0 rfl rfl 7 (by decide) (hts (.fieldLink RX0 31 "PulseLoom$Lamp" "lit" "Z") (List.mem_of_getElem? (i := 11) (by rfl))) (fun _ h9 => h9) rfl (by decide +kernel) (bI_nar _) (bI_fit _) (Nat.le_of_ble_eq_true rfl) dX0_init_42 (fun H locs hP hD hS => ?_)
  have hP : va_P E.1 vwCl ([(x, .inr (1, [.int (nI k), .int (nI z), .int (nI v), .int (nI 0), .int (nI u), .int (nI 0), .int (nI 0), .int (bI false), .int 0]))]) H := hP
  have hD : va_D A ([(x, .inr (1, [.int (nI k), .int (nI z), .int (nI v), .int (nI 0), .int (nI u), .int (nI 0), .int (nI 0), .int (bI false), .int 0]))]) := hD
  refine lv_aload_n hx hb dX0_init_45 rfl (lv_at hl 0 rfl) ?_
  refine lv_iconst (v := (nI 0)) hx hb dX0_init_46 (by decide) ?_
  refine va_put (D := E.1) (ci := 1) (v := .int (nI 0)) (ty := .int) (C := RX0) (T := TX0) (N := 9) hx hb hts hiX0 tyX0 tyX0_ok nmX0 hown hK hP hD hS 0 rfl rfl 8 (by decide) (hts (.fieldLink RX0 35 "PulseLoom$Lamp" "foreseen" "I") (List.mem_of_getElem? (i := 12) (by rfl))) (fun _ h9 => h9) rfl (by decide +kernel) rfl (by rfl) (Nat.le_of_ble_eq_true rfl) dX0_init_47 (fun H locs hP hD hS => ?_)
  have hP : va_P E.1 vwCl ([(x, .inr (1, [.int (nI k), .int (nI z), .int (nI v), .int (nI 0), .int (nI u), .int (nI 0), .int (nI 0), .int (bI false), .int (nI 0)]))]) H := hP
  have hD : va_D A ([(x, .inr (1, [.int (nI k), .int (nI z), .int (nI v), .int (nI 0), .int (nI u), .int (nI 0), .int (nI 0), .int (bI false), .int (nI 0)]))]) := hD
  exact retM_v (E := E) (A0 := A) (post := fun _ => True) (u := ()) (W1 := fun _ => [(x, .inr (1, [.int (nI k), .int (nI z), .int (nI v), .int (nI 0), .int (nI u), .int (nI 0), .int (nI 0), .int (bI false), .int (nI 0)]))]) hx hb hr hlocks hP hK hD hS (trivial) dX0_init_50

set_option maxHeartbeats 4000000 in
set_option maxRecDepth 100000 in
/-- the list begins -/
theorem c_Jxa1e45_init_da8c8 (l : Launch) (E : GE) (sz : Nat) (x : Nat) : Met l yJxa1e45_init_da8c8 wsJxa1e45_init_da8c8 ({ frames := 1, cells := 0, slots := 0, locals := 20 } : Room) (va_Pc [.ref x] (pcM E ([(x, .inr (0, [.int 0, .null, .int 0]))]) sz)) (va_Qv (S := Unit) (fun _ => True) (fun uQ tQ => atM E (va_A ([(x, .inr (0, [.int 0, .null, .int 0]))]) sz) ((fun _ => [(x, .inr (0, [.int 0, .null, .int 0]))]) uQ) tQ) (va_A ([(x, .inr (0, [.int 0, .null, .int 0]))]) sz)) 0 0 (va_A ([(x, .inr (0, [.int 0, .null, .int 0]))]) sz) := by
  refine metM (by decide) rfl (Nat.le_of_ble_eq_true rfl) ?_
  intro p e s m args below meth c ls A hAe hA hx hb hr hml hts hown hlocks hin hP hK hD hS hl
  rw [hAe]
  refine lv_aload_n hx hb dJxa1e45_init_da8c8_0 rfl (lv_at hl 0 rfl) ?_
  refine W.objInit hx hb hown (hts (.methodLink RJxa1e45 1 objectInit) (List.mem_of_getElem? (i := 1) (by rfl))) (hts (.instanceMethod objectInit) (List.mem_of_getElem? (i := 2) (by rfl))) (hts _ (List.mem_of_getElem? (i := 3) (by rfl))) rfl (by rw [hml]; exact hl.1) rfl dJxa1e45_init_da8c8_1 (Nat.le_of_ble_eq_true rfl) (Nat.le_of_ble_eq_true rfl) ?_
  refine W.eq (g2 := F0 m 4 ls ([])) rfl ?_
  exact retM_v (E := E) (A0 := A) (post := fun _ => True) (u := ()) (W1 := fun _ => [(x, .inr (0, [.int 0, .null, .int 0]))]) hx hb hr hlocks hP hK hD hS (trivial) dJxa1e45_init_da8c8_4

set_option maxHeartbeats 4000000 in
set_option maxRecDepth 100000 in
/-- the list begins -/
theorem c_Jxc12de_init_da8c8 (l : Launch) (E : GE) (sz : Nat) (x : Nat) : Met l yJxc12de_init_da8c8 wsJxc12de_init_da8c8 ({ frames := 2, cells := 0, slots := 0, locals := 40 } : Room) (va_Pc [.ref x] (pcM E ([(x, .inr (0, [.int 0, .null, .int 0]))]) sz)) (va_Qv (S := Unit) (fun _ => True) (fun uQ tQ => atM E (va_A ([(x, .inr (0, [.int 0, .null, .int 0]))]) sz) ((fun _ => [(x, .inr (0, [.int 0, .null, .int 0]))]) uQ) tQ) (va_A ([(x, .inr (0, [.int 0, .null, .int 0]))]) sz)) 0 0 (va_A ([(x, .inr (0, [.int 0, .null, .int 0]))]) sz) := by
  refine metM (by decide) rfl (Nat.le_of_ble_eq_true rfl) ?_
  intro p e s m args below meth c ls A hAe hA hx hb hr hml hts hown hlocks hin hP hK hD hS hl
  rw [hAe]
  have hiJx4a65c : ∀ q ∈ wsJx4a65c0, q ∈ wsJxc12de_init_da8c8 := by decide +kernel
  refine lv_aload_n hx hb dJxc12de_init_da8c8_0 rfl (lv_at hl 0 rfl) ?_
  have hP : va_P E.1 vwCl (([]) ++ (([(x, .inr (0, [.int 0, .null, .int 0]))]) ++ ([]))) _ := hP
  have hD : va_D A (([]) ++ (([(x, .inr (0, [.int 0, .null, .int 0]))]) ++ ([]))) := hD
  refine cmI_v (wx := []) (wy := []) (rest := []) (As := []) ⟨hx, hb, hml, hown, hts⟩ (c_Jxa1e45_init_da8c8 l E _ x) (cwI 0 hts gJxc12de_init_da8c8_Jxa1e45_init_da8c8 rfl rfl rfl (hts (.initialized RJxa1e45) (List.mem_of_getElem? (i := 4) (by rfl))) (hts (.methodLink RJxc12de 1 yJxa1e45_init_da8c8) (List.mem_of_getElem? (i := 2) (by rfl))) (hts (.instanceMethod yJxa1e45_init_da8c8) (List.mem_of_getElem? (i := 3) (by rfl))) rfl (by decide +kernel) ⟨Nat.le_of_ble_eq_true rfl, Nat.le_of_ble_eq_true rfl⟩) hP hK hD hS hA rfl hl.1 rfl (Nat.le_of_ble_eq_true rfl) dJxc12de_init_da8c8_1 ⟨Nat.le_of_ble_eq_true rfl, Nat.le_of_ble_eq_true rfl⟩ (fun u1 H locs hr1 hP hD hS => ?_)
  have hP : va_P E.1 vwCl ([(x, .inr (0, [.int 0, .null, .int 0]))]) _ := hP
  have hD : va_D A ([(x, .inr (0, [.int 0, .null, .int 0]))]) := hD
  refine lv_aload_n hx hb dJxc12de_init_da8c8_4 rfl (lv_at hl 0 rfl) ?_
  refine lv_iconst (v := (nI 0)) hx hb dJxc12de_init_da8c8_5 (by decide) ?_
  refine va_put (D := E.1) (ci := 0) (v := .int (nI 0)) (ty := .int) (C := RJx4a65c) (T := TJx4a65c) (N := 3) hx hb hts hiJx4a65c tyJx4a65c tyJx4a65c_ok nmJx4a65c hown hK hP hD hS 0 rfl rfl 0 (by decide) (hts (.fieldLink RJxc12de 7 "java/util/AbstractList" "modCount" "I") (List.mem_of_getElem? (i := 1) (by rfl))) (fun _ h9 => h9) rfl (by decide +kernel) rfl (by rfl) (Nat.le_of_ble_eq_true rfl) dJxc12de_init_da8c8_6 (fun H locs hP hD hS => ?_)
  have hP : va_P E.1 vwCl ([(x, .inr (0, [.int (nI 0), .null, .int 0]))]) H := hP
  have hD : va_D A ([(x, .inr (0, [.int (nI 0), .null, .int 0]))]) := hD
  exact retM_v (E := E) (A0 := A) (post := fun _ => True) (u := ()) (W1 := fun _ => [(x, .inr (0, [.int 0, .null, .int 0]))]) hx hb hr hlocks hP hK hD hS (trivial) dJxc12de_init_da8c8_9

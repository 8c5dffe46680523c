/-! add(lamp), the row has room -/
section CV
variable {p : Program} {l : Launch} {e : Env} {R : Room} {s : State} {m : MethodId} {args : Array Value} {below : List Frame} {meth : Method} {c : Code} {H : Heap} {locs : List Loc} {cells slots : Nat} {Q : State → Prop}
variable {cc bytes : ByteArray} {pc maxL nL n index mc ms z0 : Nat} {ret : Option FieldType} {ls : Array Slot} {rest st As : List Value} {E : GE} {w : va_W} {y : MethodName} {ws : List Cond} {rm : Room} {Ts : List Cond} {own C : String} {b : Addr} {A0 : Nat → Prop} {S : Type} {W1 : S → va_W}
theorem cmZ_v {post : S → Prop} (F : CallFix p m c cc nL s args Ts own) (hM : Met l y ws rm (va_Pc (.ref b :: As) (pcZ E w H.size z0)) (va_Qv post (fun u t => atM E (va_A w H.size) (W1 u) t) (va_A w H.size)) mc ms (va_A w H.size)) (cw : CallW R s args own C index y bytes maxL ret ws rm mc ms n) (hr : ∃ cell : Cell, H[b]? = some cell ∧ cell.vm.isStatics = false ∧ s.vm.findClass C = some cell.cls) (hP : va_P E.1 vwCl w H) (hK : va_K E.1 vwCl (tyE E) s) (hD : va_D A0 w) (hZ : ZE z0 A0 s s.heap) (hS : va_S A0 s.heap H locs) (hA : ∀ q, s.heap.size ≤ q → A0 q)
    (hn : As.length = n) (hz : ls.size = nL) (hst : st = As.reverse ++ .ref b :: rest) (hW : (rest.map fun v => v.category).sum ≤ 8) (hdg : decode cc pc = .ok (.invokevirtual index, 3)) (hf : cells + mc ≤ R.cells ∧ slots + ms ≤ R.slots)
    (kk : ∀ (u : S) (H1 : Heap) (locs1 : List Loc), post u → va_P E.1 vwCl (W1 u) H1 → va_D A0 (W1 u) → va_S A0 s.heap H1 locs1 → W p l e R s m args below meth c H1 locs1 (cells + mc) (slots + ms) Q (F0 m (pc + 3) ls rest)) : W p l e R s m args below meth c H locs cells slots Q (F0 m pc ls st) :=
  va_callv (va_runV (As := As) (rest := rest) F hM cw ⟨fb_Z, hr, fun U hU hW => ⟨rfl, ⟨by rw [hU], by rw [hU]; exact hP, va_K.moved hW.alike hK, hD.weaken (fun _ _ _ _ => trivial)⟩, ze_in hZ hS (va_freeW hD hS hA) hU hW.alike⟩⟩ rfl hn hz hst (lv_room hW) hdg hf) hS (fun q _ h => va_freeW hD hS hA q h) (va_freeW hD hS hA)
    (fun u t H1 locs1 ht hvm hw hB _ _ hS1 => by
      obtain ⟨h1, -, h3⟩ := atM_in (va_freeW hD hS hA) ht hvm hB
      exact kk u H1 locs1 hw h1 h3 hS1)
end CV

set_option maxHeartbeats 4000000 in
set_option maxRecDepth 100000 in
/-- add(lamp), the row has room -/
theorem c_Jx4a65c_add_9ea2d (l : Launch) (E : GE) (sz : Nat) (w : va_W) (z0 x g9 v9 k9 : Nat) (mc : Int32) (n : Nat) (hn9 : n < 10) (f : Nat → Option Nat) (vs : List Value) (h1w : w[1]? = some (x, .inr (0, [.int mc, .ref g9, .int (nI n)]))) (h2w : w[2]? = some (g9, .inl (E.2.2.1, 10, .inr (.inr (.inr (.inr (f))))))) (hk9 : 1 ≠ k9) (hvw : w[k9]? = some (v9, .inr (1, vs))) : Met l yJx4a65c_add_9ea2d wsJx4a65c_add_9ea2d ({ frames := 4, cells := 0, slots := 0, locals := 87 } : Room) (va_Pc [.ref x, .ref v9] (pcZ E (w) sz z0)) (va_Qi (S := Unit) (fun r _ => r = bI true) (fun uQ tQ => atM E (va_A (w) sz) ((fun _ => (((w.set 1 (x, .inr (0, [.int (mc + nI 1), .ref g9, .int (nI n)]))).set 2 (g9, .inl (E.2.2.1, 10, .inr (.inr (.inr (.inr (va_up f n (some v9)))))))).set 1 (x, .inr (0, [.int (mc + nI 1), .ref g9, .int (nI (n + 1))])))) uQ) tQ) (va_A (w) sz)) 0 0 (va_A (w) sz) := by
  refine metZ (by decide) rfl (Nat.le_of_ble_eq_true rfl) ?_
  intro p e s m args below meth c ls A hAe hA hx hb hr hml hts hown hlocks hin hP hK hD hZ hS hl
  rw [hAe]
  have hiJx4a65c : ∀ q ∈ wsJx4a65c0, q ∈ wsJx4a65c_add_9ea2d := by decide +kernel
  have hl1 := (List.getElem?_eq_some_iff.mp h1w).1
  refine lv_aload_n hx hb dJx4a65c_add_9ea2d_0 rfl (lv_at hl 0 rfl) ?_
  refine lv_dup hx hb dJx4a65c_add_9ea2d_1 rfl ?_
  refine va_get (D := E.1) (ci := 0) (v := .int mc) (C := RJx4a65c) (T := TJx4a65c) (N := 3) hx hb hts hiJx4a65c hown hK hP 1 h1w rfl 0 (by decide) (hts (.fieldLink RJx4a65c 63 "java/util/ArrayList" "modCount" "I") (List.mem_of_getElem? (i := 1) (by rfl))) (u_same (hts (.sameField "java/util/ArrayList" "java/util/AbstractList" "modCount" "I") (List.mem_of_getElem? (i := 2) (by rfl)))) rfl dJx4a65c_add_9ea2d_2 ?_
  refine lv_iconst (v := (nI 1)) hx hb dJx4a65c_add_9ea2d_5 (by decide) ?_
  refine lv_iadd hx hb dJx4a65c_add_9ea2d_6 ?_
  refine va_put (D := E.1) (ci := 0) (v := .int (mc + (nI 1))) (ty := .int) (C := RJx4a65c) (T := TJx4a65c) (N := 3) hx hb hts hiJx4a65c tyJx4a65c tyJx4a65c_ok nmJx4a65c hown hK hP hD hS 1 h1w rfl 0 (by decide) (hts (.fieldLink RJx4a65c 63 "java/util/ArrayList" "modCount" "I") (List.mem_of_getElem? (i := 1) (by rfl))) (u_same (hts (.sameField "java/util/ArrayList" "java/util/AbstractList" "modCount" "I") (List.mem_of_getElem? (i := 2) (by rfl)))) rfl (by decide +kernel) rfl (by rfl) (Nat.le_of_ble_eq_true rfl) dJx4a65c_add_9ea2d_7 (fun H locs hP hD hS => ?_)
  have hP : va_P E.1 vwCl (w.set 1 (x, .inr (0, [.int (mc + nI 1), .ref g9, .int (nI n)]))) _ := hP
  have hD : va_D A (w.set 1 (x, .inr (0, [.int (mc + nI 1), .ref g9, .int (nI n)]))) := hD
  refine lv_aload_n hx hb dJx4a65c_add_9ea2d_10 rfl (lv_at hl 0 rfl) ?_
  refine lv_aload_n hx hb dJx4a65c_add_9ea2d_11 rfl (lv_at hl 1 rfl) ?_
  refine lv_aload_n hx hb dJx4a65c_add_9ea2d_12 rfl (lv_at hl 0 rfl) ?_
  refine va_get (D := E.1) (ci := 0) (v := .ref g9) (C := RJx4a65c) (T := TJx4a65c) (N := 3) hx hb hts hiJx4a65c hown hK hP 1 (by rw [List.getElem?_set_self hl1]) rfl 1 (by decide) (hts (.fieldLink RJx4a65c 9 "java/util/ArrayList" "elementData" "[Ljava/lang/Object;") (List.mem_of_getElem? (i := 3) (by rfl))) (fun _ h9 => h9) rfl dJx4a65c_add_9ea2d_13 ?_
  refine lv_aload_n hx hb dJx4a65c_add_9ea2d_16 rfl (lv_at hl 0 rfl) ?_
  refine va_get (D := E.1) (ci := 0) (v := .int (nI n)) (C := RJx4a65c) (T := TJx4a65c) (N := 3) hx hb hts hiJx4a65c hown hK hP 1 (by rw [List.getElem?_set_self hl1]) rfl 2 (by decide) (hts (.fieldLink RJx4a65c 48 "java/util/ArrayList" "size" "I") (List.mem_of_getElem? (i := 4) (by rfl))) (fun _ h9 => h9) rfl dJx4a65c_add_9ea2d_17 ?_
  refine cmZ_v (rest := []) (As := [.ref v9, .ref g9, .int (nI n)]) ⟨hx, hb, hml, hown, hts⟩ (c_Jx4a65c_add_72be8 l E _ (w.set 1 (x, .inr (0, [.int (mc + nI 1), .ref g9, .int (nI n)]))) z0 x g9 v9 k9 (mc + nI 1) n hn9 f vs (by rw [List.getElem?_set_self hl1]) (by rw [List.getElem?_set_ne (by decide)]; exact h2w) (by rw [List.getElem?_set_ne hk9]; exact hvw)) (cwV 3 hts gJx4a65c_add_9ea2d_Jx4a65c_add_72be8 rfl rfl rfl (by decide +kernel) ⟨Nat.le_of_ble_eq_true rfl, Nat.le_of_ble_eq_true rfl⟩) (va_recv hK hP (ci := 0) (q0 := 1) rfl (by rw [List.getElem?_set_self hl1])) hP hK hD hZ hS hA rfl hl.1 rfl (Nat.le_of_ble_eq_true rfl) dJx4a65c_add_9ea2d_20 ⟨Nat.le_of_ble_eq_true rfl, Nat.le_of_ble_eq_true rfl⟩ (fun u20 H locs hr20 hP hD hS => ?_)
  refine lv_iconst (v := (nI 1)) hx hb dJx4a65c_add_9ea2d_23 (by decide) ?_
  refine nq_top (show nI 1 = bI true from rfl) ?_
  exact retM_z (E := E) (A0 := A) (b := true) (post := fun r _ => r = bI true) (u := ()) (W1 := fun _ => (((w.set 1 (x, .inr (0, [.int (mc + nI 1), .ref g9, .int (nI n)]))).set 2 (g9, .inl (E.2.2.1, 10, .inr (.inr (.inr (.inr (va_up f n (some v9)))))))).set 1 (x, .inr (0, [.int (mc + nI 1), .ref g9, .int (nI (n + 1))])))) hx hb hr hlocks hP hK hD hS (rfl) dJx4a65c_add_9ea2d_24

/-! the first lamp of a list; addLamp, where nothing is refused -/
section CXZ
variable {p : Program} {l : Launch} {e : Env} {R : Room} {s : State} {m : MethodId} {args : Array Value} {below : List Frame} {meth : Method} {c : Code} {H : Heap} {locs : List Loc} {cells slots : Nat} {Q : State → Prop}
variable {cc bytes : ByteArray} {pc maxL nL n index mc ms z0 : Nat} {ret : Option FieldType} {ls : Array Slot} {rest st As : List Value} {E : GE} {w wx wy : va_W} {y : MethodName} {ws : List Cond} {rm : Room} {Ts : List Cond} {own C : String} {b : Addr} {A0 : Nat → Prop} {S : Type} {W1 : S → va_W}
theorem cmXZ_i {post : Int32 → S → Prop} (F : CallFix p m c cc nL s args Ts own) (hM : Met l y ws rm (va_Pc (.ref b :: As) (pcZ E w H.size z0)) (va_Qi post (fun u t => atM E (va_A w H.size) (W1 u) t) (va_A w H.size)) mc ms (va_A w H.size)) (cw : CallW R s args own C index y bytes maxL ret ws rm mc ms n) (hr : ∃ cell : Cell, H[b]? = some cell ∧ cell.vm.isStatics = false ∧ s.vm.findClass C = some cell.cls) (hP : va_P E.1 vwCl (wx ++ (w ++ wy)) H) (hK : va_K E.1 vwCl (tyE E) s) (hD : va_D A0 (wx ++ (w ++ wy))) (hZ : ZE z0 A0 s s.heap) (hS : va_S A0 s.heap H locs) (hA : ∀ q, s.heap.size ≤ q → A0 q)
    (hn : As.length = n) (hz : ls.size = nL) (hst : st = As.reverse ++ .ref b :: rest) (hW : (rest.map fun v => v.category).sum ≤ 8) (hdg : decode cc pc = .ok (.invokevirtual index, 3)) (hf : cells + mc ≤ R.cells ∧ slots + ms ≤ R.slots)
    (kk : ∀ (r : Int32) (u : S) (H1 : Heap) (locs1 : List Loc), post r u → va_P E.1 vwCl (wx ++ (W1 u ++ wy)) H1 → va_D A0 (wx ++ (W1 u ++ wy)) → va_S A0 s.heap H1 locs1 → W p l e R s m args below meth c H1 locs1 (cells + mc) (slots + ms) Q (F0 m (pc + 3) ls (.int r :: rest))) : W p l e R s m args below meth c H locs cells slots Q (F0 m pc ls st) :=
  va_calli (va_runV (As := As) (rest := rest) F hM cw ⟨fb_Z, hr, fun U hU hW => ⟨rfl, ⟨by rw [hU], by rw [hU]; exact va_Pm hP, va_K.moved hW.alike hK, (va_Dm hD).weaken (fun _ _ _ _ => trivial)⟩, ze_in hZ hS (va_freeW (va_Dm hD) hS hA) hU hW.alike⟩⟩ rfl hn hz hst (lv_room hW) hdg hf) hS (fun q _ h => va_freeW (va_Dm hD) hS hA q h) (va_freeW (va_Dm hD) hS hA)
    (fun r u t H1 locs1 ht hvm hw hB _ hk hS1 => by
      obtain ⟨b1, b2, b3⟩ := hB
      rw [ht] at b1
      obtain ⟨h1, h3⟩ := va_split hP hD hk (va_freeW (va_Dm hD) hS hA) b1 b3
      exact kk r u H1 locs1 hw h1 h3 hS1)
end CXZ
theorem wC_len {E : GE} {a : Nat → Nat} {mc : Int32} {n now lim : Nat} {G : Nat → List Value} (h : 0 < n) : (wC E a mc n now lim G).length = 3 + n := by
  unfold wC
  rw [if_neg (by omega)]
  simp only [List.length_cons, List.length_map, List.length_range]
  omega
theorem wC_last {E : GE} {a : Nat → Nat} {mc : Int32} {n now lim : Nat} {G : Nat → List Value} {y : Nat × va_E} (h : 0 < n) : (wC E a mc n now lim G ++ [y])[3 + n]? = some y := by
  rw [List.getElem?_append_right (by rw [wC_len h]; exact Nat.le_refl _), wC_len h, Nat.sub_self]
  rfl
theorem wC_add {E : GE} {a : Nat → Nat} {mc mc2 : Int32} {n now lim v9 : Nat} {G G2 : Nat → List Value} {vs : List Value} (hn : 0 < n) (hG : ∀ i, i < n → G2 i = G i) (hv : G2 n = vs) : ((((wC E a mc n now lim G ++ ([(v9, .inr (1, vs))] : va_W)).set 1 (a 1, .inr (0, [.int mc2, .ref (a 2), .int (nI n)]))).set 2 (a 2, .inl (E.2.2.1, 10, .inr (.inr (.inr (.inr (va_up (arF a n) n (some v9)))))))).set 1 (a 1, .inr (0, [.int mc2, .ref (a 2), .int (nI (n + 1))]))) = wC E (va_up a (3 + n) v9) mc2 (n + 1) now lim G2 := by
  have hr : va_up (arF a n) n (some v9) = fun j => if j < n + 1 then some (va_up a (3 + n) v9 (3 + j)) else none := by
    funext j
    unfold va_up arF
    by_cases h : j = n
    · subst h; simp
    · rw [if_neg h]
      by_cases h2 : j < n
      · rw [if_pos h2, if_pos (by omega), if_neg (by omega)]
      · rw [if_neg h2, if_neg (by omega)]
  have hm : (List.range n).map (fun i => ((va_up a (3 + n) v9 (3 + i), .inr (1, G2 i)) : Nat × va_E)) = (List.range n).map (fun i => ((a (3 + i), .inr (1, G i)) : Nat × va_E)) := List.map_congr_left (fun i hi => by
    have h9 := List.mem_range.mp hi
    rw [hG i h9, up_n a v9 (by omega)])
  unfold wC
  rw [if_neg (by omega), if_neg (by omega)]
  simp only [List.cons_append, List.set_cons_succ, List.set_cons_zero]
  rw [hr, List.range_succ, List.map_append, hm, up_n a v9 (k := 3 + n) (j := 0) (by omega), up_n a v9 (k := 3 + n) (j := 1) (by omega), up_n a v9 (k := 3 + n) (j := 2) (by omega)]
  simp only [List.map_cons, List.map_nil, up_s, hv]
theorem wC_add0 {E : GE} {a : Nat → Nat} {mc2 : Int32} {now lim v9 g : Nat} {G2 : Nat → List Value} {vs : List Value} (hv : G2 0 = vs) : ([(a 0, .inr (2, [.ref (a 1), .int (nI now), .int (nI lim)]))] : va_W) ++ (([(a 1, .inr (0, [.int mc2, .ref g, .int (nI (0 + 1))])), (g, .inl (E.2.2.1, 10, .inr (.inr (.inr (.inr (va_up (fun _ => none) 0 (some v9))))))), (v9, .inr (1, vs))] : va_W) ++ []) = wC E (va_up (va_up a 2 g) 3 v9) mc2 (0 + 1) now lim G2 := by
  have hr : va_up (fun _ => none) 0 (some v9) = fun j => if j < 0 + 1 then some (va_up (va_up a 2 g) 3 v9 (3 + j)) else none := by
    funext j
    by_cases h : j = 0
    · subst h; rfl
    · rw [up_n _ _ h, if_neg (by omega)]
  unfold wC
  rw [if_neg (by decide), hr]
  subst hv
  rfl
theorem LF_new {F : LR} {lit : Nat → Bool} {fo : Nat → Nat} {n k v u z : Nat} (hF : ∀ q, F n q = 0) : LF (up2 (up2 (up2 (up2 F n 2 k) n 0 v) n 4 u) n 1 z) (va_up lit n false) (va_up fo n 0) n = [.int (nI v), .int (nI z), .int (nI k), .int (nI 0), .int (nI u), .int (nI 0), .int (nI 0), .int (bI false), .int (nI 0)] := by
  simp [LF, up2, va_up, hF]
theorem LF_old {F : LR} {lit : Nat → Bool} {fo : Nat → Nat} {n k v u z i : Nat} (h : i < n) : LF (up2 (up2 (up2 (up2 F n 2 k) n 0 v) n 4 u) n 1 z) (va_up lit n false) (va_up fo n 0) i = LF F lit fo i := by
  have h9 : i ≠ n := by omega
  simp [LF, up2, va_up, h9]

set_option maxHeartbeats 4000000 in
set_option maxRecDepth 100000 in
/-- add(lamp, row, 0), the first -/
theorem c_Jx4a65c_add_72be8_0 (l : Launch) (E : GE) (sz : Nat) (x z0 v9 : Nat) (mc : Int32) (vs : List Value) : Met l yJx4a65c_add_72be8 wsJx4a65c_add_72be8 ({ frames := 3, cells := 1, slots := 10, locals := 64 } : Room) (va_Pc [.ref x, .ref v9, .ref z0, .int (nI 0)] (pcZ E ([(x, .inr (0, [.int mc, .ref z0, .int (nI 0)])), (v9, .inr (1, vs))]) sz z0)) (va_Qv (S := Nat) (fun _ => True) (fun uQ tQ => atM E (va_A ([(x, .inr (0, [.int mc, .ref z0, .int (nI 0)])), (v9, .inr (1, vs))]) sz) ((fun gG => [(x, .inr (0, [.int mc, .ref gG, .int (nI (0 + 1))])), (gG, .inl (E.2.2.1, 10, .inr (.inr (.inr (.inr (va_up (fun _ => none) 0 (some v9))))))), (v9, .inr (1, vs))]) uQ) tQ) (va_A ([(x, .inr (0, [.int mc, .ref z0, .int (nI 0)])), (v9, .inr (1, vs))]) sz)) 1 10 (va_A ([(x, .inr (0, [.int mc, .ref z0, .int (nI 0)])), (v9, .inr (1, vs))]) sz) := by
  refine metZ (by decide) rfl (Nat.le_of_ble_eq_true rfl) ?_
  intro p e s m args below meth c ls A hAe hA hx hb hr hml hts hown hlocks hin hP hK hD hZ hS hl
  rw [hAe]
  have hiJx4a65c : ∀ q ∈ wsJx4a65c0, q ∈ wsJx4a65c_add_72be8 := by decide +kernel
  refine lv_iload_n hx hb dJx4a65c_add_72be8_0 rfl (lv_at hl 3 rfl) ?_
  refine lv_aload_n hx hb dJx4a65c_add_72be8_1 rfl (lv_at hl 2 rfl) ?_
  refine va_tlen (v := nI 0) hx hb hZ.2.1 hS rfl dJx4a65c_add_72be8_2 ?_
  refine nq_icmp_ne (tgt := 11) hx hb dJx4a65c_add_72be8_3 (by decide) (by omega) (by omega) (fun h3 => ?_) (fun h3 => ?_)
  · skip
    exact absurd rfl h3
  · skip
    refine lv_aload_n hx hb dJx4a65c_add_72be8_6 rfl (lv_at hl 0 rfl) ?_
    have hP : va_P E.1 vwCl ([] ++ ([(x, .inr (0, [.int mc, .ref z0, .int (nI 0)]))] ++ [(v9, .inr (1, vs))])) _ := hP
    have hD : va_D A ([] ++ ([(x, .inr (0, [.int mc, .ref z0, .int (nI 0)]))] ++ [(v9, .inr (1, vs))])) := hD
    refine cmZ_r (wx := []) (wy := [(v9, .inr (1, vs))]) (rest := []) (As := []) ⟨hx, hb, hml, hown, hts⟩ (c_Jx4a65c_grow_d5877 l E _ x z0 mc) (cwV 0 hts gJx4a65c_add_72be8_Jx4a65c_grow_d5877 rfl rfl rfl (by decide +kernel) ⟨Nat.le_of_ble_eq_true rfl, Nat.le_of_ble_eq_true rfl⟩) (va_recv hK hP (ci := 0) (q0 := 0) rfl rfl) hP hK hD hZ hS hA rfl hl.1 rfl (Nat.le_of_ble_eq_true rfl) dJx4a65c_add_72be8_7 ⟨Nat.le_of_ble_eq_true rfl, Nat.le_of_ble_eq_true rfl⟩ (fun q7 H locs hP hD hS => ?_)
    have hP : va_P E.1 vwCl ([(x, .inr (0, [.int mc, .ref q7, .int (nI 0)])), (q7, .inl (E.2.2.1, 10, .inr (.inr (.inr (.inr (fun _ => none)))))), (v9, .inr (1, vs))]) _ := hP
    have hD : va_D A ([(x, .inr (0, [.int mc, .ref q7, .int (nI 0)])), (q7, .inl (E.2.2.1, 10, .inr (.inr (.inr (.inr (fun _ => none)))))), (v9, .inr (1, vs))]) := hD
    refine lv_astore_n (lv' := [(2, .ref q7), (0, .ref x), (1, .ref v9), (3, .int (nI 0))]) hx hb dJx4a65c_add_72be8_10 rfl hl (by decide) rfl (fun ls hl => ?_)
    refine lv_aload_n hx hb dJx4a65c_add_72be8_11 rfl (lv_at hl 0 rfl) ?_
    refine lv_iload_n hx hb dJx4a65c_add_72be8_12 rfl (lv_at hl 3 rfl) ?_
    refine lv_aload_n hx hb dJx4a65c_add_72be8_13 rfl (lv_at hl 2 rfl) ?_
    refine va_asto hx hb hZ.2.2.2 hK hP hD hS 1 2 rfl rfl (by exact vp_in_nI (by omega) (by omega)) dJx4a65c_add_72be8_14 (fun H locs hP hD hS => ?_)
    rw [nI_clamp (by omega)] at hP hD
    have hP : va_P E.1 vwCl ([(x, .inr (0, [.int mc, .ref q7, .int (nI 0)])), (q7, .inl (E.2.2.1, 10, .inr (.inr (.inr (.inr (va_up (fun _ => none) 0 (some v9))))))), (v9, .inr (1, vs))]) _ := hP
    have hD : va_D A ([(x, .inr (0, [.int mc, .ref q7, .int (nI 0)])), (q7, .inl (E.2.2.1, 10, .inr (.inr (.inr (.inr (va_up (fun _ => none) 0 (some v9))))))), (v9, .inr (1, vs))]) := hD
    refine lv_aload_n hx hb dJx4a65c_add_72be8_15 rfl (lv_at hl 1 rfl) ?_
    refine lv_iload_n hx hb dJx4a65c_add_72be8_16 rfl (lv_at hl 3 rfl) ?_
    refine lv_iconst (v := (nI 1)) hx hb dJx4a65c_add_72be8_17 (by decide) ?_
    refine nq_add hx hb dJx4a65c_add_72be8_18 ?_
    refine va_put (D := E.1) (ci := 0) (v := .int (nI (0 + 1))) (ty := .int) (C := RJx4a65c) (T := TJx4a65c) (N := 3) hx hb hts hiJx4a65c tyJx4a65c tyJx4a65c_ok nmJx4a65c hown hK hP hD hS 0 rfl rfl 2 (by decide) (hts (.fieldLink RJx4a65c 48 "java/util/ArrayList" "size" "I") (List.mem_of_getElem? (i := 1) (by rfl))) (fun _ h9 => h9) rfl (by decide +kernel) rfl (by rfl) (Nat.le_of_ble_eq_true rfl) dJx4a65c_add_72be8_19 (fun H locs hP hD hS => ?_)
    have hP : va_P E.1 vwCl ([(x, .inr (0, [.int mc, .ref q7, .int (nI (0 + 1))])), (q7, .inl (E.2.2.1, 10, .inr (.inr (.inr (.inr (va_up (fun _ => none) 0 (some v9))))))), (v9, .inr (1, vs))]) _ := hP
    have hD : va_D A ([(x, .inr (0, [.int mc, .ref q7, .int (nI (0 + 1))])), (q7, .inl (E.2.2.1, 10, .inr (.inr (.inr (.inr (va_up (fun _ => none) 0 (some v9))))))), (v9, .inr (1, vs))]) := hD
    exact retM_v (E := E) (A0 := A) (post := fun _ => True) (u := q7) (W1 := fun gG => [(x, .inr (0, [.int mc, .ref gG, .int (nI (0 + 1))])), (gG, .inl (E.2.2.1, 10, .inr (.inr (.inr (.inr (va_up (fun _ => none) 0 (some v9))))))), (v9, .inr (1, vs))]) hx hb hr hlocks hP hK hD hS (trivial) dJx4a65c_add_72be8_22

set_option maxHeartbeats 4000000 in
set_option maxRecDepth 100000 in
/-- add(lamp), the first -/
theorem c_Jx4a65c_add_9ea2d_0 (l : Launch) (E : GE) (sz : Nat) (x z0 v9 : Nat) (mc : Int32) (vs : List Value) : Met l yJx4a65c_add_9ea2d wsJx4a65c_add_9ea2d ({ frames := 4, cells := 1, slots := 10, locals := 87 } : Room) (va_Pc [.ref x, .ref v9] (pcZ E ([(x, .inr (0, [.int mc, .ref z0, .int (nI 0)])), (v9, .inr (1, vs))]) sz z0)) (va_Qi (S := Nat) (fun r _ => r = bI true) (fun uQ tQ => atM E (va_A ([(x, .inr (0, [.int mc, .ref z0, .int (nI 0)])), (v9, .inr (1, vs))]) sz) ((fun gG => [(x, .inr (0, [.int (mc + nI 1), .ref gG, .int (nI (0 + 1))])), (gG, .inl (E.2.2.1, 10, .inr (.inr (.inr (.inr (va_up (fun _ => none) 0 (some v9))))))), (v9, .inr (1, vs))]) uQ) tQ) (va_A ([(x, .inr (0, [.int mc, .ref z0, .int (nI 0)])), (v9, .inr (1, vs))]) sz)) 1 10 (va_A ([(x, .inr (0, [.int mc, .ref z0, .int (nI 0)])), (v9, .inr (1, vs))]) sz) := by
  refine metZ (by decide) rfl (Nat.le_of_ble_eq_true rfl) ?_
  intro p e s m args below meth c ls A hAe hA hx hb hr hml hts hown hlocks hin hP hK hD hZ hS hl
  rw [hAe]
  have hiJx4a65c : ∀ q ∈ wsJx4a65c0, q ∈ wsJx4a65c_add_9ea2d := by decide +kernel
  refine lv_aload_n hx hb dJx4a65c_add_9ea2d_0 rfl (lv_at hl 0 rfl) ?_
  refine lv_dup hx hb dJx4a65c_add_9ea2d_1 rfl ?_
  refine va_get (D := E.1) (ci := 0) (v := .int mc) (C := RJx4a65c) (T := TJx4a65c) (N := 3) hx hb hts hiJx4a65c hown hK hP 0 rfl rfl 0 (by decide) (hts (.fieldLink RJx4a65c 63 "java/util/ArrayList" "modCount" "I") (List.mem_of_getElem? (i := 1) (by rfl))) (u_same (hts (.sameField "java/util/ArrayList" "java/util/AbstractList" "modCount" "I") (List.mem_of_getElem? (i := 2) (by rfl)))) rfl dJx4a65c_add_9ea2d_2 ?_
  refine lv_iconst (v := (nI 1)) hx hb dJx4a65c_add_9ea2d_5 (by decide) ?_
  refine lv_iadd hx hb dJx4a65c_add_9ea2d_6 ?_
  refine va_put (D := E.1) (ci := 0) (v := .int (mc + (nI 1))) (ty := .int) (C := RJx4a65c) (T := TJx4a65c) (N := 3) hx hb hts hiJx4a65c tyJx4a65c tyJx4a65c_ok nmJx4a65c hown hK hP hD hS 0 rfl rfl 0 (by decide) (hts (.fieldLink RJx4a65c 63 "java/util/ArrayList" "modCount" "I") (List.mem_of_getElem? (i := 1) (by rfl))) (u_same (hts (.sameField "java/util/ArrayList" "java/util/AbstractList" "modCount" "I") (List.mem_of_getElem? (i := 2) (by rfl)))) rfl (by decide +kernel) rfl (by rfl) (Nat.le_of_ble_eq_true rfl) dJx4a65c_add_9ea2d_7 (fun H locs hP hD hS => ?_)
  have hP : va_P E.1 vwCl ([(x, .inr (0, [.int (mc + (nI 1)), .ref z0, .int (nI 0)])), (v9, .inr (1, vs))]) _ := hP
  have hD : va_D A ([(x, .inr (0, [.int (mc + (nI 1)), .ref z0, .int (nI 0)])), (v9, .inr (1, vs))]) := hD
  refine lv_aload_n hx hb dJx4a65c_add_9ea2d_10 rfl (lv_at hl 0 rfl) ?_
  refine lv_aload_n hx hb dJx4a65c_add_9ea2d_11 rfl (lv_at hl 1 rfl) ?_
  refine lv_aload_n hx hb dJx4a65c_add_9ea2d_12 rfl (lv_at hl 0 rfl) ?_
  refine va_get (D := E.1) (ci := 0) (v := .ref z0) (C := RJx4a65c) (T := TJx4a65c) (N := 3) hx hb hts hiJx4a65c hown hK hP 0 rfl rfl 1 (by decide) (hts (.fieldLink RJx4a65c 9 "java/util/ArrayList" "elementData" "[Ljava/lang/Object;") (List.mem_of_getElem? (i := 3) (by rfl))) (fun _ h9 => h9) rfl dJx4a65c_add_9ea2d_13 ?_
  refine lv_aload_n hx hb dJx4a65c_add_9ea2d_16 rfl (lv_at hl 0 rfl) ?_
  refine va_get (D := E.1) (ci := 0) (v := .int (nI 0)) (C := RJx4a65c) (T := TJx4a65c) (N := 3) hx hb hts hiJx4a65c hown hK hP 0 rfl rfl 2 (by decide) (hts (.fieldLink RJx4a65c 48 "java/util/ArrayList" "size" "I") (List.mem_of_getElem? (i := 4) (by rfl))) (fun _ h9 => h9) rfl dJx4a65c_add_9ea2d_17 ?_
  have hP : va_P E.1 vwCl ([] ++ ([(x, .inr (0, [.int (mc + (nI 1)), .ref z0, .int (nI 0)])), (v9, .inr (1, vs))] ++ [])) _ := hP
  have hD : va_D A ([] ++ ([(x, .inr (0, [.int (mc + (nI 1)), .ref z0, .int (nI 0)])), (v9, .inr (1, vs))] ++ [])) := hD
  refine cmZ_v (rest := []) (As := [.ref v9, .ref z0, .int (nI 0)]) ⟨hx, hb, hml, hown, hts⟩ (c_Jx4a65c_add_72be8_0 l E _ x z0 v9 (mc + nI 1) vs) (cwV 3 hts gJx4a65c_add_9ea2d_Jx4a65c_add_72be8 rfl rfl rfl (by decide +kernel) ⟨Nat.le_of_ble_eq_true rfl, Nat.le_of_ble_eq_true rfl⟩) (va_recv hK hP (ci := 0) (q0 := 0) rfl rfl) hP hK hD hZ hS hA rfl hl.1 rfl (Nat.le_of_ble_eq_true rfl) dJx4a65c_add_9ea2d_20 ⟨Nat.le_of_ble_eq_true rfl, Nat.le_of_ble_eq_true rfl⟩ (fun u20 H locs hr20 hP hD hS => ?_)
  have hP : va_P E.1 vwCl ([(x, .inr (0, [.int (mc + (nI 1)), .ref u20, .int (nI (0 + 1))])), (u20, .inl (E.2.2.1, 10, .inr (.inr (.inr (.inr (va_up (fun _ => none) 0 (some v9))))))), (v9, .inr (1, vs))]) _ := hP
  have hD : va_D A ([(x, .inr (0, [.int (mc + (nI 1)), .ref u20, .int (nI (0 + 1))])), (u20, .inl (E.2.2.1, 10, .inr (.inr (.inr (.inr (va_up (fun _ => none) 0 (some v9))))))), (v9, .inr (1, vs))]) := hD
  refine lv_iconst (v := (nI 1)) hx hb dJx4a65c_add_9ea2d_23 (by decide) ?_
  refine nq_top (show nI 1 = bI true from rfl) ?_
  exact retM_z (E := E) (A0 := A) (b := true) (post := fun r _ => r = bI true) (u := u20) (W1 := fun gG => [(x, .inr (0, [.int (mc + nI 1), .ref gG, .int (nI (0 + 1))])), (gG, .inl (E.2.2.1, 10, .inr (.inr (.inr (.inr (va_up (fun _ => none) 0 (some v9))))))), (v9, .inr (1, vs))]) hx hb hr hlocks hP hK hD hS (rfl) dJx4a65c_add_9ea2d_24

set_option maxHeartbeats 4000000 in
set_option maxRecDepth 100000 in
/-- addLamp -/
theorem c_X1_addLamp (l : Launch) (E : GE) (sz : Nat) (a : Nat → Nat) (mc : Int32) (n now lim : Nat) (F : LR) (lit : Nat → Bool) (fo : Nat → Nat) (hO : OkS n now lim F) (z0 : Nat) (hz : n = 0 → a 2 = z0) (k v u z : Nat) (hc9 : k ≤ 5) (hp9 : 2 ≤ v ∧ v ≤ 20) (hl9 : 1 ≤ u ∧ u < v) (hw9 : 1 ≤ z ∧ z ≤ 9) (hn9 : n < 8) : Met l yX1_addLamp wsX1_addLamp ({ frames := 5, cells := 2, slots := 19, locals := 108 } : Room) (va_Pc [.ref (a 0), .int (nI k), .int (nI v), .int (nI u), .int (nI z)] (pcZ E (wC E a mc n now lim (LF F lit fo)) sz z0)) (va_Qi (S := Nat → Nat) (fun r aQ => r = nI n ∧ aQ 0 = a 0) (fun uQ tQ => atM E (va_A (wC E a mc n now lim (LF F lit fo)) sz) ((fun aQ => wC E aQ (mc + nI 1) (n + 1) now lim (LF (up2 (up2 (up2 (up2 F n 2 k) n 0 v) n 4 u) n 1 z) (va_up lit n false) (va_up fo n 0))) uQ) tQ) (va_A (wC E a mc n now lim (LF F lit fo)) sz)) 2 19 (va_A (wC E a mc n now lim (LF F lit fo)) sz) := by
  refine metZ (by decide) rfl (Nat.le_of_ble_eq_true rfl) ?_
  intro p e s m args below meth c ls A hAe hA hx hb hr hml hts hown hlocks hin hP hK hD hZ hS hl
  rw [hAe]
  have hiX1 : ∀ q ∈ wsX10, q ∈ wsX1_addLamp := by decide +kernel
  have hiX0 : ∀ q ∈ wsX00, q ∈ wsX1_addLamp := by decide +kernel
  obtain ⟨hO1, hO2, hO3, hO4, hO5⟩ := id hO
  refine lv_iload_n hx hb dX1_addLamp_0 rfl (lv_at hl 1 rfl) ?_
  refine lv_iconst (v := (nI 0)) hx hb dX1_addLamp_1 (by decide) ?_
  refine lv_iconst (v := (nI 5)) hx hb dX1_addLamp_2 (by decide) ?_
  refine csS_v (rest := []) (As := [.int (nI k), .int (nI 0), .int (nI 5)]) ⟨hx, hb, hml, hown, hts⟩ (c_X1_refuseOutside l E _ (nI k) (nI 0) (nI 5) (ref_nI (k := k) (lo := 0) (hi := 5) (by omega) (by omega)).1 (ref_nI (k := k) (lo := 0) (hi := 5) (by omega) (by omega)).2) (va_cwS 3 hts gX1_addLamp_X1_refuseOutside rfl rfl rfl (by decide +kernel) ⟨Nat.le_of_ble_eq_true rfl, Nat.le_of_ble_eq_true rfl⟩) hP hK rfl hl.1 rfl (Nat.le_of_ble_eq_true rfl) dX1_addLamp_3 (Nat.le_of_ble_eq_true rfl) (Nat.le_of_ble_eq_true rfl) (fun _ => ?_)
  refine lv_iload_n hx hb dX1_addLamp_6 rfl (lv_at hl 2 rfl) ?_
  refine lv_iconst (v := (nI 2)) hx hb dX1_addLamp_7 (by decide) ?_
  refine lv_bipush (v := (nI 20)) hx hb dX1_addLamp_8 (by decide) ?_
  refine csS_v (rest := []) (As := [.int (nI v), .int (nI 2), .int (nI 20)]) ⟨hx, hb, hml, hown, hts⟩ (c_X1_refuseOutside l E _ (nI v) (nI 2) (nI 20) (ref_nI (k := v) (lo := 2) (hi := 20) (by omega) (by omega)).1 (ref_nI (k := v) (lo := 2) (hi := 20) (by omega) (by omega)).2) (va_cwS 3 hts gX1_addLamp_X1_refuseOutside rfl rfl rfl (by decide +kernel) ⟨Nat.le_of_ble_eq_true rfl, Nat.le_of_ble_eq_true rfl⟩) hP hK rfl hl.1 rfl (Nat.le_of_ble_eq_true rfl) dX1_addLamp_10 (Nat.le_of_ble_eq_true rfl) (Nat.le_of_ble_eq_true rfl) (fun _ => ?_)
  refine lv_iload_n hx hb dX1_addLamp_13 rfl (lv_at hl 3 rfl) ?_
  refine lv_iconst (v := (nI 1)) hx hb dX1_addLamp_14 (by decide) ?_
  refine lv_iload_n hx hb dX1_addLamp_15 rfl (lv_at hl 2 rfl) ?_
  refine lv_iconst (v := (nI 1)) hx hb dX1_addLamp_16 (by decide) ?_
  refine nq_sub hx hb dX1_addLamp_17 (by omega) ?_
  refine csS_v (rest := []) (As := [.int (nI u), .int (nI 1), .int (nI (v - 1))]) ⟨hx, hb, hml, hown, hts⟩ (c_X1_refuseOutside l E _ (nI u) (nI 1) (nI (v - 1)) (ref_nI (k := u) (lo := 1) (hi := v - 1) (by omega) (by omega)).1 (ref_nI (k := u) (lo := 1) (hi := v - 1) (by omega) (by omega)).2) (va_cwS 3 hts gX1_addLamp_X1_refuseOutside rfl rfl rfl (by decide +kernel) ⟨Nat.le_of_ble_eq_true rfl, Nat.le_of_ble_eq_true rfl⟩) hP hK rfl hl.1 rfl (Nat.le_of_ble_eq_true rfl) dX1_addLamp_18 (Nat.le_of_ble_eq_true rfl) (Nat.le_of_ble_eq_true rfl) (fun _ => ?_)
  refine lv_iload hx hb dX1_addLamp_21 (lv_at hl 4 rfl) ?_
  refine lv_iconst (v := (nI 1)) hx hb dX1_addLamp_23 (by decide) ?_
  refine lv_bipush (v := (nI 9)) hx hb dX1_addLamp_24 (by decide) ?_
  refine csS_v (rest := []) (As := [.int (nI z), .int (nI 1), .int (nI 9)]) ⟨hx, hb, hml, hown, hts⟩ (c_X1_refuseOutside l E _ (nI z) (nI 1) (nI 9) (ref_nI (k := z) (lo := 1) (hi := 9) (by omega) (by omega)).1 (ref_nI (k := z) (lo := 1) (hi := 9) (by omega) (by omega)).2) (va_cwS 3 hts gX1_addLamp_X1_refuseOutside rfl rfl rfl (by decide +kernel) ⟨Nat.le_of_ble_eq_true rfl, Nat.le_of_ble_eq_true rfl⟩) hP hK rfl hl.1 rfl (Nat.le_of_ble_eq_true rfl) dX1_addLamp_26 (Nat.le_of_ble_eq_true rfl) (Nat.le_of_ble_eq_true rfl) (fun _ => ?_)
  refine lv_aload_n hx hb dX1_addLamp_29 rfl (lv_at hl 0 rfl) ?_
  refine va_get (D := E.1) (ci := 2) (v := .ref (a 1)) (C := RX1) (T := TX1) (N := 3) hx hb hts hiX1 hown hK hP 0 wC_x rfl 0 (by decide) (hts (.fieldLink RX1 10 "PulseLoom" "row" "Ljava/util/ArrayList;") (List.mem_of_getElem? (i := 3) (by rfl))) (fun _ h9 => h9) rfl dX1_addLamp_30 ?_
  refine csV_i (rest := []) (As := []) ⟨hx, hb, hml, hown, hts⟩ (c_Jx4a65c_size_8abf5 l E _ 1 _ _ _ n wC_row) (cwV 0 hts gX1_addLamp_Jx4a65c_size_8abf5 rfl rfl rfl (by decide +kernel) ⟨Nat.le_of_ble_eq_true rfl, Nat.le_of_ble_eq_true rfl⟩) (va_recv hK hP (ci := 0) (q0 := 1) rfl wC_row) hP hK rfl hl.1 rfl (Nat.le_of_ble_eq_true rfl) dX1_addLamp_33 (Nat.le_of_ble_eq_true rfl) (Nat.le_of_ble_eq_true rfl) (fun r33 hr33 => ?_)
  subst hr33
  refine lv_bipush (v := (nI 8)) hx hb dX1_addLamp_36 (by decide) ?_
  refine nq_icmp_lt (tgt := 51) hx hb dX1_addLamp_38 (by decide) (by omega) (by omega) (fun h38 => ?_) (fun h38 => ?_)
  · skip
    refine lv_aload_n hx hb dX1_addLamp_51 rfl (lv_at hl 0 rfl) ?_
    refine va_get (D := E.1) (ci := 2) (v := .ref (a 1)) (C := RX1) (T := TX1) (N := 3) hx hb hts hiX1 hown hK hP 0 wC_x rfl 0 (by decide) (hts (.fieldLink RX1 10 "PulseLoom" "row" "Ljava/util/ArrayList;") (List.mem_of_getElem? (i := 3) (by rfl))) (fun _ h9 => h9) rfl dX1_addLamp_52 ?_
    refine va_new (ci := 1) (C := RX0) (T := TX0) (N := 9) (fs := [.int 0, .int 0, .int 0, .int 0, .int 0, .int 0, .int 0, .int 0, .int 0]) hx hb hts hiX0 tyX0 tyX0_ok hown (hts (.classLink RX1 38 RX0) (List.mem_of_getElem? (i := 4) (by rfl))) (hts (.instantiable RX0 9) (List.mem_of_getElem? (i := 5) (by rfl))) (hts (.initialized RX0) (List.mem_of_getElem? (i := 6) (by rfl))) hK hP hD hS hA rfl (fun j h9 => by match j, h9 with | 0, _ => rfl | 1, _ => rfl | 2, _ => rfl | 3, _ => rfl | 4, _ => rfl | 5, _ => rfl | 6, _ => rfl | 7, _ => rfl | 8, _ => rfl | j9 + 9, h9 => omega) (by show 0 + 1 ≤ 2; omega) (by show 0 + 9 ≤ 19; omega) dX1_addLamp_55 (fun q55 H hP hD hS => ?_)
    have hP : va_P E.1 vwCl (wC E a mc n now lim (LF F lit fo) ++ [(q55, .inr (1, [.int 0, .int 0, .int 0, .int 0, .int 0, .int 0, .int 0, .int 0, .int 0]))]) _ := hP
    have hD : va_D A (wC E a mc n now lim (LF F lit fo) ++ [(q55, .inr (1, [.int 0, .int 0, .int 0, .int 0, .int 0, .int 0, .int 0, .int 0, .int 0]))]) := hD
    refine lv_dup hx hb dX1_addLamp_58 rfl ?_
    refine lv_iload_n hx hb dX1_addLamp_59 rfl (lv_at hl 1 rfl) ?_
    refine lv_iload_n hx hb dX1_addLamp_60 rfl (lv_at hl 2 rfl) ?_
    refine lv_iload_n hx hb dX1_addLamp_61 rfl (lv_at hl 3 rfl) ?_
    refine lv_iload hx hb dX1_addLamp_62 (lv_at hl 4 rfl) ?_
    have hP : va_P E.1 vwCl ((wC E a mc n now lim (LF F lit fo)) ++ (([(q55, .inr (1, [.int 0, .int 0, .int 0, .int 0, .int 0, .int 0, .int 0, .int 0, .int 0]))]) ++ ([]))) _ := hP
    have hD : va_D A ((wC E a mc n now lim (LF F lit fo)) ++ (([(q55, .inr (1, [.int 0, .int 0, .int 0, .int 0, .int 0, .int 0, .int 0, .int 0, .int 0]))]) ++ ([]))) := hD
    refine cmI_v (wx := wC E a mc n now lim (LF F lit fo)) (wy := []) (rest := [.ref q55, .ref (a 1)]) (As := [.int (nI k), .int (nI v), .int (nI u), .int (nI z)]) ⟨hx, hb, hml, hown, hts⟩ (c_X0_init l E _ q55 v z k u) (cwI 4 hts gX1_addLamp_X0_init rfl rfl rfl (hts (.initialized RX0) (List.mem_of_getElem? (i := 6) (by rfl))) (hts (.methodLink RX1 40 yX0_init) (List.mem_of_getElem? (i := 19) (by rfl))) (hts (.instanceMethod yX0_init) (List.mem_of_getElem? (i := 20) (by rfl))) rfl (by decide +kernel) ⟨Nat.le_of_ble_eq_true rfl, Nat.le_of_ble_eq_true rfl⟩) hP hK hD hS hA rfl hl.1 rfl (Nat.le_of_ble_eq_true rfl) dX1_addLamp_64 ⟨Nat.le_of_ble_eq_true rfl, Nat.le_of_ble_eq_true rfl⟩ (fun u64 H locs hr64 hP hD hS => ?_)
    have hP : va_P E.1 vwCl (wC E a mc n now lim (LF F lit fo) ++ [(q55, .inr (1, [.int (nI v), .int (nI z), .int (nI k), .int (nI 0), .int (nI u), .int (nI 0), .int (nI 0), .int (bI false), .int (nI 0)]))]) _ := hP
    have hD : va_D A (wC E a mc n now lim (LF F lit fo) ++ [(q55, .inr (1, [.int (nI v), .int (nI z), .int (nI k), .int (nI 0), .int (nI u), .int (nI 0), .int (nI 0), .int (bI false), .int (nI 0)]))]) := hD
    rcases Nat.eq_zero_or_pos n with hn0 | hn0
    · skip
      have hP : va_P E.1 vwCl ([(a 0, .inr (2, [.ref (a 1), .int (nI now), .int (nI lim)]))] ++ ([(a 1, .inr (0, [.int mc, .ref z0, .int (nI 0)])), (q55, .inr (1, [.int (nI v), .int (nI z), .int (nI k), .int (nI 0), .int (nI u), .int (nI 0), .int (nI 0), .int (bI false), .int (nI 0)]))] ++ [])) H := by have h9 := hP; rw [hn0] at h9; rw [← hz hn0]; exact h9
      have hD : va_D A ([(a 0, .inr (2, [.ref (a 1), .int (nI now), .int (nI lim)]))] ++ ([(a 1, .inr (0, [.int mc, .ref z0, .int (nI 0)])), (q55, .inr (1, [.int (nI v), .int (nI z), .int (nI k), .int (nI 0), .int (nI u), .int (nI 0), .int (nI 0), .int (bI false), .int (nI 0)]))] ++ [])) := by have h9 := hD; rw [hn0] at h9; rw [← hz hn0]; exact h9
      refine cmXZ_i (wx := [(a 0, .inr (2, [.ref (a 1), .int (nI now), .int (nI lim)]))]) (wy := []) (rest := []) (As := [.ref q55]) ⟨hx, hb, hml, hown, hts⟩ (c_Jx4a65c_add_9ea2d_0 l E _ (a 1) z0 q55 mc [.int (nI v), .int (nI z), .int (nI k), .int (nI 0), .int (nI u), .int (nI 0), .int (nI 0), .int (bI false), .int (nI 0)]) (cwV 1 hts gX1_addLamp_Jx4a65c_add_9ea2d rfl rfl rfl (by decide +kernel) ⟨Nat.le_of_ble_eq_true rfl, Nat.le_of_ble_eq_true rfl⟩) (va_recv hK hP (ci := 0) (q0 := 1) rfl rfl) hP hK hD hZ hS hA rfl hl.1 rfl (Nat.le_of_ble_eq_true rfl) dX1_addLamp_67 ⟨Nat.le_of_ble_eq_true rfl, Nat.le_of_ble_eq_true rfl⟩ (fun r67 u67 H locs hr67 hP hD hS => ?_)
      have hP : va_P E.1 vwCl (wC E (va_up (va_up a 2 u67) 3 q55) (mc + nI 1) (n + 1) now lim (LF (up2 (up2 (up2 (up2 F n 2 k) n 0 v) n 4 u) n 1 z) (va_up lit n false) (va_up fo n 0))) H := by have h9 := hP; rw [wC_add0 (G2 := LF (up2 (up2 (up2 (up2 F n 2 k) n 0 v) n 4 u) n 1 z) (va_up lit n false) (va_up fo n 0)) (by have h8 := LF_new (F := F) (lit := lit) (fo := fo) (n := n) (k := k) (v := v) (u := u) (z := z) (hO5 n (Nat.le_refl _)); rw [hn0] at h8; rw [hn0]; exact h8)] at h9; rw [hn0] at h9 ⊢; exact h9
      have hD : va_D A (wC E (va_up (va_up a 2 u67) 3 q55) (mc + nI 1) (n + 1) now lim (LF (up2 (up2 (up2 (up2 F n 2 k) n 0 v) n 4 u) n 1 z) (va_up lit n false) (va_up fo n 0))) := by have h9 := hD; rw [wC_add0 (G2 := LF (up2 (up2 (up2 (up2 F n 2 k) n 0 v) n 4 u) n 1 z) (va_up lit n false) (va_up fo n 0)) (by have h8 := LF_new (F := F) (lit := lit) (fo := fo) (n := n) (k := k) (v := v) (u := u) (z := z) (hO5 n (Nat.le_refl _)); rw [hn0] at h8; rw [hn0]; exact h8)] at h9; rw [hn0] at h9 ⊢; exact h9
      have ea0 : (va_up (va_up a 2 u67) 3 q55) 0 = a 0 := rfl
      refine lv_pop hx hb dX1_addLamp_70 rfl ?_
      refine lv_aload_n hx hb dX1_addLamp_71 rfl (lv_at hl 0 rfl) ?_
      refine va_get (D := E.1) (ci := 2) (v := .ref ((va_up (va_up a 2 u67) 3 q55) 1)) (C := RX1) (T := TX1) (N := 3) hx hb hts hiX1 hown hK hP 0 (show (wC E (va_up (va_up a 2 u67) 3 q55) (mc + nI 1) (n + 1) now lim (LF (up2 (up2 (up2 (up2 F n 2 k) n 0 v) n 4 u) n 1 z) (va_up lit n false) (va_up fo n 0)))[0]? = some (a 0, .inr (2, [.ref ((va_up (va_up a 2 u67) 3 q55) 1), .int (nI now), .int (nI lim)])) from by rw [wC_x, ea0]) rfl 0 (by decide) (hts (.fieldLink RX1 10 "PulseLoom" "row" "Ljava/util/ArrayList;") (List.mem_of_getElem? (i := 3) (by rfl))) (fun _ h9 => h9) rfl dX1_addLamp_72 ?_
      refine csV_i (rest := []) (As := []) ⟨hx, hb, hml, hown, hts⟩ (c_Jx4a65c_size_8abf5 l E _ 1 _ _ _ (n + 1) wC_row) (cwV 0 hts gX1_addLamp_Jx4a65c_size_8abf5 rfl rfl rfl (by decide +kernel) ⟨Nat.le_of_ble_eq_true rfl, Nat.le_of_ble_eq_true rfl⟩) (va_recv hK hP (ci := 0) (q0 := 1) rfl wC_row) hP hK rfl hl.1 rfl (Nat.le_of_ble_eq_true rfl) dX1_addLamp_75 (Nat.le_of_ble_eq_true rfl) (Nat.le_of_ble_eq_true rfl) (fun r75 hr75 => ?_)
      subst hr75
      refine lv_iconst (v := (nI 1)) hx hb dX1_addLamp_78 (by decide) ?_
      refine nq_sub hx hb dX1_addLamp_79 (by omega) ?_
      refine W.widen (k := 2) (n := 19) (by omega) (by omega) ?_
      exact retM_i (E := E) (A0 := A) (v := (nI ((n + 1) - 1))) (post := fun r aQ => r = nI n ∧ aQ 0 = a 0) (u := (va_up (va_up a 2 u67) 3 q55)) (W1 := fun aQ => wC E aQ (mc + nI 1) (n + 1) now lim (LF (up2 (up2 (up2 (up2 F n 2 k) n 0 v) n 4 u) n 1 z) (va_up lit n false) (va_up fo n 0))) hx hb hr hlocks hP hK hD hS (⟨congrArg nI (by omega), ea0⟩) dX1_addLamp_80
    · skip
      have hP0 := hP
      have hP : va_P E.1 vwCl ([] ++ ((wC E a mc n now lim (LF F lit fo) ++ [(q55, .inr (1, [.int (nI v), .int (nI z), .int (nI k), .int (nI 0), .int (nI u), .int (nI 0), .int (nI 0), .int (bI false), .int (nI 0)]))]) ++ [])) H := by rw [List.nil_append, List.append_nil]; exact hP
      have hD : va_D A ([] ++ ((wC E a mc n now lim (LF F lit fo) ++ [(q55, .inr (1, [.int (nI v), .int (nI z), .int (nI k), .int (nI 0), .int (nI u), .int (nI 0), .int (nI 0), .int (bI false), .int (nI 0)]))]) ++ [])) := by rw [List.nil_append, List.append_nil]; exact hD
      refine cmXZ_i (wx := []) (wy := []) (rest := []) (As := [.ref q55]) ⟨hx, hb, hml, hown, hts⟩ (c_Jx4a65c_add_9ea2d l E _ (wC E a mc n now lim (LF F lit fo) ++ [(q55, .inr (1, [.int (nI v), .int (nI z), .int (nI k), .int (nI 0), .int (nI u), .int (nI 0), .int (nI 0), .int (bI false), .int (nI 0)]))]) z0 (a 1) (a 2) q55 (3 + n) mc n (by omega) (arF a n) [.int (nI v), .int (nI z), .int (nI k), .int (nI 0), .int (nI u), .int (nI 0), .int (nI 0), .int (bI false), .int (nI 0)] (list_app wC_row) (list_app (wC_arr hn0)) (by omega) (wC_last hn0)) (cwV 1 hts gX1_addLamp_Jx4a65c_add_9ea2d rfl rfl rfl (by decide +kernel) ⟨Nat.le_of_ble_eq_true rfl, Nat.le_of_ble_eq_true rfl⟩) (va_recv hK hP0 (ci := 0) (q0 := 1) rfl (list_app wC_row)) hP hK hD hZ hS hA rfl hl.1 rfl (Nat.le_of_ble_eq_true rfl) dX1_addLamp_67 ⟨Nat.le_of_ble_eq_true rfl, Nat.le_of_ble_eq_true rfl⟩ (fun r67 u67 H locs hr67 hP hD hS => ?_)
      have hP : va_P E.1 vwCl (wC E (va_up a (3 + n) q55) (mc + nI 1) (n + 1) now lim (LF (up2 (up2 (up2 (up2 F n 2 k) n 0 v) n 4 u) n 1 z) (va_up lit n false) (va_up fo n 0))) H := by have h9 := hP; rw [List.nil_append, List.append_nil, wC_add (G2 := LF (up2 (up2 (up2 (up2 F n 2 k) n 0 v) n 4 u) n 1 z) (va_up lit n false) (va_up fo n 0)) hn0 (fun i hi => LF_old hi) (LF_new (hO5 n (Nat.le_refl _)))] at h9; exact h9
      have hD : va_D A (wC E (va_up a (3 + n) q55) (mc + nI 1) (n + 1) now lim (LF (up2 (up2 (up2 (up2 F n 2 k) n 0 v) n 4 u) n 1 z) (va_up lit n false) (va_up fo n 0))) := by have h9 := hD; rw [List.nil_append, List.append_nil, wC_add (G2 := LF (up2 (up2 (up2 (up2 F n 2 k) n 0 v) n 4 u) n 1 z) (va_up lit n false) (va_up fo n 0)) hn0 (fun i hi => LF_old hi) (LF_new (hO5 n (Nat.le_refl _)))] at h9; exact h9
      have ea0 : (va_up a (3 + n) q55) 0 = a 0 := up_n a q55 (by omega)
      refine lv_pop hx hb dX1_addLamp_70 rfl ?_
      refine lv_aload_n hx hb dX1_addLamp_71 rfl (lv_at hl 0 rfl) ?_
      refine va_get (D := E.1) (ci := 2) (v := .ref ((va_up a (3 + n) q55) 1)) (C := RX1) (T := TX1) (N := 3) hx hb hts hiX1 hown hK hP 0 (show (wC E (va_up a (3 + n) q55) (mc + nI 1) (n + 1) now lim (LF (up2 (up2 (up2 (up2 F n 2 k) n 0 v) n 4 u) n 1 z) (va_up lit n false) (va_up fo n 0)))[0]? = some (a 0, .inr (2, [.ref ((va_up a (3 + n) q55) 1), .int (nI now), .int (nI lim)])) from by rw [wC_x, ea0]) rfl 0 (by decide) (hts (.fieldLink RX1 10 "PulseLoom" "row" "Ljava/util/ArrayList;") (List.mem_of_getElem? (i := 3) (by rfl))) (fun _ h9 => h9) rfl dX1_addLamp_72 ?_
      refine csV_i (rest := []) (As := []) ⟨hx, hb, hml, hown, hts⟩ (c_Jx4a65c_size_8abf5 l E _ 1 _ _ _ (n + 1) wC_row) (cwV 0 hts gX1_addLamp_Jx4a65c_size_8abf5 rfl rfl rfl (by decide +kernel) ⟨Nat.le_of_ble_eq_true rfl, Nat.le_of_ble_eq_true rfl⟩) (va_recv hK hP (ci := 0) (q0 := 1) rfl wC_row) hP hK rfl hl.1 rfl (Nat.le_of_ble_eq_true rfl) dX1_addLamp_75 (Nat.le_of_ble_eq_true rfl) (Nat.le_of_ble_eq_true rfl) (fun r75 hr75 => ?_)
      subst hr75
      refine lv_iconst (v := (nI 1)) hx hb dX1_addLamp_78 (by decide) ?_
      refine nq_sub hx hb dX1_addLamp_79 (by omega) ?_
      refine W.widen (k := 2) (n := 19) (by omega) (by omega) ?_
      exact retM_i (E := E) (A0 := A) (v := (nI ((n + 1) - 1))) (post := fun r aQ => r = nI n ∧ aQ 0 = a 0) (u := (va_up a (3 + n) q55)) (W1 := fun aQ => wC E aQ (mc + nI 1) (n + 1) now lim (LF (up2 (up2 (up2 (up2 F n 2 k) n 0 v) n 4 u) n 1 z) (va_up lit n false) (va_up fo n 0))) hx hb hr hlocks hP hK hD hS (⟨congrArg nI (by omega), ea0⟩) dX1_addLamp_80
  · skip
    exact absurd h38 (by omega)

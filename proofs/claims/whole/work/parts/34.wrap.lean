/-! the law's calls of the class, with their catches -/
def pcW (E : GE) (w : va_W) (sz z0 : Nat) : State → Prop := fun U => pcM E w sz U ∧ ZE z0 (va_A w sz) U U.heap ∧ TE (va_A w sz) U U.heap
theorem fb_W {av : List Value} {E : GE} {w : va_W} {sz z0 : Nat} : FrameBlind (va_Pc av (pcW E w sz z0)) := fun a U g mk q => ⟨q.1, (fb_Z (E := E) (w := w) (sz := sz) (av := av) (z0 := z0) a U g mk ⟨q.1, q.2.1, q.2.2.1⟩).2.1, (fb_Z (E := E) (w := w) (sz := sz) (av := av) (z0 := z0) a U g mk ⟨q.1, q.2.1, q.2.2.1⟩).2.2, te_same (u := U) (U := U.calling g mk a) rfl q.2.2.2⟩
section MLW
variable {l : Launch} {y : MethodName} {ws ws' : List Cond} {rm : Room} {av : List Value} {E : GE} {w : va_W} {cc : ByteArray} {maxL : Nat} {ret : Option FieldType} {hh : List (Nat × Nat × Nat × Nat)}
theorem metL {Qc : Array Value → State → Outcome → State → Prop} {sz mc ms z0 : Nat} (hy : plainName y.cls = true) (hw : ws = Cond.codeWith y cc maxL ret hh :: ws') (hn : (lg_sl av).length ≤ maxL)
    (body : ∀ (p : Program) (e : Env) (s : State) (m : MethodId) (args : Array Value) (below : List Frame) (meth : Method) (c : Code) (ls : Array Slot) (A : Nat → Prop), va_A w sz = A → (∀ q : Nat, s.heap.size ≤ q → A q) → p.tables.exec = Jvm.exec → c.code = cc → meth.sig.returnType = ret → c.maxLocals = maxL → (∀ q ∈ ws, q.before args s = true) → s.vm.findClass y.cls = some m.cls → meth.locks = false → c.exceptionTable.toList = tableOf hh → va_P E.1 vwCl w s.heap → va_K E.1 vwCl (tyE E) s → va_D A w → ZE z0 A s s.heap → TE A s s.heap → va_S A s.heap s.heap [] → lv_has ls maxL (lv_args 0 av) →
      W p l e rm s m args below meth c s.heap [] 0 0 (MQ below Qc args s mc ms A) (F0 m 0 ls [])) : Met l y ws rm (va_Pc av (pcW E w sz z0)) Qc mc ms (va_A w sz) := by
  refine MetFree.of_bodyS (code := cc) (maxLocals := maxL) (ret := ret) hy ?_ ?_
  · intro args s m h hn
    obtain ⟨m9, meth, c, hn9, h1, h2, h3, h4, -, h5, h6, -⟩ := Cond.codeWith_spec (atoms_spec (ws := ws) h _ (by rw [hw]; exact List.mem_cons_self))
    cases hn.symm.trans hn9
    exact ⟨meth, c, h1, h2, h3, h4, h5, h6⟩
  · intro p e s m args below meth c s₁ B hml hv _
    have hh0 : s₁.heap = s.heap := by rw [B.state]; rfl
    have htab := vx_table (x := y) B (atoms_spec (ws := ws) B.pre _ (by rw [hw]; exact List.mem_cons_self))
    obtain ⟨rfl, ⟨hsz, hP, hK, hD⟩, hZ, hT⟩ := hv
    have k := body p e s m av.toArray below meth c _ (va_A w sz) rfl (fun q hq => Or.inr (by rw [← hsz]; exact hq)) B.exec B.bytes B.returns hml (atoms_spec (ws := ws) B.pre) (findClass_of_methodNamed B.named) B.notSynchronized htab hP hK hD.self hZ hT va_S.rf (lv_entry av hn)
    rw [← lg_entry_eq] at k
    obtain ⟨t, a1, o, b1, b2, b3⟩ := k s₁ hh0 (Stand.of_body B)
    exact ⟨t, o, a1, b1, b2, ⟨b3.1, b3.2⟩⟩
end MLW
theorem get_last {α : Type} : ∀ (w : List α) (y : α), (w ++ [y])[w.length]? = some y
  | [], _ => rfl
  | _ :: w, y => get_last w y
theorem set_last {α : Type} : ∀ (w : List α) (y z : α), (w ++ [y]).set w.length z = w ++ [z]
  | [], _, _ => rfl
  | x :: w, y, z => congrArg (x :: ·) (set_last w y z)

set_option maxHeartbeats 4000000 in
set_option maxRecDepth 100000 in
theorem w_L_addLamp (l : Launch) (hl9 : l.stackTraces = false) (E : GE) (sz z0 : Nat) (a : Nat → Nat) (mc : Int32) (n now lim : Nat) (F : LR) (lit : Nat → Bool) (fo : Nat → Nat) (hO : OkS n now lim F) (o : Nat) (fn : Nat → Int64) (hz : n = 0 → a 2 = z0) (k v u z : Nat) (hc9 : k ≤ 5) (hp9 : 2 ≤ v ∧ v ≤ 20) (hl9a : 1 ≤ u ∧ u < v) (hw9 : 1 ≤ z ∧ z ≤ 9) (hn9 : n < 8) : Met l yL_addLamp wsL_addLamp ({ frames := 6, cells := 2, slots := 19, locals := 132 } : Room) (va_Pc [.ref (a 0), .int (nI k), .int (nI v), .int (nI u), .int (nI z), .ref o] (pcW E (wC E a mc n now lim (LF F lit fo) ++ [(o, .inl (E.2.2.2, 1, .inr (.inl fn)))]) sz z0)) (va_Qi (S := Nat → Nat) (fun r uQ => r = nI 0 ∧ uQ 0 = a 0) (fun uQ tQ => atM E (va_A (wC E a mc n now lim (LF F lit fo) ++ [(o, .inl (E.2.2.2, 1, .inr (.inl fn)))]) sz) ((fun uQ => wC E uQ (mc + nI 1) (n + 1) now lim (LF (up2 (up2 (up2 (up2 F n 2 k) n 0 v) n 4 u) n 1 z) (va_up lit n false) (va_up fo n 0)) ++ [(o, .inl (E.2.2.2, 1, .inr (.inl (vp_updL fn 0 (((nI n)).toInt64)))))]) uQ) tQ) (va_A (wC E a mc n now lim (LF F lit fo) ++ [(o, .inl (E.2.2.2, 1, .inr (.inl fn)))]) sz)) 2 19 (va_A (wC E a mc n now lim (LF F lit fo) ++ [(o, .inl (E.2.2.2, 1, .inr (.inl fn)))]) sz) := by
  refine metL (by decide) rfl (Nat.le_of_ble_eq_true rfl) ?_
  intro p e s m args below meth c ls A hAe hA hx hb hr hml hts hown hlocks htab hP hK hD hZ hT hS hl
  rw [hAe]
  refine lv_aload hx hb dL_addLamp_0 (lv_at hl 5 rfl) ?_
  refine lv_iconst (v := (nI 0)) hx hb dL_addLamp_2 (by decide) ?_
  refine lv_aload_n hx hb dL_addLamp_3 rfl (lv_at hl 0 rfl) ?_
  refine lv_iload_n hx hb dL_addLamp_4 rfl (lv_at hl 1 rfl) ?_
  refine lv_iload_n hx hb dL_addLamp_5 rfl (lv_at hl 2 rfl) ?_
  refine lv_iload_n hx hb dL_addLamp_6 rfl (lv_at hl 3 rfl) ?_
  refine lv_iload hx hb dL_addLamp_7 (lv_at hl 4 rfl) ?_
  have hP0 := hP
  have hP : va_P E.1 vwCl ([] ++ (wC E a mc n now lim (LF F lit fo) ++ [(o, .inl (E.2.2.2, 1, .inr (.inl fn)))])) _ := hP
  have hD : va_D A ([] ++ (wC E a mc n now lim (LF F lit fo) ++ [(o, .inl (E.2.2.2, 1, .inr (.inl fn)))])) := hD
  refine cmXZ_i (wx := []) (wy := [(o, .inl (E.2.2.2, 1, .inr (.inl fn)))]) (rest := [.int (nI 0), .ref o]) (As := [.int (nI k), .int (nI v), .int (nI u), .int (nI z)]) ⟨hx, hb, hml, hown, hts⟩ (c_X1_addLamp l E _ a mc n now lim F lit fo hO z0 hz k v u z hc9 hp9 hl9a hw9 hn9) (cwV 4 hts gL_addLamp_X1_addLamp rfl rfl rfl (by decide +kernel) ⟨Nat.le_of_ble_eq_true rfl, Nat.le_of_ble_eq_true rfl⟩) (va_recv hK hP0 (ci := 2) (q0 := 0) rfl (list_app wC_x)) hP hK hD hZ hS hA rfl hl.1 rfl (Nat.le_of_ble_eq_true rfl) dL_addLamp_9 ⟨Nat.le_of_ble_eq_true rfl, Nat.le_of_ble_eq_true rfl⟩ (fun r0 u0 H locs hr0 hP hD hS => ?_)
  obtain ⟨hr0, hh0⟩ := hr0
  subst hr0
  have hP : va_P E.1 vwCl (wC E u0 (mc + nI 1) (n + 1) now lim (LF (up2 (up2 (up2 (up2 F n 2 k) n 0 v) n 4 u) n 1 z) (va_up lit n false) (va_up fo n 0)) ++ [(o, .inl (E.2.2.2, 1, .inr (.inl fn)))]) _ := hP
  have hD : va_D A (wC E u0 (mc + nI 1) (n + 1) now lim (LF (up2 (up2 (up2 (up2 F n 2 k) n 0 v) n 4 u) n 1 z) (va_up lit n false) (va_up fo n 0)) ++ [(o, .inl (E.2.2.2, 1, .inr (.inl fn)))]) := hD
  refine lv_i2l (v := (nI n).toInt64) hx hb dL_addLamp_12 (rfl) ?_
  refine va_last hx hb hK hP hD hS (wC E u0 (mc + nI 1) (n + 1) now lim (LF (up2 (up2 (up2 (up2 F n 2 k) n 0 v) n 4 u) n 1 z) (va_up lit n false) (va_up fo n 0))).length 2 (get_last _ _) rfl (i := nI 0) (by exact vp_in_nI (by omega) (by omega)) dL_addLamp_13 (fun H locs hP hD hS => ?_)
  rw [set_last, nI_clamp (by omega)] at hP hD
  have hP : va_P E.1 vwCl (wC E u0 (mc + nI 1) (n + 1) now lim (LF (up2 (up2 (up2 (up2 F n 2 k) n 0 v) n 4 u) n 1 z) (va_up lit n false) (va_up fo n 0)) ++ [(o, .inl (E.2.2.2, 1, .inr (.inl (vp_updL fn 0 ((nI n).toInt64)))))]) _ := hP
  have hD : va_D A (wC E u0 (mc + nI 1) (n + 1) now lim (LF (up2 (up2 (up2 (up2 F n 2 k) n 0 v) n 4 u) n 1 z) (va_up lit n false) (va_up fo n 0)) ++ [(o, .inl (E.2.2.2, 1, .inr (.inl (vp_updL fn 0 ((nI n).toInt64)))))]) := hD
  refine lv_goto (tgt := 25) hx hb dL_addLamp_14 (by decide) ?_
  refine lv_iconst (v := (nI 0)) hx hb dL_addLamp_25 (by decide) ?_
  exact retM_i (E := E) (A0 := A) (v := (nI 0)) (post := fun r uQ => r = nI 0 ∧ uQ 0 = a 0) (u := u0) (W1 := fun uQ => wC E uQ (mc + nI 1) (n + 1) now lim (LF (up2 (up2 (up2 (up2 F n 2 k) n 0 v) n 4 u) n 1 z) (va_up lit n false) (va_up fo n 0)) ++ [(o, .inl (E.2.2.2, 1, .inr (.inl (vp_updL fn 0 (((nI n)).toInt64)))))]) hx hb hr hlocks hP hK hD hS (⟨rfl, hh0⟩) dL_addLamp_26

set_option maxHeartbeats 4000000 in
set_option maxRecDepth 100000 in
theorem w_L_addLamp_x (l : Launch) (hl9 : l.stackTraces = false) (E : GE) (sz z0 : Nat) (a : Nat → Nat) (mc : Int32) (n now lim : Nat) (F : LR) (lit : Nat → Bool) (fo : Nat → Nat) (hO : OkS n now lim F) (o : Nat) (fn : Nat → Int64) (x1 x2 x3 x4 : Int32) (hx9 : (inB x1 (nI 0) (nI 5) && inB x2 (nI 2) (nI 20) && inB x3 (nI 1) (x2 - nI 1) && inB x4 (nI 1) (nI 9)) = false) : Met l yL_addLamp wsL_addLamp ({ frames := 8, cells := 1, slots := 6, locals := 136 } : Room) (va_Pc [.ref (a 0), .int x1, .int x2, .int x3, .int x4, .ref o] (pcW E (wC E a mc n now lim (LF F lit fo) ++ [(o, .inl (E.2.2.2, 1, .inr (.inl fn)))]) sz z0)) (va_Qi (S := Unit) (fun r _ => r = nI 1) (fun uQ tQ => atM E (va_A (wC E a mc n now lim (LF F lit fo) ++ [(o, .inl (E.2.2.2, 1, .inr (.inl fn)))]) sz) ((fun _ => wC E a mc n now lim (LF F lit fo) ++ [(o, .inl (E.2.2.2, 1, .inr (.inl fn)))]) uQ) tQ) (va_A (wC E a mc n now lim (LF F lit fo) ++ [(o, .inl (E.2.2.2, 1, .inr (.inl fn)))]) sz)) 1 6 (va_A (wC E a mc n now lim (LF F lit fo) ++ [(o, .inl (E.2.2.2, 1, .inr (.inl fn)))]) sz) := by
  refine metL (by decide) rfl (Nat.le_of_ble_eq_true rfl) ?_
  intro p e s m args below meth c ls A hAe hA hx hb hr hml hts hown hlocks htab hP hK hD hZ hT hS hl
  rw [hAe]
  refine lv_aload hx hb dL_addLamp_0 (lv_at hl 5 rfl) ?_
  refine lv_iconst (v := (nI 0)) hx hb dL_addLamp_2 (by decide) ?_
  refine lv_aload_n hx hb dL_addLamp_3 rfl (lv_at hl 0 rfl) ?_
  refine lv_iload_n hx hb dL_addLamp_4 rfl (lv_at hl 1 rfl) ?_
  refine lv_iload_n hx hb dL_addLamp_5 rfl (lv_at hl 2 rfl) ?_
  refine lv_iload_n hx hb dL_addLamp_6 rfl (lv_at hl 3 rfl) ?_
  refine lv_iload hx hb dL_addLamp_7 (lv_at hl 4 rfl) ?_
  refine xcV (wx := []) (wy := [(o, .inl (E.2.2.2, 1, .inr (.inl fn)))]) (rest := [.int (nI 0), .ref o]) (As := [.int x1, .int x2, .int x3, .int x4]) ⟨hx, hb, hml, hown, hts⟩ (x_X1_addLamp l hl9 E _ (wC E a mc n now lim (LF F lit fo)) a n now lim F lit fo CV_self hO x1 x2 x3 x4 hx9) (cwV 4 hts gL_addLamp_X1_addLamp rfl rfl rfl (by decide +kernel) ⟨Nat.le_of_ble_eq_true rfl, Nat.le_of_ble_eq_true rfl⟩) (va_recv hK hP (ci := 2) (q0 := 0) rfl (list_app wC_x)) rfl hP hK hD hT hS hA rfl hl.1 rfl (Nat.le_of_ble_eq_true rfl) dL_addLamp_9 ⟨Nat.le_of_ble_eq_true rfl, Nat.le_of_ble_eq_true rfl⟩ (fun ce q9 H locs hP hD hS hc1 hv1 hcl1 => ?_)
  refine vx_catch hown [] ⟨0, 14, 17, 13⟩ [⟨0, 14, 21, 15⟩] (by rw [htab]; rfl) (fun z hz => by cases hz) (by decide) (by decide) (hts (.classLink RL 13 "java/lang/IllegalArgumentException") (List.mem_of_getElem? (i := 1) (by rfl))) (va_Nw.use rfl hT.2.2.2.2.2.2.1) hc1 hv1 hcl1 ?_
  show W _ _ _ _ _ _ _ _ _ _ _ _ _ _ _ (F0 m 17 ls [.ref q9])
  refine lv_astore (lv' := [(6, .ref q9), (0, .ref (a 0)), (1, .int x1), (2, .int x2), (3, .int x3), (4, .int x4), (5, .ref o)]) hx hb dL_addLamp_17 hl (by decide) rfl (fun ls hl => ?_)
  refine lv_iconst (v := (nI 1)) hx hb dL_addLamp_19 (by decide) ?_
  exact retM_i (E := E) (A0 := A) (v := (nI 1)) (post := fun r _ => r = nI 1) (u := ()) (W1 := fun _ => wC E a mc n now lim (LF F lit fo) ++ [(o, .inl (E.2.2.2, 1, .inr (.inl fn)))]) hx hb hr hlocks hP hK hD hS (rfl) dL_addLamp_20

set_option maxHeartbeats 4000000 in
set_option maxRecDepth 100000 in
theorem w_L_addLamp_y (l : Launch) (hl9 : l.stackTraces = false) (E : GE) (sz z0 : Nat) (a : Nat → Nat) (mc : Int32) (n now lim : Nat) (F : LR) (lit : Nat → Bool) (fo : Nat → Nat) (hO : OkS n now lim F) (o : Nat) (fn : Nat → Int64) (k v u z : Nat) (hc9 : k ≤ 5) (hp9 : 2 ≤ v ∧ v ≤ 20) (hl9a : 1 ≤ u ∧ u < v) (hw9 : 1 ≤ z ∧ z ≤ 9) (hn9 : n = 8) : Met l yL_addLamp wsL_addLamp ({ frames := 8, cells := 1, slots := 6, locals := 136 } : Room) (va_Pc [.ref (a 0), .int (nI k), .int (nI v), .int (nI u), .int (nI z), .ref o] (pcW E (wC E a mc n now lim (LF F lit fo) ++ [(o, .inl (E.2.2.2, 1, .inr (.inl fn)))]) sz z0)) (va_Qi (S := Unit) (fun r _ => r = nI 2) (fun uQ tQ => atM E (va_A (wC E a mc n now lim (LF F lit fo) ++ [(o, .inl (E.2.2.2, 1, .inr (.inl fn)))]) sz) ((fun _ => wC E a mc n now lim (LF F lit fo) ++ [(o, .inl (E.2.2.2, 1, .inr (.inl fn)))]) uQ) tQ) (va_A (wC E a mc n now lim (LF F lit fo) ++ [(o, .inl (E.2.2.2, 1, .inr (.inl fn)))]) sz)) 1 6 (va_A (wC E a mc n now lim (LF F lit fo) ++ [(o, .inl (E.2.2.2, 1, .inr (.inl fn)))]) sz) := by
  refine metL (by decide) rfl (Nat.le_of_ble_eq_true rfl) ?_
  intro p e s m args below meth c ls A hAe hA hx hb hr hml hts hown hlocks htab hP hK hD hZ hT hS hl
  rw [hAe]
  refine lv_aload hx hb dL_addLamp_0 (lv_at hl 5 rfl) ?_
  refine lv_iconst (v := (nI 0)) hx hb dL_addLamp_2 (by decide) ?_
  refine lv_aload_n hx hb dL_addLamp_3 rfl (lv_at hl 0 rfl) ?_
  refine lv_iload_n hx hb dL_addLamp_4 rfl (lv_at hl 1 rfl) ?_
  refine lv_iload_n hx hb dL_addLamp_5 rfl (lv_at hl 2 rfl) ?_
  refine lv_iload_n hx hb dL_addLamp_6 rfl (lv_at hl 3 rfl) ?_
  refine lv_iload hx hb dL_addLamp_7 (lv_at hl 4 rfl) ?_
  refine xcV (wx := []) (wy := [(o, .inl (E.2.2.2, 1, .inr (.inl fn)))]) (rest := [.int (nI 0), .ref o]) (As := [.int (nI k), .int (nI v), .int (nI u), .int (nI z)]) ⟨hx, hb, hml, hown, hts⟩ (x_X1_addLamp_y l hl9 E _ (wC E a mc n now lim (LF F lit fo)) a n now lim F lit fo CV_self hO k v u z hc9 hp9 hl9a hw9 hn9) (cwV 4 hts gL_addLamp_X1_addLamp rfl rfl rfl (by decide +kernel) ⟨Nat.le_of_ble_eq_true rfl, Nat.le_of_ble_eq_true rfl⟩) (va_recv hK hP (ci := 2) (q0 := 0) rfl (list_app wC_x)) rfl hP hK hD hT hS hA rfl hl.1 rfl (Nat.le_of_ble_eq_true rfl) dL_addLamp_9 ⟨Nat.le_of_ble_eq_true rfl, Nat.le_of_ble_eq_true rfl⟩ (fun ce q9 H locs hP hD hS hc1 hv1 hcl1 => ?_)
  refine vx_catch hown [⟨0, 14, 17, 13⟩] ⟨0, 14, 21, 15⟩ [] (by rw [htab]; rfl) (fun z hz => by rw [List.mem_singleton.mp hz]; exact Or.inr ⟨by decide, "java/lang/IllegalArgumentException", (hts (.classLink RL 13 "java/lang/IllegalArgumentException") (List.mem_of_getElem? (i := 1) (by rfl))), hT.2.2.2.2.2.2.2.2.2.1⟩) (by decide) (by decide) (hts (.classLink RL 15 "java/lang/IllegalStateException") (List.mem_of_getElem? (i := 2) (by rfl))) (va_Nw.use rfl hT.2.2.2.2.2.2.2.2.1) hc1 hv1 hcl1 ?_
  show W _ _ _ _ _ _ _ _ _ _ _ _ _ _ _ (F0 m 21 ls [.ref q9])
  refine lv_astore (lv' := [(6, .ref q9), (0, .ref (a 0)), (1, .int (nI k)), (2, .int (nI v)), (3, .int (nI u)), (4, .int (nI z)), (5, .ref o)]) hx hb dL_addLamp_21 hl (by decide) rfl (fun ls hl => ?_)
  refine lv_iconst (v := (nI 2)) hx hb dL_addLamp_23 (by decide) ?_
  exact retM_i (E := E) (A0 := A) (v := (nI 2)) (post := fun r _ => r = nI 2) (u := ()) (W1 := fun _ => wC E a mc n now lim (LF F lit fo) ++ [(o, .inl (E.2.2.2, 1, .inr (.inl fn)))]) hx hb hr hlocks hP hK hD hS (rfl) dL_addLamp_24

set_option maxHeartbeats 4000000 in
set_option maxRecDepth 100000 in
theorem w_L_setShift (l : Launch) (hl9 : l.stackTraces = false) (E : GE) (sz z0 : Nat) (a : Nat → Nat) (mc : Int32) (n now lim : Nat) (F : LR) (lit : Nat → Bool) (fo : Nat → Nat) (hO : OkS n now lim F) (o : Nat) (fn : Nat → Int64) (k v : Nat) (hk : k < n) (hv : v < F k 0) : Met l yL_setShift wsL_setShift ({ frames := 5, cells := 0, slots := 0, locals := 109 } : Room) (va_Pc [.ref (a 0), .int (nI k), .int (nI v), .ref o] (pcW E (wC E a mc n now lim (LF F lit fo) ++ [(o, .inl (E.2.2.2, 1, .inr (.inl fn)))]) sz z0)) (va_Qi (S := Unit) (fun r uQ => r = nI 0) (fun uQ tQ => atM E (va_A (wC E a mc n now lim (LF F lit fo) ++ [(o, .inl (E.2.2.2, 1, .inr (.inl fn)))]) sz) ((fun uQ => wC E a mc n now lim (LF (up2 F k 3 v) lit fo) ++ [(o, .inl (E.2.2.2, 1, .inr (.inl (vp_updL fn 0 (((nI (F k 3))).toInt64)))))]) uQ) tQ) (va_A (wC E a mc n now lim (LF F lit fo) ++ [(o, .inl (E.2.2.2, 1, .inr (.inl fn)))]) sz)) 0 0 (va_A (wC E a mc n now lim (LF F lit fo) ++ [(o, .inl (E.2.2.2, 1, .inr (.inl fn)))]) sz) := by
  refine metL (by decide) rfl (Nat.le_of_ble_eq_true rfl) ?_
  intro p e s m args below meth c ls A hAe hA hx hb hr hml hts hown hlocks htab hP hK hD hZ hT hS hl
  rw [hAe]
  refine lv_aload_n hx hb dL_setShift_0 rfl (lv_at hl 3 rfl) ?_
  refine lv_iconst (v := (nI 0)) hx hb dL_setShift_1 (by decide) ?_
  refine lv_aload_n hx hb dL_setShift_2 rfl (lv_at hl 0 rfl) ?_
  refine lv_iload_n hx hb dL_setShift_3 rfl (lv_at hl 1 rfl) ?_
  refine lv_iload_n hx hb dL_setShift_4 rfl (lv_at hl 2 rfl) ?_
  have hP0 := hP
  have hP : va_P E.1 vwCl ([] ++ (wC E a mc n now lim (LF F lit fo) ++ [(o, .inl (E.2.2.2, 1, .inr (.inl fn)))])) _ := hP
  have hD : va_D A ([] ++ (wC E a mc n now lim (LF F lit fo) ++ [(o, .inl (E.2.2.2, 1, .inr (.inl fn)))])) := hD
  refine cmX_i (wx := []) (wy := [(o, .inl (E.2.2.2, 1, .inr (.inl fn)))]) (rest := [.int (nI 0), .ref o]) (As := [.int (nI k), .int (nI v)]) ⟨hx, hb, hml, hown, hts⟩ (c_X1_setShift l E _ a mc n now lim F lit fo hO k v hk hv) (cwV 2 hts gL_setShift_X1_setShift rfl rfl rfl (by decide +kernel) ⟨Nat.le_of_ble_eq_true rfl, Nat.le_of_ble_eq_true rfl⟩) (va_recv hK hP0 (ci := 2) (q0 := 0) rfl (list_app wC_x)) hP hK hD hS hA rfl hl.1 rfl (Nat.le_of_ble_eq_true rfl) dL_setShift_5 ⟨Nat.le_of_ble_eq_true rfl, Nat.le_of_ble_eq_true rfl⟩ (fun r0 u0 H locs hr0 hP hD hS => ?_)
  subst hr0
  have hP : va_P E.1 vwCl (wC E a mc n now lim (LF (up2 F k 3 v) lit fo) ++ [(o, .inl (E.2.2.2, 1, .inr (.inl fn)))]) _ := hP
  have hD : va_D A (wC E a mc n now lim (LF (up2 F k 3 v) lit fo) ++ [(o, .inl (E.2.2.2, 1, .inr (.inl fn)))]) := hD
  refine lv_i2l (v := (nI (F k 3)).toInt64) hx hb dL_setShift_8 (rfl) ?_
  refine va_last hx hb hK hP hD hS (wC E a mc n now lim (LF (up2 F k 3 v) lit fo)).length 2 (get_last _ _) rfl (i := nI 0) (by exact vp_in_nI (by omega) (by omega)) dL_setShift_9 (fun H locs hP hD hS => ?_)
  rw [set_last, nI_clamp (by omega)] at hP hD
  have hP : va_P E.1 vwCl (wC E a mc n now lim (LF (up2 F k 3 v) lit fo) ++ [(o, .inl (E.2.2.2, 1, .inr (.inl (vp_updL fn 0 ((nI (F k 3)).toInt64)))))]) _ := hP
  have hD : va_D A (wC E a mc n now lim (LF (up2 F k 3 v) lit fo) ++ [(o, .inl (E.2.2.2, 1, .inr (.inl (vp_updL fn 0 ((nI (F k 3)).toInt64)))))]) := hD
  refine lv_goto (tgt := 21) hx hb dL_setShift_10 (by decide) ?_
  refine lv_iconst (v := (nI 0)) hx hb dL_setShift_21 (by decide) ?_
  exact retM_i (E := E) (A0 := A) (v := (nI 0)) (post := fun r uQ => r = nI 0) (u := u0) (W1 := fun uQ => wC E a mc n now lim (LF (up2 F k 3 v) lit fo) ++ [(o, .inl (E.2.2.2, 1, .inr (.inl (vp_updL fn 0 (((nI (F k 3))).toInt64)))))]) hx hb hr hlocks hP hK hD hS (rfl) dL_setShift_22

set_option maxHeartbeats 4000000 in
set_option maxRecDepth 100000 in
theorem w_L_setShift_x (l : Launch) (hl9 : l.stackTraces = false) (E : GE) (sz z0 : Nat) (a : Nat → Nat) (mc : Int32) (n now lim : Nat) (F : LR) (lit : Nat → Bool) (fo : Nat → Nat) (hO : OkS n now lim F) (o : Nat) (fn : Nat → Int64) (x : Int32) (hx9 : lpB n x = false) (z : Int32) : Met l yL_setShift wsL_setShift ({ frames := 8, cells := 1, slots := 6, locals := 136 } : Room) (va_Pc [.ref (a 0), .int x, .int z, .ref o] (pcW E (wC E a mc n now lim (LF F lit fo) ++ [(o, .inl (E.2.2.2, 1, .inr (.inl fn)))]) sz z0)) (va_Qi (S := Unit) (fun r _ => r = nI 1) (fun uQ tQ => atM E (va_A (wC E a mc n now lim (LF F lit fo) ++ [(o, .inl (E.2.2.2, 1, .inr (.inl fn)))]) sz) ((fun _ => wC E a mc n now lim (LF F lit fo) ++ [(o, .inl (E.2.2.2, 1, .inr (.inl fn)))]) uQ) tQ) (va_A (wC E a mc n now lim (LF F lit fo) ++ [(o, .inl (E.2.2.2, 1, .inr (.inl fn)))]) sz)) 1 6 (va_A (wC E a mc n now lim (LF F lit fo) ++ [(o, .inl (E.2.2.2, 1, .inr (.inl fn)))]) sz) := by
  refine metL (by decide) rfl (Nat.le_of_ble_eq_true rfl) ?_
  intro p e s m args below meth c ls A hAe hA hx hb hr hml hts hown hlocks htab hP hK hD hZ hT hS hl
  rw [hAe]
  refine lv_aload_n hx hb dL_setShift_0 rfl (lv_at hl 3 rfl) ?_
  refine lv_iconst (v := (nI 0)) hx hb dL_setShift_1 (by decide) ?_
  refine lv_aload_n hx hb dL_setShift_2 rfl (lv_at hl 0 rfl) ?_
  refine lv_iload_n hx hb dL_setShift_3 rfl (lv_at hl 1 rfl) ?_
  refine lv_iload_n hx hb dL_setShift_4 rfl (lv_at hl 2 rfl) ?_
  refine xcV (wx := []) (wy := [(o, .inl (E.2.2.2, 1, .inr (.inl fn)))]) (rest := [.int (nI 0), .ref o]) (As := [.int x, .int z]) ⟨hx, hb, hml, hown, hts⟩ (x_X1_setShift l hl9 E _ (wC E a mc n now lim (LF F lit fo)) a n now lim F lit fo CV_self hO x hx9 z) (cwV 2 hts gL_setShift_X1_setShift rfl rfl rfl (by decide +kernel) ⟨Nat.le_of_ble_eq_true rfl, Nat.le_of_ble_eq_true rfl⟩) (va_recv hK hP (ci := 2) (q0 := 0) rfl (list_app wC_x)) rfl hP hK hD hT hS hA rfl hl.1 rfl (Nat.le_of_ble_eq_true rfl) dL_setShift_5 ⟨Nat.le_of_ble_eq_true rfl, Nat.le_of_ble_eq_true rfl⟩ (fun ce q9 H locs hP hD hS hc1 hv1 hcl1 => ?_)
  refine vx_catch hown [] ⟨0, 10, 13, 21⟩ [⟨0, 10, 17, 13⟩] (by rw [htab]; rfl) (fun z hz => by cases hz) (by decide) (by decide) (hts (.classLink RL 21 "java/lang/IndexOutOfBoundsException") (List.mem_of_getElem? (i := 1) (by rfl))) (va_Nw.use rfl hT.2.2.2.2.2.2.2.1) hc1 hv1 hcl1 ?_
  show W _ _ _ _ _ _ _ _ _ _ _ _ _ _ _ (F0 m 13 ls [.ref q9])
  refine lv_astore (lv' := [(4, .ref q9), (0, .ref (a 0)), (1, .int x), (2, .int z), (3, .ref o)]) hx hb dL_setShift_13 hl (by decide) rfl (fun ls hl => ?_)
  refine lv_iconst (v := (nI 1)) hx hb dL_setShift_15 (by decide) ?_
  exact retM_i (E := E) (A0 := A) (v := (nI 1)) (post := fun r _ => r = nI 1) (u := ()) (W1 := fun _ => wC E a mc n now lim (LF F lit fo) ++ [(o, .inl (E.2.2.2, 1, .inr (.inl fn)))]) hx hb hr hlocks hP hK hD hS (rfl) dL_setShift_16

set_option maxHeartbeats 4000000 in
set_option maxRecDepth 100000 in
theorem w_L_setShift_y (l : Launch) (hl9 : l.stackTraces = false) (E : GE) (sz z0 : Nat) (a : Nat → Nat) (mc : Int32) (n now lim : Nat) (F : LR) (lit : Nat → Bool) (fo : Nat → Nat) (hO : OkS n now lim F) (o : Nat) (fn : Nat → Int64) (k : Nat) (hk : k < n) (z : Int32) (hz9 : inB z (nI 0) (nI (F k 0 - 1)) = false) : Met l yL_setShift wsL_setShift ({ frames := 8, cells := 1, slots := 6, locals := 136 } : Room) (va_Pc [.ref (a 0), .int (nI k), .int z, .ref o] (pcW E (wC E a mc n now lim (LF F lit fo) ++ [(o, .inl (E.2.2.2, 1, .inr (.inl fn)))]) sz z0)) (va_Qi (S := Unit) (fun r _ => r = nI 2) (fun uQ tQ => atM E (va_A (wC E a mc n now lim (LF F lit fo) ++ [(o, .inl (E.2.2.2, 1, .inr (.inl fn)))]) sz) ((fun _ => wC E a mc n now lim (LF F lit fo) ++ [(o, .inl (E.2.2.2, 1, .inr (.inl fn)))]) uQ) tQ) (va_A (wC E a mc n now lim (LF F lit fo) ++ [(o, .inl (E.2.2.2, 1, .inr (.inl fn)))]) sz)) 1 6 (va_A (wC E a mc n now lim (LF F lit fo) ++ [(o, .inl (E.2.2.2, 1, .inr (.inl fn)))]) sz) := by
  refine metL (by decide) rfl (Nat.le_of_ble_eq_true rfl) ?_
  intro p e s m args below meth c ls A hAe hA hx hb hr hml hts hown hlocks htab hP hK hD hZ hT hS hl
  rw [hAe]
  refine lv_aload_n hx hb dL_setShift_0 rfl (lv_at hl 3 rfl) ?_
  refine lv_iconst (v := (nI 0)) hx hb dL_setShift_1 (by decide) ?_
  refine lv_aload_n hx hb dL_setShift_2 rfl (lv_at hl 0 rfl) ?_
  refine lv_iload_n hx hb dL_setShift_3 rfl (lv_at hl 1 rfl) ?_
  refine lv_iload_n hx hb dL_setShift_4 rfl (lv_at hl 2 rfl) ?_
  refine xcV (wx := []) (wy := [(o, .inl (E.2.2.2, 1, .inr (.inl fn)))]) (rest := [.int (nI 0), .ref o]) (As := [.int (nI k), .int z]) ⟨hx, hb, hml, hown, hts⟩ (x_X1_setShift_y l hl9 E _ (wC E a mc n now lim (LF F lit fo)) a n now lim F lit fo CV_self hO k hk z hz9) (cwV 2 hts gL_setShift_X1_setShift rfl rfl rfl (by decide +kernel) ⟨Nat.le_of_ble_eq_true rfl, Nat.le_of_ble_eq_true rfl⟩) (va_recv hK hP (ci := 2) (q0 := 0) rfl (list_app wC_x)) rfl hP hK hD hT hS hA rfl hl.1 rfl (Nat.le_of_ble_eq_true rfl) dL_setShift_5 ⟨Nat.le_of_ble_eq_true rfl, Nat.le_of_ble_eq_true rfl⟩ (fun ce q9 H locs hP hD hS hc1 hv1 hcl1 => ?_)
  refine vx_catch hown [⟨0, 10, 13, 21⟩] ⟨0, 10, 17, 13⟩ [] (by rw [htab]; rfl) (fun z hz => by rw [List.mem_singleton.mp hz]; exact Or.inr ⟨by decide, "java/lang/IndexOutOfBoundsException", (hts (.classLink RL 21 "java/lang/IndexOutOfBoundsException") (List.mem_of_getElem? (i := 1) (by rfl))), hT.2.2.2.2.2.2.2.2.2.2.1⟩) (by decide) (by decide) (hts (.classLink RL 13 "java/lang/IllegalArgumentException") (List.mem_of_getElem? (i := 2) (by rfl))) (va_Nw.use rfl hT.2.2.2.2.2.2.1) hc1 hv1 hcl1 ?_
  show W _ _ _ _ _ _ _ _ _ _ _ _ _ _ _ (F0 m 17 ls [.ref q9])
  refine lv_astore (lv' := [(4, .ref q9), (0, .ref (a 0)), (1, .int (nI k)), (2, .int z), (3, .ref o)]) hx hb dL_setShift_17 hl (by decide) rfl (fun ls hl => ?_)
  refine lv_iconst (v := (nI 2)) hx hb dL_setShift_19 (by decide) ?_
  exact retM_i (E := E) (A0 := A) (v := (nI 2)) (post := fun r _ => r = nI 2) (u := ()) (W1 := fun _ => wC E a mc n now lim (LF F lit fo) ++ [(o, .inl (E.2.2.2, 1, .inr (.inl fn)))]) hx hb hr hlocks hP hK hD hS (rfl) dL_setShift_20

set_option maxHeartbeats 4000000 in
set_option maxRecDepth 100000 in
theorem w_L_setLength (l : Launch) (hl9 : l.stackTraces = false) (E : GE) (sz z0 : Nat) (a : Nat → Nat) (mc : Int32) (n now lim : Nat) (F : LR) (lit : Nat → Bool) (fo : Nat → Nat) (hO : OkS n now lim F) (o : Nat) (fn : Nat → Int64) (k v : Nat) (hk : k < n) (hv : 1 ≤ v ∧ v < F k 0) : Met l yL_setLength wsL_setLength ({ frames := 5, cells := 0, slots := 0, locals := 109 } : Room) (va_Pc [.ref (a 0), .int (nI k), .int (nI v), .ref o] (pcW E (wC E a mc n now lim (LF F lit fo) ++ [(o, .inl (E.2.2.2, 1, .inr (.inl fn)))]) sz z0)) (va_Qi (S := Unit) (fun r uQ => r = nI 0) (fun uQ tQ => atM E (va_A (wC E a mc n now lim (LF F lit fo) ++ [(o, .inl (E.2.2.2, 1, .inr (.inl fn)))]) sz) ((fun uQ => wC E a mc n now lim (LF (up2 F k 4 v) lit fo) ++ [(o, .inl (E.2.2.2, 1, .inr (.inl (vp_updL fn 0 (((nI (F k 4))).toInt64)))))]) uQ) tQ) (va_A (wC E a mc n now lim (LF F lit fo) ++ [(o, .inl (E.2.2.2, 1, .inr (.inl fn)))]) sz)) 0 0 (va_A (wC E a mc n now lim (LF F lit fo) ++ [(o, .inl (E.2.2.2, 1, .inr (.inl fn)))]) sz) := by
  refine metL (by decide) rfl (Nat.le_of_ble_eq_true rfl) ?_
  intro p e s m args below meth c ls A hAe hA hx hb hr hml hts hown hlocks htab hP hK hD hZ hT hS hl
  rw [hAe]
  refine lv_aload_n hx hb dL_setLength_0 rfl (lv_at hl 3 rfl) ?_
  refine lv_iconst (v := (nI 0)) hx hb dL_setLength_1 (by decide) ?_
  refine lv_aload_n hx hb dL_setLength_2 rfl (lv_at hl 0 rfl) ?_
  refine lv_iload_n hx hb dL_setLength_3 rfl (lv_at hl 1 rfl) ?_
  refine lv_iload_n hx hb dL_setLength_4 rfl (lv_at hl 2 rfl) ?_
  have hP0 := hP
  have hP : va_P E.1 vwCl ([] ++ (wC E a mc n now lim (LF F lit fo) ++ [(o, .inl (E.2.2.2, 1, .inr (.inl fn)))])) _ := hP
  have hD : va_D A ([] ++ (wC E a mc n now lim (LF F lit fo) ++ [(o, .inl (E.2.2.2, 1, .inr (.inl fn)))])) := hD
  refine cmX_i (wx := []) (wy := [(o, .inl (E.2.2.2, 1, .inr (.inl fn)))]) (rest := [.int (nI 0), .ref o]) (As := [.int (nI k), .int (nI v)]) ⟨hx, hb, hml, hown, hts⟩ (c_X1_setLength l E _ a mc n now lim F lit fo hO k v hk hv) (cwV 2 hts gL_setLength_X1_setLength rfl rfl rfl (by decide +kernel) ⟨Nat.le_of_ble_eq_true rfl, Nat.le_of_ble_eq_true rfl⟩) (va_recv hK hP0 (ci := 2) (q0 := 0) rfl (list_app wC_x)) hP hK hD hS hA rfl hl.1 rfl (Nat.le_of_ble_eq_true rfl) dL_setLength_5 ⟨Nat.le_of_ble_eq_true rfl, Nat.le_of_ble_eq_true rfl⟩ (fun r0 u0 H locs hr0 hP hD hS => ?_)
  subst hr0
  have hP : va_P E.1 vwCl (wC E a mc n now lim (LF (up2 F k 4 v) lit fo) ++ [(o, .inl (E.2.2.2, 1, .inr (.inl fn)))]) _ := hP
  have hD : va_D A (wC E a mc n now lim (LF (up2 F k 4 v) lit fo) ++ [(o, .inl (E.2.2.2, 1, .inr (.inl fn)))]) := hD
  refine lv_i2l (v := (nI (F k 4)).toInt64) hx hb dL_setLength_8 (rfl) ?_
  refine va_last hx hb hK hP hD hS (wC E a mc n now lim (LF (up2 F k 4 v) lit fo)).length 2 (get_last _ _) rfl (i := nI 0) (by exact vp_in_nI (by omega) (by omega)) dL_setLength_9 (fun H locs hP hD hS => ?_)
  rw [set_last, nI_clamp (by omega)] at hP hD
  have hP : va_P E.1 vwCl (wC E a mc n now lim (LF (up2 F k 4 v) lit fo) ++ [(o, .inl (E.2.2.2, 1, .inr (.inl (vp_updL fn 0 ((nI (F k 4)).toInt64)))))]) _ := hP
  have hD : va_D A (wC E a mc n now lim (LF (up2 F k 4 v) lit fo) ++ [(o, .inl (E.2.2.2, 1, .inr (.inl (vp_updL fn 0 ((nI (F k 4)).toInt64)))))]) := hD
  refine lv_goto (tgt := 21) hx hb dL_setLength_10 (by decide) ?_
  refine lv_iconst (v := (nI 0)) hx hb dL_setLength_21 (by decide) ?_
  exact retM_i (E := E) (A0 := A) (v := (nI 0)) (post := fun r uQ => r = nI 0) (u := u0) (W1 := fun uQ => wC E a mc n now lim (LF (up2 F k 4 v) lit fo) ++ [(o, .inl (E.2.2.2, 1, .inr (.inl (vp_updL fn 0 (((nI (F k 4))).toInt64)))))]) hx hb hr hlocks hP hK hD hS (rfl) dL_setLength_22

set_option maxHeartbeats 4000000 in
set_option maxRecDepth 100000 in
theorem w_L_setLength_x (l : Launch) (hl9 : l.stackTraces = false) (E : GE) (sz z0 : Nat) (a : Nat → Nat) (mc : Int32) (n now lim : Nat) (F : LR) (lit : Nat → Bool) (fo : Nat → Nat) (hO : OkS n now lim F) (o : Nat) (fn : Nat → Int64) (x : Int32) (hx9 : lpB n x = false) (z : Int32) : Met l yL_setLength wsL_setLength ({ frames := 8, cells := 1, slots := 6, locals := 136 } : Room) (va_Pc [.ref (a 0), .int x, .int z, .ref o] (pcW E (wC E a mc n now lim (LF F lit fo) ++ [(o, .inl (E.2.2.2, 1, .inr (.inl fn)))]) sz z0)) (va_Qi (S := Unit) (fun r _ => r = nI 1) (fun uQ tQ => atM E (va_A (wC E a mc n now lim (LF F lit fo) ++ [(o, .inl (E.2.2.2, 1, .inr (.inl fn)))]) sz) ((fun _ => wC E a mc n now lim (LF F lit fo) ++ [(o, .inl (E.2.2.2, 1, .inr (.inl fn)))]) uQ) tQ) (va_A (wC E a mc n now lim (LF F lit fo) ++ [(o, .inl (E.2.2.2, 1, .inr (.inl fn)))]) sz)) 1 6 (va_A (wC E a mc n now lim (LF F lit fo) ++ [(o, .inl (E.2.2.2, 1, .inr (.inl fn)))]) sz) := by
  refine metL (by decide) rfl (Nat.le_of_ble_eq_true rfl) ?_
  intro p e s m args below meth c ls A hAe hA hx hb hr hml hts hown hlocks htab hP hK hD hZ hT hS hl
  rw [hAe]
  refine lv_aload_n hx hb dL_setLength_0 rfl (lv_at hl 3 rfl) ?_
  refine lv_iconst (v := (nI 0)) hx hb dL_setLength_1 (by decide) ?_
  refine lv_aload_n hx hb dL_setLength_2 rfl (lv_at hl 0 rfl) ?_
  refine lv_iload_n hx hb dL_setLength_3 rfl (lv_at hl 1 rfl) ?_
  refine lv_iload_n hx hb dL_setLength_4 rfl (lv_at hl 2 rfl) ?_
  refine xcV (wx := []) (wy := [(o, .inl (E.2.2.2, 1, .inr (.inl fn)))]) (rest := [.int (nI 0), .ref o]) (As := [.int x, .int z]) ⟨hx, hb, hml, hown, hts⟩ (x_X1_setLength l hl9 E _ (wC E a mc n now lim (LF F lit fo)) a n now lim F lit fo CV_self hO x hx9 z) (cwV 2 hts gL_setLength_X1_setLength rfl rfl rfl (by decide +kernel) ⟨Nat.le_of_ble_eq_true rfl, Nat.le_of_ble_eq_true rfl⟩) (va_recv hK hP (ci := 2) (q0 := 0) rfl (list_app wC_x)) rfl hP hK hD hT hS hA rfl hl.1 rfl (Nat.le_of_ble_eq_true rfl) dL_setLength_5 ⟨Nat.le_of_ble_eq_true rfl, Nat.le_of_ble_eq_true rfl⟩ (fun ce q9 H locs hP hD hS hc1 hv1 hcl1 => ?_)
  refine vx_catch hown [] ⟨0, 10, 13, 21⟩ [⟨0, 10, 17, 13⟩] (by rw [htab]; rfl) (fun z hz => by cases hz) (by decide) (by decide) (hts (.classLink RL 21 "java/lang/IndexOutOfBoundsException") (List.mem_of_getElem? (i := 1) (by rfl))) (va_Nw.use rfl hT.2.2.2.2.2.2.2.1) hc1 hv1 hcl1 ?_
  show W _ _ _ _ _ _ _ _ _ _ _ _ _ _ _ (F0 m 13 ls [.ref q9])
  refine lv_astore (lv' := [(4, .ref q9), (0, .ref (a 0)), (1, .int x), (2, .int z), (3, .ref o)]) hx hb dL_setLength_13 hl (by decide) rfl (fun ls hl => ?_)
  refine lv_iconst (v := (nI 1)) hx hb dL_setLength_15 (by decide) ?_
  exact retM_i (E := E) (A0 := A) (v := (nI 1)) (post := fun r _ => r = nI 1) (u := ()) (W1 := fun _ => wC E a mc n now lim (LF F lit fo) ++ [(o, .inl (E.2.2.2, 1, .inr (.inl fn)))]) hx hb hr hlocks hP hK hD hS (rfl) dL_setLength_16

set_option maxHeartbeats 4000000 in
set_option maxRecDepth 100000 in
theorem w_L_setLength_y (l : Launch) (hl9 : l.stackTraces = false) (E : GE) (sz z0 : Nat) (a : Nat → Nat) (mc : Int32) (n now lim : Nat) (F : LR) (lit : Nat → Bool) (fo : Nat → Nat) (hO : OkS n now lim F) (o : Nat) (fn : Nat → Int64) (k : Nat) (hk : k < n) (z : Int32) (hz9 : inB z (nI 1) (nI (F k 0 - 1)) = false) : Met l yL_setLength wsL_setLength ({ frames := 8, cells := 1, slots := 6, locals := 136 } : Room) (va_Pc [.ref (a 0), .int (nI k), .int z, .ref o] (pcW E (wC E a mc n now lim (LF F lit fo) ++ [(o, .inl (E.2.2.2, 1, .inr (.inl fn)))]) sz z0)) (va_Qi (S := Unit) (fun r _ => r = nI 2) (fun uQ tQ => atM E (va_A (wC E a mc n now lim (LF F lit fo) ++ [(o, .inl (E.2.2.2, 1, .inr (.inl fn)))]) sz) ((fun _ => wC E a mc n now lim (LF F lit fo) ++ [(o, .inl (E.2.2.2, 1, .inr (.inl fn)))]) uQ) tQ) (va_A (wC E a mc n now lim (LF F lit fo) ++ [(o, .inl (E.2.2.2, 1, .inr (.inl fn)))]) sz)) 1 6 (va_A (wC E a mc n now lim (LF F lit fo) ++ [(o, .inl (E.2.2.2, 1, .inr (.inl fn)))]) sz) := by
  refine metL (by decide) rfl (Nat.le_of_ble_eq_true rfl) ?_
  intro p e s m args below meth c ls A hAe hA hx hb hr hml hts hown hlocks htab hP hK hD hZ hT hS hl
  rw [hAe]
  refine lv_aload_n hx hb dL_setLength_0 rfl (lv_at hl 3 rfl) ?_
  refine lv_iconst (v := (nI 0)) hx hb dL_setLength_1 (by decide) ?_
  refine lv_aload_n hx hb dL_setLength_2 rfl (lv_at hl 0 rfl) ?_
  refine lv_iload_n hx hb dL_setLength_3 rfl (lv_at hl 1 rfl) ?_
  refine lv_iload_n hx hb dL_setLength_4 rfl (lv_at hl 2 rfl) ?_
  refine xcV (wx := []) (wy := [(o, .inl (E.2.2.2, 1, .inr (.inl fn)))]) (rest := [.int (nI 0), .ref o]) (As := [.int (nI k), .int z]) ⟨hx, hb, hml, hown, hts⟩ (x_X1_setLength_y l hl9 E _ (wC E a mc n now lim (LF F lit fo)) a n now lim F lit fo CV_self hO k hk z hz9) (cwV 2 hts gL_setLength_X1_setLength rfl rfl rfl (by decide +kernel) ⟨Nat.le_of_ble_eq_true rfl, Nat.le_of_ble_eq_true rfl⟩) (va_recv hK hP (ci := 2) (q0 := 0) rfl (list_app wC_x)) rfl hP hK hD hT hS hA rfl hl.1 rfl (Nat.le_of_ble_eq_true rfl) dL_setLength_5 ⟨Nat.le_of_ble_eq_true rfl, Nat.le_of_ble_eq_true rfl⟩ (fun ce q9 H locs hP hD hS hc1 hv1 hcl1 => ?_)
  refine vx_catch hown [⟨0, 10, 13, 21⟩] ⟨0, 10, 17, 13⟩ [] (by rw [htab]; rfl) (fun z hz => by rw [List.mem_singleton.mp hz]; exact Or.inr ⟨by decide, "java/lang/IndexOutOfBoundsException", (hts (.classLink RL 21 "java/lang/IndexOutOfBoundsException") (List.mem_of_getElem? (i := 1) (by rfl))), hT.2.2.2.2.2.2.2.2.2.2.1⟩) (by decide) (by decide) (hts (.classLink RL 13 "java/lang/IllegalArgumentException") (List.mem_of_getElem? (i := 2) (by rfl))) (va_Nw.use rfl hT.2.2.2.2.2.2.1) hc1 hv1 hcl1 ?_
  show W _ _ _ _ _ _ _ _ _ _ _ _ _ _ _ (F0 m 17 ls [.ref q9])
  refine lv_astore (lv' := [(4, .ref q9), (0, .ref (a 0)), (1, .int (nI k)), (2, .int z), (3, .ref o)]) hx hb dL_setLength_17 hl (by decide) rfl (fun ls hl => ?_)
  refine lv_iconst (v := (nI 2)) hx hb dL_setLength_19 (by decide) ?_
  exact retM_i (E := E) (A0 := A) (v := (nI 2)) (post := fun r _ => r = nI 2) (u := ()) (W1 := fun _ => wC E a mc n now lim (LF F lit fo) ++ [(o, .inl (E.2.2.2, 1, .inr (.inl fn)))]) hx hb hr hlocks hP hK hD hS (rfl) dL_setLength_20

set_option maxHeartbeats 4000000 in
set_option maxRecDepth 100000 in
theorem w_L_swapColours (l : Launch) (hl9 : l.stackTraces = false) (E : GE) (sz z0 : Nat) (a : Nat → Nat) (mc : Int32) (n now lim : Nat) (F : LR) (lit : Nat → Bool) (fo : Nat → Nat) (hO : OkS n now lim F) (o : Nat) (fn : Nat → Int64) (k j : Nat) (hk : k < n) (hj : j < n) (hkj : k ≠ j) : Met l yL_swapColours wsL_swapColours ({ frames := 5, cells := 0, slots := 0, locals := 110 } : Room) (va_Pc [.ref (a 0), .int (nI k), .int (nI j), .ref o] (pcW E (wC E a mc n now lim (LF F lit fo) ++ [(o, .inl (E.2.2.2, 1, .inr (.inl fn)))]) sz z0)) (va_Qi (S := Unit) (fun r uQ => r = nI 0) (fun uQ tQ => atM E (va_A (wC E a mc n now lim (LF F lit fo) ++ [(o, .inl (E.2.2.2, 1, .inr (.inl fn)))]) sz) ((fun uQ => wC E a mc n now lim (LF (up2 (up2 F k 2 (F j 2)) j 2 (F k 2)) lit fo) ++ [(o, .inl (E.2.2.2, 1, .inr (.inl (vp_updL fn 0 (bL (decide (F j 2 ≠ F k 2)))))))]) uQ) tQ) (va_A (wC E a mc n now lim (LF F lit fo) ++ [(o, .inl (E.2.2.2, 1, .inr (.inl fn)))]) sz)) 0 0 (va_A (wC E a mc n now lim (LF F lit fo) ++ [(o, .inl (E.2.2.2, 1, .inr (.inl fn)))]) sz) := by
  refine metL (by decide) rfl (Nat.le_of_ble_eq_true rfl) ?_
  intro p e s m args below meth c ls A hAe hA hx hb hr hml hts hown hlocks htab hP hK hD hZ hT hS hl
  rw [hAe]
  refine lv_aload_n hx hb dL_swapColours_0 rfl (lv_at hl 3 rfl) ?_
  refine lv_iconst (v := (nI 0)) hx hb dL_swapColours_1 (by decide) ?_
  refine lv_aload_n hx hb dL_swapColours_2 rfl (lv_at hl 0 rfl) ?_
  refine lv_iload_n hx hb dL_swapColours_3 rfl (lv_at hl 1 rfl) ?_
  refine lv_iload_n hx hb dL_swapColours_4 rfl (lv_at hl 2 rfl) ?_
  have hP0 := hP
  have hP : va_P E.1 vwCl ([] ++ (wC E a mc n now lim (LF F lit fo) ++ [(o, .inl (E.2.2.2, 1, .inr (.inl fn)))])) _ := hP
  have hD : va_D A ([] ++ (wC E a mc n now lim (LF F lit fo) ++ [(o, .inl (E.2.2.2, 1, .inr (.inl fn)))])) := hD
  refine cmX_i (wx := []) (wy := [(o, .inl (E.2.2.2, 1, .inr (.inl fn)))]) (rest := [.int (nI 0), .ref o]) (As := [.int (nI k), .int (nI j)]) ⟨hx, hb, hml, hown, hts⟩ (c_X1_swapColours l E _ a mc n now lim F lit fo hO k j hk hj hkj) (cwV 2 hts gL_swapColours_X1_swapColours rfl rfl rfl (by decide +kernel) ⟨Nat.le_of_ble_eq_true rfl, Nat.le_of_ble_eq_true rfl⟩) (va_recv hK hP0 (ci := 2) (q0 := 0) rfl (list_app wC_x)) hP hK hD hS hA rfl hl.1 rfl (Nat.le_of_ble_eq_true rfl) dL_swapColours_5 ⟨Nat.le_of_ble_eq_true rfl, Nat.le_of_ble_eq_true rfl⟩ (fun r0 u0 H locs hr0 hP hD hS => ?_)
  subst hr0
  have hP : va_P E.1 vwCl (wC E a mc n now lim (LF (up2 (up2 F k 2 (F j 2)) j 2 (F k 2)) lit fo) ++ [(o, .inl (E.2.2.2, 1, .inr (.inl fn)))]) _ := hP
  have hD : va_D A (wC E a mc n now lim (LF (up2 (up2 F k 2 (F j 2)) j 2 (F k 2)) lit fo) ++ [(o, .inl (E.2.2.2, 1, .inr (.inl fn)))]) := hD
  refine bq_if_eq (tgt := 15) hx hb dL_swapColours_8 (by decide) (fun h8 => ?_) (fun h8 => ?_)
  · skip
    refine lv_lconst (v := 0) hx hb dL_swapColours_15 (by decide) ?_
    refine nq_topl (show 0 = bL (decide (F j 2 ≠ F k 2)) from by rw [h8]; rfl) ?_
    refine va_last hx hb hK hP hD hS (wC E a mc n now lim (LF (up2 (up2 F k 2 (F j 2)) j 2 (F k 2)) lit fo)).length 2 (get_last _ _) rfl (i := nI 0) (by exact vp_in_nI (by omega) (by omega)) dL_swapColours_16 (fun H locs hP hD hS => ?_)
    rw [set_last, nI_clamp (by omega)] at hP hD
    have hP : va_P E.1 vwCl (wC E a mc n now lim (LF (up2 (up2 F k 2 (F j 2)) j 2 (F k 2)) lit fo) ++ [(o, .inl (E.2.2.2, 1, .inr (.inl (vp_updL fn 0 (bL (decide (F j 2 ≠ F k 2)))))))]) _ := hP
    have hD : va_D A (wC E a mc n now lim (LF (up2 (up2 F k 2 (F j 2)) j 2 (F k 2)) lit fo) ++ [(o, .inl (E.2.2.2, 1, .inr (.inl (vp_updL fn 0 (bL (decide (F j 2 ≠ F k 2)))))))]) := hD
    refine lv_goto (tgt := 28) hx hb dL_swapColours_17 (by decide) ?_
    refine lv_iconst (v := (nI 0)) hx hb dL_swapColours_28 (by decide) ?_
    exact retM_i (E := E) (A0 := A) (v := (nI 0)) (post := fun r uQ => r = nI 0) (u := u0) (W1 := fun uQ => wC E a mc n now lim (LF (up2 (up2 F k 2 (F j 2)) j 2 (F k 2)) lit fo) ++ [(o, .inl (E.2.2.2, 1, .inr (.inl (vp_updL fn 0 (bL (decide (F j 2 ≠ F k 2)))))))]) hx hb hr hlocks hP hK hD hS (rfl) dL_swapColours_29
  · skip
    refine lv_lconst (v := 1) hx hb dL_swapColours_11 (by decide) ?_
    refine lv_goto (tgt := 16) hx hb dL_swapColours_12 (by decide) ?_
    refine nq_topl (show 1 = bL (decide (F j 2 ≠ F k 2)) from by rw [h8]; rfl) ?_
    refine va_last hx hb hK hP hD hS (wC E a mc n now lim (LF (up2 (up2 F k 2 (F j 2)) j 2 (F k 2)) lit fo)).length 2 (get_last _ _) rfl (i := nI 0) (by exact vp_in_nI (by omega) (by omega)) dL_swapColours_16 (fun H locs hP hD hS => ?_)
    rw [set_last, nI_clamp (by omega)] at hP hD
    have hP : va_P E.1 vwCl (wC E a mc n now lim (LF (up2 (up2 F k 2 (F j 2)) j 2 (F k 2)) lit fo) ++ [(o, .inl (E.2.2.2, 1, .inr (.inl (vp_updL fn 0 (bL (decide (F j 2 ≠ F k 2)))))))]) _ := hP
    have hD : va_D A (wC E a mc n now lim (LF (up2 (up2 F k 2 (F j 2)) j 2 (F k 2)) lit fo) ++ [(o, .inl (E.2.2.2, 1, .inr (.inl (vp_updL fn 0 (bL (decide (F j 2 ≠ F k 2)))))))]) := hD
    refine lv_goto (tgt := 28) hx hb dL_swapColours_17 (by decide) ?_
    refine lv_iconst (v := (nI 0)) hx hb dL_swapColours_28 (by decide) ?_
    exact retM_i (E := E) (A0 := A) (v := (nI 0)) (post := fun r uQ => r = nI 0) (u := u0) (W1 := fun uQ => wC E a mc n now lim (LF (up2 (up2 F k 2 (F j 2)) j 2 (F k 2)) lit fo) ++ [(o, .inl (E.2.2.2, 1, .inr (.inl (vp_updL fn 0 (bL (decide (F j 2 ≠ F k 2)))))))]) hx hb hr hlocks hP hK hD hS (rfl) dL_swapColours_29

set_option maxHeartbeats 4000000 in
set_option maxRecDepth 100000 in
theorem w_L_swapColours_x (l : Launch) (hl9 : l.stackTraces = false) (E : GE) (sz z0 : Nat) (a : Nat → Nat) (mc : Int32) (n now lim : Nat) (F : LR) (lit : Nat → Bool) (fo : Nat → Nat) (hO : OkS n now lim F) (o : Nat) (fn : Nat → Int64) (x z : Int32) (hx9 : (lpB n x && lpB n z) = false) : Met l yL_swapColours wsL_swapColours ({ frames := 8, cells := 1, slots := 6, locals := 137 } : Room) (va_Pc [.ref (a 0), .int x, .int z, .ref o] (pcW E (wC E a mc n now lim (LF F lit fo) ++ [(o, .inl (E.2.2.2, 1, .inr (.inl fn)))]) sz z0)) (va_Qi (S := Unit) (fun r _ => r = nI 1) (fun uQ tQ => atM E (va_A (wC E a mc n now lim (LF F lit fo) ++ [(o, .inl (E.2.2.2, 1, .inr (.inl fn)))]) sz) ((fun _ => wC E a mc n now lim (LF F lit fo) ++ [(o, .inl (E.2.2.2, 1, .inr (.inl fn)))]) uQ) tQ) (va_A (wC E a mc n now lim (LF F lit fo) ++ [(o, .inl (E.2.2.2, 1, .inr (.inl fn)))]) sz)) 1 6 (va_A (wC E a mc n now lim (LF F lit fo) ++ [(o, .inl (E.2.2.2, 1, .inr (.inl fn)))]) sz) := by
  refine metL (by decide) rfl (Nat.le_of_ble_eq_true rfl) ?_
  intro p e s m args below meth c ls A hAe hA hx hb hr hml hts hown hlocks htab hP hK hD hZ hT hS hl
  rw [hAe]
  refine lv_aload_n hx hb dL_swapColours_0 rfl (lv_at hl 3 rfl) ?_
  refine lv_iconst (v := (nI 0)) hx hb dL_swapColours_1 (by decide) ?_
  refine lv_aload_n hx hb dL_swapColours_2 rfl (lv_at hl 0 rfl) ?_
  refine lv_iload_n hx hb dL_swapColours_3 rfl (lv_at hl 1 rfl) ?_
  refine lv_iload_n hx hb dL_swapColours_4 rfl (lv_at hl 2 rfl) ?_
  refine xcV (wx := []) (wy := [(o, .inl (E.2.2.2, 1, .inr (.inl fn)))]) (rest := [.int (nI 0), .ref o]) (As := [.int x, .int z]) ⟨hx, hb, hml, hown, hts⟩ (x_X1_swapColours l hl9 E _ (wC E a mc n now lim (LF F lit fo)) a n now lim F lit fo CV_self hO x z hx9) (cwV 2 hts gL_swapColours_X1_swapColours rfl rfl rfl (by decide +kernel) ⟨Nat.le_of_ble_eq_true rfl, Nat.le_of_ble_eq_true rfl⟩) (va_recv hK hP (ci := 2) (q0 := 0) rfl (list_app wC_x)) rfl hP hK hD hT hS hA rfl hl.1 rfl (Nat.le_of_ble_eq_true rfl) dL_swapColours_5 ⟨Nat.le_of_ble_eq_true rfl, Nat.le_of_ble_eq_true rfl⟩ (fun ce q9 H locs hP hD hS hc1 hv1 hcl1 => ?_)
  refine vx_catch hown [] ⟨0, 17, 20, 21⟩ [⟨0, 17, 24, 13⟩] (by rw [htab]; rfl) (fun z hz => by cases hz) (by decide) (by decide) (hts (.classLink RL 21 "java/lang/IndexOutOfBoundsException") (List.mem_of_getElem? (i := 1) (by rfl))) (va_Nw.use rfl hT.2.2.2.2.2.2.2.1) hc1 hv1 hcl1 ?_
  show W _ _ _ _ _ _ _ _ _ _ _ _ _ _ _ (F0 m 20 ls [.ref q9])
  refine lv_astore (lv' := [(4, .ref q9), (0, .ref (a 0)), (1, .int x), (2, .int z), (3, .ref o)]) hx hb dL_swapColours_20 hl (by decide) rfl (fun ls hl => ?_)
  refine lv_iconst (v := (nI 1)) hx hb dL_swapColours_22 (by decide) ?_
  exact retM_i (E := E) (A0 := A) (v := (nI 1)) (post := fun r _ => r = nI 1) (u := ()) (W1 := fun _ => wC E a mc n now lim (LF F lit fo) ++ [(o, .inl (E.2.2.2, 1, .inr (.inl fn)))]) hx hb hr hlocks hP hK hD hS (rfl) dL_swapColours_23

set_option maxHeartbeats 4000000 in
set_option maxRecDepth 100000 in
theorem w_L_swapColours_y (l : Launch) (hl9 : l.stackTraces = false) (E : GE) (sz z0 : Nat) (a : Nat → Nat) (mc : Int32) (n now lim : Nat) (F : LR) (lit : Nat → Bool) (fo : Nat → Nat) (hO : OkS n now lim F) (o : Nat) (fn : Nat → Int64) (k : Nat) (hk : k < n) : Met l yL_swapColours wsL_swapColours ({ frames := 8, cells := 1, slots := 6, locals := 137 } : Room) (va_Pc [.ref (a 0), .int (nI k), .int (nI k), .ref o] (pcW E (wC E a mc n now lim (LF F lit fo) ++ [(o, .inl (E.2.2.2, 1, .inr (.inl fn)))]) sz z0)) (va_Qi (S := Unit) (fun r _ => r = nI 2) (fun uQ tQ => atM E (va_A (wC E a mc n now lim (LF F lit fo) ++ [(o, .inl (E.2.2.2, 1, .inr (.inl fn)))]) sz) ((fun _ => wC E a mc n now lim (LF F lit fo) ++ [(o, .inl (E.2.2.2, 1, .inr (.inl fn)))]) uQ) tQ) (va_A (wC E a mc n now lim (LF F lit fo) ++ [(o, .inl (E.2.2.2, 1, .inr (.inl fn)))]) sz)) 1 6 (va_A (wC E a mc n now lim (LF F lit fo) ++ [(o, .inl (E.2.2.2, 1, .inr (.inl fn)))]) sz) := by
  refine metL (by decide) rfl (Nat.le_of_ble_eq_true rfl) ?_
  intro p e s m args below meth c ls A hAe hA hx hb hr hml hts hown hlocks htab hP hK hD hZ hT hS hl
  rw [hAe]
  refine lv_aload_n hx hb dL_swapColours_0 rfl (lv_at hl 3 rfl) ?_
  refine lv_iconst (v := (nI 0)) hx hb dL_swapColours_1 (by decide) ?_
  refine lv_aload_n hx hb dL_swapColours_2 rfl (lv_at hl 0 rfl) ?_
  refine lv_iload_n hx hb dL_swapColours_3 rfl (lv_at hl 1 rfl) ?_
  refine lv_iload_n hx hb dL_swapColours_4 rfl (lv_at hl 2 rfl) ?_
  refine xcV (wx := []) (wy := [(o, .inl (E.2.2.2, 1, .inr (.inl fn)))]) (rest := [.int (nI 0), .ref o]) (As := [.int (nI k), .int (nI k)]) ⟨hx, hb, hml, hown, hts⟩ (x_X1_swapColours_y l hl9 E _ (wC E a mc n now lim (LF F lit fo)) a n now lim F lit fo CV_self hO k hk) (cwV 2 hts gL_swapColours_X1_swapColours rfl rfl rfl (by decide +kernel) ⟨Nat.le_of_ble_eq_true rfl, Nat.le_of_ble_eq_true rfl⟩) (va_recv hK hP (ci := 2) (q0 := 0) rfl (list_app wC_x)) rfl hP hK hD hT hS hA rfl hl.1 rfl (Nat.le_of_ble_eq_true rfl) dL_swapColours_5 ⟨Nat.le_of_ble_eq_true rfl, Nat.le_of_ble_eq_true rfl⟩ (fun ce q9 H locs hP hD hS hc1 hv1 hcl1 => ?_)
  refine vx_catch hown [⟨0, 17, 20, 21⟩] ⟨0, 17, 24, 13⟩ [] (by rw [htab]; rfl) (fun z hz => by rw [List.mem_singleton.mp hz]; exact Or.inr ⟨by decide, "java/lang/IndexOutOfBoundsException", (hts (.classLink RL 21 "java/lang/IndexOutOfBoundsException") (List.mem_of_getElem? (i := 1) (by rfl))), hT.2.2.2.2.2.2.2.2.2.2.1⟩) (by decide) (by decide) (hts (.classLink RL 13 "java/lang/IllegalArgumentException") (List.mem_of_getElem? (i := 2) (by rfl))) (va_Nw.use rfl hT.2.2.2.2.2.2.1) hc1 hv1 hcl1 ?_
  show W _ _ _ _ _ _ _ _ _ _ _ _ _ _ _ (F0 m 24 ls [.ref q9])
  refine lv_astore (lv' := [(4, .ref q9), (0, .ref (a 0)), (1, .int (nI k)), (2, .int (nI k)), (3, .ref o)]) hx hb dL_swapColours_24 hl (by decide) rfl (fun ls hl => ?_)
  refine lv_iconst (v := (nI 2)) hx hb dL_swapColours_26 (by decide) ?_
  exact retM_i (E := E) (A0 := A) (v := (nI 2)) (post := fun r _ => r = nI 2) (u := ()) (W1 := fun _ => wC E a mc n now lim (LF F lit fo) ++ [(o, .inl (E.2.2.2, 1, .inr (.inl fn)))]) hx hb hr hlocks hP hK hD hS (rfl) dL_swapColours_27

set_option maxHeartbeats 4000000 in
set_option maxRecDepth 100000 in
theorem w_L_setLimit (l : Launch) (hl9 : l.stackTraces = false) (E : GE) (sz z0 : Nat) (a : Nat → Nat) (mc : Int32) (n now lim : Nat) (F : LR) (lit : Nat → Bool) (fo : Nat → Nat) (hO : OkS n now lim F) (o : Nat) (fn : Nat → Int64) (v : Nat) (hv : v ≤ 99) : Met l yL_setLimit wsL_setLimit ({ frames := 2, cells := 0, slots := 0, locals := 44 } : Room) (va_Pc [.ref (a 0), .int (nI v), .ref o] (pcW E (wC E a mc n now lim (LF F lit fo) ++ [(o, .inl (E.2.2.2, 1, .inr (.inl fn)))]) sz z0)) (va_Qi (S := Unit) (fun r uQ => r = nI 0) (fun uQ tQ => atM E (va_A (wC E a mc n now lim (LF F lit fo) ++ [(o, .inl (E.2.2.2, 1, .inr (.inl fn)))]) sz) ((fun uQ => wC E a mc n now v (LF F lit fo) ++ [(o, .inl (E.2.2.2, 1, .inr (.inl (vp_updL fn 0 (((nI lim)).toInt64)))))]) uQ) tQ) (va_A (wC E a mc n now lim (LF F lit fo) ++ [(o, .inl (E.2.2.2, 1, .inr (.inl fn)))]) sz)) 0 0 (va_A (wC E a mc n now lim (LF F lit fo) ++ [(o, .inl (E.2.2.2, 1, .inr (.inl fn)))]) sz) := by
  refine metL (by decide) rfl (Nat.le_of_ble_eq_true rfl) ?_
  intro p e s m args below meth c ls A hAe hA hx hb hr hml hts hown hlocks htab hP hK hD hZ hT hS hl
  rw [hAe]
  refine lv_aload_n hx hb dL_setLimit_0 rfl (lv_at hl 2 rfl) ?_
  refine lv_iconst (v := (nI 0)) hx hb dL_setLimit_1 (by decide) ?_
  refine lv_aload_n hx hb dL_setLimit_2 rfl (lv_at hl 0 rfl) ?_
  refine lv_iload_n hx hb dL_setLimit_3 rfl (lv_at hl 1 rfl) ?_
  have hP0 := hP
  have hP : va_P E.1 vwCl ([] ++ (wC E a mc n now lim (LF F lit fo) ++ [(o, .inl (E.2.2.2, 1, .inr (.inl fn)))])) _ := hP
  have hD : va_D A ([] ++ (wC E a mc n now lim (LF F lit fo) ++ [(o, .inl (E.2.2.2, 1, .inr (.inl fn)))])) := hD
  refine cmX_i (wx := []) (wy := [(o, .inl (E.2.2.2, 1, .inr (.inl fn)))]) (rest := [.int (nI 0), .ref o]) (As := [.int (nI v)]) ⟨hx, hb, hml, hown, hts⟩ (c_X1_setLimit l E _ a mc n now lim F lit fo hO v hv) (cwV 1 hts gL_setLimit_X1_setLimit rfl rfl rfl (by decide +kernel) ⟨Nat.le_of_ble_eq_true rfl, Nat.le_of_ble_eq_true rfl⟩) (va_recv hK hP0 (ci := 2) (q0 := 0) rfl (list_app wC_x)) hP hK hD hS hA rfl hl.1 rfl (Nat.le_of_ble_eq_true rfl) dL_setLimit_4 ⟨Nat.le_of_ble_eq_true rfl, Nat.le_of_ble_eq_true rfl⟩ (fun r0 u0 H locs hr0 hP hD hS => ?_)
  subst hr0
  have hP : va_P E.1 vwCl (wC E a mc n now v (LF F lit fo) ++ [(o, .inl (E.2.2.2, 1, .inr (.inl fn)))]) _ := hP
  have hD : va_D A (wC E a mc n now v (LF F lit fo) ++ [(o, .inl (E.2.2.2, 1, .inr (.inl fn)))]) := hD
  refine lv_i2l (v := (nI lim).toInt64) hx hb dL_setLimit_7 (rfl) ?_
  refine va_last hx hb hK hP hD hS (wC E a mc n now v (LF F lit fo)).length 2 (get_last _ _) rfl (i := nI 0) (by exact vp_in_nI (by omega) (by omega)) dL_setLimit_8 (fun H locs hP hD hS => ?_)
  rw [set_last, nI_clamp (by omega)] at hP hD
  have hP : va_P E.1 vwCl (wC E a mc n now v (LF F lit fo) ++ [(o, .inl (E.2.2.2, 1, .inr (.inl (vp_updL fn 0 ((nI lim).toInt64)))))]) _ := hP
  have hD : va_D A (wC E a mc n now v (LF F lit fo) ++ [(o, .inl (E.2.2.2, 1, .inr (.inl (vp_updL fn 0 ((nI lim).toInt64)))))]) := hD
  refine lv_goto (tgt := 15) hx hb dL_setLimit_9 (by decide) ?_
  refine lv_iconst (v := (nI 0)) hx hb dL_setLimit_15 (by decide) ?_
  exact retM_i (E := E) (A0 := A) (v := (nI 0)) (post := fun r uQ => r = nI 0) (u := u0) (W1 := fun uQ => wC E a mc n now v (LF F lit fo) ++ [(o, .inl (E.2.2.2, 1, .inr (.inl (vp_updL fn 0 (((nI lim)).toInt64)))))]) hx hb hr hlocks hP hK hD hS (rfl) dL_setLimit_16

set_option maxHeartbeats 4000000 in
set_option maxRecDepth 100000 in
theorem w_L_setLimit_x (l : Launch) (hl9 : l.stackTraces = false) (E : GE) (sz z0 : Nat) (a : Nat → Nat) (mc : Int32) (n now lim : Nat) (F : LR) (lit : Nat → Bool) (fo : Nat → Nat) (hO : OkS n now lim F) (o : Nat) (fn : Nat → Int64) (x : Int32) (hx9 : inB x (nI 0) (nI 99) = false) : Met l yL_setLimit wsL_setLimit ({ frames := 8, cells := 1, slots := 6, locals := 134 } : Room) (va_Pc [.ref (a 0), .int x, .ref o] (pcW E (wC E a mc n now lim (LF F lit fo) ++ [(o, .inl (E.2.2.2, 1, .inr (.inl fn)))]) sz z0)) (va_Qi (S := Unit) (fun r _ => r = nI 1) (fun uQ tQ => atM E (va_A (wC E a mc n now lim (LF F lit fo) ++ [(o, .inl (E.2.2.2, 1, .inr (.inl fn)))]) sz) ((fun _ => wC E a mc n now lim (LF F lit fo) ++ [(o, .inl (E.2.2.2, 1, .inr (.inl fn)))]) uQ) tQ) (va_A (wC E a mc n now lim (LF F lit fo) ++ [(o, .inl (E.2.2.2, 1, .inr (.inl fn)))]) sz)) 1 6 (va_A (wC E a mc n now lim (LF F lit fo) ++ [(o, .inl (E.2.2.2, 1, .inr (.inl fn)))]) sz) := by
  refine metL (by decide) rfl (Nat.le_of_ble_eq_true rfl) ?_
  intro p e s m args below meth c ls A hAe hA hx hb hr hml hts hown hlocks htab hP hK hD hZ hT hS hl
  rw [hAe]
  refine lv_aload_n hx hb dL_setLimit_0 rfl (lv_at hl 2 rfl) ?_
  refine lv_iconst (v := (nI 0)) hx hb dL_setLimit_1 (by decide) ?_
  refine lv_aload_n hx hb dL_setLimit_2 rfl (lv_at hl 0 rfl) ?_
  refine lv_iload_n hx hb dL_setLimit_3 rfl (lv_at hl 1 rfl) ?_
  refine xcV (wx := []) (wy := [(o, .inl (E.2.2.2, 1, .inr (.inl fn)))]) (rest := [.int (nI 0), .ref o]) (As := [.int x]) ⟨hx, hb, hml, hown, hts⟩ (x_X1_setLimit l hl9 E _ (wC E a mc n now lim (LF F lit fo)) a n now lim F lit fo CV_self hO x hx9) (cwV 1 hts gL_setLimit_X1_setLimit rfl rfl rfl (by decide +kernel) ⟨Nat.le_of_ble_eq_true rfl, Nat.le_of_ble_eq_true rfl⟩) (va_recv hK hP (ci := 2) (q0 := 0) rfl (list_app wC_x)) rfl hP hK hD hT hS hA rfl hl.1 rfl (Nat.le_of_ble_eq_true rfl) dL_setLimit_4 ⟨Nat.le_of_ble_eq_true rfl, Nat.le_of_ble_eq_true rfl⟩ (fun ce q9 H locs hP hD hS hc1 hv1 hcl1 => ?_)
  refine vx_catch hown [] ⟨0, 9, 12, 13⟩ [] (by rw [htab]; rfl) (fun z hz => by cases hz) (by decide) (by decide) (hts (.classLink RL 13 "java/lang/IllegalArgumentException") (List.mem_of_getElem? (i := 1) (by rfl))) (va_Nw.use rfl hT.2.2.2.2.2.2.1) hc1 hv1 hcl1 ?_
  show W _ _ _ _ _ _ _ _ _ _ _ _ _ _ _ (F0 m 12 ls [.ref q9])
  refine lv_astore_n (lv' := [(3, .ref q9), (0, .ref (a 0)), (1, .int x), (2, .ref o)]) hx hb dL_setLimit_12 rfl hl (by decide) rfl (fun ls hl => ?_)
  refine lv_iconst (v := (nI 1)) hx hb dL_setLimit_13 (by decide) ?_
  exact retM_i (E := E) (A0 := A) (v := (nI 1)) (post := fun r _ => r = nI 1) (u := ()) (W1 := fun _ => wC E a mc n now lim (LF F lit fo) ++ [(o, .inl (E.2.2.2, 1, .inr (.inl fn)))]) hx hb hr hlocks hP hK hD hS (rfl) dL_setLimit_14

set_option maxHeartbeats 4000000 in
set_option maxRecDepth 100000 in
theorem w_L_pass (l : Launch) (hl9 : l.stackTraces = false) (E : GE) (sz z0 : Nat) (a : Nat → Nat) (mc : Int32) (n now lim : Nat) (F : LR) (lit : Nat → Bool) (fo : Nat → Nat) (hO : OkS n now lim F) (o : Nat) (fn : Nat → Int64) (k : Nat) (hk : 1 ≤ k ∧ k ≤ 200) (hnow : now + 200 ≤ 100000000) : Met l yL_pass wsL_pass ({ frames := 6, cells := 0, slots := 0, locals := 134 } : Room) (va_Pc [.ref (a 0), .int (nI k), .ref o] (pcW E (wC E a mc n now lim (LF F lit fo) ++ [(o, .inl (E.2.2.2, 1, .inr (.inl fn)))]) sz z0)) (va_Qi (S := Nat → Bool) (fun r uQ => r = nI 0) (fun uQ tQ => atM E (va_A (wC E a mc n now lim (LF F lit fo) ++ [(o, .inl (E.2.2.2, 1, .inr (.inl fn)))]) sz) ((fun uQ => wC E a mc n (now + k) lim (LF (passF F lim now n k) uQ fo) ++ [(o, .inl (E.2.2.2, 1, .inr (.inl (vp_updL fn 0 (((nI (passD F lim now n k))).toInt64)))))]) uQ) tQ) (va_A (wC E a mc n now lim (LF F lit fo) ++ [(o, .inl (E.2.2.2, 1, .inr (.inl fn)))]) sz)) 0 0 (va_A (wC E a mc n now lim (LF F lit fo) ++ [(o, .inl (E.2.2.2, 1, .inr (.inl fn)))]) sz) := by
  refine metL (by decide) rfl (Nat.le_of_ble_eq_true rfl) ?_
  intro p e s m args below meth c ls A hAe hA hx hb hr hml hts hown hlocks htab hP hK hD hZ hT hS hl
  rw [hAe]
  refine lv_aload_n hx hb dL_pass_0 rfl (lv_at hl 2 rfl) ?_
  refine lv_iconst (v := (nI 0)) hx hb dL_pass_1 (by decide) ?_
  refine lv_aload_n hx hb dL_pass_2 rfl (lv_at hl 0 rfl) ?_
  refine lv_iload_n hx hb dL_pass_3 rfl (lv_at hl 1 rfl) ?_
  have hP0 := hP
  have hP : va_P E.1 vwCl ([] ++ (wC E a mc n now lim (LF F lit fo) ++ [(o, .inl (E.2.2.2, 1, .inr (.inl fn)))])) _ := hP
  have hD : va_D A ([] ++ (wC E a mc n now lim (LF F lit fo) ++ [(o, .inl (E.2.2.2, 1, .inr (.inl fn)))])) := hD
  refine cmX_i (wx := []) (wy := [(o, .inl (E.2.2.2, 1, .inr (.inl fn)))]) (rest := [.int (nI 0), .ref o]) (As := [.int (nI k)]) ⟨hx, hb, hml, hown, hts⟩ (c_X1_pass l E _ a mc n now lim F lit fo hO k hk hnow) (cwV 1 hts gL_pass_X1_pass rfl rfl rfl (by decide +kernel) ⟨Nat.le_of_ble_eq_true rfl, Nat.le_of_ble_eq_true rfl⟩) (va_recv hK hP0 (ci := 2) (q0 := 0) rfl (list_app wC_x)) hP hK hD hS hA rfl hl.1 rfl (Nat.le_of_ble_eq_true rfl) dL_pass_4 ⟨Nat.le_of_ble_eq_true rfl, Nat.le_of_ble_eq_true rfl⟩ (fun r0 u0 H locs hr0 hP hD hS => ?_)
  subst hr0
  have hP : va_P E.1 vwCl (wC E a mc n (now + k) lim (LF (passF F lim now n k) u0 fo) ++ [(o, .inl (E.2.2.2, 1, .inr (.inl fn)))]) _ := hP
  have hD : va_D A (wC E a mc n (now + k) lim (LF (passF F lim now n k) u0 fo) ++ [(o, .inl (E.2.2.2, 1, .inr (.inl fn)))]) := hD
  refine lv_i2l (v := (nI (passD F lim now n k)).toInt64) hx hb dL_pass_7 (rfl) ?_
  refine va_last hx hb hK hP hD hS (wC E a mc n (now + k) lim (LF (passF F lim now n k) u0 fo)).length 2 (get_last _ _) rfl (i := nI 0) (by exact vp_in_nI (by omega) (by omega)) dL_pass_8 (fun H locs hP hD hS => ?_)
  rw [set_last, nI_clamp (by omega)] at hP hD
  have hP : va_P E.1 vwCl (wC E a mc n (now + k) lim (LF (passF F lim now n k) u0 fo) ++ [(o, .inl (E.2.2.2, 1, .inr (.inl (vp_updL fn 0 ((nI (passD F lim now n k)).toInt64)))))]) _ := hP
  have hD : va_D A (wC E a mc n (now + k) lim (LF (passF F lim now n k) u0 fo) ++ [(o, .inl (E.2.2.2, 1, .inr (.inl (vp_updL fn 0 ((nI (passD F lim now n k)).toInt64)))))]) := hD
  refine lv_goto (tgt := 15) hx hb dL_pass_9 (by decide) ?_
  refine lv_iconst (v := (nI 0)) hx hb dL_pass_15 (by decide) ?_
  exact retM_i (E := E) (A0 := A) (v := (nI 0)) (post := fun r uQ => r = nI 0) (u := u0) (W1 := fun uQ => wC E a mc n (now + k) lim (LF (passF F lim now n k) uQ fo) ++ [(o, .inl (E.2.2.2, 1, .inr (.inl (vp_updL fn 0 (((nI (passD F lim now n k))).toInt64)))))]) hx hb hr hlocks hP hK hD hS (rfl) dL_pass_16

set_option maxHeartbeats 4000000 in
set_option maxRecDepth 100000 in
theorem w_L_pass_x (l : Launch) (hl9 : l.stackTraces = false) (E : GE) (sz z0 : Nat) (a : Nat → Nat) (mc : Int32) (n now lim : Nat) (F : LR) (lit : Nat → Bool) (fo : Nat → Nat) (hO : OkS n now lim F) (o : Nat) (fn : Nat → Int64) (x : Int32) (hx9 : inB x (nI 1) (nI 200) = false) : Met l yL_pass wsL_pass ({ frames := 8, cells := 1, slots := 6, locals := 135 } : Room) (va_Pc [.ref (a 0), .int x, .ref o] (pcW E (wC E a mc n now lim (LF F lit fo) ++ [(o, .inl (E.2.2.2, 1, .inr (.inl fn)))]) sz z0)) (va_Qi (S := Unit) (fun r _ => r = nI 1) (fun uQ tQ => atM E (va_A (wC E a mc n now lim (LF F lit fo) ++ [(o, .inl (E.2.2.2, 1, .inr (.inl fn)))]) sz) ((fun _ => wC E a mc n now lim (LF F lit fo) ++ [(o, .inl (E.2.2.2, 1, .inr (.inl fn)))]) uQ) tQ) (va_A (wC E a mc n now lim (LF F lit fo) ++ [(o, .inl (E.2.2.2, 1, .inr (.inl fn)))]) sz)) 1 6 (va_A (wC E a mc n now lim (LF F lit fo) ++ [(o, .inl (E.2.2.2, 1, .inr (.inl fn)))]) sz) := by
  refine metL (by decide) rfl (Nat.le_of_ble_eq_true rfl) ?_
  intro p e s m args below meth c ls A hAe hA hx hb hr hml hts hown hlocks htab hP hK hD hZ hT hS hl
  rw [hAe]
  refine lv_aload_n hx hb dL_pass_0 rfl (lv_at hl 2 rfl) ?_
  refine lv_iconst (v := (nI 0)) hx hb dL_pass_1 (by decide) ?_
  refine lv_aload_n hx hb dL_pass_2 rfl (lv_at hl 0 rfl) ?_
  refine lv_iload_n hx hb dL_pass_3 rfl (lv_at hl 1 rfl) ?_
  refine xcV (wx := []) (wy := [(o, .inl (E.2.2.2, 1, .inr (.inl fn)))]) (rest := [.int (nI 0), .ref o]) (As := [.int x]) ⟨hx, hb, hml, hown, hts⟩ (x_X1_pass l hl9 E _ (wC E a mc n now lim (LF F lit fo)) a n now lim F lit fo CV_self hO x hx9) (cwV 1 hts gL_pass_X1_pass rfl rfl rfl (by decide +kernel) ⟨Nat.le_of_ble_eq_true rfl, Nat.le_of_ble_eq_true rfl⟩) (va_recv hK hP (ci := 2) (q0 := 0) rfl (list_app wC_x)) rfl hP hK hD hT hS hA rfl hl.1 rfl (Nat.le_of_ble_eq_true rfl) dL_pass_4 ⟨Nat.le_of_ble_eq_true rfl, Nat.le_of_ble_eq_true rfl⟩ (fun ce q9 H locs hP hD hS hc1 hv1 hcl1 => ?_)
  refine vx_catch hown [] ⟨0, 9, 12, 13⟩ [] (by rw [htab]; rfl) (fun z hz => by cases hz) (by decide) (by decide) (hts (.classLink RL 13 "java/lang/IllegalArgumentException") (List.mem_of_getElem? (i := 1) (by rfl))) (va_Nw.use rfl hT.2.2.2.2.2.2.1) hc1 hv1 hcl1 ?_
  show W _ _ _ _ _ _ _ _ _ _ _ _ _ _ _ (F0 m 12 ls [.ref q9])
  refine lv_astore_n (lv' := [(3, .ref q9), (0, .ref (a 0)), (1, .int x), (2, .ref o)]) hx hb dL_pass_12 rfl hl (by decide) rfl (fun ls hl => ?_)
  refine lv_iconst (v := (nI 1)) hx hb dL_pass_13 (by decide) ?_
  exact retM_i (E := E) (A0 := A) (v := (nI 1)) (post := fun r _ => r = nI 1) (u := ()) (W1 := fun _ => wC E a mc n now lim (LF F lit fo) ++ [(o, .inl (E.2.2.2, 1, .inr (.inl fn)))]) hx hb hr hlocks hP hK hD hS (rfl) dL_pass_14

set_option maxHeartbeats 4000000 in
set_option maxRecDepth 100000 in
theorem w_L_phaseOf (l : Launch) (hl9 : l.stackTraces = false) (E : GE) (sz z0 : Nat) (a : Nat → Nat) (mc : Int32) (n now lim : Nat) (F : LR) (lit : Nat → Bool) (fo : Nat → Nat) (hO : OkS n now lim F) (o : Nat) (fn : Nat → Int64) (k : Nat) (hk : k < n) : Met l yL_phaseOf wsL_phaseOf ({ frames := 5, cells := 0, slots := 0, locals := 106 } : Room) (va_Pc [.ref (a 0), .int (nI k), .ref o] (pcW E (wC E a mc n now lim (LF F lit fo) ++ [(o, .inl (E.2.2.2, 1, .inr (.inl fn)))]) sz z0)) (va_Qi (S := Unit) (fun r uQ => r = nI 0) (fun uQ tQ => atM E (va_A (wC E a mc n now lim (LF F lit fo) ++ [(o, .inl (E.2.2.2, 1, .inr (.inl fn)))]) sz) ((fun uQ => wC E a mc n now lim (LF F lit fo) ++ [(o, .inl (E.2.2.2, 1, .inr (.inl (vp_updL fn 0 (((nI (ph F k now))).toInt64)))))]) uQ) tQ) (va_A (wC E a mc n now lim (LF F lit fo) ++ [(o, .inl (E.2.2.2, 1, .inr (.inl fn)))]) sz)) 0 0 (va_A (wC E a mc n now lim (LF F lit fo) ++ [(o, .inl (E.2.2.2, 1, .inr (.inl fn)))]) sz) := by
  refine metL (by decide) rfl (Nat.le_of_ble_eq_true rfl) ?_
  intro p e s m args below meth c ls A hAe hA hx hb hr hml hts hown hlocks htab hP hK hD hZ hT hS hl
  rw [hAe]
  refine lv_aload_n hx hb dL_phaseOf_0 rfl (lv_at hl 2 rfl) ?_
  refine lv_iconst (v := (nI 0)) hx hb dL_phaseOf_1 (by decide) ?_
  refine lv_aload_n hx hb dL_phaseOf_2 rfl (lv_at hl 0 rfl) ?_
  refine lv_iload_n hx hb dL_phaseOf_3 rfl (lv_at hl 1 rfl) ?_
  refine csV_i (rest := [.int (nI 0), .ref o]) (As := [.int (nI k)]) ⟨hx, hb, hml, hown, hts⟩ (c_X1_phaseOf l E _ a n now lim F lit fo CV_app hO k hk) (cwV 1 hts gL_phaseOf_X1_phaseOf rfl rfl rfl (by decide +kernel) ⟨Nat.le_of_ble_eq_true rfl, Nat.le_of_ble_eq_true rfl⟩) (va_recv hK hP (ci := 2) (q0 := 0) rfl (list_app wC_x)) hP hK rfl hl.1 rfl (Nat.le_of_ble_eq_true rfl) dL_phaseOf_4 (Nat.le_of_ble_eq_true rfl) (Nat.le_of_ble_eq_true rfl) (fun r0 hr0 => ?_)
  subst hr0
  refine lv_i2l (v := (nI (ph F k now)).toInt64) hx hb dL_phaseOf_7 (rfl) ?_
  refine va_last hx hb hK hP hD hS (wC E a mc n now lim (LF F lit fo)).length 2 (get_last _ _) rfl (i := nI 0) (by exact vp_in_nI (by omega) (by omega)) dL_phaseOf_8 (fun H locs hP hD hS => ?_)
  rw [set_last, nI_clamp (by omega)] at hP hD
  have hP : va_P E.1 vwCl (wC E a mc n now lim (LF F lit fo) ++ [(o, .inl (E.2.2.2, 1, .inr (.inl (vp_updL fn 0 ((nI (ph F k now)).toInt64)))))]) _ := hP
  have hD : va_D A (wC E a mc n now lim (LF F lit fo) ++ [(o, .inl (E.2.2.2, 1, .inr (.inl (vp_updL fn 0 ((nI (ph F k now)).toInt64)))))]) := hD
  refine lv_goto (tgt := 15) hx hb dL_phaseOf_9 (by decide) ?_
  refine lv_iconst (v := (nI 0)) hx hb dL_phaseOf_15 (by decide) ?_
  exact retM_i (E := E) (A0 := A) (v := (nI 0)) (post := fun r uQ => r = nI 0) (u := ()) (W1 := fun uQ => wC E a mc n now lim (LF F lit fo) ++ [(o, .inl (E.2.2.2, 1, .inr (.inl (vp_updL fn 0 (((nI (ph F k now))).toInt64)))))]) hx hb hr hlocks hP hK hD hS (rfl) dL_phaseOf_16

set_option maxHeartbeats 4000000 in
set_option maxRecDepth 100000 in
theorem w_L_phaseOf_x (l : Launch) (hl9 : l.stackTraces = false) (E : GE) (sz z0 : Nat) (a : Nat → Nat) (mc : Int32) (n now lim : Nat) (F : LR) (lit : Nat → Bool) (fo : Nat → Nat) (hO : OkS n now lim F) (o : Nat) (fn : Nat → Int64) (x : Int32) (hx9 : lpB n x = false) : Met l yL_phaseOf wsL_phaseOf ({ frames := 8, cells := 1, slots := 6, locals := 133 } : Room) (va_Pc [.ref (a 0), .int x, .ref o] (pcW E (wC E a mc n now lim (LF F lit fo) ++ [(o, .inl (E.2.2.2, 1, .inr (.inl fn)))]) sz z0)) (va_Qi (S := Unit) (fun r _ => r = nI 1) (fun uQ tQ => atM E (va_A (wC E a mc n now lim (LF F lit fo) ++ [(o, .inl (E.2.2.2, 1, .inr (.inl fn)))]) sz) ((fun _ => wC E a mc n now lim (LF F lit fo) ++ [(o, .inl (E.2.2.2, 1, .inr (.inl fn)))]) uQ) tQ) (va_A (wC E a mc n now lim (LF F lit fo) ++ [(o, .inl (E.2.2.2, 1, .inr (.inl fn)))]) sz)) 1 6 (va_A (wC E a mc n now lim (LF F lit fo) ++ [(o, .inl (E.2.2.2, 1, .inr (.inl fn)))]) sz) := by
  refine metL (by decide) rfl (Nat.le_of_ble_eq_true rfl) ?_
  intro p e s m args below meth c ls A hAe hA hx hb hr hml hts hown hlocks htab hP hK hD hZ hT hS hl
  rw [hAe]
  refine lv_aload_n hx hb dL_phaseOf_0 rfl (lv_at hl 2 rfl) ?_
  refine lv_iconst (v := (nI 0)) hx hb dL_phaseOf_1 (by decide) ?_
  refine lv_aload_n hx hb dL_phaseOf_2 rfl (lv_at hl 0 rfl) ?_
  refine lv_iload_n hx hb dL_phaseOf_3 rfl (lv_at hl 1 rfl) ?_
  refine xcV (wx := []) (wy := [(o, .inl (E.2.2.2, 1, .inr (.inl fn)))]) (rest := [.int (nI 0), .ref o]) (As := [.int x]) ⟨hx, hb, hml, hown, hts⟩ (x_X1_phaseOf l hl9 E _ (wC E a mc n now lim (LF F lit fo)) a n now lim F lit fo CV_self hO x hx9) (cwV 1 hts gL_phaseOf_X1_phaseOf rfl rfl rfl (by decide +kernel) ⟨Nat.le_of_ble_eq_true rfl, Nat.le_of_ble_eq_true rfl⟩) (va_recv hK hP (ci := 2) (q0 := 0) rfl (list_app wC_x)) rfl hP hK hD hT hS hA rfl hl.1 rfl (Nat.le_of_ble_eq_true rfl) dL_phaseOf_4 ⟨Nat.le_of_ble_eq_true rfl, Nat.le_of_ble_eq_true rfl⟩ (fun ce q9 H locs hP hD hS hc1 hv1 hcl1 => ?_)
  refine vx_catch hown [] ⟨0, 9, 12, 21⟩ [] (by rw [htab]; rfl) (fun z hz => by cases hz) (by decide) (by decide) (hts (.classLink RL 21 "java/lang/IndexOutOfBoundsException") (List.mem_of_getElem? (i := 1) (by rfl))) (va_Nw.use rfl hT.2.2.2.2.2.2.2.1) hc1 hv1 hcl1 ?_
  show W _ _ _ _ _ _ _ _ _ _ _ _ _ _ _ (F0 m 12 ls [.ref q9])
  refine lv_astore_n (lv' := [(3, .ref q9), (0, .ref (a 0)), (1, .int x), (2, .ref o)]) hx hb dL_phaseOf_12 rfl hl (by decide) rfl (fun ls hl => ?_)
  refine lv_iconst (v := (nI 1)) hx hb dL_phaseOf_13 (by decide) ?_
  exact retM_i (E := E) (A0 := A) (v := (nI 1)) (post := fun r _ => r = nI 1) (u := ()) (W1 := fun _ => wC E a mc n now lim (LF F lit fo) ++ [(o, .inl (E.2.2.2, 1, .inr (.inl fn)))]) hx hb hr hlocks hP hK hD hS (rfl) dL_phaseOf_14

set_option maxHeartbeats 4000000 in
set_option maxRecDepth 100000 in
theorem w_L_isDue (l : Launch) (hl9 : l.stackTraces = false) (E : GE) (sz z0 : Nat) (a : Nat → Nat) (mc : Int32) (n now lim : Nat) (F : LR) (lit : Nat → Bool) (fo : Nat → Nat) (hO : OkS n now lim F) (o : Nat) (fn : Nat → Int64) (k : Nat) (hk : k < n) : Met l yL_isDue wsL_isDue ({ frames := 5, cells := 0, slots := 0, locals := 106 } : Room) (va_Pc [.ref (a 0), .int (nI k), .ref o] (pcW E (wC E a mc n now lim (LF F lit fo) ++ [(o, .inl (E.2.2.2, 1, .inr (.inl fn)))]) sz z0)) (va_Qi (S := Unit) (fun r uQ => r = nI 0) (fun uQ tQ => atM E (va_A (wC E a mc n now lim (LF F lit fo) ++ [(o, .inl (E.2.2.2, 1, .inr (.inl fn)))]) sz) ((fun uQ => wC E a mc n now lim (LF F lit fo) ++ [(o, .inl (E.2.2.2, 1, .inr (.inl (vp_updL fn 0 (bL (due F k now))))))]) uQ) tQ) (va_A (wC E a mc n now lim (LF F lit fo) ++ [(o, .inl (E.2.2.2, 1, .inr (.inl fn)))]) sz)) 0 0 (va_A (wC E a mc n now lim (LF F lit fo) ++ [(o, .inl (E.2.2.2, 1, .inr (.inl fn)))]) sz) := by
  refine metL (by decide) rfl (Nat.le_of_ble_eq_true rfl) ?_
  intro p e s m args below meth c ls A hAe hA hx hb hr hml hts hown hlocks htab hP hK hD hZ hT hS hl
  rw [hAe]
  refine lv_aload_n hx hb dL_isDue_0 rfl (lv_at hl 2 rfl) ?_
  refine lv_iconst (v := (nI 0)) hx hb dL_isDue_1 (by decide) ?_
  refine lv_aload_n hx hb dL_isDue_2 rfl (lv_at hl 0 rfl) ?_
  refine lv_iload_n hx hb dL_isDue_3 rfl (lv_at hl 1 rfl) ?_
  refine csV_i (rest := [.int (nI 0), .ref o]) (As := [.int (nI k)]) ⟨hx, hb, hml, hown, hts⟩ (c_X1_isDue l E _ a n now lim F lit fo CV_app hO k hk) (cwV 1 hts gL_isDue_X1_isDue rfl rfl rfl (by decide +kernel) ⟨Nat.le_of_ble_eq_true rfl, Nat.le_of_ble_eq_true rfl⟩) (va_recv hK hP (ci := 2) (q0 := 0) rfl (list_app wC_x)) hP hK rfl hl.1 rfl (Nat.le_of_ble_eq_true rfl) dL_isDue_4 (Nat.le_of_ble_eq_true rfl) (Nat.le_of_ble_eq_true rfl) (fun r0 hr0 => ?_)
  subst hr0
  refine bq_if_eq (tgt := 14) hx hb dL_isDue_7 (by decide) (fun h7 => ?_) (fun h7 => ?_)
  · skip
    refine lv_lconst (v := 0) hx hb dL_isDue_14 (by decide) ?_
    refine nq_topl (show 0 = bL (due F k now) from by rw [h7]; rfl) ?_
    refine va_last hx hb hK hP hD hS (wC E a mc n now lim (LF F lit fo)).length 2 (get_last _ _) rfl (i := nI 0) (by exact vp_in_nI (by omega) (by omega)) dL_isDue_15 (fun H locs hP hD hS => ?_)
    rw [set_last, nI_clamp (by omega)] at hP hD
    have hP : va_P E.1 vwCl (wC E a mc n now lim (LF F lit fo) ++ [(o, .inl (E.2.2.2, 1, .inr (.inl (vp_updL fn 0 (bL (due F k now))))))]) _ := hP
    have hD : va_D A (wC E a mc n now lim (LF F lit fo) ++ [(o, .inl (E.2.2.2, 1, .inr (.inl (vp_updL fn 0 (bL (due F k now))))))]) := hD
    refine lv_goto (tgt := 22) hx hb dL_isDue_16 (by decide) ?_
    refine lv_iconst (v := (nI 0)) hx hb dL_isDue_22 (by decide) ?_
    exact retM_i (E := E) (A0 := A) (v := (nI 0)) (post := fun r uQ => r = nI 0) (u := ()) (W1 := fun uQ => wC E a mc n now lim (LF F lit fo) ++ [(o, .inl (E.2.2.2, 1, .inr (.inl (vp_updL fn 0 (bL (due F k now))))))]) hx hb hr hlocks hP hK hD hS (rfl) dL_isDue_23
  · skip
    refine lv_lconst (v := 1) hx hb dL_isDue_10 (by decide) ?_
    refine lv_goto (tgt := 15) hx hb dL_isDue_11 (by decide) ?_
    refine nq_topl (show 1 = bL (due F k now) from by rw [h7]; rfl) ?_
    refine va_last hx hb hK hP hD hS (wC E a mc n now lim (LF F lit fo)).length 2 (get_last _ _) rfl (i := nI 0) (by exact vp_in_nI (by omega) (by omega)) dL_isDue_15 (fun H locs hP hD hS => ?_)
    rw [set_last, nI_clamp (by omega)] at hP hD
    have hP : va_P E.1 vwCl (wC E a mc n now lim (LF F lit fo) ++ [(o, .inl (E.2.2.2, 1, .inr (.inl (vp_updL fn 0 (bL (due F k now))))))]) _ := hP
    have hD : va_D A (wC E a mc n now lim (LF F lit fo) ++ [(o, .inl (E.2.2.2, 1, .inr (.inl (vp_updL fn 0 (bL (due F k now))))))]) := hD
    refine lv_goto (tgt := 22) hx hb dL_isDue_16 (by decide) ?_
    refine lv_iconst (v := (nI 0)) hx hb dL_isDue_22 (by decide) ?_
    exact retM_i (E := E) (A0 := A) (v := (nI 0)) (post := fun r uQ => r = nI 0) (u := ()) (W1 := fun uQ => wC E a mc n now lim (LF F lit fo) ++ [(o, .inl (E.2.2.2, 1, .inr (.inl (vp_updL fn 0 (bL (due F k now))))))]) hx hb hr hlocks hP hK hD hS (rfl) dL_isDue_23

set_option maxHeartbeats 4000000 in
set_option maxRecDepth 100000 in
theorem w_L_isDue_x (l : Launch) (hl9 : l.stackTraces = false) (E : GE) (sz z0 : Nat) (a : Nat → Nat) (mc : Int32) (n now lim : Nat) (F : LR) (lit : Nat → Bool) (fo : Nat → Nat) (hO : OkS n now lim F) (o : Nat) (fn : Nat → Int64) (x : Int32) (hx9 : lpB n x = false) : Met l yL_isDue wsL_isDue ({ frames := 8, cells := 1, slots := 6, locals := 133 } : Room) (va_Pc [.ref (a 0), .int x, .ref o] (pcW E (wC E a mc n now lim (LF F lit fo) ++ [(o, .inl (E.2.2.2, 1, .inr (.inl fn)))]) sz z0)) (va_Qi (S := Unit) (fun r _ => r = nI 1) (fun uQ tQ => atM E (va_A (wC E a mc n now lim (LF F lit fo) ++ [(o, .inl (E.2.2.2, 1, .inr (.inl fn)))]) sz) ((fun _ => wC E a mc n now lim (LF F lit fo) ++ [(o, .inl (E.2.2.2, 1, .inr (.inl fn)))]) uQ) tQ) (va_A (wC E a mc n now lim (LF F lit fo) ++ [(o, .inl (E.2.2.2, 1, .inr (.inl fn)))]) sz)) 1 6 (va_A (wC E a mc n now lim (LF F lit fo) ++ [(o, .inl (E.2.2.2, 1, .inr (.inl fn)))]) sz) := by
  refine metL (by decide) rfl (Nat.le_of_ble_eq_true rfl) ?_
  intro p e s m args below meth c ls A hAe hA hx hb hr hml hts hown hlocks htab hP hK hD hZ hT hS hl
  rw [hAe]
  refine lv_aload_n hx hb dL_isDue_0 rfl (lv_at hl 2 rfl) ?_
  refine lv_iconst (v := (nI 0)) hx hb dL_isDue_1 (by decide) ?_
  refine lv_aload_n hx hb dL_isDue_2 rfl (lv_at hl 0 rfl) ?_
  refine lv_iload_n hx hb dL_isDue_3 rfl (lv_at hl 1 rfl) ?_
  refine xcV (wx := []) (wy := [(o, .inl (E.2.2.2, 1, .inr (.inl fn)))]) (rest := [.int (nI 0), .ref o]) (As := [.int x]) ⟨hx, hb, hml, hown, hts⟩ (x_X1_isDue l hl9 E _ (wC E a mc n now lim (LF F lit fo)) a n now lim F lit fo CV_self hO x hx9) (cwV 1 hts gL_isDue_X1_isDue rfl rfl rfl (by decide +kernel) ⟨Nat.le_of_ble_eq_true rfl, Nat.le_of_ble_eq_true rfl⟩) (va_recv hK hP (ci := 2) (q0 := 0) rfl (list_app wC_x)) rfl hP hK hD hT hS hA rfl hl.1 rfl (Nat.le_of_ble_eq_true rfl) dL_isDue_4 ⟨Nat.le_of_ble_eq_true rfl, Nat.le_of_ble_eq_true rfl⟩ (fun ce q9 H locs hP hD hS hc1 hv1 hcl1 => ?_)
  refine vx_catch hown [] ⟨0, 16, 19, 21⟩ [] (by rw [htab]; rfl) (fun z hz => by cases hz) (by decide) (by decide) (hts (.classLink RL 21 "java/lang/IndexOutOfBoundsException") (List.mem_of_getElem? (i := 1) (by rfl))) (va_Nw.use rfl hT.2.2.2.2.2.2.2.1) hc1 hv1 hcl1 ?_
  show W _ _ _ _ _ _ _ _ _ _ _ _ _ _ _ (F0 m 19 ls [.ref q9])
  refine lv_astore_n (lv' := [(3, .ref q9), (0, .ref (a 0)), (1, .int x), (2, .ref o)]) hx hb dL_isDue_19 rfl hl (by decide) rfl (fun ls hl => ?_)
  refine lv_iconst (v := (nI 1)) hx hb dL_isDue_20 (by decide) ?_
  exact retM_i (E := E) (A0 := A) (v := (nI 1)) (post := fun r _ => r = nI 1) (u := ()) (W1 := fun _ => wC E a mc n now lim (LF F lit fo) ++ [(o, .inl (E.2.2.2, 1, .inr (.inl fn)))]) hx hb hr hlocks hP hK hD hS (rfl) dL_isDue_21

set_option maxHeartbeats 4000000 in
set_option maxRecDepth 100000 in
theorem w_L_shines (l : Launch) (hl9 : l.stackTraces = false) (E : GE) (sz z0 : Nat) (a : Nat → Nat) (mc : Int32) (n now lim : Nat) (F : LR) (lit : Nat → Bool) (fo : Nat → Nat) (hO : OkS n now lim F) (o : Nat) (fn : Nat → Int64) (k : Nat) (hk : k < n) : Met l yL_shines wsL_shines ({ frames := 5, cells := 0, slots := 0, locals := 110 } : Room) (va_Pc [.ref (a 0), .int (nI k), .ref o] (pcW E (wC E a mc n now lim (LF F lit fo) ++ [(o, .inl (E.2.2.2, 1, .inr (.inl fn)))]) sz z0)) (va_Qi (S := Nat → Bool) (fun r uQ => r = nI 0) (fun uQ tQ => atM E (va_A (wC E a mc n now lim (LF F lit fo) ++ [(o, .inl (E.2.2.2, 1, .inr (.inl fn)))]) sz) ((fun uQ => wC E a mc n now lim (LF F uQ fo) ++ [(o, .inl (E.2.2.2, 1, .inr (.inl (vp_updL fn 0 (bL (litS F lim now k))))))]) uQ) tQ) (va_A (wC E a mc n now lim (LF F lit fo) ++ [(o, .inl (E.2.2.2, 1, .inr (.inl fn)))]) sz)) 0 0 (va_A (wC E a mc n now lim (LF F lit fo) ++ [(o, .inl (E.2.2.2, 1, .inr (.inl fn)))]) sz) := by
  refine metL (by decide) rfl (Nat.le_of_ble_eq_true rfl) ?_
  intro p e s m args below meth c ls A hAe hA hx hb hr hml hts hown hlocks htab hP hK hD hZ hT hS hl
  rw [hAe]
  refine lv_aload_n hx hb dL_shines_0 rfl (lv_at hl 2 rfl) ?_
  refine lv_iconst (v := (nI 0)) hx hb dL_shines_1 (by decide) ?_
  refine lv_aload_n hx hb dL_shines_2 rfl (lv_at hl 0 rfl) ?_
  refine lv_iload_n hx hb dL_shines_3 rfl (lv_at hl 1 rfl) ?_
  have hP0 := hP
  have hP : va_P E.1 vwCl ([] ++ (wC E a mc n now lim (LF F lit fo) ++ [(o, .inl (E.2.2.2, 1, .inr (.inl fn)))])) _ := hP
  have hD : va_D A ([] ++ (wC E a mc n now lim (LF F lit fo) ++ [(o, .inl (E.2.2.2, 1, .inr (.inl fn)))])) := hD
  refine cmX_i (wx := []) (wy := [(o, .inl (E.2.2.2, 1, .inr (.inl fn)))]) (rest := [.int (nI 0), .ref o]) (As := [.int (nI k)]) ⟨hx, hb, hml, hown, hts⟩ (c_X1_shines l E _ a mc n now lim F lit fo hO k hk) (cwV 1 hts gL_shines_X1_shines rfl rfl rfl (by decide +kernel) ⟨Nat.le_of_ble_eq_true rfl, Nat.le_of_ble_eq_true rfl⟩) (va_recv hK hP0 (ci := 2) (q0 := 0) rfl (list_app wC_x)) hP hK hD hS hA rfl hl.1 rfl (Nat.le_of_ble_eq_true rfl) dL_shines_4 ⟨Nat.le_of_ble_eq_true rfl, Nat.le_of_ble_eq_true rfl⟩ (fun r0 u0 H locs hr0 hP hD hS => ?_)
  subst hr0
  have hP : va_P E.1 vwCl (wC E a mc n now lim (LF F u0 fo) ++ [(o, .inl (E.2.2.2, 1, .inr (.inl fn)))]) _ := hP
  have hD : va_D A (wC E a mc n now lim (LF F u0 fo) ++ [(o, .inl (E.2.2.2, 1, .inr (.inl fn)))]) := hD
  refine bq_if_eq (tgt := 14) hx hb dL_shines_7 (by decide) (fun h7 => ?_) (fun h7 => ?_)
  · skip
    refine lv_lconst (v := 0) hx hb dL_shines_14 (by decide) ?_
    refine nq_topl (show 0 = bL (litS F lim now k) from by rw [h7]; rfl) ?_
    refine va_last hx hb hK hP hD hS (wC E a mc n now lim (LF F u0 fo)).length 2 (get_last _ _) rfl (i := nI 0) (by exact vp_in_nI (by omega) (by omega)) dL_shines_15 (fun H locs hP hD hS => ?_)
    rw [set_last, nI_clamp (by omega)] at hP hD
    have hP : va_P E.1 vwCl (wC E a mc n now lim (LF F u0 fo) ++ [(o, .inl (E.2.2.2, 1, .inr (.inl (vp_updL fn 0 (bL (litS F lim now k))))))]) _ := hP
    have hD : va_D A (wC E a mc n now lim (LF F u0 fo) ++ [(o, .inl (E.2.2.2, 1, .inr (.inl (vp_updL fn 0 (bL (litS F lim now k))))))]) := hD
    refine lv_goto (tgt := 22) hx hb dL_shines_16 (by decide) ?_
    refine lv_iconst (v := (nI 0)) hx hb dL_shines_22 (by decide) ?_
    exact retM_i (E := E) (A0 := A) (v := (nI 0)) (post := fun r uQ => r = nI 0) (u := u0) (W1 := fun uQ => wC E a mc n now lim (LF F uQ fo) ++ [(o, .inl (E.2.2.2, 1, .inr (.inl (vp_updL fn 0 (bL (litS F lim now k))))))]) hx hb hr hlocks hP hK hD hS (rfl) dL_shines_23
  · skip
    refine lv_lconst (v := 1) hx hb dL_shines_10 (by decide) ?_
    refine lv_goto (tgt := 15) hx hb dL_shines_11 (by decide) ?_
    refine nq_topl (show 1 = bL (litS F lim now k) from by rw [h7]; rfl) ?_
    refine va_last hx hb hK hP hD hS (wC E a mc n now lim (LF F u0 fo)).length 2 (get_last _ _) rfl (i := nI 0) (by exact vp_in_nI (by omega) (by omega)) dL_shines_15 (fun H locs hP hD hS => ?_)
    rw [set_last, nI_clamp (by omega)] at hP hD
    have hP : va_P E.1 vwCl (wC E a mc n now lim (LF F u0 fo) ++ [(o, .inl (E.2.2.2, 1, .inr (.inl (vp_updL fn 0 (bL (litS F lim now k))))))]) _ := hP
    have hD : va_D A (wC E a mc n now lim (LF F u0 fo) ++ [(o, .inl (E.2.2.2, 1, .inr (.inl (vp_updL fn 0 (bL (litS F lim now k))))))]) := hD
    refine lv_goto (tgt := 22) hx hb dL_shines_16 (by decide) ?_
    refine lv_iconst (v := (nI 0)) hx hb dL_shines_22 (by decide) ?_
    exact retM_i (E := E) (A0 := A) (v := (nI 0)) (post := fun r uQ => r = nI 0) (u := u0) (W1 := fun uQ => wC E a mc n now lim (LF F uQ fo) ++ [(o, .inl (E.2.2.2, 1, .inr (.inl (vp_updL fn 0 (bL (litS F lim now k))))))]) hx hb hr hlocks hP hK hD hS (rfl) dL_shines_23

set_option maxHeartbeats 4000000 in
set_option maxRecDepth 100000 in
theorem w_L_shines_x (l : Launch) (hl9 : l.stackTraces = false) (E : GE) (sz z0 : Nat) (a : Nat → Nat) (mc : Int32) (n now lim : Nat) (F : LR) (lit : Nat → Bool) (fo : Nat → Nat) (hO : OkS n now lim F) (o : Nat) (fn : Nat → Int64) (x : Int32) (hx9 : lpB n x = false) : Met l yL_shines wsL_shines ({ frames := 8, cells := 1, slots := 6, locals := 134 } : Room) (va_Pc [.ref (a 0), .int x, .ref o] (pcW E (wC E a mc n now lim (LF F lit fo) ++ [(o, .inl (E.2.2.2, 1, .inr (.inl fn)))]) sz z0)) (va_Qi (S := Unit) (fun r _ => r = nI 1) (fun uQ tQ => atM E (va_A (wC E a mc n now lim (LF F lit fo) ++ [(o, .inl (E.2.2.2, 1, .inr (.inl fn)))]) sz) ((fun _ => wC E a mc n now lim (LF F lit fo) ++ [(o, .inl (E.2.2.2, 1, .inr (.inl fn)))]) uQ) tQ) (va_A (wC E a mc n now lim (LF F lit fo) ++ [(o, .inl (E.2.2.2, 1, .inr (.inl fn)))]) sz)) 1 6 (va_A (wC E a mc n now lim (LF F lit fo) ++ [(o, .inl (E.2.2.2, 1, .inr (.inl fn)))]) sz) := by
  refine metL (by decide) rfl (Nat.le_of_ble_eq_true rfl) ?_
  intro p e s m args below meth c ls A hAe hA hx hb hr hml hts hown hlocks htab hP hK hD hZ hT hS hl
  rw [hAe]
  refine lv_aload_n hx hb dL_shines_0 rfl (lv_at hl 2 rfl) ?_
  refine lv_iconst (v := (nI 0)) hx hb dL_shines_1 (by decide) ?_
  refine lv_aload_n hx hb dL_shines_2 rfl (lv_at hl 0 rfl) ?_
  refine lv_iload_n hx hb dL_shines_3 rfl (lv_at hl 1 rfl) ?_
  refine xcV (wx := []) (wy := [(o, .inl (E.2.2.2, 1, .inr (.inl fn)))]) (rest := [.int (nI 0), .ref o]) (As := [.int x]) ⟨hx, hb, hml, hown, hts⟩ (x_X1_shines l hl9 E _ (wC E a mc n now lim (LF F lit fo)) a n now lim F lit fo CV_self hO x hx9) (cwV 1 hts gL_shines_X1_shines rfl rfl rfl (by decide +kernel) ⟨Nat.le_of_ble_eq_true rfl, Nat.le_of_ble_eq_true rfl⟩) (va_recv hK hP (ci := 2) (q0 := 0) rfl (list_app wC_x)) rfl hP hK hD hT hS hA rfl hl.1 rfl (Nat.le_of_ble_eq_true rfl) dL_shines_4 ⟨Nat.le_of_ble_eq_true rfl, Nat.le_of_ble_eq_true rfl⟩ (fun ce q9 H locs hP hD hS hc1 hv1 hcl1 => ?_)
  refine vx_catch hown [] ⟨0, 16, 19, 21⟩ [] (by rw [htab]; rfl) (fun z hz => by cases hz) (by decide) (by decide) (hts (.classLink RL 21 "java/lang/IndexOutOfBoundsException") (List.mem_of_getElem? (i := 1) (by rfl))) (va_Nw.use rfl hT.2.2.2.2.2.2.2.1) hc1 hv1 hcl1 ?_
  show W _ _ _ _ _ _ _ _ _ _ _ _ _ _ _ (F0 m 19 ls [.ref q9])
  refine lv_astore_n (lv' := [(3, .ref q9), (0, .ref (a 0)), (1, .int x), (2, .ref o)]) hx hb dL_shines_19 rfl hl (by decide) rfl (fun ls hl => ?_)
  refine lv_iconst (v := (nI 1)) hx hb dL_shines_20 (by decide) ?_
  exact retM_i (E := E) (A0 := A) (v := (nI 1)) (post := fun r _ => r = nI 1) (u := ()) (W1 := fun _ => wC E a mc n now lim (LF F lit fo) ++ [(o, .inl (E.2.2.2, 1, .inr (.inl fn)))]) hx hb hr hlocks hP hK hD hS (rfl) dL_shines_21

set_option maxHeartbeats 4000000 in
set_option maxRecDepth 100000 in
theorem w_L_colourOf (l : Launch) (hl9 : l.stackTraces = false) (E : GE) (sz z0 : Nat) (a : Nat → Nat) (mc : Int32) (n now lim : Nat) (F : LR) (lit : Nat → Bool) (fo : Nat → Nat) (hO : OkS n now lim F) (o : Nat) (fn : Nat → Int64) (k : Nat) (hk : k < n) : Met l yL_colourOf wsL_colourOf ({ frames := 5, cells := 0, slots := 0, locals := 106 } : Room) (va_Pc [.ref (a 0), .int (nI k), .ref o] (pcW E (wC E a mc n now lim (LF F lit fo) ++ [(o, .inl (E.2.2.2, 1, .inr (.inl fn)))]) sz z0)) (va_Qi (S := Unit) (fun r uQ => r = nI 0) (fun uQ tQ => atM E (va_A (wC E a mc n now lim (LF F lit fo) ++ [(o, .inl (E.2.2.2, 1, .inr (.inl fn)))]) sz) ((fun uQ => wC E a mc n now lim (LF F lit fo) ++ [(o, .inl (E.2.2.2, 1, .inr (.inl (vp_updL fn 0 (((nI (F k 2))).toInt64)))))]) uQ) tQ) (va_A (wC E a mc n now lim (LF F lit fo) ++ [(o, .inl (E.2.2.2, 1, .inr (.inl fn)))]) sz)) 0 0 (va_A (wC E a mc n now lim (LF F lit fo) ++ [(o, .inl (E.2.2.2, 1, .inr (.inl fn)))]) sz) := by
  refine metL (by decide) rfl (Nat.le_of_ble_eq_true rfl) ?_
  intro p e s m args below meth c ls A hAe hA hx hb hr hml hts hown hlocks htab hP hK hD hZ hT hS hl
  rw [hAe]
  refine lv_aload_n hx hb dL_colourOf_0 rfl (lv_at hl 2 rfl) ?_
  refine lv_iconst (v := (nI 0)) hx hb dL_colourOf_1 (by decide) ?_
  refine lv_aload_n hx hb dL_colourOf_2 rfl (lv_at hl 0 rfl) ?_
  refine lv_iload_n hx hb dL_colourOf_3 rfl (lv_at hl 1 rfl) ?_
  refine csV_i (rest := [.int (nI 0), .ref o]) (As := [.int (nI k)]) ⟨hx, hb, hml, hown, hts⟩ (c_X1_colourOf l E _ a n now lim F lit fo CV_app hO k hk) (cwV 1 hts gL_colourOf_X1_colourOf rfl rfl rfl (by decide +kernel) ⟨Nat.le_of_ble_eq_true rfl, Nat.le_of_ble_eq_true rfl⟩) (va_recv hK hP (ci := 2) (q0 := 0) rfl (list_app wC_x)) hP hK rfl hl.1 rfl (Nat.le_of_ble_eq_true rfl) dL_colourOf_4 (Nat.le_of_ble_eq_true rfl) (Nat.le_of_ble_eq_true rfl) (fun r0 hr0 => ?_)
  subst hr0
  refine lv_i2l (v := (nI (F k 2)).toInt64) hx hb dL_colourOf_7 (rfl) ?_
  refine va_last hx hb hK hP hD hS (wC E a mc n now lim (LF F lit fo)).length 2 (get_last _ _) rfl (i := nI 0) (by exact vp_in_nI (by omega) (by omega)) dL_colourOf_8 (fun H locs hP hD hS => ?_)
  rw [set_last, nI_clamp (by omega)] at hP hD
  have hP : va_P E.1 vwCl (wC E a mc n now lim (LF F lit fo) ++ [(o, .inl (E.2.2.2, 1, .inr (.inl (vp_updL fn 0 ((nI (F k 2)).toInt64)))))]) _ := hP
  have hD : va_D A (wC E a mc n now lim (LF F lit fo) ++ [(o, .inl (E.2.2.2, 1, .inr (.inl (vp_updL fn 0 ((nI (F k 2)).toInt64)))))]) := hD
  refine lv_goto (tgt := 15) hx hb dL_colourOf_9 (by decide) ?_
  refine lv_iconst (v := (nI 0)) hx hb dL_colourOf_15 (by decide) ?_
  exact retM_i (E := E) (A0 := A) (v := (nI 0)) (post := fun r uQ => r = nI 0) (u := ()) (W1 := fun uQ => wC E a mc n now lim (LF F lit fo) ++ [(o, .inl (E.2.2.2, 1, .inr (.inl (vp_updL fn 0 (((nI (F k 2))).toInt64)))))]) hx hb hr hlocks hP hK hD hS (rfl) dL_colourOf_16

set_option maxHeartbeats 4000000 in
set_option maxRecDepth 100000 in
theorem w_L_colourOf_x (l : Launch) (hl9 : l.stackTraces = false) (E : GE) (sz z0 : Nat) (a : Nat → Nat) (mc : Int32) (n now lim : Nat) (F : LR) (lit : Nat → Bool) (fo : Nat → Nat) (hO : OkS n now lim F) (o : Nat) (fn : Nat → Int64) (x : Int32) (hx9 : lpB n x = false) : Met l yL_colourOf wsL_colourOf ({ frames := 8, cells := 1, slots := 6, locals := 133 } : Room) (va_Pc [.ref (a 0), .int x, .ref o] (pcW E (wC E a mc n now lim (LF F lit fo) ++ [(o, .inl (E.2.2.2, 1, .inr (.inl fn)))]) sz z0)) (va_Qi (S := Unit) (fun r _ => r = nI 1) (fun uQ tQ => atM E (va_A (wC E a mc n now lim (LF F lit fo) ++ [(o, .inl (E.2.2.2, 1, .inr (.inl fn)))]) sz) ((fun _ => wC E a mc n now lim (LF F lit fo) ++ [(o, .inl (E.2.2.2, 1, .inr (.inl fn)))]) uQ) tQ) (va_A (wC E a mc n now lim (LF F lit fo) ++ [(o, .inl (E.2.2.2, 1, .inr (.inl fn)))]) sz)) 1 6 (va_A (wC E a mc n now lim (LF F lit fo) ++ [(o, .inl (E.2.2.2, 1, .inr (.inl fn)))]) sz) := by
  refine metL (by decide) rfl (Nat.le_of_ble_eq_true rfl) ?_
  intro p e s m args below meth c ls A hAe hA hx hb hr hml hts hown hlocks htab hP hK hD hZ hT hS hl
  rw [hAe]
  refine lv_aload_n hx hb dL_colourOf_0 rfl (lv_at hl 2 rfl) ?_
  refine lv_iconst (v := (nI 0)) hx hb dL_colourOf_1 (by decide) ?_
  refine lv_aload_n hx hb dL_colourOf_2 rfl (lv_at hl 0 rfl) ?_
  refine lv_iload_n hx hb dL_colourOf_3 rfl (lv_at hl 1 rfl) ?_
  refine xcV (wx := []) (wy := [(o, .inl (E.2.2.2, 1, .inr (.inl fn)))]) (rest := [.int (nI 0), .ref o]) (As := [.int x]) ⟨hx, hb, hml, hown, hts⟩ (x_X1_colourOf l hl9 E _ (wC E a mc n now lim (LF F lit fo)) a n now lim F lit fo CV_self hO x hx9) (cwV 1 hts gL_colourOf_X1_colourOf rfl rfl rfl (by decide +kernel) ⟨Nat.le_of_ble_eq_true rfl, Nat.le_of_ble_eq_true rfl⟩) (va_recv hK hP (ci := 2) (q0 := 0) rfl (list_app wC_x)) rfl hP hK hD hT hS hA rfl hl.1 rfl (Nat.le_of_ble_eq_true rfl) dL_colourOf_4 ⟨Nat.le_of_ble_eq_true rfl, Nat.le_of_ble_eq_true rfl⟩ (fun ce q9 H locs hP hD hS hc1 hv1 hcl1 => ?_)
  refine vx_catch hown [] ⟨0, 9, 12, 21⟩ [] (by rw [htab]; rfl) (fun z hz => by cases hz) (by decide) (by decide) (hts (.classLink RL 21 "java/lang/IndexOutOfBoundsException") (List.mem_of_getElem? (i := 1) (by rfl))) (va_Nw.use rfl hT.2.2.2.2.2.2.2.1) hc1 hv1 hcl1 ?_
  show W _ _ _ _ _ _ _ _ _ _ _ _ _ _ _ (F0 m 12 ls [.ref q9])
  refine lv_astore_n (lv' := [(3, .ref q9), (0, .ref (a 0)), (1, .int x), (2, .ref o)]) hx hb dL_colourOf_12 rfl hl (by decide) rfl (fun ls hl => ?_)
  refine lv_iconst (v := (nI 1)) hx hb dL_colourOf_13 (by decide) ?_
  exact retM_i (E := E) (A0 := A) (v := (nI 1)) (post := fun r _ => r = nI 1) (u := ()) (W1 := fun _ => wC E a mc n now lim (LF F lit fo) ++ [(o, .inl (E.2.2.2, 1, .inr (.inl fn)))]) hx hb hr hlocks hP hK hD hS (rfl) dL_colourOf_14

set_option maxHeartbeats 4000000 in
set_option maxRecDepth 100000 in
theorem w_L_shiftOf (l : Launch) (hl9 : l.stackTraces = false) (E : GE) (sz z0 : Nat) (a : Nat → Nat) (mc : Int32) (n now lim : Nat) (F : LR) (lit : Nat → Bool) (fo : Nat → Nat) (hO : OkS n now lim F) (o : Nat) (fn : Nat → Int64) (k : Nat) (hk : k < n) : Met l yL_shiftOf wsL_shiftOf ({ frames := 5, cells := 0, slots := 0, locals := 106 } : Room) (va_Pc [.ref (a 0), .int (nI k), .ref o] (pcW E (wC E a mc n now lim (LF F lit fo) ++ [(o, .inl (E.2.2.2, 1, .inr (.inl fn)))]) sz z0)) (va_Qi (S := Unit) (fun r uQ => r = nI 0) (fun uQ tQ => atM E (va_A (wC E a mc n now lim (LF F lit fo) ++ [(o, .inl (E.2.2.2, 1, .inr (.inl fn)))]) sz) ((fun uQ => wC E a mc n now lim (LF F lit fo) ++ [(o, .inl (E.2.2.2, 1, .inr (.inl (vp_updL fn 0 (((nI (F k 3))).toInt64)))))]) uQ) tQ) (va_A (wC E a mc n now lim (LF F lit fo) ++ [(o, .inl (E.2.2.2, 1, .inr (.inl fn)))]) sz)) 0 0 (va_A (wC E a mc n now lim (LF F lit fo) ++ [(o, .inl (E.2.2.2, 1, .inr (.inl fn)))]) sz) := by
  refine metL (by decide) rfl (Nat.le_of_ble_eq_true rfl) ?_
  intro p e s m args below meth c ls A hAe hA hx hb hr hml hts hown hlocks htab hP hK hD hZ hT hS hl
  rw [hAe]
  refine lv_aload_n hx hb dL_shiftOf_0 rfl (lv_at hl 2 rfl) ?_
  refine lv_iconst (v := (nI 0)) hx hb dL_shiftOf_1 (by decide) ?_
  refine lv_aload_n hx hb dL_shiftOf_2 rfl (lv_at hl 0 rfl) ?_
  refine lv_iload_n hx hb dL_shiftOf_3 rfl (lv_at hl 1 rfl) ?_
  refine csV_i (rest := [.int (nI 0), .ref o]) (As := [.int (nI k)]) ⟨hx, hb, hml, hown, hts⟩ (c_X1_shiftOf l E _ a n now lim F lit fo CV_app hO k hk) (cwV 1 hts gL_shiftOf_X1_shiftOf rfl rfl rfl (by decide +kernel) ⟨Nat.le_of_ble_eq_true rfl, Nat.le_of_ble_eq_true rfl⟩) (va_recv hK hP (ci := 2) (q0 := 0) rfl (list_app wC_x)) hP hK rfl hl.1 rfl (Nat.le_of_ble_eq_true rfl) dL_shiftOf_4 (Nat.le_of_ble_eq_true rfl) (Nat.le_of_ble_eq_true rfl) (fun r0 hr0 => ?_)
  subst hr0
  refine lv_i2l (v := (nI (F k 3)).toInt64) hx hb dL_shiftOf_7 (rfl) ?_
  refine va_last hx hb hK hP hD hS (wC E a mc n now lim (LF F lit fo)).length 2 (get_last _ _) rfl (i := nI 0) (by exact vp_in_nI (by omega) (by omega)) dL_shiftOf_8 (fun H locs hP hD hS => ?_)
  rw [set_last, nI_clamp (by omega)] at hP hD
  have hP : va_P E.1 vwCl (wC E a mc n now lim (LF F lit fo) ++ [(o, .inl (E.2.2.2, 1, .inr (.inl (vp_updL fn 0 ((nI (F k 3)).toInt64)))))]) _ := hP
  have hD : va_D A (wC E a mc n now lim (LF F lit fo) ++ [(o, .inl (E.2.2.2, 1, .inr (.inl (vp_updL fn 0 ((nI (F k 3)).toInt64)))))]) := hD
  refine lv_goto (tgt := 15) hx hb dL_shiftOf_9 (by decide) ?_
  refine lv_iconst (v := (nI 0)) hx hb dL_shiftOf_15 (by decide) ?_
  exact retM_i (E := E) (A0 := A) (v := (nI 0)) (post := fun r uQ => r = nI 0) (u := ()) (W1 := fun uQ => wC E a mc n now lim (LF F lit fo) ++ [(o, .inl (E.2.2.2, 1, .inr (.inl (vp_updL fn 0 (((nI (F k 3))).toInt64)))))]) hx hb hr hlocks hP hK hD hS (rfl) dL_shiftOf_16

set_option maxHeartbeats 4000000 in
set_option maxRecDepth 100000 in
theorem w_L_shiftOf_x (l : Launch) (hl9 : l.stackTraces = false) (E : GE) (sz z0 : Nat) (a : Nat → Nat) (mc : Int32) (n now lim : Nat) (F : LR) (lit : Nat → Bool) (fo : Nat → Nat) (hO : OkS n now lim F) (o : Nat) (fn : Nat → Int64) (x : Int32) (hx9 : lpB n x = false) : Met l yL_shiftOf wsL_shiftOf ({ frames := 8, cells := 1, slots := 6, locals := 133 } : Room) (va_Pc [.ref (a 0), .int x, .ref o] (pcW E (wC E a mc n now lim (LF F lit fo) ++ [(o, .inl (E.2.2.2, 1, .inr (.inl fn)))]) sz z0)) (va_Qi (S := Unit) (fun r _ => r = nI 1) (fun uQ tQ => atM E (va_A (wC E a mc n now lim (LF F lit fo) ++ [(o, .inl (E.2.2.2, 1, .inr (.inl fn)))]) sz) ((fun _ => wC E a mc n now lim (LF F lit fo) ++ [(o, .inl (E.2.2.2, 1, .inr (.inl fn)))]) uQ) tQ) (va_A (wC E a mc n now lim (LF F lit fo) ++ [(o, .inl (E.2.2.2, 1, .inr (.inl fn)))]) sz)) 1 6 (va_A (wC E a mc n now lim (LF F lit fo) ++ [(o, .inl (E.2.2.2, 1, .inr (.inl fn)))]) sz) := by
  refine metL (by decide) rfl (Nat.le_of_ble_eq_true rfl) ?_
  intro p e s m args below meth c ls A hAe hA hx hb hr hml hts hown hlocks htab hP hK hD hZ hT hS hl
  rw [hAe]
  refine lv_aload_n hx hb dL_shiftOf_0 rfl (lv_at hl 2 rfl) ?_
  refine lv_iconst (v := (nI 0)) hx hb dL_shiftOf_1 (by decide) ?_
  refine lv_aload_n hx hb dL_shiftOf_2 rfl (lv_at hl 0 rfl) ?_
  refine lv_iload_n hx hb dL_shiftOf_3 rfl (lv_at hl 1 rfl) ?_
  refine xcV (wx := []) (wy := [(o, .inl (E.2.2.2, 1, .inr (.inl fn)))]) (rest := [.int (nI 0), .ref o]) (As := [.int x]) ⟨hx, hb, hml, hown, hts⟩ (x_X1_shiftOf l hl9 E _ (wC E a mc n now lim (LF F lit fo)) a n now lim F lit fo CV_self hO x hx9) (cwV 1 hts gL_shiftOf_X1_shiftOf rfl rfl rfl (by decide +kernel) ⟨Nat.le_of_ble_eq_true rfl, Nat.le_of_ble_eq_true rfl⟩) (va_recv hK hP (ci := 2) (q0 := 0) rfl (list_app wC_x)) rfl hP hK hD hT hS hA rfl hl.1 rfl (Nat.le_of_ble_eq_true rfl) dL_shiftOf_4 ⟨Nat.le_of_ble_eq_true rfl, Nat.le_of_ble_eq_true rfl⟩ (fun ce q9 H locs hP hD hS hc1 hv1 hcl1 => ?_)
  refine vx_catch hown [] ⟨0, 9, 12, 21⟩ [] (by rw [htab]; rfl) (fun z hz => by cases hz) (by decide) (by decide) (hts (.classLink RL 21 "java/lang/IndexOutOfBoundsException") (List.mem_of_getElem? (i := 1) (by rfl))) (va_Nw.use rfl hT.2.2.2.2.2.2.2.1) hc1 hv1 hcl1 ?_
  show W _ _ _ _ _ _ _ _ _ _ _ _ _ _ _ (F0 m 12 ls [.ref q9])
  refine lv_astore_n (lv' := [(3, .ref q9), (0, .ref (a 0)), (1, .int x), (2, .ref o)]) hx hb dL_shiftOf_12 rfl hl (by decide) rfl (fun ls hl => ?_)
  refine lv_iconst (v := (nI 1)) hx hb dL_shiftOf_13 (by decide) ?_
  exact retM_i (E := E) (A0 := A) (v := (nI 1)) (post := fun r _ => r = nI 1) (u := ()) (W1 := fun _ => wC E a mc n now lim (LF F lit fo) ++ [(o, .inl (E.2.2.2, 1, .inr (.inl fn)))]) hx hb hr hlocks hP hK hD hS (rfl) dL_shiftOf_14

set_option maxHeartbeats 4000000 in
set_option maxRecDepth 100000 in
theorem w_L_shone (l : Launch) (hl9 : l.stackTraces = false) (E : GE) (sz z0 : Nat) (a : Nat → Nat) (mc : Int32) (n now lim : Nat) (F : LR) (lit : Nat → Bool) (fo : Nat → Nat) (hO : OkS n now lim F) (o : Nat) (fn : Nat → Int64) (k : Nat) (hk : k < n) : Met l yL_shone wsL_shone ({ frames := 5, cells := 0, slots := 0, locals := 106 } : Room) (va_Pc [.ref (a 0), .int (nI k), .ref o] (pcW E (wC E a mc n now lim (LF F lit fo) ++ [(o, .inl (E.2.2.2, 1, .inr (.inl fn)))]) sz z0)) (va_Qi (S := Unit) (fun r uQ => r = nI 0) (fun uQ tQ => atM E (va_A (wC E a mc n now lim (LF F lit fo) ++ [(o, .inl (E.2.2.2, 1, .inr (.inl fn)))]) sz) ((fun uQ => wC E a mc n now lim (LF F lit fo) ++ [(o, .inl (E.2.2.2, 1, .inr (.inl (vp_updL fn 0 (((nI (F k 5))).toInt64)))))]) uQ) tQ) (va_A (wC E a mc n now lim (LF F lit fo) ++ [(o, .inl (E.2.2.2, 1, .inr (.inl fn)))]) sz)) 0 0 (va_A (wC E a mc n now lim (LF F lit fo) ++ [(o, .inl (E.2.2.2, 1, .inr (.inl fn)))]) sz) := by
  refine metL (by decide) rfl (Nat.le_of_ble_eq_true rfl) ?_
  intro p e s m args below meth c ls A hAe hA hx hb hr hml hts hown hlocks htab hP hK hD hZ hT hS hl
  rw [hAe]
  refine lv_aload_n hx hb dL_shone_0 rfl (lv_at hl 2 rfl) ?_
  refine lv_iconst (v := (nI 0)) hx hb dL_shone_1 (by decide) ?_
  refine lv_aload_n hx hb dL_shone_2 rfl (lv_at hl 0 rfl) ?_
  refine lv_iload_n hx hb dL_shone_3 rfl (lv_at hl 1 rfl) ?_
  refine csV_i (rest := [.int (nI 0), .ref o]) (As := [.int (nI k)]) ⟨hx, hb, hml, hown, hts⟩ (c_X1_shone l E _ a n now lim F lit fo CV_app hO k hk) (cwV 1 hts gL_shone_X1_shone rfl rfl rfl (by decide +kernel) ⟨Nat.le_of_ble_eq_true rfl, Nat.le_of_ble_eq_true rfl⟩) (va_recv hK hP (ci := 2) (q0 := 0) rfl (list_app wC_x)) hP hK rfl hl.1 rfl (Nat.le_of_ble_eq_true rfl) dL_shone_4 (Nat.le_of_ble_eq_true rfl) (Nat.le_of_ble_eq_true rfl) (fun r0 hr0 => ?_)
  subst hr0
  refine lv_i2l (v := (nI (F k 5)).toInt64) hx hb dL_shone_7 (rfl) ?_
  refine va_last hx hb hK hP hD hS (wC E a mc n now lim (LF F lit fo)).length 2 (get_last _ _) rfl (i := nI 0) (by exact vp_in_nI (by omega) (by omega)) dL_shone_8 (fun H locs hP hD hS => ?_)
  rw [set_last, nI_clamp (by omega)] at hP hD
  have hP : va_P E.1 vwCl (wC E a mc n now lim (LF F lit fo) ++ [(o, .inl (E.2.2.2, 1, .inr (.inl (vp_updL fn 0 ((nI (F k 5)).toInt64)))))]) _ := hP
  have hD : va_D A (wC E a mc n now lim (LF F lit fo) ++ [(o, .inl (E.2.2.2, 1, .inr (.inl (vp_updL fn 0 ((nI (F k 5)).toInt64)))))]) := hD
  refine lv_goto (tgt := 15) hx hb dL_shone_9 (by decide) ?_
  refine lv_iconst (v := (nI 0)) hx hb dL_shone_15 (by decide) ?_
  exact retM_i (E := E) (A0 := A) (v := (nI 0)) (post := fun r uQ => r = nI 0) (u := ()) (W1 := fun uQ => wC E a mc n now lim (LF F lit fo) ++ [(o, .inl (E.2.2.2, 1, .inr (.inl (vp_updL fn 0 (((nI (F k 5))).toInt64)))))]) hx hb hr hlocks hP hK hD hS (rfl) dL_shone_16

set_option maxHeartbeats 4000000 in
set_option maxRecDepth 100000 in
theorem w_L_shone_x (l : Launch) (hl9 : l.stackTraces = false) (E : GE) (sz z0 : Nat) (a : Nat → Nat) (mc : Int32) (n now lim : Nat) (F : LR) (lit : Nat → Bool) (fo : Nat → Nat) (hO : OkS n now lim F) (o : Nat) (fn : Nat → Int64) (x : Int32) (hx9 : lpB n x = false) : Met l yL_shone wsL_shone ({ frames := 8, cells := 1, slots := 6, locals := 133 } : Room) (va_Pc [.ref (a 0), .int x, .ref o] (pcW E (wC E a mc n now lim (LF F lit fo) ++ [(o, .inl (E.2.2.2, 1, .inr (.inl fn)))]) sz z0)) (va_Qi (S := Unit) (fun r _ => r = nI 1) (fun uQ tQ => atM E (va_A (wC E a mc n now lim (LF F lit fo) ++ [(o, .inl (E.2.2.2, 1, .inr (.inl fn)))]) sz) ((fun _ => wC E a mc n now lim (LF F lit fo) ++ [(o, .inl (E.2.2.2, 1, .inr (.inl fn)))]) uQ) tQ) (va_A (wC E a mc n now lim (LF F lit fo) ++ [(o, .inl (E.2.2.2, 1, .inr (.inl fn)))]) sz)) 1 6 (va_A (wC E a mc n now lim (LF F lit fo) ++ [(o, .inl (E.2.2.2, 1, .inr (.inl fn)))]) sz) := by
  refine metL (by decide) rfl (Nat.le_of_ble_eq_true rfl) ?_
  intro p e s m args below meth c ls A hAe hA hx hb hr hml hts hown hlocks htab hP hK hD hZ hT hS hl
  rw [hAe]
  refine lv_aload_n hx hb dL_shone_0 rfl (lv_at hl 2 rfl) ?_
  refine lv_iconst (v := (nI 0)) hx hb dL_shone_1 (by decide) ?_
  refine lv_aload_n hx hb dL_shone_2 rfl (lv_at hl 0 rfl) ?_
  refine lv_iload_n hx hb dL_shone_3 rfl (lv_at hl 1 rfl) ?_
  refine xcV (wx := []) (wy := [(o, .inl (E.2.2.2, 1, .inr (.inl fn)))]) (rest := [.int (nI 0), .ref o]) (As := [.int x]) ⟨hx, hb, hml, hown, hts⟩ (x_X1_shone l hl9 E _ (wC E a mc n now lim (LF F lit fo)) a n now lim F lit fo CV_self hO x hx9) (cwV 1 hts gL_shone_X1_shone rfl rfl rfl (by decide +kernel) ⟨Nat.le_of_ble_eq_true rfl, Nat.le_of_ble_eq_true rfl⟩) (va_recv hK hP (ci := 2) (q0 := 0) rfl (list_app wC_x)) rfl hP hK hD hT hS hA rfl hl.1 rfl (Nat.le_of_ble_eq_true rfl) dL_shone_4 ⟨Nat.le_of_ble_eq_true rfl, Nat.le_of_ble_eq_true rfl⟩ (fun ce q9 H locs hP hD hS hc1 hv1 hcl1 => ?_)
  refine vx_catch hown [] ⟨0, 9, 12, 21⟩ [] (by rw [htab]; rfl) (fun z hz => by cases hz) (by decide) (by decide) (hts (.classLink RL 21 "java/lang/IndexOutOfBoundsException") (List.mem_of_getElem? (i := 1) (by rfl))) (va_Nw.use rfl hT.2.2.2.2.2.2.2.1) hc1 hv1 hcl1 ?_
  show W _ _ _ _ _ _ _ _ _ _ _ _ _ _ _ (F0 m 12 ls [.ref q9])
  refine lv_astore_n (lv' := [(3, .ref q9), (0, .ref (a 0)), (1, .int x), (2, .ref o)]) hx hb dL_shone_12 rfl hl (by decide) rfl (fun ls hl => ?_)
  refine lv_iconst (v := (nI 1)) hx hb dL_shone_13 (by decide) ?_
  exact retM_i (E := E) (A0 := A) (v := (nI 1)) (post := fun r _ => r = nI 1) (u := ()) (W1 := fun _ => wC E a mc n now lim (LF F lit fo) ++ [(o, .inl (E.2.2.2, 1, .inr (.inl fn)))]) hx hb hr hlocks hP hK hD hS (rfl) dL_shone_14

set_option maxHeartbeats 4000000 in
set_option maxRecDepth 100000 in
theorem w_L_stayedDark (l : Launch) (hl9 : l.stackTraces = false) (E : GE) (sz z0 : Nat) (a : Nat → Nat) (mc : Int32) (n now lim : Nat) (F : LR) (lit : Nat → Bool) (fo : Nat → Nat) (hO : OkS n now lim F) (o : Nat) (fn : Nat → Int64) (k : Nat) (hk : k < n) : Met l yL_stayedDark wsL_stayedDark ({ frames := 5, cells := 0, slots := 0, locals := 106 } : Room) (va_Pc [.ref (a 0), .int (nI k), .ref o] (pcW E (wC E a mc n now lim (LF F lit fo) ++ [(o, .inl (E.2.2.2, 1, .inr (.inl fn)))]) sz z0)) (va_Qi (S := Unit) (fun r uQ => r = nI 0) (fun uQ tQ => atM E (va_A (wC E a mc n now lim (LF F lit fo) ++ [(o, .inl (E.2.2.2, 1, .inr (.inl fn)))]) sz) ((fun uQ => wC E a mc n now lim (LF F lit fo) ++ [(o, .inl (E.2.2.2, 1, .inr (.inl (vp_updL fn 0 (((nI (F k 6))).toInt64)))))]) uQ) tQ) (va_A (wC E a mc n now lim (LF F lit fo) ++ [(o, .inl (E.2.2.2, 1, .inr (.inl fn)))]) sz)) 0 0 (va_A (wC E a mc n now lim (LF F lit fo) ++ [(o, .inl (E.2.2.2, 1, .inr (.inl fn)))]) sz) := by
  refine metL (by decide) rfl (Nat.le_of_ble_eq_true rfl) ?_
  intro p e s m args below meth c ls A hAe hA hx hb hr hml hts hown hlocks htab hP hK hD hZ hT hS hl
  rw [hAe]
  refine lv_aload_n hx hb dL_stayedDark_0 rfl (lv_at hl 2 rfl) ?_
  refine lv_iconst (v := (nI 0)) hx hb dL_stayedDark_1 (by decide) ?_
  refine lv_aload_n hx hb dL_stayedDark_2 rfl (lv_at hl 0 rfl) ?_
  refine lv_iload_n hx hb dL_stayedDark_3 rfl (lv_at hl 1 rfl) ?_
  refine csV_i (rest := [.int (nI 0), .ref o]) (As := [.int (nI k)]) ⟨hx, hb, hml, hown, hts⟩ (c_X1_stayedDark l E _ a n now lim F lit fo CV_app hO k hk) (cwV 1 hts gL_stayedDark_X1_stayedDark rfl rfl rfl (by decide +kernel) ⟨Nat.le_of_ble_eq_true rfl, Nat.le_of_ble_eq_true rfl⟩) (va_recv hK hP (ci := 2) (q0 := 0) rfl (list_app wC_x)) hP hK rfl hl.1 rfl (Nat.le_of_ble_eq_true rfl) dL_stayedDark_4 (Nat.le_of_ble_eq_true rfl) (Nat.le_of_ble_eq_true rfl) (fun r0 hr0 => ?_)
  subst hr0
  refine lv_i2l (v := (nI (F k 6)).toInt64) hx hb dL_stayedDark_7 (rfl) ?_
  refine va_last hx hb hK hP hD hS (wC E a mc n now lim (LF F lit fo)).length 2 (get_last _ _) rfl (i := nI 0) (by exact vp_in_nI (by omega) (by omega)) dL_stayedDark_8 (fun H locs hP hD hS => ?_)
  rw [set_last, nI_clamp (by omega)] at hP hD
  have hP : va_P E.1 vwCl (wC E a mc n now lim (LF F lit fo) ++ [(o, .inl (E.2.2.2, 1, .inr (.inl (vp_updL fn 0 ((nI (F k 6)).toInt64)))))]) _ := hP
  have hD : va_D A (wC E a mc n now lim (LF F lit fo) ++ [(o, .inl (E.2.2.2, 1, .inr (.inl (vp_updL fn 0 ((nI (F k 6)).toInt64)))))]) := hD
  refine lv_goto (tgt := 15) hx hb dL_stayedDark_9 (by decide) ?_
  refine lv_iconst (v := (nI 0)) hx hb dL_stayedDark_15 (by decide) ?_
  exact retM_i (E := E) (A0 := A) (v := (nI 0)) (post := fun r uQ => r = nI 0) (u := ()) (W1 := fun uQ => wC E a mc n now lim (LF F lit fo) ++ [(o, .inl (E.2.2.2, 1, .inr (.inl (vp_updL fn 0 (((nI (F k 6))).toInt64)))))]) hx hb hr hlocks hP hK hD hS (rfl) dL_stayedDark_16

set_option maxHeartbeats 4000000 in
set_option maxRecDepth 100000 in
theorem w_L_stayedDark_x (l : Launch) (hl9 : l.stackTraces = false) (E : GE) (sz z0 : Nat) (a : Nat → Nat) (mc : Int32) (n now lim : Nat) (F : LR) (lit : Nat → Bool) (fo : Nat → Nat) (hO : OkS n now lim F) (o : Nat) (fn : Nat → Int64) (x : Int32) (hx9 : lpB n x = false) : Met l yL_stayedDark wsL_stayedDark ({ frames := 8, cells := 1, slots := 6, locals := 133 } : Room) (va_Pc [.ref (a 0), .int x, .ref o] (pcW E (wC E a mc n now lim (LF F lit fo) ++ [(o, .inl (E.2.2.2, 1, .inr (.inl fn)))]) sz z0)) (va_Qi (S := Unit) (fun r _ => r = nI 1) (fun uQ tQ => atM E (va_A (wC E a mc n now lim (LF F lit fo) ++ [(o, .inl (E.2.2.2, 1, .inr (.inl fn)))]) sz) ((fun _ => wC E a mc n now lim (LF F lit fo) ++ [(o, .inl (E.2.2.2, 1, .inr (.inl fn)))]) uQ) tQ) (va_A (wC E a mc n now lim (LF F lit fo) ++ [(o, .inl (E.2.2.2, 1, .inr (.inl fn)))]) sz)) 1 6 (va_A (wC E a mc n now lim (LF F lit fo) ++ [(o, .inl (E.2.2.2, 1, .inr (.inl fn)))]) sz) := by
  refine metL (by decide) rfl (Nat.le_of_ble_eq_true rfl) ?_
  intro p e s m args below meth c ls A hAe hA hx hb hr hml hts hown hlocks htab hP hK hD hZ hT hS hl
  rw [hAe]
  refine lv_aload_n hx hb dL_stayedDark_0 rfl (lv_at hl 2 rfl) ?_
  refine lv_iconst (v := (nI 0)) hx hb dL_stayedDark_1 (by decide) ?_
  refine lv_aload_n hx hb dL_stayedDark_2 rfl (lv_at hl 0 rfl) ?_
  refine lv_iload_n hx hb dL_stayedDark_3 rfl (lv_at hl 1 rfl) ?_
  refine xcV (wx := []) (wy := [(o, .inl (E.2.2.2, 1, .inr (.inl fn)))]) (rest := [.int (nI 0), .ref o]) (As := [.int x]) ⟨hx, hb, hml, hown, hts⟩ (x_X1_stayedDark l hl9 E _ (wC E a mc n now lim (LF F lit fo)) a n now lim F lit fo CV_self hO x hx9) (cwV 1 hts gL_stayedDark_X1_stayedDark rfl rfl rfl (by decide +kernel) ⟨Nat.le_of_ble_eq_true rfl, Nat.le_of_ble_eq_true rfl⟩) (va_recv hK hP (ci := 2) (q0 := 0) rfl (list_app wC_x)) rfl hP hK hD hT hS hA rfl hl.1 rfl (Nat.le_of_ble_eq_true rfl) dL_stayedDark_4 ⟨Nat.le_of_ble_eq_true rfl, Nat.le_of_ble_eq_true rfl⟩ (fun ce q9 H locs hP hD hS hc1 hv1 hcl1 => ?_)
  refine vx_catch hown [] ⟨0, 9, 12, 21⟩ [] (by rw [htab]; rfl) (fun z hz => by cases hz) (by decide) (by decide) (hts (.classLink RL 21 "java/lang/IndexOutOfBoundsException") (List.mem_of_getElem? (i := 1) (by rfl))) (va_Nw.use rfl hT.2.2.2.2.2.2.2.1) hc1 hv1 hcl1 ?_
  show W _ _ _ _ _ _ _ _ _ _ _ _ _ _ _ (F0 m 12 ls [.ref q9])
  refine lv_astore_n (lv' := [(3, .ref q9), (0, .ref (a 0)), (1, .int x), (2, .ref o)]) hx hb dL_stayedDark_12 rfl hl (by decide) rfl (fun ls hl => ?_)
  refine lv_iconst (v := (nI 1)) hx hb dL_stayedDark_13 (by decide) ?_
  exact retM_i (E := E) (A0 := A) (v := (nI 1)) (post := fun r _ => r = nI 1) (u := ()) (W1 := fun _ => wC E a mc n now lim (LF F lit fo) ++ [(o, .inl (E.2.2.2, 1, .inr (.inl fn)))]) hx hb hr hlocks hP hK hD hS (rfl) dL_stayedDark_14

set_option maxHeartbeats 4000000 in
set_option maxRecDepth 100000 in
theorem w_L_seen (l : Launch) (hl9 : l.stackTraces = false) (E : GE) (sz z0 : Nat) (a : Nat → Nat) (mc : Int32) (n now lim : Nat) (F : LR) (lit : Nat → Bool) (fo : Nat → Nat) (hO : OkS n now lim F) (o : Nat) (fn : Nat → Int64) (k : Nat) (hk : k ≤ 5) : Met l yL_seen wsL_seen ({ frames := 4, cells := 0, slots := 0, locals := 88 } : Room) (va_Pc [.ref (a 0), .int (nI k), .ref o] (pcW E (wC E a mc n now lim (LF F lit fo) ++ [(o, .inl (E.2.2.2, 1, .inr (.inl fn)))]) sz z0)) (va_Qi (S := Unit) (fun r uQ => r = nI 0) (fun uQ tQ => atM E (va_A (wC E a mc n now lim (LF F lit fo) ++ [(o, .inl (E.2.2.2, 1, .inr (.inl fn)))]) sz) ((fun uQ => wC E a mc n now lim (LF F lit fo) ++ [(o, .inl (E.2.2.2, 1, .inr (.inl (vp_updL fn 0 (((nI (seenS F k n))).toInt64)))))]) uQ) tQ) (va_A (wC E a mc n now lim (LF F lit fo) ++ [(o, .inl (E.2.2.2, 1, .inr (.inl fn)))]) sz)) 0 0 (va_A (wC E a mc n now lim (LF F lit fo) ++ [(o, .inl (E.2.2.2, 1, .inr (.inl fn)))]) sz) := by
  refine metL (by decide) rfl (Nat.le_of_ble_eq_true rfl) ?_
  intro p e s m args below meth c ls A hAe hA hx hb hr hml hts hown hlocks htab hP hK hD hZ hT hS hl
  rw [hAe]
  refine lv_aload_n hx hb dL_seen_0 rfl (lv_at hl 2 rfl) ?_
  refine lv_iconst (v := (nI 0)) hx hb dL_seen_1 (by decide) ?_
  refine lv_aload_n hx hb dL_seen_2 rfl (lv_at hl 0 rfl) ?_
  refine lv_iload_n hx hb dL_seen_3 rfl (lv_at hl 1 rfl) ?_
  refine csV_i (rest := [.int (nI 0), .ref o]) (As := [.int (nI k)]) ⟨hx, hb, hml, hown, hts⟩ (c_X1_seen l E _ a n now lim F lit fo CV_app hO k hk) (cwV 1 hts gL_seen_X1_seen rfl rfl rfl (by decide +kernel) ⟨Nat.le_of_ble_eq_true rfl, Nat.le_of_ble_eq_true rfl⟩) (va_recv hK hP (ci := 2) (q0 := 0) rfl (list_app wC_x)) hP hK rfl hl.1 rfl (Nat.le_of_ble_eq_true rfl) dL_seen_4 (Nat.le_of_ble_eq_true rfl) (Nat.le_of_ble_eq_true rfl) (fun r0 hr0 => ?_)
  subst hr0
  refine lv_i2l (v := (nI (seenS F k n)).toInt64) hx hb dL_seen_7 (rfl) ?_
  refine va_last hx hb hK hP hD hS (wC E a mc n now lim (LF F lit fo)).length 2 (get_last _ _) rfl (i := nI 0) (by exact vp_in_nI (by omega) (by omega)) dL_seen_8 (fun H locs hP hD hS => ?_)
  rw [set_last, nI_clamp (by omega)] at hP hD
  have hP : va_P E.1 vwCl (wC E a mc n now lim (LF F lit fo) ++ [(o, .inl (E.2.2.2, 1, .inr (.inl (vp_updL fn 0 ((nI (seenS F k n)).toInt64)))))]) _ := hP
  have hD : va_D A (wC E a mc n now lim (LF F lit fo) ++ [(o, .inl (E.2.2.2, 1, .inr (.inl (vp_updL fn 0 ((nI (seenS F k n)).toInt64)))))]) := hD
  refine lv_goto (tgt := 15) hx hb dL_seen_9 (by decide) ?_
  refine lv_iconst (v := (nI 0)) hx hb dL_seen_15 (by decide) ?_
  exact retM_i (E := E) (A0 := A) (v := (nI 0)) (post := fun r uQ => r = nI 0) (u := ()) (W1 := fun uQ => wC E a mc n now lim (LF F lit fo) ++ [(o, .inl (E.2.2.2, 1, .inr (.inl (vp_updL fn 0 (((nI (seenS F k n))).toInt64)))))]) hx hb hr hlocks hP hK hD hS (rfl) dL_seen_16

set_option maxHeartbeats 4000000 in
set_option maxRecDepth 100000 in
theorem w_L_seen_x (l : Launch) (hl9 : l.stackTraces = false) (E : GE) (sz z0 : Nat) (a : Nat → Nat) (mc : Int32) (n now lim : Nat) (F : LR) (lit : Nat → Bool) (fo : Nat → Nat) (hO : OkS n now lim F) (o : Nat) (fn : Nat → Int64) (x : Int32) (hx9 : inB x (nI 0) (nI 5) = false) : Met l yL_seen wsL_seen ({ frames := 8, cells := 1, slots := 6, locals := 136 } : Room) (va_Pc [.ref (a 0), .int x, .ref o] (pcW E (wC E a mc n now lim (LF F lit fo) ++ [(o, .inl (E.2.2.2, 1, .inr (.inl fn)))]) sz z0)) (va_Qi (S := Unit) (fun r _ => r = nI 1) (fun uQ tQ => atM E (va_A (wC E a mc n now lim (LF F lit fo) ++ [(o, .inl (E.2.2.2, 1, .inr (.inl fn)))]) sz) ((fun _ => wC E a mc n now lim (LF F lit fo) ++ [(o, .inl (E.2.2.2, 1, .inr (.inl fn)))]) uQ) tQ) (va_A (wC E a mc n now lim (LF F lit fo) ++ [(o, .inl (E.2.2.2, 1, .inr (.inl fn)))]) sz)) 1 6 (va_A (wC E a mc n now lim (LF F lit fo) ++ [(o, .inl (E.2.2.2, 1, .inr (.inl fn)))]) sz) := by
  refine metL (by decide) rfl (Nat.le_of_ble_eq_true rfl) ?_
  intro p e s m args below meth c ls A hAe hA hx hb hr hml hts hown hlocks htab hP hK hD hZ hT hS hl
  rw [hAe]
  refine lv_aload_n hx hb dL_seen_0 rfl (lv_at hl 2 rfl) ?_
  refine lv_iconst (v := (nI 0)) hx hb dL_seen_1 (by decide) ?_
  refine lv_aload_n hx hb dL_seen_2 rfl (lv_at hl 0 rfl) ?_
  refine lv_iload_n hx hb dL_seen_3 rfl (lv_at hl 1 rfl) ?_
  refine xcV (wx := []) (wy := [(o, .inl (E.2.2.2, 1, .inr (.inl fn)))]) (rest := [.int (nI 0), .ref o]) (As := [.int x]) ⟨hx, hb, hml, hown, hts⟩ (x_X1_seen l hl9 E _ (wC E a mc n now lim (LF F lit fo)) a n now lim F lit fo CV_self hO x hx9) (cwV 1 hts gL_seen_X1_seen rfl rfl rfl (by decide +kernel) ⟨Nat.le_of_ble_eq_true rfl, Nat.le_of_ble_eq_true rfl⟩) (va_recv hK hP (ci := 2) (q0 := 0) rfl (list_app wC_x)) rfl hP hK hD hT hS hA rfl hl.1 rfl (Nat.le_of_ble_eq_true rfl) dL_seen_4 ⟨Nat.le_of_ble_eq_true rfl, Nat.le_of_ble_eq_true rfl⟩ (fun ce q9 H locs hP hD hS hc1 hv1 hcl1 => ?_)
  refine vx_catch hown [] ⟨0, 9, 12, 13⟩ [] (by rw [htab]; rfl) (fun z hz => by cases hz) (by decide) (by decide) (hts (.classLink RL 13 "java/lang/IllegalArgumentException") (List.mem_of_getElem? (i := 1) (by rfl))) (va_Nw.use rfl hT.2.2.2.2.2.2.1) hc1 hv1 hcl1 ?_
  show W _ _ _ _ _ _ _ _ _ _ _ _ _ _ _ (F0 m 12 ls [.ref q9])
  refine lv_astore_n (lv' := [(3, .ref q9), (0, .ref (a 0)), (1, .int x), (2, .ref o)]) hx hb dL_seen_12 rfl hl (by decide) rfl (fun ls hl => ?_)
  refine lv_iconst (v := (nI 1)) hx hb dL_seen_13 (by decide) ?_
  exact retM_i (E := E) (A0 := A) (v := (nI 1)) (post := fun r _ => r = nI 1) (u := ()) (W1 := fun _ => wC E a mc n now lim (LF F lit fo) ++ [(o, .inl (E.2.2.2, 1, .inr (.inl fn)))]) hx hb hr hlocks hP hK hD hS (rfl) dL_seen_14

set_option maxHeartbeats 4000000 in
set_option maxRecDepth 100000 in
theorem w_L_divisor (l : Launch) (hl9 : l.stackTraces = false) (E : GE) (sz z0 : Nat) (a : Nat → Nat) (mc : Int32) (n now lim : Nat) (F : LR) (lit : Nat → Bool) (fo : Nat → Nat) (hO : OkS n now lim F) (o : Nat) (fn : Nat → Int64) (k j : Nat) (hk : k < n) (hj : j < n) : Met l yL_divisor wsL_divisor ({ frames := 5, cells := 0, slots := 0, locals := 109 } : Room) (va_Pc [.ref (a 0), .int (nI k), .int (nI j), .ref o] (pcW E (wC E a mc n now lim (LF F lit fo) ++ [(o, .inl (E.2.2.2, 1, .inr (.inl fn)))]) sz z0)) (va_Qi (S := Unit) (fun r uQ => r = nI 0) (fun uQ tQ => atM E (va_A (wC E a mc n now lim (LF F lit fo) ++ [(o, .inl (E.2.2.2, 1, .inr (.inl fn)))]) sz) ((fun uQ => wC E a mc n now lim (LF F lit fo) ++ [(o, .inl (E.2.2.2, 1, .inr (.inl (vp_updL fn 0 (((nI (Nat.gcd (F k 0) (F j 0)))).toInt64)))))]) uQ) tQ) (va_A (wC E a mc n now lim (LF F lit fo) ++ [(o, .inl (E.2.2.2, 1, .inr (.inl fn)))]) sz)) 0 0 (va_A (wC E a mc n now lim (LF F lit fo) ++ [(o, .inl (E.2.2.2, 1, .inr (.inl fn)))]) sz) := by
  refine metL (by decide) rfl (Nat.le_of_ble_eq_true rfl) ?_
  intro p e s m args below meth c ls A hAe hA hx hb hr hml hts hown hlocks htab hP hK hD hZ hT hS hl
  rw [hAe]
  refine lv_aload_n hx hb dL_divisor_0 rfl (lv_at hl 3 rfl) ?_
  refine lv_iconst (v := (nI 0)) hx hb dL_divisor_1 (by decide) ?_
  refine lv_aload_n hx hb dL_divisor_2 rfl (lv_at hl 0 rfl) ?_
  refine lv_iload_n hx hb dL_divisor_3 rfl (lv_at hl 1 rfl) ?_
  refine lv_iload_n hx hb dL_divisor_4 rfl (lv_at hl 2 rfl) ?_
  refine csV_i (rest := [.int (nI 0), .ref o]) (As := [.int (nI k), .int (nI j)]) ⟨hx, hb, hml, hown, hts⟩ (c_X1_divisor l E _ a n now lim F lit fo CV_app hO k j hk hj) (cwV 2 hts gL_divisor_X1_divisor rfl rfl rfl (by decide +kernel) ⟨Nat.le_of_ble_eq_true rfl, Nat.le_of_ble_eq_true rfl⟩) (va_recv hK hP (ci := 2) (q0 := 0) rfl (list_app wC_x)) hP hK rfl hl.1 rfl (Nat.le_of_ble_eq_true rfl) dL_divisor_5 (Nat.le_of_ble_eq_true rfl) (Nat.le_of_ble_eq_true rfl) (fun r0 hr0 => ?_)
  subst hr0
  refine lv_i2l (v := (nI (Nat.gcd (F k 0) (F j 0))).toInt64) hx hb dL_divisor_8 (rfl) ?_
  refine va_last hx hb hK hP hD hS (wC E a mc n now lim (LF F lit fo)).length 2 (get_last _ _) rfl (i := nI 0) (by exact vp_in_nI (by omega) (by omega)) dL_divisor_9 (fun H locs hP hD hS => ?_)
  rw [set_last, nI_clamp (by omega)] at hP hD
  have hP : va_P E.1 vwCl (wC E a mc n now lim (LF F lit fo) ++ [(o, .inl (E.2.2.2, 1, .inr (.inl (vp_updL fn 0 ((nI (Nat.gcd (F k 0) (F j 0))).toInt64)))))]) _ := hP
  have hD : va_D A (wC E a mc n now lim (LF F lit fo) ++ [(o, .inl (E.2.2.2, 1, .inr (.inl (vp_updL fn 0 ((nI (Nat.gcd (F k 0) (F j 0))).toInt64)))))]) := hD
  refine lv_goto (tgt := 17) hx hb dL_divisor_10 (by decide) ?_
  refine lv_iconst (v := (nI 0)) hx hb dL_divisor_17 (by decide) ?_
  exact retM_i (E := E) (A0 := A) (v := (nI 0)) (post := fun r uQ => r = nI 0) (u := ()) (W1 := fun uQ => wC E a mc n now lim (LF F lit fo) ++ [(o, .inl (E.2.2.2, 1, .inr (.inl (vp_updL fn 0 (((nI (Nat.gcd (F k 0) (F j 0)))).toInt64)))))]) hx hb hr hlocks hP hK hD hS (rfl) dL_divisor_18

set_option maxHeartbeats 4000000 in
set_option maxRecDepth 100000 in
theorem w_L_divisor_x (l : Launch) (hl9 : l.stackTraces = false) (E : GE) (sz z0 : Nat) (a : Nat → Nat) (mc : Int32) (n now lim : Nat) (F : LR) (lit : Nat → Bool) (fo : Nat → Nat) (hO : OkS n now lim F) (o : Nat) (fn : Nat → Int64) (x z : Int32) (hx9 : (lpB n x && lpB n z) = false) : Met l yL_divisor wsL_divisor ({ frames := 8, cells := 1, slots := 6, locals := 136 } : Room) (va_Pc [.ref (a 0), .int x, .int z, .ref o] (pcW E (wC E a mc n now lim (LF F lit fo) ++ [(o, .inl (E.2.2.2, 1, .inr (.inl fn)))]) sz z0)) (va_Qi (S := Unit) (fun r _ => r = nI 1) (fun uQ tQ => atM E (va_A (wC E a mc n now lim (LF F lit fo) ++ [(o, .inl (E.2.2.2, 1, .inr (.inl fn)))]) sz) ((fun _ => wC E a mc n now lim (LF F lit fo) ++ [(o, .inl (E.2.2.2, 1, .inr (.inl fn)))]) uQ) tQ) (va_A (wC E a mc n now lim (LF F lit fo) ++ [(o, .inl (E.2.2.2, 1, .inr (.inl fn)))]) sz)) 1 6 (va_A (wC E a mc n now lim (LF F lit fo) ++ [(o, .inl (E.2.2.2, 1, .inr (.inl fn)))]) sz) := by
  refine metL (by decide) rfl (Nat.le_of_ble_eq_true rfl) ?_
  intro p e s m args below meth c ls A hAe hA hx hb hr hml hts hown hlocks htab hP hK hD hZ hT hS hl
  rw [hAe]
  refine lv_aload_n hx hb dL_divisor_0 rfl (lv_at hl 3 rfl) ?_
  refine lv_iconst (v := (nI 0)) hx hb dL_divisor_1 (by decide) ?_
  refine lv_aload_n hx hb dL_divisor_2 rfl (lv_at hl 0 rfl) ?_
  refine lv_iload_n hx hb dL_divisor_3 rfl (lv_at hl 1 rfl) ?_
  refine lv_iload_n hx hb dL_divisor_4 rfl (lv_at hl 2 rfl) ?_
  refine xcV (wx := []) (wy := [(o, .inl (E.2.2.2, 1, .inr (.inl fn)))]) (rest := [.int (nI 0), .ref o]) (As := [.int x, .int z]) ⟨hx, hb, hml, hown, hts⟩ (x_X1_divisor l hl9 E _ (wC E a mc n now lim (LF F lit fo)) a n now lim F lit fo CV_self hO x z hx9) (cwV 2 hts gL_divisor_X1_divisor rfl rfl rfl (by decide +kernel) ⟨Nat.le_of_ble_eq_true rfl, Nat.le_of_ble_eq_true rfl⟩) (va_recv hK hP (ci := 2) (q0 := 0) rfl (list_app wC_x)) rfl hP hK hD hT hS hA rfl hl.1 rfl (Nat.le_of_ble_eq_true rfl) dL_divisor_5 ⟨Nat.le_of_ble_eq_true rfl, Nat.le_of_ble_eq_true rfl⟩ (fun ce q9 H locs hP hD hS hc1 hv1 hcl1 => ?_)
  refine vx_catch hown [] ⟨0, 10, 13, 21⟩ [] (by rw [htab]; rfl) (fun z hz => by cases hz) (by decide) (by decide) (hts (.classLink RL 21 "java/lang/IndexOutOfBoundsException") (List.mem_of_getElem? (i := 1) (by rfl))) (va_Nw.use rfl hT.2.2.2.2.2.2.2.1) hc1 hv1 hcl1 ?_
  show W _ _ _ _ _ _ _ _ _ _ _ _ _ _ _ (F0 m 13 ls [.ref q9])
  refine lv_astore (lv' := [(4, .ref q9), (0, .ref (a 0)), (1, .int x), (2, .int z), (3, .ref o)]) hx hb dL_divisor_13 hl (by decide) rfl (fun ls hl => ?_)
  refine lv_iconst (v := (nI 1)) hx hb dL_divisor_15 (by decide) ?_
  exact retM_i (E := E) (A0 := A) (v := (nI 1)) (post := fun r _ => r = nI 1) (u := ()) (W1 := fun _ => wC E a mc n now lim (LF F lit fo) ++ [(o, .inl (E.2.2.2, 1, .inr (.inl fn)))]) hx hb hr hlocks hP hK hD hS (rfl) dL_divisor_16

set_option maxHeartbeats 4000000 in
set_option maxRecDepth 100000 in
theorem w_L_meet (l : Launch) (hl9 : l.stackTraces = false) (E : GE) (sz z0 : Nat) (a : Nat → Nat) (mc : Int32) (n now lim : Nat) (F : LR) (lit : Nat → Bool) (fo : Nat → Nat) (hO : OkS n now lim F) (o : Nat) (fn : Nat → Int64) (k j : Nat) (hk : k < n) (hj : j < n) : Met l yL_meet wsL_meet ({ frames := 5, cells := 0, slots := 0, locals := 109 } : Room) (va_Pc [.ref (a 0), .int (nI k), .int (nI j), .ref o] (pcW E (wC E a mc n now lim (LF F lit fo) ++ [(o, .inl (E.2.2.2, 1, .inr (.inl fn)))]) sz z0)) (va_Qi (S := Unit) (fun r uQ => r = nI 0) (fun uQ tQ => atM E (va_A (wC E a mc n now lim (LF F lit fo) ++ [(o, .inl (E.2.2.2, 1, .inr (.inl fn)))]) sz) ((fun uQ => wC E a mc n now lim (LF F lit fo) ++ [(o, .inl (E.2.2.2, 1, .inr (.inl (vp_updL fn 0 (bL (meetS F k ((F k 3 : Nat) : Int) j))))))]) uQ) tQ) (va_A (wC E a mc n now lim (LF F lit fo) ++ [(o, .inl (E.2.2.2, 1, .inr (.inl fn)))]) sz)) 0 0 (va_A (wC E a mc n now lim (LF F lit fo) ++ [(o, .inl (E.2.2.2, 1, .inr (.inl fn)))]) sz) := by
  refine metL (by decide) rfl (Nat.le_of_ble_eq_true rfl) ?_
  intro p e s m args below meth c ls A hAe hA hx hb hr hml hts hown hlocks htab hP hK hD hZ hT hS hl
  rw [hAe]
  refine lv_aload_n hx hb dL_meet_0 rfl (lv_at hl 3 rfl) ?_
  refine lv_iconst (v := (nI 0)) hx hb dL_meet_1 (by decide) ?_
  refine lv_aload_n hx hb dL_meet_2 rfl (lv_at hl 0 rfl) ?_
  refine lv_iload_n hx hb dL_meet_3 rfl (lv_at hl 1 rfl) ?_
  refine lv_iload_n hx hb dL_meet_4 rfl (lv_at hl 2 rfl) ?_
  refine csV_i (rest := [.int (nI 0), .ref o]) (As := [.int (nI k), .int (nI j)]) ⟨hx, hb, hml, hown, hts⟩ (c_X1_meet l E _ a n now lim F lit fo CV_app hO k j hk hj) (cwV 2 hts gL_meet_X1_meet rfl rfl rfl (by decide +kernel) ⟨Nat.le_of_ble_eq_true rfl, Nat.le_of_ble_eq_true rfl⟩) (va_recv hK hP (ci := 2) (q0 := 0) rfl (list_app wC_x)) hP hK rfl hl.1 rfl (Nat.le_of_ble_eq_true rfl) dL_meet_5 (Nat.le_of_ble_eq_true rfl) (Nat.le_of_ble_eq_true rfl) (fun r0 hr0 => ?_)
  subst hr0
  refine bq_if_eq (tgt := 15) hx hb dL_meet_8 (by decide) (fun h8 => ?_) (fun h8 => ?_)
  · skip
    refine lv_lconst (v := 0) hx hb dL_meet_15 (by decide) ?_
    refine nq_topl (show 0 = bL (meetS F k ((F k 3 : Nat) : Int) j) from by rw [h8]; rfl) ?_
    refine va_last hx hb hK hP hD hS (wC E a mc n now lim (LF F lit fo)).length 2 (get_last _ _) rfl (i := nI 0) (by exact vp_in_nI (by omega) (by omega)) dL_meet_16 (fun H locs hP hD hS => ?_)
    rw [set_last, nI_clamp (by omega)] at hP hD
    have hP : va_P E.1 vwCl (wC E a mc n now lim (LF F lit fo) ++ [(o, .inl (E.2.2.2, 1, .inr (.inl (vp_updL fn 0 (bL (meetS F k ((F k 3 : Nat) : Int) j))))))]) _ := hP
    have hD : va_D A (wC E a mc n now lim (LF F lit fo) ++ [(o, .inl (E.2.2.2, 1, .inr (.inl (vp_updL fn 0 (bL (meetS F k ((F k 3 : Nat) : Int) j))))))]) := hD
    refine lv_goto (tgt := 24) hx hb dL_meet_17 (by decide) ?_
    refine lv_iconst (v := (nI 0)) hx hb dL_meet_24 (by decide) ?_
    exact retM_i (E := E) (A0 := A) (v := (nI 0)) (post := fun r uQ => r = nI 0) (u := ()) (W1 := fun uQ => wC E a mc n now lim (LF F lit fo) ++ [(o, .inl (E.2.2.2, 1, .inr (.inl (vp_updL fn 0 (bL (meetS F k ((F k 3 : Nat) : Int) j))))))]) hx hb hr hlocks hP hK hD hS (rfl) dL_meet_25
  · skip
    refine lv_lconst (v := 1) hx hb dL_meet_11 (by decide) ?_
    refine lv_goto (tgt := 16) hx hb dL_meet_12 (by decide) ?_
    refine nq_topl (show 1 = bL (meetS F k ((F k 3 : Nat) : Int) j) from by rw [h8]; rfl) ?_
    refine va_last hx hb hK hP hD hS (wC E a mc n now lim (LF F lit fo)).length 2 (get_last _ _) rfl (i := nI 0) (by exact vp_in_nI (by omega) (by omega)) dL_meet_16 (fun H locs hP hD hS => ?_)
    rw [set_last, nI_clamp (by omega)] at hP hD
    have hP : va_P E.1 vwCl (wC E a mc n now lim (LF F lit fo) ++ [(o, .inl (E.2.2.2, 1, .inr (.inl (vp_updL fn 0 (bL (meetS F k ((F k 3 : Nat) : Int) j))))))]) _ := hP
    have hD : va_D A (wC E a mc n now lim (LF F lit fo) ++ [(o, .inl (E.2.2.2, 1, .inr (.inl (vp_updL fn 0 (bL (meetS F k ((F k 3 : Nat) : Int) j))))))]) := hD
    refine lv_goto (tgt := 24) hx hb dL_meet_17 (by decide) ?_
    refine lv_iconst (v := (nI 0)) hx hb dL_meet_24 (by decide) ?_
    exact retM_i (E := E) (A0 := A) (v := (nI 0)) (post := fun r uQ => r = nI 0) (u := ()) (W1 := fun uQ => wC E a mc n now lim (LF F lit fo) ++ [(o, .inl (E.2.2.2, 1, .inr (.inl (vp_updL fn 0 (bL (meetS F k ((F k 3 : Nat) : Int) j))))))]) hx hb hr hlocks hP hK hD hS (rfl) dL_meet_25

set_option maxHeartbeats 4000000 in
set_option maxRecDepth 100000 in
theorem w_L_meet_x (l : Launch) (hl9 : l.stackTraces = false) (E : GE) (sz z0 : Nat) (a : Nat → Nat) (mc : Int32) (n now lim : Nat) (F : LR) (lit : Nat → Bool) (fo : Nat → Nat) (hO : OkS n now lim F) (o : Nat) (fn : Nat → Int64) (x z : Int32) (hx9 : (lpB n x && lpB n z) = false) : Met l yL_meet wsL_meet ({ frames := 8, cells := 1, slots := 6, locals := 136 } : Room) (va_Pc [.ref (a 0), .int x, .int z, .ref o] (pcW E (wC E a mc n now lim (LF F lit fo) ++ [(o, .inl (E.2.2.2, 1, .inr (.inl fn)))]) sz z0)) (va_Qi (S := Unit) (fun r _ => r = nI 1) (fun uQ tQ => atM E (va_A (wC E a mc n now lim (LF F lit fo) ++ [(o, .inl (E.2.2.2, 1, .inr (.inl fn)))]) sz) ((fun _ => wC E a mc n now lim (LF F lit fo) ++ [(o, .inl (E.2.2.2, 1, .inr (.inl fn)))]) uQ) tQ) (va_A (wC E a mc n now lim (LF F lit fo) ++ [(o, .inl (E.2.2.2, 1, .inr (.inl fn)))]) sz)) 1 6 (va_A (wC E a mc n now lim (LF F lit fo) ++ [(o, .inl (E.2.2.2, 1, .inr (.inl fn)))]) sz) := by
  refine metL (by decide) rfl (Nat.le_of_ble_eq_true rfl) ?_
  intro p e s m args below meth c ls A hAe hA hx hb hr hml hts hown hlocks htab hP hK hD hZ hT hS hl
  rw [hAe]
  refine lv_aload_n hx hb dL_meet_0 rfl (lv_at hl 3 rfl) ?_
  refine lv_iconst (v := (nI 0)) hx hb dL_meet_1 (by decide) ?_
  refine lv_aload_n hx hb dL_meet_2 rfl (lv_at hl 0 rfl) ?_
  refine lv_iload_n hx hb dL_meet_3 rfl (lv_at hl 1 rfl) ?_
  refine lv_iload_n hx hb dL_meet_4 rfl (lv_at hl 2 rfl) ?_
  refine xcV (wx := []) (wy := [(o, .inl (E.2.2.2, 1, .inr (.inl fn)))]) (rest := [.int (nI 0), .ref o]) (As := [.int x, .int z]) ⟨hx, hb, hml, hown, hts⟩ (x_X1_meet l hl9 E _ (wC E a mc n now lim (LF F lit fo)) a n now lim F lit fo CV_self hO x z hx9) (cwV 2 hts gL_meet_X1_meet rfl rfl rfl (by decide +kernel) ⟨Nat.le_of_ble_eq_true rfl, Nat.le_of_ble_eq_true rfl⟩) (va_recv hK hP (ci := 2) (q0 := 0) rfl (list_app wC_x)) rfl hP hK hD hT hS hA rfl hl.1 rfl (Nat.le_of_ble_eq_true rfl) dL_meet_5 ⟨Nat.le_of_ble_eq_true rfl, Nat.le_of_ble_eq_true rfl⟩ (fun ce q9 H locs hP hD hS hc1 hv1 hcl1 => ?_)
  refine vx_catch hown [] ⟨0, 17, 20, 21⟩ [] (by rw [htab]; rfl) (fun z hz => by cases hz) (by decide) (by decide) (hts (.classLink RL 21 "java/lang/IndexOutOfBoundsException") (List.mem_of_getElem? (i := 1) (by rfl))) (va_Nw.use rfl hT.2.2.2.2.2.2.2.1) hc1 hv1 hcl1 ?_
  show W _ _ _ _ _ _ _ _ _ _ _ _ _ _ _ (F0 m 20 ls [.ref q9])
  refine lv_astore (lv' := [(4, .ref q9), (0, .ref (a 0)), (1, .int x), (2, .int z), (3, .ref o)]) hx hb dL_meet_20 hl (by decide) rfl (fun ls hl => ?_)
  refine lv_iconst (v := (nI 1)) hx hb dL_meet_22 (by decide) ?_
  exact retM_i (E := E) (A0 := A) (v := (nI 1)) (post := fun r _ => r = nI 1) (u := ()) (W1 := fun _ => wC E a mc n now lim (LF F lit fo) ++ [(o, .inl (E.2.2.2, 1, .inr (.inl fn)))]) hx hb hr hlocks hP hK hD hS (rfl) dL_meet_23

set_option maxHeartbeats 4000000 in
set_option maxRecDepth 100000 in
theorem w_L_beatsUntilMeet (l : Launch) (hl9 : l.stackTraces = false) (E : GE) (sz z0 : Nat) (a : Nat → Nat) (mc : Int32) (n now lim : Nat) (F : LR) (lit : Nat → Bool) (fo : Nat → Nat) (hO : OkS n now lim F) (o : Nat) (fn : Nat → Int64) (k j : Nat) (hk : k < n) (hj : j < n) : Met l yL_beatsUntilMeet wsL_beatsUntilMeet ({ frames := 5, cells := 0, slots := 0, locals := 111 } : Room) (va_Pc [.ref (a 0), .int (nI k), .int (nI j), .ref o] (pcW E (wC E a mc n now lim (LF F lit fo) ++ [(o, .inl (E.2.2.2, 1, .inr (.inl fn)))]) sz z0)) (va_Qi (S := Unit) (fun r uQ => r = nI 0) (fun uQ tQ => atM E (va_A (wC E a mc n now lim (LF F lit fo) ++ [(o, .inl (E.2.2.2, 1, .inr (.inl fn)))]) sz) ((fun uQ => wC E a mc n now lim (LF F lit fo) ++ [(o, .inl (E.2.2.2, 1, .inr (.inl (vp_updL fn 0 (((iI (untilS F now k j))).toInt64)))))]) uQ) tQ) (va_A (wC E a mc n now lim (LF F lit fo) ++ [(o, .inl (E.2.2.2, 1, .inr (.inl fn)))]) sz)) 0 0 (va_A (wC E a mc n now lim (LF F lit fo) ++ [(o, .inl (E.2.2.2, 1, .inr (.inl fn)))]) sz) := by
  refine metL (by decide) rfl (Nat.le_of_ble_eq_true rfl) ?_
  intro p e s m args below meth c ls A hAe hA hx hb hr hml hts hown hlocks htab hP hK hD hZ hT hS hl
  rw [hAe]
  refine lv_aload_n hx hb dL_beatsUntilMeet_0 rfl (lv_at hl 3 rfl) ?_
  refine lv_iconst (v := (nI 0)) hx hb dL_beatsUntilMeet_1 (by decide) ?_
  refine lv_aload_n hx hb dL_beatsUntilMeet_2 rfl (lv_at hl 0 rfl) ?_
  refine lv_iload_n hx hb dL_beatsUntilMeet_3 rfl (lv_at hl 1 rfl) ?_
  refine lv_iload_n hx hb dL_beatsUntilMeet_4 rfl (lv_at hl 2 rfl) ?_
  refine csV_i (rest := [.int (nI 0), .ref o]) (As := [.int (nI k), .int (nI j)]) ⟨hx, hb, hml, hown, hts⟩ (c_X1_beatsUntilMeet l E _ a n now lim F lit fo CV_app hO k j hk hj) (cwV 2 hts gL_beatsUntilMeet_X1_beatsUntilMeet rfl rfl rfl (by decide +kernel) ⟨Nat.le_of_ble_eq_true rfl, Nat.le_of_ble_eq_true rfl⟩) (va_recv hK hP (ci := 2) (q0 := 0) rfl (list_app wC_x)) hP hK rfl hl.1 rfl (Nat.le_of_ble_eq_true rfl) dL_beatsUntilMeet_5 (Nat.le_of_ble_eq_true rfl) (Nat.le_of_ble_eq_true rfl) (fun r0 hr0 => ?_)
  subst hr0
  refine lv_i2l (v := (iI (untilS F now k j)).toInt64) hx hb dL_beatsUntilMeet_8 (rfl) ?_
  refine va_last hx hb hK hP hD hS (wC E a mc n now lim (LF F lit fo)).length 2 (get_last _ _) rfl (i := nI 0) (by exact vp_in_nI (by omega) (by omega)) dL_beatsUntilMeet_9 (fun H locs hP hD hS => ?_)
  rw [set_last, nI_clamp (by omega)] at hP hD
  have hP : va_P E.1 vwCl (wC E a mc n now lim (LF F lit fo) ++ [(o, .inl (E.2.2.2, 1, .inr (.inl (vp_updL fn 0 ((iI (untilS F now k j)).toInt64)))))]) _ := hP
  have hD : va_D A (wC E a mc n now lim (LF F lit fo) ++ [(o, .inl (E.2.2.2, 1, .inr (.inl (vp_updL fn 0 ((iI (untilS F now k j)).toInt64)))))]) := hD
  refine lv_goto (tgt := 17) hx hb dL_beatsUntilMeet_10 (by decide) ?_
  refine lv_iconst (v := (nI 0)) hx hb dL_beatsUntilMeet_17 (by decide) ?_
  exact retM_i (E := E) (A0 := A) (v := (nI 0)) (post := fun r uQ => r = nI 0) (u := ()) (W1 := fun uQ => wC E a mc n now lim (LF F lit fo) ++ [(o, .inl (E.2.2.2, 1, .inr (.inl (vp_updL fn 0 (((iI (untilS F now k j))).toInt64)))))]) hx hb hr hlocks hP hK hD hS (rfl) dL_beatsUntilMeet_18

set_option maxHeartbeats 4000000 in
set_option maxRecDepth 100000 in
theorem w_L_beatsUntilMeet_x (l : Launch) (hl9 : l.stackTraces = false) (E : GE) (sz z0 : Nat) (a : Nat → Nat) (mc : Int32) (n now lim : Nat) (F : LR) (lit : Nat → Bool) (fo : Nat → Nat) (hO : OkS n now lim F) (o : Nat) (fn : Nat → Int64) (x z : Int32) (hx9 : (lpB n x && lpB n z) = false) : Met l yL_beatsUntilMeet wsL_beatsUntilMeet ({ frames := 8, cells := 1, slots := 6, locals := 138 } : Room) (va_Pc [.ref (a 0), .int x, .int z, .ref o] (pcW E (wC E a mc n now lim (LF F lit fo) ++ [(o, .inl (E.2.2.2, 1, .inr (.inl fn)))]) sz z0)) (va_Qi (S := Unit) (fun r _ => r = nI 1) (fun uQ tQ => atM E (va_A (wC E a mc n now lim (LF F lit fo) ++ [(o, .inl (E.2.2.2, 1, .inr (.inl fn)))]) sz) ((fun _ => wC E a mc n now lim (LF F lit fo) ++ [(o, .inl (E.2.2.2, 1, .inr (.inl fn)))]) uQ) tQ) (va_A (wC E a mc n now lim (LF F lit fo) ++ [(o, .inl (E.2.2.2, 1, .inr (.inl fn)))]) sz)) 1 6 (va_A (wC E a mc n now lim (LF F lit fo) ++ [(o, .inl (E.2.2.2, 1, .inr (.inl fn)))]) sz) := by
  refine metL (by decide) rfl (Nat.le_of_ble_eq_true rfl) ?_
  intro p e s m args below meth c ls A hAe hA hx hb hr hml hts hown hlocks htab hP hK hD hZ hT hS hl
  rw [hAe]
  refine lv_aload_n hx hb dL_beatsUntilMeet_0 rfl (lv_at hl 3 rfl) ?_
  refine lv_iconst (v := (nI 0)) hx hb dL_beatsUntilMeet_1 (by decide) ?_
  refine lv_aload_n hx hb dL_beatsUntilMeet_2 rfl (lv_at hl 0 rfl) ?_
  refine lv_iload_n hx hb dL_beatsUntilMeet_3 rfl (lv_at hl 1 rfl) ?_
  refine lv_iload_n hx hb dL_beatsUntilMeet_4 rfl (lv_at hl 2 rfl) ?_
  refine xcV (wx := []) (wy := [(o, .inl (E.2.2.2, 1, .inr (.inl fn)))]) (rest := [.int (nI 0), .ref o]) (As := [.int x, .int z]) ⟨hx, hb, hml, hown, hts⟩ (x_X1_beatsUntilMeet l hl9 E _ (wC E a mc n now lim (LF F lit fo)) a n now lim F lit fo CV_self hO x z hx9) (cwV 2 hts gL_beatsUntilMeet_X1_beatsUntilMeet rfl rfl rfl (by decide +kernel) ⟨Nat.le_of_ble_eq_true rfl, Nat.le_of_ble_eq_true rfl⟩) (va_recv hK hP (ci := 2) (q0 := 0) rfl (list_app wC_x)) rfl hP hK hD hT hS hA rfl hl.1 rfl (Nat.le_of_ble_eq_true rfl) dL_beatsUntilMeet_5 ⟨Nat.le_of_ble_eq_true rfl, Nat.le_of_ble_eq_true rfl⟩ (fun ce q9 H locs hP hD hS hc1 hv1 hcl1 => ?_)
  refine vx_catch hown [] ⟨0, 10, 13, 21⟩ [] (by rw [htab]; rfl) (fun z hz => by cases hz) (by decide) (by decide) (hts (.classLink RL 21 "java/lang/IndexOutOfBoundsException") (List.mem_of_getElem? (i := 1) (by rfl))) (va_Nw.use rfl hT.2.2.2.2.2.2.2.1) hc1 hv1 hcl1 ?_
  show W _ _ _ _ _ _ _ _ _ _ _ _ _ _ _ (F0 m 13 ls [.ref q9])
  refine lv_astore (lv' := [(4, .ref q9), (0, .ref (a 0)), (1, .int x), (2, .int z), (3, .ref o)]) hx hb dL_beatsUntilMeet_13 hl (by decide) rfl (fun ls hl => ?_)
  refine lv_iconst (v := (nI 1)) hx hb dL_beatsUntilMeet_15 (by decide) ?_
  exact retM_i (E := E) (A0 := A) (v := (nI 1)) (post := fun r _ => r = nI 1) (u := ()) (W1 := fun _ => wC E a mc n now lim (LF F lit fo) ++ [(o, .inl (E.2.2.2, 1, .inr (.inl fn)))]) hx hb hr hlocks hP hK hD hS (rfl) dL_beatsUntilMeet_16

set_option maxHeartbeats 4000000 in
set_option maxRecDepth 100000 in
theorem w_L_meets (l : Launch) (hl9 : l.stackTraces = false) (E : GE) (sz z0 : Nat) (a : Nat → Nat) (mc : Int32) (n now lim : Nat) (F : LR) (lit : Nat → Bool) (fo : Nat → Nat) (hO : OkS n now lim F) (o : Nat) (fn : Nat → Int64) (k : Nat) (hk : k < n) : Met l yL_meets wsL_meets ({ frames := 5, cells := 0, slots := 0, locals := 113 } : Room) (va_Pc [.ref (a 0), .int (nI k), .ref o] (pcW E (wC E a mc n now lim (LF F lit fo) ++ [(o, .inl (E.2.2.2, 1, .inr (.inl fn)))]) sz z0)) (va_Qi (S := Unit) (fun r uQ => r = nI 0) (fun uQ tQ => atM E (va_A (wC E a mc n now lim (LF F lit fo) ++ [(o, .inl (E.2.2.2, 1, .inr (.inl fn)))]) sz) ((fun uQ => wC E a mc n now lim (LF F lit fo) ++ [(o, .inl (E.2.2.2, 1, .inr (.inl (vp_updL fn 0 (((nI (mtS F k ((F k 3 : Nat) : Int) n))).toInt64)))))]) uQ) tQ) (va_A (wC E a mc n now lim (LF F lit fo) ++ [(o, .inl (E.2.2.2, 1, .inr (.inl fn)))]) sz)) 0 0 (va_A (wC E a mc n now lim (LF F lit fo) ++ [(o, .inl (E.2.2.2, 1, .inr (.inl fn)))]) sz) := by
  refine metL (by decide) rfl (Nat.le_of_ble_eq_true rfl) ?_
  intro p e s m args below meth c ls A hAe hA hx hb hr hml hts hown hlocks htab hP hK hD hZ hT hS hl
  rw [hAe]
  refine lv_aload_n hx hb dL_meets_0 rfl (lv_at hl 2 rfl) ?_
  refine lv_iconst (v := (nI 0)) hx hb dL_meets_1 (by decide) ?_
  refine lv_aload_n hx hb dL_meets_2 rfl (lv_at hl 0 rfl) ?_
  refine lv_iload_n hx hb dL_meets_3 rfl (lv_at hl 1 rfl) ?_
  refine csV_i (rest := [.int (nI 0), .ref o]) (As := [.int (nI k)]) ⟨hx, hb, hml, hown, hts⟩ (c_X1_meets l E _ a n now lim F lit fo CV_app hO (wC_inj (va_Dl hD)) k hk) (cwV 1 hts gL_meets_X1_meets rfl rfl rfl (by decide +kernel) ⟨Nat.le_of_ble_eq_true rfl, Nat.le_of_ble_eq_true rfl⟩) (va_recv hK hP (ci := 2) (q0 := 0) rfl (list_app wC_x)) hP hK rfl hl.1 rfl (Nat.le_of_ble_eq_true rfl) dL_meets_4 (Nat.le_of_ble_eq_true rfl) (Nat.le_of_ble_eq_true rfl) (fun r0 hr0 => ?_)
  subst hr0
  refine lv_i2l (v := (nI (mtS F k ((F k 3 : Nat) : Int) n)).toInt64) hx hb dL_meets_7 (rfl) ?_
  refine va_last hx hb hK hP hD hS (wC E a mc n now lim (LF F lit fo)).length 2 (get_last _ _) rfl (i := nI 0) (by exact vp_in_nI (by omega) (by omega)) dL_meets_8 (fun H locs hP hD hS => ?_)
  rw [set_last, nI_clamp (by omega)] at hP hD
  have hP : va_P E.1 vwCl (wC E a mc n now lim (LF F lit fo) ++ [(o, .inl (E.2.2.2, 1, .inr (.inl (vp_updL fn 0 ((nI (mtS F k ((F k 3 : Nat) : Int) n)).toInt64)))))]) _ := hP
  have hD : va_D A (wC E a mc n now lim (LF F lit fo) ++ [(o, .inl (E.2.2.2, 1, .inr (.inl (vp_updL fn 0 ((nI (mtS F k ((F k 3 : Nat) : Int) n)).toInt64)))))]) := hD
  refine lv_goto (tgt := 15) hx hb dL_meets_9 (by decide) ?_
  refine lv_iconst (v := (nI 0)) hx hb dL_meets_15 (by decide) ?_
  exact retM_i (E := E) (A0 := A) (v := (nI 0)) (post := fun r uQ => r = nI 0) (u := ()) (W1 := fun uQ => wC E a mc n now lim (LF F lit fo) ++ [(o, .inl (E.2.2.2, 1, .inr (.inl (vp_updL fn 0 (((nI (mtS F k ((F k 3 : Nat) : Int) n))).toInt64)))))]) hx hb hr hlocks hP hK hD hS (rfl) dL_meets_16

set_option maxHeartbeats 4000000 in
set_option maxRecDepth 100000 in
theorem w_L_meets_x (l : Launch) (hl9 : l.stackTraces = false) (E : GE) (sz z0 : Nat) (a : Nat → Nat) (mc : Int32) (n now lim : Nat) (F : LR) (lit : Nat → Bool) (fo : Nat → Nat) (hO : OkS n now lim F) (o : Nat) (fn : Nat → Int64) (x : Int32) (hx9 : lpB n x = false) : Met l yL_meets wsL_meets ({ frames := 8, cells := 1, slots := 6, locals := 134 } : Room) (va_Pc [.ref (a 0), .int x, .ref o] (pcW E (wC E a mc n now lim (LF F lit fo) ++ [(o, .inl (E.2.2.2, 1, .inr (.inl fn)))]) sz z0)) (va_Qi (S := Unit) (fun r _ => r = nI 1) (fun uQ tQ => atM E (va_A (wC E a mc n now lim (LF F lit fo) ++ [(o, .inl (E.2.2.2, 1, .inr (.inl fn)))]) sz) ((fun _ => wC E a mc n now lim (LF F lit fo) ++ [(o, .inl (E.2.2.2, 1, .inr (.inl fn)))]) uQ) tQ) (va_A (wC E a mc n now lim (LF F lit fo) ++ [(o, .inl (E.2.2.2, 1, .inr (.inl fn)))]) sz)) 1 6 (va_A (wC E a mc n now lim (LF F lit fo) ++ [(o, .inl (E.2.2.2, 1, .inr (.inl fn)))]) sz) := by
  refine metL (by decide) rfl (Nat.le_of_ble_eq_true rfl) ?_
  intro p e s m args below meth c ls A hAe hA hx hb hr hml hts hown hlocks htab hP hK hD hZ hT hS hl
  rw [hAe]
  refine lv_aload_n hx hb dL_meets_0 rfl (lv_at hl 2 rfl) ?_
  refine lv_iconst (v := (nI 0)) hx hb dL_meets_1 (by decide) ?_
  refine lv_aload_n hx hb dL_meets_2 rfl (lv_at hl 0 rfl) ?_
  refine lv_iload_n hx hb dL_meets_3 rfl (lv_at hl 1 rfl) ?_
  refine xcV (wx := []) (wy := [(o, .inl (E.2.2.2, 1, .inr (.inl fn)))]) (rest := [.int (nI 0), .ref o]) (As := [.int x]) ⟨hx, hb, hml, hown, hts⟩ (x_X1_meets l hl9 E _ (wC E a mc n now lim (LF F lit fo)) a n now lim F lit fo CV_self hO x hx9) (cwV 1 hts gL_meets_X1_meets rfl rfl rfl (by decide +kernel) ⟨Nat.le_of_ble_eq_true rfl, Nat.le_of_ble_eq_true rfl⟩) (va_recv hK hP (ci := 2) (q0 := 0) rfl (list_app wC_x)) rfl hP hK hD hT hS hA rfl hl.1 rfl (Nat.le_of_ble_eq_true rfl) dL_meets_4 ⟨Nat.le_of_ble_eq_true rfl, Nat.le_of_ble_eq_true rfl⟩ (fun ce q9 H locs hP hD hS hc1 hv1 hcl1 => ?_)
  refine vx_catch hown [] ⟨0, 9, 12, 21⟩ [] (by rw [htab]; rfl) (fun z hz => by cases hz) (by decide) (by decide) (hts (.classLink RL 21 "java/lang/IndexOutOfBoundsException") (List.mem_of_getElem? (i := 1) (by rfl))) (va_Nw.use rfl hT.2.2.2.2.2.2.2.1) hc1 hv1 hcl1 ?_
  show W _ _ _ _ _ _ _ _ _ _ _ _ _ _ _ (F0 m 12 ls [.ref q9])
  refine lv_astore_n (lv' := [(3, .ref q9), (0, .ref (a 0)), (1, .int x), (2, .ref o)]) hx hb dL_meets_12 rfl hl (by decide) rfl (fun ls hl => ?_)
  refine lv_iconst (v := (nI 1)) hx hb dL_meets_13 (by decide) ?_
  exact retM_i (E := E) (A0 := A) (v := (nI 1)) (post := fun r _ => r = nI 1) (u := ()) (W1 := fun _ => wC E a mc n now lim (LF F lit fo) ++ [(o, .inl (E.2.2.2, 1, .inr (.inl fn)))]) hx hb hr hlocks hP hK hD hS (rfl) dL_meets_14

set_option maxHeartbeats 4000000 in
set_option maxRecDepth 100000 in
theorem w_L_bestShift (l : Launch) (hl9 : l.stackTraces = false) (E : GE) (sz z0 : Nat) (a : Nat → Nat) (mc : Int32) (n now lim : Nat) (F : LR) (lit : Nat → Bool) (fo : Nat → Nat) (hO : OkS n now lim F) (o : Nat) (fn : Nat → Int64) (k : Nat) (hk : k < n) : Met l yL_bestShift wsL_bestShift ({ frames := 5, cells := 0, slots := 0, locals := 117 } : Room) (va_Pc [.ref (a 0), .int (nI k), .ref o] (pcW E (wC E a mc n now lim (LF F lit fo) ++ [(o, .inl (E.2.2.2, 1, .inr (.inl fn)))]) sz z0)) (va_Qi (S := Unit) (fun r uQ => r = nI 0) (fun uQ tQ => atM E (va_A (wC E a mc n now lim (LF F lit fo) ++ [(o, .inl (E.2.2.2, 1, .inr (.inl fn)))]) sz) ((fun uQ => wC E a mc n now lim (LF F lit fo) ++ [(o, .inl (E.2.2.2, 1, .inr (.inl (vp_updL fn 0 (((nI (bestS F n k (F k 0 - 1)))).toInt64)))))]) uQ) tQ) (va_A (wC E a mc n now lim (LF F lit fo) ++ [(o, .inl (E.2.2.2, 1, .inr (.inl fn)))]) sz)) 0 0 (va_A (wC E a mc n now lim (LF F lit fo) ++ [(o, .inl (E.2.2.2, 1, .inr (.inl fn)))]) sz) := by
  refine metL (by decide) rfl (Nat.le_of_ble_eq_true rfl) ?_
  intro p e s m args below meth c ls A hAe hA hx hb hr hml hts hown hlocks htab hP hK hD hZ hT hS hl
  rw [hAe]
  refine lv_aload_n hx hb dL_bestShift_0 rfl (lv_at hl 2 rfl) ?_
  refine lv_iconst (v := (nI 0)) hx hb dL_bestShift_1 (by decide) ?_
  refine lv_aload_n hx hb dL_bestShift_2 rfl (lv_at hl 0 rfl) ?_
  refine lv_iload_n hx hb dL_bestShift_3 rfl (lv_at hl 1 rfl) ?_
  refine csV_i (rest := [.int (nI 0), .ref o]) (As := [.int (nI k)]) ⟨hx, hb, hml, hown, hts⟩ (c_X1_bestShift l E _ a n now lim F lit fo CV_app hO (wC_inj (va_Dl hD)) k hk) (cwV 1 hts gL_bestShift_X1_bestShift rfl rfl rfl (by decide +kernel) ⟨Nat.le_of_ble_eq_true rfl, Nat.le_of_ble_eq_true rfl⟩) (va_recv hK hP (ci := 2) (q0 := 0) rfl (list_app wC_x)) hP hK rfl hl.1 rfl (Nat.le_of_ble_eq_true rfl) dL_bestShift_4 (Nat.le_of_ble_eq_true rfl) (Nat.le_of_ble_eq_true rfl) (fun r0 hr0 => ?_)
  subst hr0
  refine lv_i2l (v := (nI (bestS F n k (F k 0 - 1))).toInt64) hx hb dL_bestShift_7 (rfl) ?_
  refine va_last hx hb hK hP hD hS (wC E a mc n now lim (LF F lit fo)).length 2 (get_last _ _) rfl (i := nI 0) (by exact vp_in_nI (by omega) (by omega)) dL_bestShift_8 (fun H locs hP hD hS => ?_)
  rw [set_last, nI_clamp (by omega)] at hP hD
  have hP : va_P E.1 vwCl (wC E a mc n now lim (LF F lit fo) ++ [(o, .inl (E.2.2.2, 1, .inr (.inl (vp_updL fn 0 ((nI (bestS F n k (F k 0 - 1))).toInt64)))))]) _ := hP
  have hD : va_D A (wC E a mc n now lim (LF F lit fo) ++ [(o, .inl (E.2.2.2, 1, .inr (.inl (vp_updL fn 0 ((nI (bestS F n k (F k 0 - 1))).toInt64)))))]) := hD
  refine lv_goto (tgt := 15) hx hb dL_bestShift_9 (by decide) ?_
  refine lv_iconst (v := (nI 0)) hx hb dL_bestShift_15 (by decide) ?_
  exact retM_i (E := E) (A0 := A) (v := (nI 0)) (post := fun r uQ => r = nI 0) (u := ()) (W1 := fun uQ => wC E a mc n now lim (LF F lit fo) ++ [(o, .inl (E.2.2.2, 1, .inr (.inl (vp_updL fn 0 (((nI (bestS F n k (F k 0 - 1)))).toInt64)))))]) hx hb hr hlocks hP hK hD hS (rfl) dL_bestShift_16

set_option maxHeartbeats 4000000 in
set_option maxRecDepth 100000 in
theorem w_L_bestShift_x (l : Launch) (hl9 : l.stackTraces = false) (E : GE) (sz z0 : Nat) (a : Nat → Nat) (mc : Int32) (n now lim : Nat) (F : LR) (lit : Nat → Bool) (fo : Nat → Nat) (hO : OkS n now lim F) (o : Nat) (fn : Nat → Int64) (x : Int32) (hx9 : lpB n x = false) : Met l yL_bestShift wsL_bestShift ({ frames := 8, cells := 1, slots := 6, locals := 138 } : Room) (va_Pc [.ref (a 0), .int x, .ref o] (pcW E (wC E a mc n now lim (LF F lit fo) ++ [(o, .inl (E.2.2.2, 1, .inr (.inl fn)))]) sz z0)) (va_Qi (S := Unit) (fun r _ => r = nI 1) (fun uQ tQ => atM E (va_A (wC E a mc n now lim (LF F lit fo) ++ [(o, .inl (E.2.2.2, 1, .inr (.inl fn)))]) sz) ((fun _ => wC E a mc n now lim (LF F lit fo) ++ [(o, .inl (E.2.2.2, 1, .inr (.inl fn)))]) uQ) tQ) (va_A (wC E a mc n now lim (LF F lit fo) ++ [(o, .inl (E.2.2.2, 1, .inr (.inl fn)))]) sz)) 1 6 (va_A (wC E a mc n now lim (LF F lit fo) ++ [(o, .inl (E.2.2.2, 1, .inr (.inl fn)))]) sz) := by
  refine metL (by decide) rfl (Nat.le_of_ble_eq_true rfl) ?_
  intro p e s m args below meth c ls A hAe hA hx hb hr hml hts hown hlocks htab hP hK hD hZ hT hS hl
  rw [hAe]
  refine lv_aload_n hx hb dL_bestShift_0 rfl (lv_at hl 2 rfl) ?_
  refine lv_iconst (v := (nI 0)) hx hb dL_bestShift_1 (by decide) ?_
  refine lv_aload_n hx hb dL_bestShift_2 rfl (lv_at hl 0 rfl) ?_
  refine lv_iload_n hx hb dL_bestShift_3 rfl (lv_at hl 1 rfl) ?_
  refine xcV (wx := []) (wy := [(o, .inl (E.2.2.2, 1, .inr (.inl fn)))]) (rest := [.int (nI 0), .ref o]) (As := [.int x]) ⟨hx, hb, hml, hown, hts⟩ (x_X1_bestShift l hl9 E _ (wC E a mc n now lim (LF F lit fo)) a n now lim F lit fo CV_self hO x hx9) (cwV 1 hts gL_bestShift_X1_bestShift rfl rfl rfl (by decide +kernel) ⟨Nat.le_of_ble_eq_true rfl, Nat.le_of_ble_eq_true rfl⟩) (va_recv hK hP (ci := 2) (q0 := 0) rfl (list_app wC_x)) rfl hP hK hD hT hS hA rfl hl.1 rfl (Nat.le_of_ble_eq_true rfl) dL_bestShift_4 ⟨Nat.le_of_ble_eq_true rfl, Nat.le_of_ble_eq_true rfl⟩ (fun ce q9 H locs hP hD hS hc1 hv1 hcl1 => ?_)
  refine vx_catch hown [] ⟨0, 9, 12, 21⟩ [] (by rw [htab]; rfl) (fun z hz => by cases hz) (by decide) (by decide) (hts (.classLink RL 21 "java/lang/IndexOutOfBoundsException") (List.mem_of_getElem? (i := 1) (by rfl))) (va_Nw.use rfl hT.2.2.2.2.2.2.2.1) hc1 hv1 hcl1 ?_
  show W _ _ _ _ _ _ _ _ _ _ _ _ _ _ _ (F0 m 12 ls [.ref q9])
  refine lv_astore_n (lv' := [(3, .ref q9), (0, .ref (a 0)), (1, .int x), (2, .ref o)]) hx hb dL_bestShift_12 rfl hl (by decide) rfl (fun ls hl => ?_)
  refine lv_iconst (v := (nI 1)) hx hb dL_bestShift_13 (by decide) ?_
  exact retM_i (E := E) (A0 := A) (v := (nI 1)) (post := fun r _ => r = nI 1) (u := ()) (W1 := fun _ => wC E a mc n now lim (LF F lit fo) ++ [(o, .inl (E.2.2.2, 1, .inr (.inl fn)))]) hx hb hr hlocks hP hK hD hS (rfl) dL_bestShift_14

set_option maxHeartbeats 4000000 in
set_option maxRecDepth 100000 in
theorem w_L_dueIn (l : Launch) (hl9 : l.stackTraces = false) (E : GE) (sz z0 : Nat) (a : Nat → Nat) (mc : Int32) (n now lim : Nat) (F : LR) (lit : Nat → Bool) (fo : Nat → Nat) (hO : OkS n now lim F) (o : Nat) (fn : Nat → Int64) (k : Nat) (hk : k < n) (j : Nat) (hj : 1 ≤ j ∧ j ≤ 100000) : Met l yL_dueIn wsL_dueIn ({ frames := 5, cells := 0, slots := 0, locals := 108 } : Room) (va_Pc [.ref (a 0), .int (nI k), .int (nI j), .ref o] (pcW E (wC E a mc n now lim (LF F lit fo) ++ [(o, .inl (E.2.2.2, 1, .inr (.inl fn)))]) sz z0)) (va_Qi (S := Unit) (fun r uQ => r = nI 0) (fun uQ tQ => atM E (va_A (wC E a mc n now lim (LF F lit fo) ++ [(o, .inl (E.2.2.2, 1, .inr (.inl fn)))]) sz) ((fun uQ => wC E a mc n now lim (LF F lit fo) ++ [(o, .inl (E.2.2.2, 1, .inr (.inl (vp_updL fn 0 (((nI (mdS F k now j))).toInt64)))))]) uQ) tQ) (va_A (wC E a mc n now lim (LF F lit fo) ++ [(o, .inl (E.2.2.2, 1, .inr (.inl fn)))]) sz)) 0 0 (va_A (wC E a mc n now lim (LF F lit fo) ++ [(o, .inl (E.2.2.2, 1, .inr (.inl fn)))]) sz) := by
  refine metL (by decide) rfl (Nat.le_of_ble_eq_true rfl) ?_
  intro p e s m args below meth c ls A hAe hA hx hb hr hml hts hown hlocks htab hP hK hD hZ hT hS hl
  rw [hAe]
  refine lv_aload_n hx hb dL_dueIn_0 rfl (lv_at hl 3 rfl) ?_
  refine lv_iconst (v := (nI 0)) hx hb dL_dueIn_1 (by decide) ?_
  refine lv_aload_n hx hb dL_dueIn_2 rfl (lv_at hl 0 rfl) ?_
  refine lv_iload_n hx hb dL_dueIn_3 rfl (lv_at hl 1 rfl) ?_
  refine lv_iload_n hx hb dL_dueIn_4 rfl (lv_at hl 2 rfl) ?_
  refine csV_i (rest := [.int (nI 0), .ref o]) (As := [.int (nI k), .int (nI j)]) ⟨hx, hb, hml, hown, hts⟩ (c_X1_dueIn l E _ a n now lim F lit fo CV_app hO k j hk hj) (cwV 2 hts gL_dueIn_X1_dueIn rfl rfl rfl (by decide +kernel) ⟨Nat.le_of_ble_eq_true rfl, Nat.le_of_ble_eq_true rfl⟩) (va_recv hK hP (ci := 2) (q0 := 0) rfl (list_app wC_x)) hP hK rfl hl.1 rfl (Nat.le_of_ble_eq_true rfl) dL_dueIn_5 (Nat.le_of_ble_eq_true rfl) (Nat.le_of_ble_eq_true rfl) (fun r0 hr0 => ?_)
  subst hr0
  refine lv_i2l (v := (nI (mdS F k now j)).toInt64) hx hb dL_dueIn_8 (rfl) ?_
  refine va_last hx hb hK hP hD hS (wC E a mc n now lim (LF F lit fo)).length 2 (get_last _ _) rfl (i := nI 0) (by exact vp_in_nI (by omega) (by omega)) dL_dueIn_9 (fun H locs hP hD hS => ?_)
  rw [set_last, nI_clamp (by omega)] at hP hD
  have hP : va_P E.1 vwCl (wC E a mc n now lim (LF F lit fo) ++ [(o, .inl (E.2.2.2, 1, .inr (.inl (vp_updL fn 0 ((nI (mdS F k now j)).toInt64)))))]) _ := hP
  have hD : va_D A (wC E a mc n now lim (LF F lit fo) ++ [(o, .inl (E.2.2.2, 1, .inr (.inl (vp_updL fn 0 ((nI (mdS F k now j)).toInt64)))))]) := hD
  refine lv_goto (tgt := 21) hx hb dL_dueIn_10 (by decide) ?_
  refine lv_iconst (v := (nI 0)) hx hb dL_dueIn_21 (by decide) ?_
  exact retM_i (E := E) (A0 := A) (v := (nI 0)) (post := fun r uQ => r = nI 0) (u := ()) (W1 := fun uQ => wC E a mc n now lim (LF F lit fo) ++ [(o, .inl (E.2.2.2, 1, .inr (.inl (vp_updL fn 0 (((nI (mdS F k now j))).toInt64)))))]) hx hb hr hlocks hP hK hD hS (rfl) dL_dueIn_22

set_option maxHeartbeats 4000000 in
set_option maxRecDepth 100000 in
theorem w_L_dueIn_x (l : Launch) (hl9 : l.stackTraces = false) (E : GE) (sz z0 : Nat) (a : Nat → Nat) (mc : Int32) (n now lim : Nat) (F : LR) (lit : Nat → Bool) (fo : Nat → Nat) (hO : OkS n now lim F) (o : Nat) (fn : Nat → Int64) (x : Int32) (hx9 : lpB n x = false) (z : Int32) : Met l yL_dueIn wsL_dueIn ({ frames := 8, cells := 1, slots := 6, locals := 135 } : Room) (va_Pc [.ref (a 0), .int x, .int z, .ref o] (pcW E (wC E a mc n now lim (LF F lit fo) ++ [(o, .inl (E.2.2.2, 1, .inr (.inl fn)))]) sz z0)) (va_Qi (S := Unit) (fun r _ => r = nI 1) (fun uQ tQ => atM E (va_A (wC E a mc n now lim (LF F lit fo) ++ [(o, .inl (E.2.2.2, 1, .inr (.inl fn)))]) sz) ((fun _ => wC E a mc n now lim (LF F lit fo) ++ [(o, .inl (E.2.2.2, 1, .inr (.inl fn)))]) uQ) tQ) (va_A (wC E a mc n now lim (LF F lit fo) ++ [(o, .inl (E.2.2.2, 1, .inr (.inl fn)))]) sz)) 1 6 (va_A (wC E a mc n now lim (LF F lit fo) ++ [(o, .inl (E.2.2.2, 1, .inr (.inl fn)))]) sz) := by
  refine metL (by decide) rfl (Nat.le_of_ble_eq_true rfl) ?_
  intro p e s m args below meth c ls A hAe hA hx hb hr hml hts hown hlocks htab hP hK hD hZ hT hS hl
  rw [hAe]
  refine lv_aload_n hx hb dL_dueIn_0 rfl (lv_at hl 3 rfl) ?_
  refine lv_iconst (v := (nI 0)) hx hb dL_dueIn_1 (by decide) ?_
  refine lv_aload_n hx hb dL_dueIn_2 rfl (lv_at hl 0 rfl) ?_
  refine lv_iload_n hx hb dL_dueIn_3 rfl (lv_at hl 1 rfl) ?_
  refine lv_iload_n hx hb dL_dueIn_4 rfl (lv_at hl 2 rfl) ?_
  refine xcV (wx := []) (wy := [(o, .inl (E.2.2.2, 1, .inr (.inl fn)))]) (rest := [.int (nI 0), .ref o]) (As := [.int x, .int z]) ⟨hx, hb, hml, hown, hts⟩ (x_X1_dueIn l hl9 E _ (wC E a mc n now lim (LF F lit fo)) a n now lim F lit fo CV_self hO x hx9 z) (cwV 2 hts gL_dueIn_X1_dueIn rfl rfl rfl (by decide +kernel) ⟨Nat.le_of_ble_eq_true rfl, Nat.le_of_ble_eq_true rfl⟩) (va_recv hK hP (ci := 2) (q0 := 0) rfl (list_app wC_x)) rfl hP hK hD hT hS hA rfl hl.1 rfl (Nat.le_of_ble_eq_true rfl) dL_dueIn_5 ⟨Nat.le_of_ble_eq_true rfl, Nat.le_of_ble_eq_true rfl⟩ (fun ce q9 H locs hP hD hS hc1 hv1 hcl1 => ?_)
  refine vx_catch hown [] ⟨0, 10, 13, 21⟩ [⟨0, 10, 17, 13⟩] (by rw [htab]; rfl) (fun z hz => by cases hz) (by decide) (by decide) (hts (.classLink RL 21 "java/lang/IndexOutOfBoundsException") (List.mem_of_getElem? (i := 1) (by rfl))) (va_Nw.use rfl hT.2.2.2.2.2.2.2.1) hc1 hv1 hcl1 ?_
  show W _ _ _ _ _ _ _ _ _ _ _ _ _ _ _ (F0 m 13 ls [.ref q9])
  refine lv_astore (lv' := [(4, .ref q9), (0, .ref (a 0)), (1, .int x), (2, .int z), (3, .ref o)]) hx hb dL_dueIn_13 hl (by decide) rfl (fun ls hl => ?_)
  refine lv_iconst (v := (nI 1)) hx hb dL_dueIn_15 (by decide) ?_
  exact retM_i (E := E) (A0 := A) (v := (nI 1)) (post := fun r _ => r = nI 1) (u := ()) (W1 := fun _ => wC E a mc n now lim (LF F lit fo) ++ [(o, .inl (E.2.2.2, 1, .inr (.inl fn)))]) hx hb hr hlocks hP hK hD hS (rfl) dL_dueIn_16

set_option maxHeartbeats 4000000 in
set_option maxRecDepth 100000 in
theorem w_L_dueIn_y (l : Launch) (hl9 : l.stackTraces = false) (E : GE) (sz z0 : Nat) (a : Nat → Nat) (mc : Int32) (n now lim : Nat) (F : LR) (lit : Nat → Bool) (fo : Nat → Nat) (hO : OkS n now lim F) (o : Nat) (fn : Nat → Int64) (k : Nat) (hk : k < n) (z : Int32) (hz9 : inB z (nI 1) (nI 100000) = false) : Met l yL_dueIn wsL_dueIn ({ frames := 8, cells := 1, slots := 6, locals := 135 } : Room) (va_Pc [.ref (a 0), .int (nI k), .int z, .ref o] (pcW E (wC E a mc n now lim (LF F lit fo) ++ [(o, .inl (E.2.2.2, 1, .inr (.inl fn)))]) sz z0)) (va_Qi (S := Unit) (fun r _ => r = nI 2) (fun uQ tQ => atM E (va_A (wC E a mc n now lim (LF F lit fo) ++ [(o, .inl (E.2.2.2, 1, .inr (.inl fn)))]) sz) ((fun _ => wC E a mc n now lim (LF F lit fo) ++ [(o, .inl (E.2.2.2, 1, .inr (.inl fn)))]) uQ) tQ) (va_A (wC E a mc n now lim (LF F lit fo) ++ [(o, .inl (E.2.2.2, 1, .inr (.inl fn)))]) sz)) 1 6 (va_A (wC E a mc n now lim (LF F lit fo) ++ [(o, .inl (E.2.2.2, 1, .inr (.inl fn)))]) sz) := by
  refine metL (by decide) rfl (Nat.le_of_ble_eq_true rfl) ?_
  intro p e s m args below meth c ls A hAe hA hx hb hr hml hts hown hlocks htab hP hK hD hZ hT hS hl
  rw [hAe]
  refine lv_aload_n hx hb dL_dueIn_0 rfl (lv_at hl 3 rfl) ?_
  refine lv_iconst (v := (nI 0)) hx hb dL_dueIn_1 (by decide) ?_
  refine lv_aload_n hx hb dL_dueIn_2 rfl (lv_at hl 0 rfl) ?_
  refine lv_iload_n hx hb dL_dueIn_3 rfl (lv_at hl 1 rfl) ?_
  refine lv_iload_n hx hb dL_dueIn_4 rfl (lv_at hl 2 rfl) ?_
  refine xcV (wx := []) (wy := [(o, .inl (E.2.2.2, 1, .inr (.inl fn)))]) (rest := [.int (nI 0), .ref o]) (As := [.int (nI k), .int z]) ⟨hx, hb, hml, hown, hts⟩ (x_X1_dueIn_y l hl9 E _ (wC E a mc n now lim (LF F lit fo)) a n now lim F lit fo CV_self hO k hk z hz9) (cwV 2 hts gL_dueIn_X1_dueIn rfl rfl rfl (by decide +kernel) ⟨Nat.le_of_ble_eq_true rfl, Nat.le_of_ble_eq_true rfl⟩) (va_recv hK hP (ci := 2) (q0 := 0) rfl (list_app wC_x)) rfl hP hK hD hT hS hA rfl hl.1 rfl (Nat.le_of_ble_eq_true rfl) dL_dueIn_5 ⟨Nat.le_of_ble_eq_true rfl, Nat.le_of_ble_eq_true rfl⟩ (fun ce q9 H locs hP hD hS hc1 hv1 hcl1 => ?_)
  refine vx_catch hown [⟨0, 10, 13, 21⟩] ⟨0, 10, 17, 13⟩ [] (by rw [htab]; rfl) (fun z hz => by rw [List.mem_singleton.mp hz]; exact Or.inr ⟨by decide, "java/lang/IndexOutOfBoundsException", (hts (.classLink RL 21 "java/lang/IndexOutOfBoundsException") (List.mem_of_getElem? (i := 1) (by rfl))), hT.2.2.2.2.2.2.2.2.2.2.1⟩) (by decide) (by decide) (hts (.classLink RL 13 "java/lang/IllegalArgumentException") (List.mem_of_getElem? (i := 2) (by rfl))) (va_Nw.use rfl hT.2.2.2.2.2.2.1) hc1 hv1 hcl1 ?_
  show W _ _ _ _ _ _ _ _ _ _ _ _ _ _ _ (F0 m 17 ls [.ref q9])
  refine lv_astore (lv' := [(4, .ref q9), (0, .ref (a 0)), (1, .int (nI k)), (2, .int z), (3, .ref o)]) hx hb dL_dueIn_17 hl (by decide) rfl (fun ls hl => ?_)
  refine lv_iconst (v := (nI 2)) hx hb dL_dueIn_19 (by decide) ?_
  exact retM_i (E := E) (A0 := A) (v := (nI 2)) (post := fun r _ => r = nI 2) (u := ()) (W1 := fun _ => wC E a mc n now lim (LF F lit fo) ++ [(o, .inl (E.2.2.2, 1, .inr (.inl fn)))]) hx hb hr hlocks hP hK hD hS (rfl) dL_dueIn_20

set_option maxHeartbeats 4000000 in
set_option maxRecDepth 100000 in
theorem w_L_brightest (l : Launch) (hl9 : l.stackTraces = false) (E : GE) (sz z0 : Nat) (a : Nat → Nat) (mc : Int32) (n now lim : Nat) (F : LR) (lit : Nat → Bool) (fo : Nat → Nat) (hO : OkS n now lim F) (o : Nat) (fn : Nat → Int64) (k : Nat) (hk : 1 ≤ k ∧ k ≤ 200) : Met l yL_brightest wsL_brightest ({ frames := 5, cells := 0, slots := 0, locals := 111 } : Room) (va_Pc [.ref (a 0), .int (nI k), .ref o] (pcW E (wC E a mc n now lim (LF F lit fo) ++ [(o, .inl (E.2.2.2, 1, .inr (.inl fn)))]) sz z0)) (va_Qi (S := Nat → Bool) (fun r uQ => r = nI 0) (fun uQ tQ => atM E (va_A (wC E a mc n now lim (LF F lit fo) ++ [(o, .inl (E.2.2.2, 1, .inr (.inl fn)))]) sz) ((fun uQ => wC E a mc n now lim (LF F uQ fo) ++ [(o, .inl (E.2.2.2, 1, .inr (.inl (vp_updL fn 0 (((nI (mxA F lim now n k))).toInt64)))))]) uQ) tQ) (va_A (wC E a mc n now lim (LF F lit fo) ++ [(o, .inl (E.2.2.2, 1, .inr (.inl fn)))]) sz)) 0 0 (va_A (wC E a mc n now lim (LF F lit fo) ++ [(o, .inl (E.2.2.2, 1, .inr (.inl fn)))]) sz) := by
  refine metL (by decide) rfl (Nat.le_of_ble_eq_true rfl) ?_
  intro p e s m args below meth c ls A hAe hA hx hb hr hml hts hown hlocks htab hP hK hD hZ hT hS hl
  rw [hAe]
  refine lv_aload_n hx hb dL_brightest_0 rfl (lv_at hl 2 rfl) ?_
  refine lv_iconst (v := (nI 0)) hx hb dL_brightest_1 (by decide) ?_
  refine lv_aload_n hx hb dL_brightest_2 rfl (lv_at hl 0 rfl) ?_
  refine lv_iload_n hx hb dL_brightest_3 rfl (lv_at hl 1 rfl) ?_
  have hP0 := hP
  have hP : va_P E.1 vwCl ([] ++ (wC E a mc n now lim (LF F lit fo) ++ [(o, .inl (E.2.2.2, 1, .inr (.inl fn)))])) _ := hP
  have hD : va_D A ([] ++ (wC E a mc n now lim (LF F lit fo) ++ [(o, .inl (E.2.2.2, 1, .inr (.inl fn)))])) := hD
  refine cmX_i (wx := []) (wy := [(o, .inl (E.2.2.2, 1, .inr (.inl fn)))]) (rest := [.int (nI 0), .ref o]) (As := [.int (nI k)]) ⟨hx, hb, hml, hown, hts⟩ (c_X1_brightest l E _ a mc n now lim F lit fo hO k hk) (cwV 1 hts gL_brightest_X1_brightest rfl rfl rfl (by decide +kernel) ⟨Nat.le_of_ble_eq_true rfl, Nat.le_of_ble_eq_true rfl⟩) (va_recv hK hP0 (ci := 2) (q0 := 0) rfl (list_app wC_x)) hP hK hD hS hA rfl hl.1 rfl (Nat.le_of_ble_eq_true rfl) dL_brightest_4 ⟨Nat.le_of_ble_eq_true rfl, Nat.le_of_ble_eq_true rfl⟩ (fun r0 u0 H locs hr0 hP hD hS => ?_)
  subst hr0
  have hP : va_P E.1 vwCl (wC E a mc n now lim (LF F u0 fo) ++ [(o, .inl (E.2.2.2, 1, .inr (.inl fn)))]) _ := hP
  have hD : va_D A (wC E a mc n now lim (LF F u0 fo) ++ [(o, .inl (E.2.2.2, 1, .inr (.inl fn)))]) := hD
  refine lv_i2l (v := (nI (mxA F lim now n k)).toInt64) hx hb dL_brightest_7 (rfl) ?_
  refine va_last hx hb hK hP hD hS (wC E a mc n now lim (LF F u0 fo)).length 2 (get_last _ _) rfl (i := nI 0) (by exact vp_in_nI (by omega) (by omega)) dL_brightest_8 (fun H locs hP hD hS => ?_)
  rw [set_last, nI_clamp (by omega)] at hP hD
  have hP : va_P E.1 vwCl (wC E a mc n now lim (LF F u0 fo) ++ [(o, .inl (E.2.2.2, 1, .inr (.inl (vp_updL fn 0 ((nI (mxA F lim now n k)).toInt64)))))]) _ := hP
  have hD : va_D A (wC E a mc n now lim (LF F u0 fo) ++ [(o, .inl (E.2.2.2, 1, .inr (.inl (vp_updL fn 0 ((nI (mxA F lim now n k)).toInt64)))))]) := hD
  refine lv_goto (tgt := 15) hx hb dL_brightest_9 (by decide) ?_
  refine lv_iconst (v := (nI 0)) hx hb dL_brightest_15 (by decide) ?_
  exact retM_i (E := E) (A0 := A) (v := (nI 0)) (post := fun r uQ => r = nI 0) (u := u0) (W1 := fun uQ => wC E a mc n now lim (LF F uQ fo) ++ [(o, .inl (E.2.2.2, 1, .inr (.inl (vp_updL fn 0 (((nI (mxA F lim now n k))).toInt64)))))]) hx hb hr hlocks hP hK hD hS (rfl) dL_brightest_16

set_option maxHeartbeats 4000000 in
set_option maxRecDepth 100000 in
theorem w_L_brightest_x (l : Launch) (hl9 : l.stackTraces = false) (E : GE) (sz z0 : Nat) (a : Nat → Nat) (mc : Int32) (n now lim : Nat) (F : LR) (lit : Nat → Bool) (fo : Nat → Nat) (hO : OkS n now lim F) (o : Nat) (fn : Nat → Int64) (x : Int32) (hx9 : inB x (nI 1) (nI 200) = false) : Met l yL_brightest wsL_brightest ({ frames := 8, cells := 1, slots := 6, locals := 135 } : Room) (va_Pc [.ref (a 0), .int x, .ref o] (pcW E (wC E a mc n now lim (LF F lit fo) ++ [(o, .inl (E.2.2.2, 1, .inr (.inl fn)))]) sz z0)) (va_Qi (S := Unit) (fun r _ => r = nI 1) (fun uQ tQ => atM E (va_A (wC E a mc n now lim (LF F lit fo) ++ [(o, .inl (E.2.2.2, 1, .inr (.inl fn)))]) sz) ((fun _ => wC E a mc n now lim (LF F lit fo) ++ [(o, .inl (E.2.2.2, 1, .inr (.inl fn)))]) uQ) tQ) (va_A (wC E a mc n now lim (LF F lit fo) ++ [(o, .inl (E.2.2.2, 1, .inr (.inl fn)))]) sz)) 1 6 (va_A (wC E a mc n now lim (LF F lit fo) ++ [(o, .inl (E.2.2.2, 1, .inr (.inl fn)))]) sz) := by
  refine metL (by decide) rfl (Nat.le_of_ble_eq_true rfl) ?_
  intro p e s m args below meth c ls A hAe hA hx hb hr hml hts hown hlocks htab hP hK hD hZ hT hS hl
  rw [hAe]
  refine lv_aload_n hx hb dL_brightest_0 rfl (lv_at hl 2 rfl) ?_
  refine lv_iconst (v := (nI 0)) hx hb dL_brightest_1 (by decide) ?_
  refine lv_aload_n hx hb dL_brightest_2 rfl (lv_at hl 0 rfl) ?_
  refine lv_iload_n hx hb dL_brightest_3 rfl (lv_at hl 1 rfl) ?_
  refine xcV (wx := []) (wy := [(o, .inl (E.2.2.2, 1, .inr (.inl fn)))]) (rest := [.int (nI 0), .ref o]) (As := [.int x]) ⟨hx, hb, hml, hown, hts⟩ (x_X1_brightest l hl9 E _ (wC E a mc n now lim (LF F lit fo)) a n now lim F lit fo CV_self hO x hx9) (cwV 1 hts gL_brightest_X1_brightest rfl rfl rfl (by decide +kernel) ⟨Nat.le_of_ble_eq_true rfl, Nat.le_of_ble_eq_true rfl⟩) (va_recv hK hP (ci := 2) (q0 := 0) rfl (list_app wC_x)) rfl hP hK hD hT hS hA rfl hl.1 rfl (Nat.le_of_ble_eq_true rfl) dL_brightest_4 ⟨Nat.le_of_ble_eq_true rfl, Nat.le_of_ble_eq_true rfl⟩ (fun ce q9 H locs hP hD hS hc1 hv1 hcl1 => ?_)
  refine vx_catch hown [] ⟨0, 9, 12, 13⟩ [] (by rw [htab]; rfl) (fun z hz => by cases hz) (by decide) (by decide) (hts (.classLink RL 13 "java/lang/IllegalArgumentException") (List.mem_of_getElem? (i := 1) (by rfl))) (va_Nw.use rfl hT.2.2.2.2.2.2.1) hc1 hv1 hcl1 ?_
  show W _ _ _ _ _ _ _ _ _ _ _ _ _ _ _ (F0 m 12 ls [.ref q9])
  refine lv_astore_n (lv' := [(3, .ref q9), (0, .ref (a 0)), (1, .int x), (2, .ref o)]) hx hb dL_brightest_12 rfl hl (by decide) rfl (fun ls hl => ?_)
  refine lv_iconst (v := (nI 1)) hx hb dL_brightest_13 (by decide) ?_
  exact retM_i (E := E) (A0 := A) (v := (nI 1)) (post := fun r _ => r = nI 1) (u := ()) (W1 := fun _ => wC E a mc n now lim (LF F lit fo) ++ [(o, .inl (E.2.2.2, 1, .inr (.inl fn)))]) hx hb hr hlocks hP hK hD hS (rfl) dL_brightest_14

set_option maxHeartbeats 4000000 in
set_option maxRecDepth 100000 in
theorem w_L_unfairnessIn (l : Launch) (hl9 : l.stackTraces = false) (E : GE) (sz z0 : Nat) (a : Nat → Nat) (mc : Int32) (n now lim : Nat) (F : LR) (lit : Nat → Bool) (fo : Nat → Nat) (hO : OkS n now lim F) (o : Nat) (fn : Nat → Int64) (k : Nat) (hk : 1 ≤ k ∧ k ≤ 200) (hnow : now + 200 ≤ 100000000) : Met l yL_unfairnessIn wsL_unfairnessIn ({ frames := 7, cells := 0, slots := 0, locals := 156 } : Room) (va_Pc [.ref (a 0), .int (nI k), .ref o] (pcW E (wC E a mc n now lim (LF F lit fo) ++ [(o, .inl (E.2.2.2, 1, .inr (.inl fn)))]) sz z0)) (va_Qi (S := (Nat → Bool) × (Nat → Nat)) (fun r uQ => r = nI 0) (fun uQ tQ => atM E (va_A (wC E a mc n now lim (LF F lit fo) ++ [(o, .inl (E.2.2.2, 1, .inr (.inl fn)))]) sz) ((fun uQ => wC E a mc n now lim (LF F uQ.1 uQ.2) ++ [(o, .inl (E.2.2.2, 1, .inr (.inl (vp_updL fn 0 (((nI (unfS (passF F lim now n k) n))).toInt64)))))]) uQ) tQ) (va_A (wC E a mc n now lim (LF F lit fo) ++ [(o, .inl (E.2.2.2, 1, .inr (.inl fn)))]) sz)) 0 0 (va_A (wC E a mc n now lim (LF F lit fo) ++ [(o, .inl (E.2.2.2, 1, .inr (.inl fn)))]) sz) := by
  refine metL (by decide) rfl (Nat.le_of_ble_eq_true rfl) ?_
  intro p e s m args below meth c ls A hAe hA hx hb hr hml hts hown hlocks htab hP hK hD hZ hT hS hl
  rw [hAe]
  refine lv_aload_n hx hb dL_unfairnessIn_0 rfl (lv_at hl 2 rfl) ?_
  refine lv_iconst (v := (nI 0)) hx hb dL_unfairnessIn_1 (by decide) ?_
  refine lv_aload_n hx hb dL_unfairnessIn_2 rfl (lv_at hl 0 rfl) ?_
  refine lv_iload_n hx hb dL_unfairnessIn_3 rfl (lv_at hl 1 rfl) ?_
  have hP0 := hP
  have hP : va_P E.1 vwCl ([] ++ (wC E a mc n now lim (LF F lit fo) ++ [(o, .inl (E.2.2.2, 1, .inr (.inl fn)))])) _ := hP
  have hD : va_D A ([] ++ (wC E a mc n now lim (LF F lit fo) ++ [(o, .inl (E.2.2.2, 1, .inr (.inl fn)))])) := hD
  refine cmX_i (wx := []) (wy := [(o, .inl (E.2.2.2, 1, .inr (.inl fn)))]) (rest := [.int (nI 0), .ref o]) (As := [.int (nI k)]) ⟨hx, hb, hml, hown, hts⟩ (c_X1_unfairnessIn l E _ a mc n now lim F lit fo hO k hk hnow) (cwV 1 hts gL_unfairnessIn_X1_unfairnessIn rfl rfl rfl (by decide +kernel) ⟨Nat.le_of_ble_eq_true rfl, Nat.le_of_ble_eq_true rfl⟩) (va_recv hK hP0 (ci := 2) (q0 := 0) rfl (list_app wC_x)) hP hK hD hS hA rfl hl.1 rfl (Nat.le_of_ble_eq_true rfl) dL_unfairnessIn_4 ⟨Nat.le_of_ble_eq_true rfl, Nat.le_of_ble_eq_true rfl⟩ (fun r0 u0 H locs hr0 hP hD hS => ?_)
  subst hr0
  have hP : va_P E.1 vwCl (wC E a mc n now lim (LF F u0.1 u0.2) ++ [(o, .inl (E.2.2.2, 1, .inr (.inl fn)))]) _ := hP
  have hD : va_D A (wC E a mc n now lim (LF F u0.1 u0.2) ++ [(o, .inl (E.2.2.2, 1, .inr (.inl fn)))]) := hD
  refine lv_i2l (v := (nI (unfS (passF F lim now n k) n)).toInt64) hx hb dL_unfairnessIn_7 (rfl) ?_
  refine va_last hx hb hK hP hD hS (wC E a mc n now lim (LF F u0.1 u0.2)).length 2 (get_last _ _) rfl (i := nI 0) (by exact vp_in_nI (by omega) (by omega)) dL_unfairnessIn_8 (fun H locs hP hD hS => ?_)
  rw [set_last, nI_clamp (by omega)] at hP hD
  have hP : va_P E.1 vwCl (wC E a mc n now lim (LF F u0.1 u0.2) ++ [(o, .inl (E.2.2.2, 1, .inr (.inl (vp_updL fn 0 ((nI (unfS (passF F lim now n k) n)).toInt64)))))]) _ := hP
  have hD : va_D A (wC E a mc n now lim (LF F u0.1 u0.2) ++ [(o, .inl (E.2.2.2, 1, .inr (.inl (vp_updL fn 0 ((nI (unfS (passF F lim now n k) n)).toInt64)))))]) := hD
  refine lv_goto (tgt := 15) hx hb dL_unfairnessIn_9 (by decide) ?_
  refine lv_iconst (v := (nI 0)) hx hb dL_unfairnessIn_15 (by decide) ?_
  exact retM_i (E := E) (A0 := A) (v := (nI 0)) (post := fun r uQ => r = nI 0) (u := u0) (W1 := fun uQ => wC E a mc n now lim (LF F uQ.1 uQ.2) ++ [(o, .inl (E.2.2.2, 1, .inr (.inl (vp_updL fn 0 (((nI (unfS (passF F lim now n k) n))).toInt64)))))]) hx hb hr hlocks hP hK hD hS (rfl) dL_unfairnessIn_16

set_option maxHeartbeats 4000000 in
set_option maxRecDepth 100000 in
theorem w_L_unfairnessIn_x (l : Launch) (hl9 : l.stackTraces = false) (E : GE) (sz z0 : Nat) (a : Nat → Nat) (mc : Int32) (n now lim : Nat) (F : LR) (lit : Nat → Bool) (fo : Nat → Nat) (hO : OkS n now lim F) (o : Nat) (fn : Nat → Int64) (x : Int32) (hx9 : inB x (nI 1) (nI 200) = false) : Met l yL_unfairnessIn wsL_unfairnessIn ({ frames := 8, cells := 1, slots := 6, locals := 156 } : Room) (va_Pc [.ref (a 0), .int x, .ref o] (pcW E (wC E a mc n now lim (LF F lit fo) ++ [(o, .inl (E.2.2.2, 1, .inr (.inl fn)))]) sz z0)) (va_Qi (S := Unit) (fun r _ => r = nI 1) (fun uQ tQ => atM E (va_A (wC E a mc n now lim (LF F lit fo) ++ [(o, .inl (E.2.2.2, 1, .inr (.inl fn)))]) sz) ((fun _ => wC E a mc n now lim (LF F lit fo) ++ [(o, .inl (E.2.2.2, 1, .inr (.inl fn)))]) uQ) tQ) (va_A (wC E a mc n now lim (LF F lit fo) ++ [(o, .inl (E.2.2.2, 1, .inr (.inl fn)))]) sz)) 1 6 (va_A (wC E a mc n now lim (LF F lit fo) ++ [(o, .inl (E.2.2.2, 1, .inr (.inl fn)))]) sz) := by
  refine metL (by decide) rfl (Nat.le_of_ble_eq_true rfl) ?_
  intro p e s m args below meth c ls A hAe hA hx hb hr hml hts hown hlocks htab hP hK hD hZ hT hS hl
  rw [hAe]
  refine lv_aload_n hx hb dL_unfairnessIn_0 rfl (lv_at hl 2 rfl) ?_
  refine lv_iconst (v := (nI 0)) hx hb dL_unfairnessIn_1 (by decide) ?_
  refine lv_aload_n hx hb dL_unfairnessIn_2 rfl (lv_at hl 0 rfl) ?_
  refine lv_iload_n hx hb dL_unfairnessIn_3 rfl (lv_at hl 1 rfl) ?_
  refine xcV (wx := []) (wy := [(o, .inl (E.2.2.2, 1, .inr (.inl fn)))]) (rest := [.int (nI 0), .ref o]) (As := [.int x]) ⟨hx, hb, hml, hown, hts⟩ (x_X1_unfairnessIn l hl9 E _ (wC E a mc n now lim (LF F lit fo)) a n now lim F lit fo CV_self hO x hx9) (cwV 1 hts gL_unfairnessIn_X1_unfairnessIn rfl rfl rfl (by decide +kernel) ⟨Nat.le_of_ble_eq_true rfl, Nat.le_of_ble_eq_true rfl⟩) (va_recv hK hP (ci := 2) (q0 := 0) rfl (list_app wC_x)) rfl hP hK hD hT hS hA rfl hl.1 rfl (Nat.le_of_ble_eq_true rfl) dL_unfairnessIn_4 ⟨Nat.le_of_ble_eq_true rfl, Nat.le_of_ble_eq_true rfl⟩ (fun ce q9 H locs hP hD hS hc1 hv1 hcl1 => ?_)
  refine vx_catch hown [] ⟨0, 9, 12, 13⟩ [] (by rw [htab]; rfl) (fun z hz => by cases hz) (by decide) (by decide) (hts (.classLink RL 13 "java/lang/IllegalArgumentException") (List.mem_of_getElem? (i := 1) (by rfl))) (va_Nw.use rfl hT.2.2.2.2.2.2.1) hc1 hv1 hcl1 ?_
  show W _ _ _ _ _ _ _ _ _ _ _ _ _ _ _ (F0 m 12 ls [.ref q9])
  refine lv_astore_n (lv' := [(3, .ref q9), (0, .ref (a 0)), (1, .int x), (2, .ref o)]) hx hb dL_unfairnessIn_12 rfl hl (by decide) rfl (fun ls hl => ?_)
  refine lv_iconst (v := (nI 1)) hx hb dL_unfairnessIn_13 (by decide) ?_
  exact retM_i (E := E) (A0 := A) (v := (nI 1)) (post := fun r _ => r = nI 1) (u := ()) (W1 := fun _ => wC E a mc n now lim (LF F lit fo) ++ [(o, .inl (E.2.2.2, 1, .inr (.inl fn)))]) hx hb hr hlocks hP hK hD hS (rfl) dL_unfairnessIn_14

set_option maxHeartbeats 4000000 in
set_option maxRecDepth 100000 in
theorem w_L_limitWanted (l : Launch) (hl9 : l.stackTraces = false) (E : GE) (sz z0 : Nat) (a : Nat → Nat) (mc : Int32) (n now lim : Nat) (F : LR) (lit : Nat → Bool) (fo : Nat → Nat) (hO : OkS n now lim F) (o : Nat) (fn : Nat → Int64) (k : Nat) (hk : 1 ≤ k ∧ k ≤ 200) : Met l yL_limitWanted wsL_limitWanted ({ frames := 5, cells := 0, slots := 0, locals := 111 } : Room) (va_Pc [.ref (a 0), .int (nI k), .ref o] (pcW E (wC E a mc n now lim (LF F lit fo) ++ [(o, .inl (E.2.2.2, 1, .inr (.inl fn)))]) sz z0)) (va_Qi (S := Unit) (fun r uQ => r = nI 0) (fun uQ tQ => atM E (va_A (wC E a mc n now lim (LF F lit fo) ++ [(o, .inl (E.2.2.2, 1, .inr (.inl fn)))]) sz) ((fun uQ => wC E a mc n now lim (LF F lit fo) ++ [(o, .inl (E.2.2.2, 1, .inr (.inl (vp_updL fn 0 (((nI (mxD F now n k))).toInt64)))))]) uQ) tQ) (va_A (wC E a mc n now lim (LF F lit fo) ++ [(o, .inl (E.2.2.2, 1, .inr (.inl fn)))]) sz)) 0 0 (va_A (wC E a mc n now lim (LF F lit fo) ++ [(o, .inl (E.2.2.2, 1, .inr (.inl fn)))]) sz) := by
  refine metL (by decide) rfl (Nat.le_of_ble_eq_true rfl) ?_
  intro p e s m args below meth c ls A hAe hA hx hb hr hml hts hown hlocks htab hP hK hD hZ hT hS hl
  rw [hAe]
  refine lv_aload_n hx hb dL_limitWanted_0 rfl (lv_at hl 2 rfl) ?_
  refine lv_iconst (v := (nI 0)) hx hb dL_limitWanted_1 (by decide) ?_
  refine lv_aload_n hx hb dL_limitWanted_2 rfl (lv_at hl 0 rfl) ?_
  refine lv_iload_n hx hb dL_limitWanted_3 rfl (lv_at hl 1 rfl) ?_
  refine csV_i (rest := [.int (nI 0), .ref o]) (As := [.int (nI k)]) ⟨hx, hb, hml, hown, hts⟩ (c_X1_limitWanted l E _ a n now lim F lit fo CV_app hO k hk) (cwV 1 hts gL_limitWanted_X1_limitWanted rfl rfl rfl (by decide +kernel) ⟨Nat.le_of_ble_eq_true rfl, Nat.le_of_ble_eq_true rfl⟩) (va_recv hK hP (ci := 2) (q0 := 0) rfl (list_app wC_x)) hP hK rfl hl.1 rfl (Nat.le_of_ble_eq_true rfl) dL_limitWanted_4 (Nat.le_of_ble_eq_true rfl) (Nat.le_of_ble_eq_true rfl) (fun r0 hr0 => ?_)
  subst hr0
  refine lv_i2l (v := (nI (mxD F now n k)).toInt64) hx hb dL_limitWanted_7 (rfl) ?_
  refine va_last hx hb hK hP hD hS (wC E a mc n now lim (LF F lit fo)).length 2 (get_last _ _) rfl (i := nI 0) (by exact vp_in_nI (by omega) (by omega)) dL_limitWanted_8 (fun H locs hP hD hS => ?_)
  rw [set_last, nI_clamp (by omega)] at hP hD
  have hP : va_P E.1 vwCl (wC E a mc n now lim (LF F lit fo) ++ [(o, .inl (E.2.2.2, 1, .inr (.inl (vp_updL fn 0 ((nI (mxD F now n k)).toInt64)))))]) _ := hP
  have hD : va_D A (wC E a mc n now lim (LF F lit fo) ++ [(o, .inl (E.2.2.2, 1, .inr (.inl (vp_updL fn 0 ((nI (mxD F now n k)).toInt64)))))]) := hD
  refine lv_goto (tgt := 15) hx hb dL_limitWanted_9 (by decide) ?_
  refine lv_iconst (v := (nI 0)) hx hb dL_limitWanted_15 (by decide) ?_
  exact retM_i (E := E) (A0 := A) (v := (nI 0)) (post := fun r uQ => r = nI 0) (u := ()) (W1 := fun uQ => wC E a mc n now lim (LF F lit fo) ++ [(o, .inl (E.2.2.2, 1, .inr (.inl (vp_updL fn 0 (((nI (mxD F now n k))).toInt64)))))]) hx hb hr hlocks hP hK hD hS (rfl) dL_limitWanted_16

set_option maxHeartbeats 4000000 in
set_option maxRecDepth 100000 in
theorem w_L_limitWanted_x (l : Launch) (hl9 : l.stackTraces = false) (E : GE) (sz z0 : Nat) (a : Nat → Nat) (mc : Int32) (n now lim : Nat) (F : LR) (lit : Nat → Bool) (fo : Nat → Nat) (hO : OkS n now lim F) (o : Nat) (fn : Nat → Int64) (x : Int32) (hx9 : inB x (nI 1) (nI 200) = false) : Met l yL_limitWanted wsL_limitWanted ({ frames := 8, cells := 1, slots := 6, locals := 135 } : Room) (va_Pc [.ref (a 0), .int x, .ref o] (pcW E (wC E a mc n now lim (LF F lit fo) ++ [(o, .inl (E.2.2.2, 1, .inr (.inl fn)))]) sz z0)) (va_Qi (S := Unit) (fun r _ => r = nI 1) (fun uQ tQ => atM E (va_A (wC E a mc n now lim (LF F lit fo) ++ [(o, .inl (E.2.2.2, 1, .inr (.inl fn)))]) sz) ((fun _ => wC E a mc n now lim (LF F lit fo) ++ [(o, .inl (E.2.2.2, 1, .inr (.inl fn)))]) uQ) tQ) (va_A (wC E a mc n now lim (LF F lit fo) ++ [(o, .inl (E.2.2.2, 1, .inr (.inl fn)))]) sz)) 1 6 (va_A (wC E a mc n now lim (LF F lit fo) ++ [(o, .inl (E.2.2.2, 1, .inr (.inl fn)))]) sz) := by
  refine metL (by decide) rfl (Nat.le_of_ble_eq_true rfl) ?_
  intro p e s m args below meth c ls A hAe hA hx hb hr hml hts hown hlocks htab hP hK hD hZ hT hS hl
  rw [hAe]
  refine lv_aload_n hx hb dL_limitWanted_0 rfl (lv_at hl 2 rfl) ?_
  refine lv_iconst (v := (nI 0)) hx hb dL_limitWanted_1 (by decide) ?_
  refine lv_aload_n hx hb dL_limitWanted_2 rfl (lv_at hl 0 rfl) ?_
  refine lv_iload_n hx hb dL_limitWanted_3 rfl (lv_at hl 1 rfl) ?_
  refine xcV (wx := []) (wy := [(o, .inl (E.2.2.2, 1, .inr (.inl fn)))]) (rest := [.int (nI 0), .ref o]) (As := [.int x]) ⟨hx, hb, hml, hown, hts⟩ (x_X1_limitWanted l hl9 E _ (wC E a mc n now lim (LF F lit fo)) a n now lim F lit fo CV_self hO x hx9) (cwV 1 hts gL_limitWanted_X1_limitWanted rfl rfl rfl (by decide +kernel) ⟨Nat.le_of_ble_eq_true rfl, Nat.le_of_ble_eq_true rfl⟩) (va_recv hK hP (ci := 2) (q0 := 0) rfl (list_app wC_x)) rfl hP hK hD hT hS hA rfl hl.1 rfl (Nat.le_of_ble_eq_true rfl) dL_limitWanted_4 ⟨Nat.le_of_ble_eq_true rfl, Nat.le_of_ble_eq_true rfl⟩ (fun ce q9 H locs hP hD hS hc1 hv1 hcl1 => ?_)
  refine vx_catch hown [] ⟨0, 9, 12, 13⟩ [] (by rw [htab]; rfl) (fun z hz => by cases hz) (by decide) (by decide) (hts (.classLink RL 13 "java/lang/IllegalArgumentException") (List.mem_of_getElem? (i := 1) (by rfl))) (va_Nw.use rfl hT.2.2.2.2.2.2.1) hc1 hv1 hcl1 ?_
  show W _ _ _ _ _ _ _ _ _ _ _ _ _ _ _ (F0 m 12 ls [.ref q9])
  refine lv_astore_n (lv' := [(3, .ref q9), (0, .ref (a 0)), (1, .int x), (2, .ref o)]) hx hb dL_limitWanted_12 rfl hl (by decide) rfl (fun ls hl => ?_)
  refine lv_iconst (v := (nI 1)) hx hb dL_limitWanted_13 (by decide) ?_
  exact retM_i (E := E) (A0 := A) (v := (nI 1)) (post := fun r _ => r = nI 1) (u := ()) (W1 := fun _ => wC E a mc n now lim (LF F lit fo) ++ [(o, .inl (E.2.2.2, 1, .inr (.inl fn)))]) hx hb hr hlocks hP hK hD hS (rfl) dL_limitWanted_14

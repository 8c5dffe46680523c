/-! THE CLAIM OUT OF ONE WALK OF THE LAW'S BODY. Your part is whole_start (and what it stands on); all else here is the same for every law, but numbers. -/
def R_law : String := "PulseLoomLaw"
def lw_P (b : Addr) (xs : List Int32) (args : Array Value) (s : State) : Prop := args = #[.ref b] ∧ s.IntsAt b xs ∧ xs.length ≤ 260 ∧ (Jvm.Cond.and given_1 narrow_1).before args s = true
/-- what a walk over the start with the record d0 says of its end, said of the start itself -/
theorem lw_closed {s t : State} {o : Outcome} {d0 : Drawn} {L : List Loc} {k n : Nat} (hd0 : s.drawn.sameBut d0 lw_cs) (hv : ∃ v, o = .returned v) (hW : (s.setDrawn d0).WarmedH t.vm) (hs : (s.setDrawn d0).sameButNew ({ t with vm := s.vm } : State) L k n) : State.butDraws s t lw_cs (fun t1 => Framed s o t1 L k n) := by
  have h2 : t.drawn = d0 := congrArg State.drawn hs.1
  refine ⟨⟨hv, hW, State.sameButNew.setDrawn hs s.drawn⟩, ?_, by decide⟩
  rw [h2]
  exact hd0
def lw_Q (_ : Array Value) (s : State) (o : Outcome) (t : State) : Prop := o = .returned (some (.int 1)) ∧ State.butDraws s t lw_cs (fun t1 => Framed s o t1 [] 1064556 5907956)
def lw_Z (below : List Frame) (a : Array Value) (s : State) : State → Prop := fun t => ∃ o, t.status = .running ∧ Ended t below o ∧ lw_Q a s o t
/-- the law's own end, with 1 on the stack, nothing written that was there before, its room as the claim has it; d0: the record of draws at this point (at the entry s.drawn: begin with 'refine W.base ?_' and 'have hd0 := Drawn.sameBut.refl s.drawn lw_cs') -/
theorem lw_ret {p : Program} {l : Launch} {e : Env} {s : State} {m : MethodId} {below : List Frame} {meth : Method} {c : Code} {b : Nat} {d0 : Drawn} (hd0 : s.drawn.sameBut d0 lw_cs) (hx : p.tables.exec = Jvm.exec) (hb : c.code = code) (hr : meth.sig.returnType = ret) (hlocks : meth.locks = false) {pc : Nat} {H : Heap} {ls : Array Slot} (hdg : decode code pc = .ok (.ireturn, 1)) : W p l e room_1 (s.setDrawn d0) m #[Value.ref b] below meth c H [] 1064556 5907956 (lw_Z below #[Value.ref b] s) (F0 m pc ls [.int 1]) := by
  intro T hT X
  obtain ⟨fs, hret, hrun, hended, hW, hframe⟩ := X.leave (v := some (.int 1)) (hlocks := hlocks) (fun h => by rw [hr] at h; cases h)
  have hmeth' : T.vm.method? m = some meth := X.method'
  refine ⟨T.setFrames fs, ?_, .returned (some (.int 1)), hrun, hended, rfl, lw_closed hd0 ⟨_, rfl⟩ hW hframe⟩
  jvm_step X.here [X.here.top, hx, hb, hdg, hmeth', hr, ret, narrow_b1]
  (try refine ⟨rfl, ?_⟩); (try refine ⟨rfl, ?_⟩)
  first | (intro acts; rw [hret _ acts rfl rfl rfl]) | rw [hret _ _ rfl rfl rfl]
  exact Steps.refl _
/-- what holds at the law's entry: the machine, the code, the tables' words (any of lw_tbl by 'hts w (by decide +kernel)'), the script of L ints xs at the cell b, what the Statement gives of the start (any of its parts by flat_of_before) -/
def lw_At (p : Program) (s : State) (m : MethodId) (meth : Method) (c : Code) (b L : Nat) (xs : Nat → Int32) : Prop :=
  p.tables.exec = Jvm.exec ∧ c.code = code ∧ meth.sig.returnType = ret ∧ c.maxLocals = 23 ∧ s.vm.findClass R_law = some m.cls ∧ (∀ w ∈ lw_tbl, w.before #[Value.ref b] s = true) ∧ va_X b L xs s s.heap ∧ b < s.heap.size ∧ meth.locks = false ∧ (Jvm.Cond.and given_1 narrow_1).before #[Value.ref b] s = true
theorem ak_i {args : Array Value} {s : State} {ty : FieldType} (h : (Cond.arrayClass ty).before args s = true) (h1 : ∀ {cA : ClassId}, s.vm.findClass ("[" ++ ty.toString) = some cA → va_RA s cA ty) : ∃ cA : ClassId, ArrOfT s cA ty ∧ va_RA s cA ty := by
  obtain ⟨cA, kA, comp, g1, h2, h3⟩ := Cond.arrayClass_spec (show (Cond.arrayClass ty).holds args s none s [] = true from h)
  exact ⟨cA, fun n z => ⟨(fun k h => by cases h), kA, h2, comp, h3⟩, h1 g1⟩
theorem ak_o {s : State} (h : va_AO "java/lang/Object" s) : ∃ cA : ClassId, ArrOfT s cA (.object "java/lang/Object") ∧ va_RA s cA (.object "java/lang/Object") := by
  obtain ⟨comp, cA, kA, h1, h2, h3, h4, h5⟩ := Cond.arrayOver_spec (show (Cond.arrayOver (.object "java/lang/Object")).holds #[] s none s [] = true from h)
  exact ⟨cA, fun n z => ⟨(fun k h => by cases h), kA, h3, comp, h4⟩, kA, comp, h3, h4, h1, h5⟩
theorem ak_a {s : State} (h : AI s) : ∃ cA : ClassId, ArrOfT s cA (.array .int) ∧ va_RA s cA (.array .int) := by
  obtain ⟨cA, kA, comp, h1, h2, h3, h4⟩ := h.use
  exact ⟨cA, fun n z => ⟨(fun k h => by cases h), kA, h2, comp, h3⟩, h4⟩
theorem eq_int {args : Array Value} {s : State} {t : Term} {z : Int32} (h : (Cond.eq t (.int z)).before args s = true) : t.eval args s none [] s = some (.int z) := by
  cases hv : t.eval args s none [] s with
  | none => simp [Cond.before, Cond.holds, Cond.value, hv] at h
  | some w =>
    have hz : (Term.int z).eval args s none [] s = some (.int z) := rfl
    simp only [Cond.before, Cond.holds, Cond.value, hv, hz] at h
    cases w <;> simp_all
/-- what the Statement gives of the start -/
theorem start_env {s : State} {b : Nat} {A : Nat → Prop} (hts0 : ∀ w ∈ lw_tbl, w.before #[Value.ref b] s = true) (hgv : (Jvm.Cond.and given_1 narrow_1).before #[Value.ref b] s = true) (hAl : ∀ a : Nat, a < s.heap.size → ¬ A a) : (∃ E : GE, va_K E.1 vwCl (tyE E) s) ∧ (∃ z0 : Nat, ZE z0 A s s.heap) ∧ NL s := by
  have hflat := flat_of_before _ hgv
  have hAI : AI s := over_moved (Vm.Alike.refl s.vm) (hts0 (Cond.arrayOver (.array .int)) (by decide +kernel))
  refine ⟨?_, ?_, ?_⟩
  · obtain ⟨c0, i0, k0⟩ := u_known (C := RJx4a65c) (T := TJx4a65c) (N := 3) (n := 3) hts0 inJx4a65c (hts0 (Cond.instantiable RJx4a65c 3) (by decide +kernel))
    obtain ⟨c1, i1, k1⟩ := u_known (C := RX0) (T := TX0) (N := 9) (n := 9) hts0 inX0 (hts0 (Cond.instantiable RX0 9) (by decide +kernel))
    obtain ⟨c2, i2, k2⟩ := u_known (C := RX1) (T := TX1) (N := 3) (n := 3) hts0 inX1 (hts0 (Cond.instantiable RX1 3) (by decide +kernel))
    obtain ⟨c3, i3, k3⟩ := u_known (C := RX2) (T := TX2) (N := 3) (n := 3) hts0 inX2 (hts0 (Cond.instantiable RX2 3) (by decide +kernel))
    obtain ⟨cI, aI1, aI2⟩ := ak_i (s := s) (hts0 (Cond.arrayClass .int) (by decide +kernel)) (fun h => h)
    obtain ⟨cO, aO1, aO2⟩ := ak_o (s := s) (va_AO.of (A := #[Value.ref b]) (hts0 (Cond.arrayOver (.object "java/lang/Object")) (by decide +kernel)))
    obtain ⟨cB, aB1, aB2⟩ := ak_i (s := s) (hts0 (Cond.arrayClass .boolean) (by decide +kernel)) (fun h => h)
    obtain ⟨cR, aR1, aR2⟩ := ak_a (s := s) hAI
    refine ⟨((fun k => if k = 0 then c0 else if k = 1 then c1 else if k = 2 then c2 else c3, fun k => if k = 0 then i0 else if k = 1 then i1 else if k = 2 then i2 else i3), cI, cO, cB, cR), fun k q hq => ?_, fun k q hq => ?_⟩
    · match k, hq with
      | 0, hq => cases hq; exact k0
      | 1, hq => cases hq; exact k1
      | 2, hq => cases hq; exact k2
      | 3, hq => cases hq; exact k3
      | k + 4, hq => simp [vwCl] at hq
    · match k, hq with
      | 0, hq => cases hq; exact ⟨aI1, aI2⟩
      | 1, hq => cases hq; exact ⟨aO1, aO2⟩
      | 2, hq => cases hq; exact ⟨aB1, aB2⟩
      | 3, hq => cases hq; exact ⟨aR1, aR2⟩
      | k + 4, hq => simp at hq
  · obtain ⟨z0, hz0, hT0⟩ := va_Tof (N := 0) (f := fun _ => .null) (A := A) (by decide) (hflat (Cond.arrayOf (.static "java/util/ArrayList" "DEFAULTCAPACITY_EMPTY_ELEMENTDATA" "[Ljava/lang/Object;") (.object "java/lang/Object")) (by decide +kernel)) (eq_int (hflat (Cond.eq (.length (.static "java/util/ArrayList" "DEFAULTCAPACITY_EMPTY_ELEMENTDATA" "[Ljava/lang/Object;")) (.int 0)) (by decide +kernel))) (fun j hj => absurd hj (by omega)) hAl
    refine ⟨z0, va_Zref (hts0 (Cond.laysStatic "java/util/ArrayList" "DEFAULTCAPACITY_EMPTY_ELEMENTDATA" "[Ljava/lang/Object;") (by decide +kernel)) (hts0 (Cond.initialized "java/util/ArrayList") (by decide +kernel)) hz0 hAl, hT0, va_AO.of (A := #[Value.ref b]) (hts0 (Cond.arrayOver (.object "java/lang/Object")) (by decide +kernel)), ?_, hAI⟩
    obtain ⟨cc0, tt0, f1, f2, f3⟩ := Cond.castable_spec (show (Cond.castable "PulseLoom$Lamp" "java/lang/Object").holds #[Value.ref b] s none s [] = true from (hts0 (Cond.castable "PulseLoom$Lamp" "java/lang/Object") (by decide +kernel)))
    exact ⟨cc0, tt0, f1, f2, f3⟩
  · exact va_Nw.of rfl (hts0 (Cond.methodLinkNest "PulseLoomLaw" 53 yX2_init "PulseLoomLaw") (by decide +kernel))
set_option maxHeartbeats 4000000 in
set_option maxRecDepth 100000 in
theorem whole_start {p : Program} {e : Env} {s : State} {m : MethodId} {below : List Frame} {meth : Method} {c : Code} (l : Launch) (hflags : l.flags = flags0) {b L : Nat} {xs : Nat → Int32} (hL : L ≤ 260) (C0 : lw_At p s m meth c b L xs) : W p l e room_1 s m #[Value.ref b] below meth c s.heap [] 0 0 (lw_Z below #[Value.ref b] s) (entryFrame m ([Value.ref b] : List Value).toArray 23) := by
  obtain ⟨hx, hb, hr, hml, hown, hts0, hX, hbl, hlocks, hgv⟩ := id C0
  have hown : s.vm.findClass RL = some m.cls := hown
  have hts : ∀ q ∈ wsL_law, q.before #[Value.ref b] s = true := fun q hq => hts0 q (wsL_law_in q hq)
  obtain ⟨A, hAd⟩ : ∃ A : Nat → Prop, A = fun q : Nat => s.heap.size ≤ q := ⟨_, rfl⟩
  have hA : ∀ q : Nat, s.heap.size ≤ q → A q := by rw [hAd]; exact fun _ h => h
  have hAl : ∀ q : Nat, q < s.heap.size → ¬ A q := by rw [hAd]; exact fun q h => Nat.not_le.mpr h
  obtain ⟨⟨E, hK⟩, ⟨z0, hZ⟩, hN⟩ := start_env hts0 hgv hAl
  have CC : LC p s m #[Value.ref b] c E A z0 b L xs := ⟨hx, hb, hml, hown, hts, hK, hZ, hA, hAl b hbl, hX, hN⟩
  have hP : va_P E.1 vwCl [] s.heap := fun k q h => by simp at h
  have hD : va_D A [] := ⟨fun i j p q h => by simp at h, fun k q h => by simp at h⟩
  have hS : va_S A s.heap s.heap [] := va_S.rf
  have hl := lv_entry ([.ref b]) (n := 23) (Nat.le_of_ble_eq_true rfl)
  rw [lg_entry_eq]
  generalize (lg_sl ([.ref b]) ++ List.replicate (23 - (lg_sl ([.ref b])).length) Slot.unset).toArray = ls at hl ⊢
  have hl : lv_has ls 23 [(0, .ref b)] := hl
  refine va_new (ci := 2) (C := RX1) (T := TX1) (N := 3) (fs := [.null, .int 0, .int 0]) hx hb hts inlX1 tyX1 tyX1_ok hown (hts (.classLink RL 26 RX1) (List.mem_of_getElem? (i := 0) (by rfl))) (hts (.instantiable RX1 3) (List.mem_of_getElem? (i := 1) (by rfl))) (hts (.initialized RX1) (List.mem_of_getElem? (i := 2) (by rfl))) hK hP hD hS hA rfl (fun j h9 => by match j, h9 with | 0, _ => rfl | 1, _ => rfl | 2, _ => rfl | j9 + 3, h9 => omega) (Nat.le_of_ble_eq_true rfl) (Nat.le_of_ble_eq_true rfl) dL_law_0 (fun q0 H hP hD hS => ?_)
  refine lv_dup hx hb dL_law_3 rfl ?_
  have hP : va_P E.1 vwCl ([] ++ ([(q0, .inr (2, [.null, .int 0, .int 0]))] ++ [])) H := hP
  have hD : va_D A ([] ++ ([(q0, .inr (2, [.null, .int 0, .int 0]))] ++ [])) := hD
  refine cmIZ_v (wx := []) (wy := []) (rest := [.ref q0]) (As := []) ⟨hx, hb, hml, hown, hts⟩ (c_X1_init l E _ q0 z0) (cwI 0 hts gL_law_X1_init rfl rfl rfl (hts (.initialized RX1) (List.mem_of_getElem? (i := 2) (by rfl))) (hts (.methodLink RL 63 yX1_init) (List.mem_of_getElem? (i := 10) (by rfl))) (hts (.instanceMethod yX1_init) (List.mem_of_getElem? (i := 11) (by rfl))) rfl (by decide +kernel) ⟨Nat.le_of_ble_eq_true rfl, Nat.le_of_ble_eq_true rfl⟩) hP hK hD hZ hS hA rfl hl.1 rfl (Nat.le_of_ble_eq_true rfl) dL_law_4 ⟨Nat.le_of_ble_eq_true rfl, Nat.le_of_ble_eq_true rfl⟩ (fun a4 H locs hr4 hP hD hS => ?_)
  obtain ⟨ha0, ha2⟩ := hr4
  rw [List.nil_append, List.append_nil] at hP hD
  refine lv_astore_n (lv' := [(1, .ref q0), (0, .ref b)]) hx hb dL_law_7 rfl hl (by decide) rfl (fun ls hl => ?_)
  have hl : lv_has ls 23 [(1, .ref (a4 0)), (0, .ref b)] := by rw [ha0]; exact hl
  refine lv_aload_n hx hb dL_law_8 rfl (lv_at hl 0 rfl) ?_
  refine lv_aload_n hx hb dL_law_9 rfl (lv_at hl 1 rfl) ?_
  refine cmSB_r (rest := []) (As := [.ref (a4 0), .ref b]) ⟨hx, hb, hml, hown, hts⟩ (c_L_build l E _ z0 b L xs hL a4 0 (fun _ => false) (fun _ => 0) ha2) (va_cwS 2 hts gL_law_L_build rfl rfl rfl (by decide +kernel) ⟨Nat.le_of_ble_eq_true rfl, Nat.le_of_ble_eq_true rfl⟩) hP hK hD hZ hX (hAl b hbl) hN hS hA rfl hl.1 rfl (Nat.le_of_ble_eq_true rfl) dL_law_10 ⟨Nat.le_of_ble_eq_true rfl, Nat.le_of_ble_eq_true rfl⟩ (fun ra u H locs hu hra hP hD hS => ?_)
  obtain ⟨g1, g2, g3, g4, g5, g6, g7⟩ := hu
  subst hra
  refine lv_astore_n (lv' := [(2, .ref (u.2.2.2.2.2.2.2.2 0)), (1, .ref (a4 0)), (0, .ref b)]) hx hb dL_law_13 rfl hl (by decide) rfl (fun ls hl => ?_)
  refine lv_aload_n hx hb dL_law_14 rfl (lv_at hl 0 rfl) ?_
  refine lv_ifnonnull (tgt := 20) hx hb dL_law_15 (by decide) ?_
  refine lv_iconst (v := (nI 0)) hx hb dL_law_20 (by decide) ?_
  refine lv_istore_n (lv' := [(3, .int (nI 0)), (2, .ref (u.2.2.2.2.2.2.2.2 0)), (1, .ref (a4 0)), (0, .ref b)]) hx hb dL_law_21 rfl hl (by decide) rfl (fun ls hl => ?_)
  refine W.widen (k := 5000 + 1001 * 0) (n := 40000 + 8008 * 0) (Nat.le_of_ble_eq_true rfl) (Nat.le_of_ble_eq_true rfl) ?_
  refine law_loop CC hL (a0 := a4 0) (b0 := u.2.2.2.2.2.2.2.2 0) ?_ 8 0 (by omega) (by omega) u H locs ls ⟨g1, g2, g4, g5, rfl⟩ hP hD hS hl
  intro u H locs ls cells slots hU hcl hsl hP hD hS hl
  obtain ⟨a1, mc1, n1, now1, lim1, F1, lit1, fo1, b1⟩ := u
  obtain ⟨hO, h2n, hnow, ha1, hb1⟩ := hU
  have hO : OkS n1 now1 lim1 F1 := hO
  have h2n : 2 ≤ n1 := h2n
  have hnow : now1 ≤ 9000 := hnow
  have ha1 : a1 0 = a4 0 := ha1
  have hl : lv_has ls 23 [(2, .ref (b1 0)), (1, .ref (a1 0))] := by rw [ha1]; rw [show b1 0 = _ from hb1]; exact hl
  have hP : va_P E.1 vwCl (wC E a1 mc1 n1 now1 lim1 (LF F1 lit1 fo1) ++ wS E b1 n1 now1 lim1 F1) H := hP
  have hD : va_D A (wC E a1 mc1 n1 now1 lim1 (LF F1 lit1 fo1) ++ wS E b1 n1 now1 lim1 F1) := hD
  refine lv_aload_n hx hb dL_law_974 rfl (lv_at hl 0 rfl) ?_
  refine lv_aload_n hx hb dL_law_975 rfl (lv_at hl 1 rfl) ?_
  refine cmV_i (S := (Nat → Bool) × (Nat → Nat)) (W1 := fun u => wC E a1 mc1 n1 now1 lim1 (LF F1 u.1 u.2) ++ wS E b1 n1 now1 lim1 F1) (rest := []) (As := [.ref (a1 0)]) ⟨hx, hb, hml, hown, hts⟩ (c_X2_isSame l E _ a1 mc1 n1 now1 lim1 F1 lit1 fo1 b1 hO (by omega) (by omega)) (cwV 1 hts gL_law_X2_isSame rfl rfl rfl (by decide +kernel) ⟨Nat.le_of_ble_eq_true rfl, Nat.le_of_ble_eq_true rfl⟩) (va_recv hK hP (ci := 3) (q0 := _) rfl SV_end.1) hP hK hD hS hA rfl hl.1 rfl (Nat.le_of_ble_eq_true rfl) dL_law_976 ⟨by show cells + 2 ≤ 1064556; omega, by show slots + 16 ≤ 5907956; omega⟩ (fun r976 u976 H locs hr976 hP hD hS => ?_)
  subst hr976
  refine nq_top (show bI true = 1 from rfl) ?_
  refine va_forget (fun q hq => by have h9 := hS.2.2 q hq; rw [hAd] at h9; exact h9) ?_
  refine W.widen (k := 1064556) (n := 5907956) (by omega) (by omega) ?_
  refine W.base ?_
  exact lw_ret (Drawn.sameBut.refl s.drawn lw_cs) hx hb hr hlocks dL_law_979

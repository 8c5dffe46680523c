/-! THE CLAIM OUT OF ONE WALK OF THE LAW'S BODY. Your part is whole_start (and what it stands on); all else here is the same for every law, but numbers. -/
def R_law : String := "PulseLoomLaw"
def lw_P (b : Addr) (xs : List Int32) (args : Array Value) (s : State) : Prop := args = #[.ref b] ∧ s.IntsAt b xs ∧ xs.length ≤ 2560 ∧ (Jvm.Cond.and given_1 narrow_1).before args s = true
/-- what a walk over the start with the record d0 says of its end, said of the start itself -/
theorem lw_closed {s t : State} {o : Outcome} {d0 : Drawn} {L : List Loc} {k n : Nat} (hd0 : s.drawn.sameBut d0 lw_cs) (hv : ∃ v, o = .returned v) (hW : (s.setDrawn d0).WarmedH t.vm) (hs : (s.setDrawn d0).sameButNew ({ t with vm := s.vm } : State) L k n) : State.butDraws s t lw_cs (fun t1 => Framed s o t1 L k n) := by
  have h2 : t.drawn = d0 := congrArg State.drawn hs.1
  refine ⟨⟨hv, hW, State.sameButNew.setDrawn hs s.drawn⟩, ?_, by decide⟩
  rw [h2]
  exact hd0
def lw_Q (_ : Array Value) (s : State) (o : Outcome) (t : State) : Prop := o = .returned (some (.int 1)) ∧ State.butDraws s t lw_cs (fun t1 => Framed s o t1 [] 601024 7293034)
def lw_Z (below : List Frame) (a : Array Value) (s : State) : State → Prop := fun t => ∃ o, t.status = .running ∧ Ended t below o ∧ lw_Q a s o t
/-- the law's own end, with 1 on the stack, nothing written that was there before, its room as the claim has it; d0: the record of draws at this point (at the entry s.drawn: begin with 'refine W.base ?_' and 'have hd0 := Drawn.sameBut.refl s.drawn lw_cs') -/
theorem lw_ret {p : Program} {l : Launch} {e : Env} {s : State} {m : MethodId} {below : List Frame} {meth : Method} {c : Code} {b : Nat} {d0 : Drawn} (hd0 : s.drawn.sameBut d0 lw_cs) (hx : p.tables.exec = Jvm.exec) (hb : c.code = code) (hr : meth.sig.returnType = ret) (hlocks : meth.locks = false) {pc : Nat} {H : Heap} {ls : Array Slot} (hdg : decode code pc = .ok (.ireturn, 1)) : W p l e room_1 (s.setDrawn d0) m #[Value.ref b] below meth c H [] 601024 7293034 (lw_Z below #[Value.ref b] s) (F0 m pc ls [.int 1]) := by
  intro T hT X
  obtain ⟨fs, hret, hrun, hended, hW, hframe⟩ := X.leave (v := some (.int 1)) (hlocks := hlocks) (fun h => by rw [hr] at h; cases h)
  have hmeth' : T.vm.method? m = some meth := X.method'
  refine ⟨T.setFrames fs, ?_, .returned (some (.int 1)), hrun, hended, rfl, lw_closed hd0 ⟨_, rfl⟩ hW hframe⟩
  jvm_step X.here [X.here.top, hx, hb, hdg, hmeth', hr, ret, narrow_b1]
  (try refine ⟨rfl, ?_⟩); (try refine ⟨rfl, ?_⟩)
  first | (intro acts; rw [hret _ acts rfl rfl rfl]) | rw [hret _ _ rfl rfl rfl]
  exact Steps.refl _
/-- what holds at the law's entry: the machine, the code, the tables' words (any of lw_tbl by 'hts w (by decide +kernel)'), the script of L ints xs at the cell b, what the Statement gives of the start (any of its parts by flat_of_before) -/
def lw_At (p : Program) (s : State) (m : MethodId) (meth : Method) (c : Code) (b L : Nat) (xs : Nat → Int32) : Prop :=
  p.tables.exec = Jvm.exec ∧ c.code = code ∧ meth.sig.returnType = ret ∧ c.maxLocals = 9 ∧ s.vm.findClass R_law = some m.cls ∧ (∀ w ∈ lw_tbl, w.before #[Value.ref b] s = true) ∧ va_X b L xs s s.heap ∧ b < s.heap.size ∧ meth.locks = false ∧ (Jvm.Cond.and given_1 narrow_1).before #[Value.ref b] s = true
theorem ak_i {args : Array Value} {s : State} (h : (Cond.arrayClass .int).before args s = true) : ∃ cA : ClassId, ArrOfT s cA .int ∧ va_RA s cA .int := by
  obtain ⟨cA, kA, comp, h1, h2, h3⟩ := Cond.arrayClass_spec (show (Cond.arrayClass .int).holds args s none s [] = true from h)
  exact ⟨cA, fun n z => ⟨(fun k h => by cases h), kA, h2, comp, h3⟩, h1⟩
theorem ak_l {args : Array Value} {s : State} (h : (Cond.arrayClass .long).before args s = true) : ∃ cA : ClassId, ArrOfT s cA .long ∧ va_RA s cA .long := by
  obtain ⟨cA, kA, comp, h1, h2, h3⟩ := Cond.arrayClass_spec (show (Cond.arrayClass .long).holds args s none s [] = true from h)
  exact ⟨cA, fun n z => ⟨(fun k h => by cases h), kA, h2, comp, h3⟩, h1⟩
theorem ak_o {s : State} (h : va_AO "java/lang/Object" s) : ∃ cA : ClassId, ArrOfT s cA (.object "java/lang/Object") ∧ va_RA s cA (.object "java/lang/Object") := by
  obtain ⟨comp, cA, kA, h1, h2, h3, h4, h5⟩ := Cond.arrayOver_spec (show (Cond.arrayOver (.object "java/lang/Object")).holds #[] s none s [] = true from h)
  exact ⟨cA, fun n z => ⟨(fun k h => by cases h), kA, h3, comp, h4⟩, kA, comp, h3, h4, h1, h5⟩
theorem eq_int {args : Array Value} {s : State} {t : Term} {z : Int32} (h : (Cond.eq t (.int z)).before args s = true) : t.eval args s none [] s = some (.int z) := by
  cases hv : t.eval args s none [] s with
  | none => simp [Cond.before, Cond.holds, Cond.value, hv] at h
  | some w =>
    have hz : (Term.int z).eval args s none [] s = some (.int z) := rfl
    simp only [Cond.before, Cond.holds, Cond.value, hv, hz] at h
    cases w <;> simp_all
section NL
variable {p : Program} {l : Launch} {e : Env} {R : Room} {s : State} {m : MethodId} {args : Array Value} {below : List Frame} {meth : Method} {c : Code} {H : Heap} {locs : List Loc} {cells slots : Nat} {Q : State → Prop}
variable {cc : ByteArray} {pc : Nat} {ls : Array Slot} {rest : List Value} {E : GE} {w : va_W} {A0 : Nat → Prop}
theorem nq_newl {atype : ArrayType} (hx : p.tables.exec = Jvm.exec) (hb : c.code = cc) (harr : (Cond.arrayClass (newarray.typeOf atype)).before args s = true) (hty : newarray.typeOf atype = .long) (hK : va_K E.1 vwCl (tyE E) s) (hP : va_P E.1 vwCl w H) (hD : va_D A0 w) (hS : va_S A0 s.heap H locs) (hA : ∀ q, s.heap.size ≤ q → A0 q)
    {N : Nat} (hN : N ≤ 1000) (hc : cells + 1 ≤ R.cells) (hs : slots + N ≤ R.slots) (hdg : decode cc pc = .ok (.newarray atype, 2))
    (kk : ∀ (q : Nat) (H1 : Heap), va_P E.1 vwCl (w ++ [(q, .inl (E.2.2.2, N, .inr (.inl (fun _ => 0))))]) H1 → va_D A0 (w ++ [(q, .inl (E.2.2.2, N, .inr (.inl (fun _ => 0))))]) → va_S A0 s.heap H1 locs → W p l e R s m args below meth c H1 locs (cells + 1) (slots + N) Q (F0 m (pc + 2) ls (.ref q :: rest))) : W p l e R s m args below meth c H locs cells slots Q (F0 m pc ls (.int (nI N) :: rest)) := by
  refine va_newa (ty := .long) (a0 := (N, .inr (.inl (fun _ => 0)))) hx hb harr hty hK hP hD hS hA (fun cA => by rw [vp_cell_l]; rfl) (by rw [Int32.lt_iff_toInt_lt, nI_toInt (by omega)]; show ¬ ((N : Int) < 0); omega) (nI_clamp (by omega)) (by show N * 8 ≤ 536870912; omega) hc hs hdg (fun q cA H1 hK1 hP1 hD1 hS1 => ?_)
  have e : cA = E.2.2.2 := by
    have h1 : va_RA s cA .long := (hK1.2 (tyE E).length (cA, .long) (by simp)).2
    have h2 : va_RA s E.2.2.2 .long := (hK.2 2 _ rfl).2
    exact Option.some.inj (h1.symm.trans h2)
  subst e
  exact kk q H1 hP1 hD1 hS1
end NL
/-- what the Statement gives of the start -/
theorem start_env {s : State} {b : Nat} {A : Nat → Prop} (hts0 : ∀ w ∈ lw_tbl, w.before #[Value.ref b] s = true) (hgv : (Jvm.Cond.and given_1 narrow_1).before #[Value.ref b] s = true) (hAl : ∀ a : Nat, a < s.heap.size → ¬ A a) : (∃ E : GE, va_K E.1 vwCl (tyE E) s) ∧ (∃ z0 : Nat, ZE z0 A s s.heap) ∧ TE A s s.heap := by
  have hflat := flat_of_before _ hgv
  refine ⟨?_, ?_, ?_⟩
  · obtain ⟨c0, i0, k0⟩ := u_known (C := RJx4a65c) (T := TJx4a65c) (N := 3) (n := 3) hts0 inJx4a65c (hts0 (Cond.instantiable RJx4a65c 3) (by decide +kernel))
    obtain ⟨c1, i1, k1⟩ := u_known (C := RX0) (T := TX0) (N := 9) (n := 9) hts0 inX0 (hts0 (Cond.instantiable RX0 9) (by decide +kernel))
    obtain ⟨c2, i2, k2⟩ := u_known (C := RX1) (T := TX1) (N := 3) (n := 3) hts0 inX1 (hts0 (Cond.instantiable RX1 3) (by decide +kernel))
    obtain ⟨c3, i3, k3⟩ := u_known (C := RX2) (T := TX2) (N := 10) (n := 10) hts0 inX2 (hts0 (Cond.instantiable RX2 10) (by decide +kernel))
    obtain ⟨cI, aI1, aI2⟩ := ak_i (s := s) (hts0 (Cond.arrayClass .int) (by decide +kernel))
    obtain ⟨cO, aO1, aO2⟩ := ak_o (s := s) (va_AO.of (A := #[Value.ref b]) (hts0 (Cond.arrayOver (.object "java/lang/Object")) (by decide +kernel)))
    obtain ⟨cL, aL1, aL2⟩ := ak_l (s := s) (hts0 (Cond.arrayClass .long) (by decide +kernel))
    refine ⟨((fun k => if k = 0 then c0 else if k = 1 then c1 else if k = 2 then c2 else c3, fun k => if k = 0 then i0 else if k = 1 then i1 else if k = 2 then i2 else i3), cI, cO, cL), fun k q hq => ?_, fun k q hq => ?_⟩
    · match k, hq with
      | 0, hq => cases hq; exact k0
      | 1, hq => cases hq; exact k1
      | 2, hq => cases hq; exact k2
      | 3, hq => cases hq; exact k3
      | k + 4, hq => simp [vwCl] at hq
    · match k, hq with
      | 0, hq => cases hq; exact ⟨aI1, aI2⟩
      | 1, hq => cases hq; exact ⟨aO1, aO2⟩
      | 2, hq => cases hq; exact ⟨aL1, aL2⟩
      | k + 3, hq => simp at hq
  · obtain ⟨z0, hz0, hT0⟩ := va_Tof (N := 0) (f := fun _ => .null) (A := A) (by decide) (hflat (Cond.arrayOf (.static "java/util/ArrayList" "DEFAULTCAPACITY_EMPTY_ELEMENTDATA" "[Ljava/lang/Object;") (.object "java/lang/Object")) (by decide +kernel)) (eq_int (hflat (Cond.eq (.length (.static "java/util/ArrayList" "DEFAULTCAPACITY_EMPTY_ELEMENTDATA" "[Ljava/lang/Object;")) (.int 0)) (by decide +kernel))) (fun j hj => absurd hj (by omega)) hAl
    refine ⟨z0, va_Zref (hts0 (Cond.laysStatic "java/util/ArrayList" "DEFAULTCAPACITY_EMPTY_ELEMENTDATA" "[Ljava/lang/Object;") (by decide +kernel)) (hts0 (Cond.initialized "java/util/ArrayList") (by decide +kernel)) hz0 hAl, hT0, va_AO.of (A := #[Value.ref b]) (hts0 (Cond.arrayOver (.object "java/lang/Object")) (by decide +kernel)), ?_⟩
    obtain ⟨cc0, tt0, f1, f2, f3⟩ := Cond.castable_spec (show (Cond.castable "PulseLoom$Lamp" "java/lang/Object").holds #[Value.ref b] s none s [] = true from (hts0 (Cond.castable "PulseLoom$Lamp" "java/lang/Object") (by decide +kernel)))
    exact ⟨cc0, tt0, f1, f2, f3⟩
  · have hU : vx_Zq Bundle.tN "UNASSIGNED_STACK" Bundle.steD A s s.heap := vx_Zqof (args := #[Value.ref b]) (hts0 (Cond.laysStatic Bundle.tN "UNASSIGNED_STACK" Bundle.steD) (by decide +kernel)) (hts0 (Cond.initialized Bundle.tN) (by decide +kernel)) (hflat (Cond.isRef (.static Bundle.tN "UNASSIGNED_STACK" Bundle.steD)) (by decide +kernel)) hAl
    have hN : vx_Zq Bundle.tN "SUPPRESSED_SENTINEL" Bundle.listD A s s.heap := vx_Zqof (args := #[Value.ref b]) (hts0 (Cond.laysStatic Bundle.tN "SUPPRESSED_SENTINEL" Bundle.listD) (by decide +kernel)) (hts0 (Cond.initialized Bundle.tN) (by decide +kernel)) (hflat (Cond.isRef (.static Bundle.tN "SUPPRESSED_SENTINEL" Bundle.listD)) (by decide +kernel)) hAl
    have hs177 : ∃ sa, vk_R RX1 177 "a number is outside what is allowed" sa s := by
      obtain ⟨sa, cX, cellX, kX, hX9, -⟩ := Cond.exactly_spec (show (Cond.exactly (.string "PulseLoom" 177) "java/lang/String").holds #[Value.ref b] s none s [] = true from (hflat (Cond.exactly (.string "PulseLoom" 177) "java/lang/String") (by decide +kernel)))
      exact ⟨sa, vk_R.of (A := #[Value.ref b]) (hts0 (Cond.stringRef "PulseLoom" 177 "a number is outside what is allowed") (by decide +kernel)) hX9⟩
    have hs181 : ∃ sa, vk_R RX1 181 "there is no such lamp" sa s := by
      obtain ⟨sa, cX, cellX, kX, hX9, -⟩ := Cond.exactly_spec (show (Cond.exactly (.string "PulseLoom" 181) "java/lang/String").holds #[Value.ref b] s none s [] = true from (hflat (Cond.exactly (.string "PulseLoom" 181) "java/lang/String") (by decide +kernel)))
      exact ⟨sa, vk_R.of (A := #[Value.ref b]) (hts0 (Cond.stringRef "PulseLoom" 181 "there is no such lamp") (by decide +kernel)) hX9⟩
    have hs62 : ∃ sa, vk_R RX1 62 "both lamps are the same" sa s := by
      obtain ⟨sa, cX, cellX, kX, hX9, -⟩ := Cond.exactly_spec (show (Cond.exactly (.string "PulseLoom" 62) "java/lang/String").holds #[Value.ref b] s none s [] = true from (hflat (Cond.exactly (.string "PulseLoom" 62) "java/lang/String") (by decide +kernel)))
      exact ⟨sa, vk_R.of (A := #[Value.ref b]) (hts0 (Cond.stringRef "PulseLoom" 62 "both lamps are the same") (by decide +kernel)) hX9⟩
    have hs33 : ∃ sa, vk_R RX1 33 "there are 8 lamps" sa s := by
      obtain ⟨sa, cX, cellX, kX, hX9, -⟩ := Cond.exactly_spec (show (Cond.exactly (.string "PulseLoom" 33) "java/lang/String").holds #[Value.ref b] s none s [] = true from (hflat (Cond.exactly (.string "PulseLoom" 33) "java/lang/String") (by decide +kernel)))
      exact ⟨sa, vk_R.of (A := #[Value.ref b]) (hts0 (Cond.stringRef "PulseLoom" 33 "there are 8 lamps") (by decide +kernel)) hX9⟩
    exact ⟨hU, hN, hs177, hs181, hs62, hs33, va_Nw.of rfl (hts0 (Cond.castable "java/lang/IllegalArgumentException" "java/lang/IllegalArgumentException") (by decide +kernel)), va_Nw.of rfl (hts0 (Cond.castable "java/lang/IndexOutOfBoundsException" "java/lang/IndexOutOfBoundsException") (by decide +kernel)), va_Nw.of rfl (hts0 (Cond.castable "java/lang/IllegalStateException" "java/lang/IllegalStateException") (by decide +kernel)), va_Nc.of (hflat (Cond.not (.castable "java/lang/IllegalStateException" "java/lang/IllegalArgumentException")) (by decide +kernel)), va_Nc.of (hflat (Cond.not (.castable "java/lang/IllegalArgumentException" "java/lang/IndexOutOfBoundsException")) (by decide +kernel)), va_Nw.of rfl (hts0 (Cond.declares (Bundle.initS "java/lang/RuntimeException")) (by decide +kernel)), va_Nw.of rfl (hts0 (Cond.declares (Bundle.initS "java/lang/Exception")) (by decide +kernel)), va_Nw.of rfl (hts0 (Cond.declares (Bundle.initS Bundle.tN)) (by decide +kernel))⟩
set_option maxHeartbeats 4000000 in
set_option maxRecDepth 100000 in
theorem whole_start {p : Program} {e : Env} {s : State} {m : MethodId} {below : List Frame} {meth : Method} {c : Code} (l : Launch) (hflags : l.flags = flags0) {b L : Nat} {xs : Nat → Int32} (hL : L ≤ 2560) (C0 : lw_At p s m meth c b L xs) : W p l e room_1 s m #[Value.ref b] below meth c s.heap [] 0 0 (lw_Z below #[Value.ref b] s) (entryFrame m ([Value.ref b] : List Value).toArray 9) := by
  obtain ⟨hx, hb, hr, hml, hown, hts0, hX, hbl, hlocks, hgv⟩ := id C0
  have hown : s.vm.findClass RL = some m.cls := hown
  have hts : ∀ q ∈ wsL_law, q.before #[Value.ref b] s = true := fun q hq => hts0 q (wsL_law_in q hq)
  have hl9 : l.stackTraces = false := by unfold Launch.stackTraces; rw [hflags]; decide
  obtain ⟨A, hAd⟩ : ∃ A : Nat → Prop, A = fun q : Nat => s.heap.size ≤ q := ⟨_, rfl⟩
  have hA : ∀ q : Nat, s.heap.size ≤ q → A q := by rw [hAd]; exact fun _ h => h
  have hAl : ∀ q : Nat, q < s.heap.size → ¬ A q := by rw [hAd]; exact fun q h => Nat.not_le.mpr h
  obtain ⟨⟨E, hK⟩, ⟨z0, hZ⟩, hT⟩ := start_env hts0 hgv hAl
  have CC : LC p l s m b c E A z0 L xs := ⟨hx, hb, hml, hown, hts, hK, hZ, hT, hA, hAl b hbl, hX, hbl, hl9⟩
  have hP : va_P E.1 vwCl [] s.heap := fun k q h => by simp at h
  have hD : va_D A [] := ⟨fun i j p q h => by simp at h, fun k q h => by simp at h⟩
  have hS : va_S A s.heap s.heap [] := va_S.rf
  have hl := lv_entry ([.ref b]) (n := 9) (Nat.le_of_ble_eq_true rfl)
  rw [lg_entry_eq]
  generalize (lg_sl ([.ref b]) ++ List.replicate (9 - (lg_sl ([.ref b])).length) Slot.unset).toArray = ls at hl ⊢
  have hl : lv_has ls 9 [(0, .ref b)] := hl
  refine va_new (ci := 2) (C := RX1) (T := TX1) (N := 3) (fs := [.null, .int 0, .int 0]) hx hb hts inlX1 tyX1 tyX1_ok hown (hts (.classLink RL 8 RX1) (List.mem_of_getElem? (i := 0) (by rfl))) (hts (.instantiable RX1 3) (List.mem_of_getElem? (i := 1) (by rfl))) (hts (.initialized RX1) (List.mem_of_getElem? (i := 2) (by rfl))) hK hP hD hS hA rfl (fun j h9 => by match j, h9 with | 0, _ => rfl | 1, _ => rfl | 2, _ => rfl | j9 + 3, h9 => omega) (Nat.le_of_ble_eq_true rfl) (Nat.le_of_ble_eq_true rfl) dL_law_0 (fun q0 H hP hD hS => ?_)
  refine lv_dup hx hb dL_law_3 rfl ?_
  have hP : va_P E.1 vwCl ([] ++ ([(q0, .inr (2, [.null, .int 0, .int 0]))] ++ [])) H := hP
  have hD : va_D A ([] ++ ([(q0, .inr (2, [.null, .int 0, .int 0]))] ++ [])) := hD
  refine cmIZ_v (wx := []) (wy := []) (rest := [.ref q0]) (As := []) ⟨hx, hb, hml, hown, hts⟩ (c_X1_init l E _ q0 z0) (cwI 0 hts gL_law_X1_init rfl rfl rfl (hts (.initialized RX1) (List.mem_of_getElem? (i := 2) (by rfl))) (hts (.methodLink RL 89 yX1_init) (List.mem_of_getElem? (i := 7) (by rfl))) (hts (.instanceMethod yX1_init) (List.mem_of_getElem? (i := 8) (by rfl))) rfl (by decide +kernel) ⟨Nat.le_of_ble_eq_true rfl, Nat.le_of_ble_eq_true rfl⟩) hP hK hD hZ hS hA rfl hl.1 rfl (Nat.le_of_ble_eq_true rfl) dL_law_4 ⟨Nat.le_of_ble_eq_true rfl, Nat.le_of_ble_eq_true rfl⟩ (fun a4 H locs hr4 hP hD hS => ?_)
  obtain ⟨ha0, ha2⟩ := hr4
  rw [List.nil_append, List.append_nil] at hP hD
  refine lv_astore_n (lv' := [(1, .ref q0), (0, .ref b)]) hx hb dL_law_7 rfl hl (by decide) rfl (fun ls hl => ?_)
  refine va_new (ci := 3) (C := RX2) (T := TX2) (N := 10) (fs := [.int 0, .int 0, .int 0, .null, .null, .null, .null, .null, .null, .null]) hx hb hts inlX2 tyX2 tyX2_ok hown (hts (.classLink RL 90 RX2) (List.mem_of_getElem? (i := 3) (by rfl))) (hts (.instantiable RX2 10) (List.mem_of_getElem? (i := 4) (by rfl))) (hts (.initialized RX2) (List.mem_of_getElem? (i := 5) (by rfl))) hK hP hD hS hA rfl (fun j h9 => by match j, h9 with | 0, _ => rfl | 1, _ => rfl | 2, _ => rfl | 3, _ => rfl | 4, _ => rfl | 5, _ => rfl | 6, _ => rfl | 7, _ => rfl | 8, _ => rfl | 9, _ => rfl | j9 + 10, h9 => omega) (Nat.le_of_ble_eq_true rfl) (Nat.le_of_ble_eq_true rfl) dL_law_8 (fun q8 H hP hD hS => ?_)
  refine lv_dup hx hb dL_law_11 rfl ?_
  have hP : va_P E.1 vwCl (C00 E a4 ++ ([(q8, .inr (3, [.int 0, .int 0, .int 0, .null, .null, .null, .null, .null, .null, .null]))] ++ [])) H := hP
  have hD : va_D A (C00 E a4 ++ ([(q8, .inr (3, [.int 0, .int 0, .int 0, .null, .null, .null, .null, .null, .null, .null]))] ++ [])) := hD
  refine cmI_v (wx := C00 E a4) (wy := []) (rest := [.ref q8]) (As := []) ⟨hx, hb, hml, hown, hts⟩ (c_X2_init l E _ q8) (cwI 0 hts gL_law_X2_init rfl rfl rfl (hts (.initialized RX2) (List.mem_of_getElem? (i := 5) (by rfl))) (hts (.methodLink RL 92 yX2_init) (List.mem_of_getElem? (i := 34) (by rfl))) (hts (.instanceMethod yX2_init) (List.mem_of_getElem? (i := 35) (by rfl))) rfl (by decide +kernel) ⟨Nat.le_of_ble_eq_true rfl, Nat.le_of_ble_eq_true rfl⟩) hP hK hD hS hA rfl hl.1 rfl (Nat.le_of_ble_eq_true rfl) dL_law_12 ⟨Nat.le_of_ble_eq_true rfl, Nat.le_of_ble_eq_true rfl⟩ (fun b12 H locs hr12 hP hD hS => ?_)
  rw [List.append_nil] at hP hD
  refine lv_astore_n (lv' := [(2, .ref q8), (1, .ref q0), (0, .ref b)]) hx hb dL_law_15 rfl hl (by decide) rfl (fun ls hl => ?_)
  refine lv_iconst (v := (nI 1)) hx hb dL_law_16 (by decide) ?_
  refine nq_newl (atype := .long) (N := 1) hx hb (hts (.arrayClass .long) (List.mem_of_getElem? (i := 6) (by rfl))) rfl hK hP hD hS hA (by decide) (Nat.le_of_ble_eq_true rfl) (Nat.le_of_ble_eq_true rfl) dL_law_17 (fun q17 H hP hD hS => ?_)
  have hP := hP.sub (ws' := wG E (wC E a4 0 0 0 20 (LF F00 (fun _ => false) (fun _ => 0))) q17 (fun _ => 0) (wM E b12 (nI 0) 0 20 F00 (NW 0 F00) (fun _ => 0))) [0, 1, 10, 2, 3, 4, 5, 6, 7, 8, 9] rfl
  have hD := hD.sub (ws' := wG E (wC E a4 0 0 0 20 (LF F00 (fun _ => false) (fun _ => 0))) q17 (fun _ => 0) (wM E b12 (nI 0) 0 20 F00 (NW 0 F00) (fun _ => 0))) [0, 1, 10, 2, 3, 4, 5, 6, 7, 8, 9] (by decide) rfl
  refine lv_astore_n (lv' := [(3, .ref q17), (2, .ref q8), (1, .ref q0), (0, .ref b)]) hx hb dL_law_19 rfl hl (by decide) rfl (fun ls hl => ?_)
  refine lv_iconst (v := (nI 0)) hx hb dL_law_20 (by decide) ?_
  refine lv_istore (lv' := [(4, .int (nI 0)), (3, .ref q17), (2, .ref q8), (1, .ref q0), (0, .ref b)]) hx hb dL_law_21 hl (by decide) rfl (fun ls hl => ?_)
  refine law_loop CC hL (o := q17) ?_ 513 0 (by omega) (by omega) a4 0 0 0 20 F00 (fun _ => false) (fun _ => 0) (fun _ => 0) b12 (nI 0) (fun _ => 0) H locs ls _ _ ⟨okS_0, by omega, fun _ => ha2, by omega, by omega, hP, hD, hS, by rw [ha0, hr12]; exact lv_sub hl [4, 3, 2, 1, 0] rfl⟩
  intro j hj a mc n now lim F lit fo fn bb th kp H locs ls cells slots hst
  obtain ⟨hO, hnw, hz, hcl, hsl, hP, hD, hS, hl⟩ := hst
  refine lv_iconst (v := (nI 1)) hx hb dL_law_1769 (by decide) ?_
  refine nq_top (show nI 1 = 1 from rfl) ?_
  refine va_forget (fun q hq => by have h9 := hS.2.2 q hq; rw [hAd] at h9; exact h9) ?_
  refine W.widen (k := 601024) (n := 7293034) (by omega) (by omega) ?_
  refine W.base ?_
  exact lw_ret (Drawn.sameBut.refl s.drawn lw_cs) hx hb hr hlocks dL_law_1770

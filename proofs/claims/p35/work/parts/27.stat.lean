/-! methods that read the empty row that all new lists share -/
def AI (U : State) : Prop := (Cond.arrayOver (.array .int)).before #[] U = true
theorem AI.moved {u U : State} (hvm : u.vm.Alike U.vm) (h : AI u) : AI U := over_moved hvm h
theorem AI.any {U : State} {B : Array Value} (h : AI U) : (Cond.arrayOver (.array .int)).before B U = true := over_moved (Vm.Alike.refl U.vm) h
def AL (U : State) : Prop := (∃ c0 t0 : ClassId, U.vm.findClass RX0 = some c0 ∧ U.vm.findClass "java/lang/Object" = some t0 ∧ U.vm.assignable c0 t0 = true) ∧ AI U
theorem AL.moved {u U : State} (hvm : u.vm.Alike U.vm) (h : AL u) : AL U := by
  obtain ⟨⟨c0, t0, h1, h2, h3⟩, h4⟩ := h
  exact ⟨⟨c0, t0, by rw [hvm.findClass]; exact h1, by rw [hvm.findClass]; exact h2, by rw [hvm.assignable]; exact h3⟩, h4.moved hvm⟩
theorem al_k {vm : Vm} {i j : ClassId} (h : vm.assignable i j = true) (hc : ∃ k, vm.classes[i]? = some k) : ∃ k, vm.classes[j]? = some k := by
  unfold Vm.assignable Vm.assignableAux at h
  cases ht : vm.classes[j]? with
  | some k => exact ⟨k, rfl⟩
  | none =>
    obtain ⟨k, hk⟩ := hc
    rw [hk, ht] at h
    simp at h
    subst h
    rw [hk] at ht
    cases ht
def ZE (z0 : Nat) (A : Nat → Prop) (U : State) (H : Heap) : Prop := va_Z RJx4a65c "DEFAULTCAPACITY_EMPTY_ELEMENTDATA" "[Ljava/lang/Object;" (.ref z0) A U H ∧ va_T (.object "java/lang/Object") z0 0 (fun _ => .null) A U H ∧ va_AO "java/lang/Object" U ∧ AL U
def pcZ (E : GE) (w : va_W) (sz z0 : Nat) : State → Prop := fun U => pcM E w sz U ∧ ZE z0 (va_A w sz) U U.heap
theorem fb_Z {av : List Value} {E : GE} {w : va_W} {sz z0 : Nat} : FrameBlind (va_Pc av (pcZ E w sz z0)) := fun a U g mk q => ⟨q.1, (fb_M (E := E) (w := w) (sz := sz) (av := av) a U g mk ⟨q.1, q.2.1⟩).2, va_Z.moved (u := U) (U := U.calling g mk a) (Vm.Alike.refl U.vm) q.2.2.1, va_T.moved (u := U) (U := U.calling g mk a) (Vm.Alike.refl U.vm) q.2.2.2.1, q.2.2.2.2.1.moved (U := U.calling g mk a) (Vm.Alike.refl U.vm), q.2.2.2.2.2.moved (U := U.calling g mk a) (Vm.Alike.refl U.vm)⟩
section MZ
variable {l : Launch} {y : MethodName} {ws ws' : List Cond} {rm : Room} {av : List Value} {E : GE} {w : va_W} {cc : ByteArray} {maxL : Nat} {ret : Option FieldType}
theorem metZ {Qc : Array Value → State → Outcome → State → Prop} {sz mc ms z0 : Nat} (hy : plainName y.cls = true) (hw : ws = Cond.code y cc maxL ret :: ws') (hn : (lg_sl av).length ≤ maxL)
    (body : ∀ (p : Program) (e : Env) (s : State) (m : MethodId) (args : Array Value) (below : List Frame) (meth : Method) (c : Code) (ls : Array Slot) (A : Nat → Prop), va_A w sz = A → (∀ q : Nat, s.heap.size ≤ q → A q) → p.tables.exec = Jvm.exec → c.code = cc → meth.sig.returnType = ret → c.maxLocals = maxL → (∀ q ∈ ws, q.before args s = true) → s.vm.findClass y.cls = some m.cls → meth.locks = false → (meth.name = y.name) → va_P E.1 vwCl w s.heap → va_K E.1 vwCl (tyE E) s → va_D A w → ZE z0 A s s.heap → va_S A s.heap s.heap [] → lv_has ls maxL (lv_args 0 av) →
      W p l e rm s m args below meth c s.heap [] 0 0 (MQ below Qc args s mc ms A) (F0 m 0 ls [])) : Met l y ws rm (va_Pc av (pcZ E w sz z0)) Qc mc ms (va_A w sz) := by
  refine Met.ofW (cc := cc) (maxL := maxL) (ret := ret) hy hw ?_
  intro p e s m args below meth c s₁ B hml hv
  obtain ⟨rfl, ⟨hsz, hP, hK, hD⟩, hZ⟩ := hv
  rw [lg_entry_eq]
  refine body p e s m _ below meth c _ (va_A w sz) rfl (fun q hq => Or.inr (by rw [← hsz]; exact hq)) B.exec B.bytes B.returns hml (atoms_spec (ws := ws) B.pre) (findClass_of_methodNamed B.named) B.notSynchronized (name_of_methodNamed B.named B.method).1 hP hK hD.self hZ va_S.rf (lv_entry av hn)
end MZ
section CZ
variable {p : Program} {l : Launch} {e : Env} {R : Room} {s : State} {m : MethodId} {args : Array Value} {below : List Frame} {meth : Method} {c : Code} {H : Heap} {locs : List Loc} {cells slots : Nat} {Q : State → Prop}
variable {cc bytes : ByteArray} {pc maxL nL n index mc ms z0 : Nat} {ret : Option FieldType} {ls : Array Slot} {rest st As : List Value} {E : GE} {w wx wy : va_W} {y : MethodName} {ws : List Cond} {rm : Room} {Ts : List Cond} {own C : String} {b : Addr} {A0 : Nat → Prop} {S : Type} {W1 : S → va_W}
theorem ze_in {U : State} {A1 : Nat → Prop} (hZ : ZE z0 A0 s s.heap) (hS : va_S A0 s.heap H locs) (hF : ∀ q, A1 q → A0 q) (hU : U.heap = H) (hW : s.vm.Alike U.vm) : ZE z0 A1 U U.heap := by
  rw [hU]
  exact ⟨va_Z.moved hW ((va_Z.kept hZ.1 hS.2.1).narrow hF), va_T.moved hW ((va_T.kept hZ.2.1 hS.2.1).narrow hF), hZ.2.2.1.moved hW, hZ.2.2.2.moved hW⟩
theorem cmIZ_v {post : S → Prop} (F : CallFix p m c cc nL s args Ts own) (hM : Met l y ws rm (va_Pc (.ref b :: As) (pcZ E w H.size z0)) (va_Qv post (fun u t => atM E (va_A w H.size) (W1 u) t) (va_A w H.size)) mc ms (va_A w H.size)) (cw : CallB R s args own index y bytes maxL none ws rm mc ms n ∧ y.name = "<init>" ∧ (Cond.instanceMethod y).before args s = true) (hP : va_P E.1 vwCl (wx ++ (w ++ wy)) H) (hK : va_K E.1 vwCl (tyE E) s) (hD : va_D A0 (wx ++ (w ++ wy))) (hZ : ZE z0 A0 s s.heap) (hS : va_S A0 s.heap H locs) (hA : ∀ q, s.heap.size ≤ q → A0 q)
    (hn : As.length = n) (hz : ls.size = nL) (hst : st = As.reverse ++ .ref b :: rest) (hW : (rest.map fun v => v.category).sum ≤ 8) (hdg : decode cc pc = .ok (.invokespecial index, 3)) (hf : cells + mc ≤ R.cells ∧ slots + ms ≤ R.slots)
    (kk : ∀ (u : S) (H1 : Heap) (locs1 : List Loc), post u → va_P E.1 vwCl (wx ++ (W1 u ++ wy)) H1 → va_D A0 (wx ++ (W1 u ++ wy)) → va_S A0 s.heap H1 locs1 → W p l e R s m args below meth c H1 locs1 (cells + mc) (slots + ms) Q (F0 m (pc + 3) ls rest)) : W p l e R s m args below meth c H locs cells slots Q (F0 m pc ls st) :=
  va_callv (va_runI (As := As) (rest := rest) F hM cw ⟨fb_Z, fun U hU hW => ⟨rfl, ⟨by rw [hU], by rw [hU]; exact va_Pm hP, va_K.moved hW.alike hK, (va_Dm hD).weaken (fun _ _ _ _ => trivial)⟩, ze_in hZ hS (va_freeW (va_Dm hD) hS hA) hU hW.alike⟩⟩ rfl hn hz hst (lv_room hW) hdg hf) hS (fun q _ h => va_freeW (va_Dm hD) hS hA q h) (va_freeW (va_Dm hD) hS hA)
    (fun u t H1 locs1 ht hvm hw hB _ hk hS1 => by
      obtain ⟨b1, b2, b3⟩ := hB
      rw [ht] at b1
      obtain ⟨h1, h3⟩ := va_split hP hD hk (va_freeW (va_Dm hD) hS hA) b1 b3
      exact kk u H1 locs1 hw h1 h3 hS1)
/-- a lamp is put into a row of objects -/
theorem va_asto (hx : p.tables.exec = Jvm.exec) (hb : c.code = cc) (hAL : AL s) (hK : va_K E.1 vwCl (tyE E) s) (hP : va_P E.1 vwCl w H) (hD : va_D A0 w) (hS : va_S A0 s.heap H locs) (q0 qk : Nat) {z9 v9 k9 : Nat} {vs : List Value} {f : Nat → Option Nat} (ha : w[q0]? = some (z9, .inl (E.2.2.1, k9, .inr (.inr (.inr (.inr f)))))) (hv : w[qk]? = some (v9, .inr (1, vs))) {i : Int32} (hin : vp_in i k9) (hdg : decode cc pc = .ok (.aastore, 1))
    (kk : ∀ (H1 : Heap) (locs1 : List Loc), va_P E.1 vwCl (w.set q0 (z9, .inl (E.2.2.1, k9, .inr (.inr (.inr (.inr (va_up f i.toNatClampNeg (some v9)))))))) H1 → va_D A0 (w.set q0 (z9, .inl (E.2.2.1, k9, .inr (.inr (.inr (.inr (va_up f i.toNatClampNeg (some v9)))))))) → va_S A0 s.heap H1 locs1 → W p l e R s m args below meth c H1 locs1 cells slots Q (F0 m (pc + 1) ls rest)) : W p l e R s m args below meth c H locs cells slots Q (F0 m pc ls (.ref v9 :: .int i :: .ref z9 :: rest)) := by
  have hlt : i.toNatClampNeg < k9 := Nat.not_le.mp fun q => hin (Or.inr q)
  have h0 : ¬ i < 0 := fun q => hin (Or.inl q)
  obtain ⟨r', hr', cellV, g1, g2, g3, -⟩ := hP qk _ hv
  have hcls := (hK.1 1 _ rfl).2
  obtain ⟨kA, comp, k1, k2, k3, -⟩ := (hK.2 1 _ rfl).2
  obtain ⟨⟨c0, t0, a1, a2, a3⟩, -⟩ := hAL
  have hcomp : t0 = comp := Option.some.inj (a2.symm.trans k3)
  subst hcomp
  have hc0 : c0 = E.1.1 1 := Option.some.inj (a1.symm.trans hcls.1)
  subst hc0
  obtain ⟨kC, hkC, -⟩ := hcls.2
  obtain ⟨kT, hkT⟩ := al_k a3 ⟨kC, hkC⟩
  refine W.aast hx hb (hP q0 _ ha) (fun q h => by cases h) (fun h => by cases h) k1 k2 rfl hkT ⟨h0, by show _ < (arrV _ _ _).slots.size; rw [arrV_size]; exact hlt⟩ g1 (fun q h => by rw [g3] at h; cases h) (by rw [g2]; exact hkC) (by rw [g2]; exact a3) rfl rfl hdg fun H1 e z oq => ?_
  refine kk H1 _ (hP.set hD ha ?_ oq) (hD.set ha) (hS.put z oq (hD.2 q0 _ ha))
  show H1[z9]? = some (vp_cell _ _)
  rw [e]
  rw [vp_cell_q, vp_cell_q, arrV_store]
  congr 2
  funext q
  by_cases hq : q = i.toNatClampNeg
  · subst hq
    simp [updV, va_up, va_rf]
  · simp [updV, va_up, hq]
/-- a new row of N objects, behind the world -/
theorem nq_newq (hx : p.tables.exec = Jvm.exec) (hb : c.code = cc) (hown : s.vm.findClass own = some m.cls) (hcl : (Cond.classLink own index "java/lang/Object").before args s = true) (hAO : va_AO "java/lang/Object" s) (hK : va_K E.1 vwCl (tyE E) s) (hP : va_P E.1 vwCl w H) (hD : va_D A0 w) (hS : va_S A0 s.heap H locs) (hA : ∀ q, s.heap.size ≤ q → A0 q)
    {N : Nat} (hN : N ≤ 1000) (hc : cells + 1 ≤ R.cells) (hs : slots + N ≤ R.slots) (hdg : decode cc pc = .ok (.anewarray index, 3))
    (kk : ∀ (q : Nat) (H1 : Heap), va_P E.1 vwCl (w ++ [(q, .inl (E.2.2.1, N, .inr (.inr (.inr (.inr (fun _ => none))))))]) H1 → va_D A0 (w ++ [(q, .inl (E.2.2.1, N, .inr (.inr (.inr (.inr (fun _ => none))))))]) → va_S A0 s.heap H1 locs → W p l e R s m args below meth c H1 locs (cells + 1) (slots + N) Q (F0 m (pc + 3) ls (.ref q :: rest))) : W p l e R s m args below meth c H locs cells slots Q (F0 m pc ls (.int (nI N) :: rest)) := by
  refine va_newq hx hb hown hcl hAO hK hP hD hS hA (by rw [Int32.lt_iff_toInt_lt, nI_toInt (by omega)]; show ¬ ((N : Int) < 0); omega) (nI_clamp (by omega)) (by omega) hc hs hdg (fun q cA H1 hK1 hP1 hD1 hS1 => ?_)
  have e : cA = E.2.2.1 := by
    obtain ⟨-, -, -, -, -, h1⟩ := (hK1.2 (tyE E).length (cA, .object "java/lang/Object") (by simp)).2
    obtain ⟨-, -, -, -, -, h2⟩ := (hK.2 1 _ rfl).2
    exact Option.some.inj (h1.symm.trans h2)
  subst e
  exact kk q H1 hP1 hD1 hS1
end CZ

set_option maxHeartbeats 4000000 in
set_option maxRecDepth 100000 in
/-- a new list -/
theorem c_Jx4a65c_init_da8c8 (l : Launch) (E : GE) (sz : Nat) (x z0 : Nat) : Met l yJx4a65c_init_da8c8 wsJx4a65c_init_da8c8 ({ frames := 3, cells := 0, slots := 0, locals := 60 } : Room) (va_Pc [.ref x] (pcZ E ([(x, .inr (0, [.int 0, .null, .int 0]))]) sz z0)) (va_Qv (S := Unit) (fun _ => True) (fun uQ tQ => atM E (va_A ([(x, .inr (0, [.int 0, .null, .int 0]))]) sz) ((fun _ => [(x, .inr (0, [.int 0, .ref z0, .int 0]))]) uQ) tQ) (va_A ([(x, .inr (0, [.int 0, .null, .int 0]))]) sz)) 0 0 (va_A ([(x, .inr (0, [.int 0, .null, .int 0]))]) sz) := by
  refine metZ (by decide) rfl (Nat.le_of_ble_eq_true rfl) ?_
  intro p e s m args below meth c ls A hAe hA hx hb hr hml hts hown hlocks hin hP hK hD hZ hS hl
  rw [hAe]
  have hiJx4a65c : ∀ q ∈ wsJx4a65c0, q ∈ wsJx4a65c_init_da8c8 := by decide +kernel
  refine lv_aload_n hx hb dJx4a65c_init_da8c8_0 rfl (lv_at hl 0 rfl) ?_
  have hP : va_P E.1 vwCl (([]) ++ (([(x, .inr (0, [.int 0, .null, .int 0]))]) ++ ([]))) _ := hP
  have hD : va_D A (([]) ++ (([(x, .inr (0, [.int 0, .null, .int 0]))]) ++ ([]))) := hD
  refine cmI_v (wx := []) (wy := []) (rest := []) (As := []) ⟨hx, hb, hml, hown, hts⟩ (c_Jxc12de_init_da8c8 l E _ x) (cwI 0 hts gJx4a65c_init_da8c8_Jxc12de_init_da8c8 rfl rfl rfl (hts (.initialized RJxc12de) (List.mem_of_getElem? (i := 5) (by rfl))) (hts (.methodLink RJx4a65c 1 yJxc12de_init_da8c8) (List.mem_of_getElem? (i := 3) (by rfl))) (hts (.instanceMethod yJxc12de_init_da8c8) (List.mem_of_getElem? (i := 4) (by rfl))) rfl (by decide +kernel) ⟨Nat.le_of_ble_eq_true rfl, Nat.le_of_ble_eq_true rfl⟩) hP hK hD hS hA rfl hl.1 rfl (Nat.le_of_ble_eq_true rfl) dJx4a65c_init_da8c8_1 ⟨Nat.le_of_ble_eq_true rfl, Nat.le_of_ble_eq_true rfl⟩ (fun u1 H locs hr1 hP hD hS => ?_)
  have hP : va_P E.1 vwCl ([(x, .inr (0, [.int 0, .null, .int 0]))]) _ := hP
  have hD : va_D A ([(x, .inr (0, [.int 0, .null, .int 0]))]) := hD
  refine lv_aload_n hx hb dJx4a65c_init_da8c8_4 rfl (lv_at hl 0 rfl) ?_
  refine va_gets hx hb hZ.1 hS hown (hts (.fieldLink RJx4a65c 39 "java/util/ArrayList" "DEFAULTCAPACITY_EMPTY_ELEMENTDATA" "[Ljava/lang/Object;") (List.mem_of_getElem? (i := 1) (by rfl))) (fun _ h9 => h9) dJx4a65c_init_da8c8_5 ?_
  refine va_put (D := E.1) (ci := 0) (v := .ref z0) (ty := (.array (.object "java/lang/Object"))) (C := RJx4a65c) (T := TJx4a65c) (N := 3) hx hb hts hiJx4a65c tyJx4a65c tyJx4a65c_ok nmJx4a65c hown hK hP hD hS 0 rfl rfl 1 (by decide) (hts (.fieldLink RJx4a65c 9 "java/util/ArrayList" "elementData" "[Ljava/lang/Object;") (List.mem_of_getElem? (i := 2) (by rfl))) (fun _ h9 => h9) rfl (by decide +kernel) rfl (by rfl) (Nat.le_of_ble_eq_true rfl) dJx4a65c_init_da8c8_8 (fun H locs hP hD hS => ?_)
  have hP : va_P E.1 vwCl ([(x, .inr (0, [.int 0, .ref z0, .int 0]))]) H := hP
  have hD : va_D A ([(x, .inr (0, [.int 0, .ref z0, .int 0]))]) := hD
  exact retM_v (E := E) (A0 := A) (post := fun _ => True) (u := ()) (W1 := fun _ => [(x, .inr (0, [.int 0, .ref z0, .int 0]))]) hx hb hr hlocks hP hK hD hS (trivial) dJx4a65c_init_da8c8_11

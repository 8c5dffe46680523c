/-! what a state of the class and of the reference IS, and the cells that hold it -/
abbrev GE : Type := va_G × ClassId × ClassId × ClassId × ClassId
abbrev tyE (E : GE) : List (ClassId × FieldType) := [(E.2.1, .int), (E.2.2.1, .object "java/lang/Object"), (E.2.2.2.1, .boolean), (E.2.2.2.2, .array .int)]
/-- the state's rows: F i k is the k-th number of lamp i: 0 period, 1 power, 2 colour, 3 shift, 4 length, 5 shone, 6 stayed dark -/
abbrev LR : Type := Nat → Nat → Nat
def up2 (F : LR) (i k v : Nat) : LR := fun j q => if j = i ∧ q = k then v else F j q
def LF (F : LR) (lit : Nat → Bool) (fo : Nat → Nat) (i : Nat) : List Value := [.int (nI (F i 0)), .int (nI (F i 1)), .int (nI (F i 2)), .int (nI (F i 3)), .int (nI (F i 4)), .int (nI (F i 5)), .int (nI (F i 6)), .int (bI (lit i)), .int (nI (fo i))]
/-- an address book: 0 the loom, 1 its list, 2 the list's row, 3 + i lamp i -/
def wC (E : GE) (a : Nat → Nat) (mc : Int32) (n now lim : Nat) (G : Nat → List Value) : va_W :=
  (a 0, .inr (2, [.ref (a 1), .int (nI now), .int (nI lim)])) :: (a 1, .inr (0, [.int mc, .ref (a 2), .int (nI n)])) :: (if n = 0 then [] else (a 2, .inl (E.2.2.1, 10, .inr (.inr (.inr (.inr (fun j => if j < n then some (a (3 + j)) else none)))))) :: (List.range n).map (fun i => (a (3 + i), .inr (1, G i))))
theorem wC_x {E : GE} {a : Nat → Nat} {mc : Int32} {n now lim : Nat} {G : Nat → List Value} : (wC E a mc n now lim G)[0]? = some (a 0, .inr (2, [.ref (a 1), .int (nI now), .int (nI lim)])) := rfl
theorem wC_row {E : GE} {a : Nat → Nat} {mc : Int32} {n now lim : Nat} {G : Nat → List Value} : (wC E a mc n now lim G)[1]? = some (a 1, .inr (0, [.int mc, .ref (a 2), .int (nI n)])) := rfl
theorem wC_arr {E : GE} {a : Nat → Nat} {mc : Int32} {n now lim : Nat} {G : Nat → List Value} (h : 0 < n) : (wC E a mc n now lim G)[2]? = some (a 2, .inl (E.2.2.1, 10, .inr (.inr (.inr (.inr (fun j => if j < n then some (a (3 + j)) else none)))))) := by
  unfold wC
  rw [if_neg (by omega)]
  rfl
theorem wC_lamp {E : GE} {a : Nat → Nat} {mc : Int32} {n now lim : Nat} {G : Nat → List Value} {i : Nat} (h : i < n) : (wC E a mc n now lim G)[3 + i]? = some (a (3 + i), .inr (1, G i)) := by
  unfold wC
  rw [if_neg (by omega), show 3 + i = ((i + 1) + 1) + 1 by omega, List.getElem?_cons_succ, List.getElem?_cons_succ, List.getElem?_cons_succ, List.getElem?_map, List.getElem?_range h]
  show some (a (3 + i), _) = _
  rw [Nat.add_comm 3 i]
theorem wC_set {E : GE} {a : Nat → Nat} {mc : Int32} {n now lim : Nat} {G : Nat → List Value} {i : Nat} (h : i < n) (fs : List Value) : (wC E a mc n now lim G).set (3 + i) (a (3 + i), .inr (1, fs)) = wC E a mc n now lim (va_up G i fs) := by
  unfold wC
  rw [if_neg (by omega), if_neg (by omega), show 3 + i = ((i + 1) + 1) + 1 by omega, List.set_cons_succ, List.set_cons_succ, List.set_cons_succ]
  congr 3
  apply List.ext_getElem?
  intro k
  rw [List.getElem?_set, List.getElem?_map, List.getElem?_map, List.length_map, List.length_range]
  by_cases hk : i = k
  · subst hk
    rw [if_pos rfl, if_pos h, List.getElem?_range h]
    simp [va_up, Nat.add_comm 3 i]
  · rw [if_neg hk]
    cases hr : (List.range n)[k]? with
    | none => rfl
    | some z =>
      have hz : z = k := by
        obtain ⟨h1, h2⟩ := List.getElem?_eq_some_iff.mp hr
        rw [List.getElem_range] at h2
        exact h2.symm
      subst hz
      simp [va_up]
      exact fun q => absurd q.symm hk
theorem LF_lit {F : LR} {lit : Nat → Bool} {fo : Nat → Nat} {i : Nat} {v : Bool} : va_up (LF F lit fo) i ((LF F lit fo i).set 7 (.int (bI v))) = LF F (va_up lit i v) fo := by
  funext j
  by_cases h : j = i
  · subst h; simp [va_up, LF]
  · simp [va_up, LF, h]
theorem LF_fo {F : LR} {lit : Nat → Bool} {fo : Nat → Nat} {i v : Nat} : va_up (LF F lit fo) i ((LF F lit fo i).set 8 (.int (nI v))) = LF F lit (va_up fo i v) := by
  funext j
  by_cases h : j = i
  · subst h; simp [va_up, LF]
  · simp [va_up, LF, h]
theorem LF_2 {F : LR} {lit : Nat → Bool} {fo : Nat → Nat} {i v : Nat} : va_up (LF F lit fo) i ((LF F lit fo i).set 2 (.int (nI v))) = LF (up2 F i 2 v) lit fo := by
  funext j
  by_cases h : j = i
  · subst h; simp [va_up, LF, up2]
  · simp [va_up, LF, up2, h]
theorem LF_3 {F : LR} {lit : Nat → Bool} {fo : Nat → Nat} {i v : Nat} : va_up (LF F lit fo) i ((LF F lit fo i).set 3 (.int (nI v))) = LF (up2 F i 3 v) lit fo := by
  funext j
  by_cases h : j = i
  · subst h; simp [va_up, LF, up2]
  · simp [va_up, LF, up2, h]
theorem LF_4 {F : LR} {lit : Nat → Bool} {fo : Nat → Nat} {i v : Nat} : va_up (LF F lit fo) i ((LF F lit fo i).set 4 (.int (nI v))) = LF (up2 F i 4 v) lit fo := by
  funext j
  by_cases h : j = i
  · subst h; simp [va_up, LF, up2]
  · simp [va_up, LF, up2, h]
theorem LF_5 {F : LR} {lit : Nat → Bool} {fo : Nat → Nat} {i v : Nat} : va_up (LF F lit fo) i ((LF F lit fo i).set 5 (.int (nI v))) = LF (up2 F i 5 v) lit fo := by
  funext j
  by_cases h : j = i
  · subst h; simp [va_up, LF, up2]
  · simp [va_up, LF, up2, h]
theorem LF_6 {F : LR} {lit : Nat → Bool} {fo : Nat → Nat} {i v : Nat} : va_up (LF F lit fo) i ((LF F lit fo i).set 6 (.int (nI v))) = LF (up2 F i 6 v) lit fo := by
  funext j
  by_cases h : j = i
  · subst h; simp [va_up, LF, up2]
  · simp [va_up, LF, up2, h]
/-- what always holds of a state -/
def OkS (n now lim : Nat) (F : LR) : Prop := n ≤ 8 ∧ now ≤ 100000000 ∧ lim ≤ 99 ∧ (∀ i, i < n → 2 ≤ F i 0 ∧ F i 0 ≤ 20 ∧ 1 ≤ F i 1 ∧ F i 1 ≤ 9 ∧ F i 2 ≤ 5 ∧ F i 3 < F i 0 ∧ 1 ≤ F i 4 ∧ F i 4 < F i 0 ∧ F i 5 + F i 6 ≤ now) ∧ ∀ i, n ≤ i → ∀ k, F i k = 0
/-! contracts' starts and ends -/
def pcS (E : GE) (w : va_W) : State → Prop := fun U => va_P E.1 vwCl w U.heap ∧ va_K E.1 vwCl (tyE E) U
def pcM (E : GE) (w : va_W) (sz : Nat) : State → Prop := fun U => U.heap.size = sz ∧ va_P E.1 vwCl w U.heap ∧ va_K E.1 vwCl (tyE E) U ∧ va_D (fun _ => True) w
def atM (E : GE) (A : Nat → Prop) (w : va_W) (t : State) : Prop := va_P E.1 vwCl w t.heap ∧ va_K E.1 vwCl (tyE E) t ∧ va_D A w
theorem fb_S {av : List Value} {E : GE} {w : va_W} : FrameBlind (va_Pc av (pcS E w)) := fun a U g mk q => ⟨q.1, q.2.1, va_K.moved (u := U) (U := U.calling g mk a) (Vm.Alike.refl U.vm) q.2.2⟩
theorem fb_M {av : List Value} {E : GE} {w : va_W} {sz : Nat} : FrameBlind (va_Pc av (pcM E w sz)) := fun a U g mk q => ⟨q.1, q.2.1, q.2.2.1, va_K.moved (u := U) (U := U.calling g mk a) (Vm.Alike.refl U.vm) q.2.2.2.1, q.2.2.2.2⟩
section MB
variable {l : Launch} {y : MethodName} {ws ws' : List Cond} {rm : Room} {av : List Value} {E : GE} {w : va_W} {cc : ByteArray} {maxL : Nat} {ret : Option FieldType}
/-- a method that only reads -/
theorem metS {Qc : Array Value → State → Outcome → State → Prop} (hy : plainName y.cls = true) (hw : ws = Cond.code y cc maxL ret :: ws') (hn : (lg_sl av).length ≤ maxL)
    (body : ∀ (p : Program) (e : Env) (s : State) (m : MethodId) (args : Array Value) (below : List Frame) (meth : Method) (c : Code) (ls : Array Slot), p.tables.exec = Jvm.exec → c.code = cc → meth.sig.returnType = ret → c.maxLocals = maxL → (∀ q ∈ ws, q.before args s = true) → s.vm.findClass y.cls = some m.cls → meth.locks = false → va_P E.1 vwCl w s.heap → va_K E.1 vwCl (tyE E) s → lv_has ls maxL (lv_args 0 av) →
      W p l e rm s m args below meth c s.heap [] 0 0 (MQ below Qc args s 0 0 (fun _ => False)) (F0 m 0 ls [])) : Met l y ws rm (va_Pc av (pcS E w)) Qc 0 0 (fun _ => False) := by
  refine Met.ofW (cc := cc) (maxL := maxL) (ret := ret) hy hw ?_
  intro p e s m args below meth c s₁ B hml hv
  obtain ⟨rfl, hP, hK⟩ := hv
  rw [lg_entry_eq]
  exact body p e s m _ below meth c _ B.exec B.bytes B.returns hml (atoms_spec (ws := ws) B.pre) (findClass_of_methodNamed B.named) B.notSynchronized hP hK (lv_entry av hn)
/-- a method that writes into its world, or makes cells -/
theorem metM {Qc : Array Value → State → Outcome → State → Prop} {sz mc ms : Nat} (hy : plainName y.cls = true) (hw : ws = Cond.code y cc maxL ret :: ws') (hn : (lg_sl av).length ≤ maxL)
    (body : ∀ (p : Program) (e : Env) (s : State) (m : MethodId) (args : Array Value) (below : List Frame) (meth : Method) (c : Code) (ls : Array Slot) (A : Nat → Prop), va_A w sz = A → (∀ q : Nat, s.heap.size ≤ q → A q) → p.tables.exec = Jvm.exec → c.code = cc → meth.sig.returnType = ret → c.maxLocals = maxL → (∀ q ∈ ws, q.before args s = true) → s.vm.findClass y.cls = some m.cls → meth.locks = false → (meth.name = y.name) → va_P E.1 vwCl w s.heap → va_K E.1 vwCl (tyE E) s → va_D A w → va_S A s.heap s.heap [] → lv_has ls maxL (lv_args 0 av) →
      W p l e rm s m args below meth c s.heap [] 0 0 (MQ below Qc args s mc ms A) (F0 m 0 ls [])) : Met l y ws rm (va_Pc av (pcM E w sz)) Qc mc ms (va_A w sz) := by
  refine Met.ofW (cc := cc) (maxL := maxL) (ret := ret) hy hw ?_
  intro p e s m args below meth c s₁ B hml hv
  obtain ⟨rfl, hsz, hP, hK, hD⟩ := hv
  rw [lg_entry_eq]
  refine body p e s m _ below meth c _ (va_A w sz) rfl (fun q hq => Or.inr (by rw [← hsz]; exact hq)) B.exec B.bytes B.returns hml (atoms_spec (ws := ws) B.pre) (findClass_of_methodNamed B.named) B.notSynchronized (name_of_methodNamed B.named B.method).1 hP hK hD.self va_S.rf (lv_entry av hn)
end MB
section CS
variable {p : Program} {l : Launch} {e : Env} {R : Room} {s : State} {m : MethodId} {args : Array Value} {below : List Frame} {meth : Method} {c : Code} {H : Heap} {locs : List Loc} {cells slots : Nat} {Q : State → Prop}
variable {cc bytes : ByteArray} {pc maxL nL n index : Nat} {ret : Option FieldType} {ls : Array Slot} {rest st As : List Value} {E : GE} {w : va_W} {y : MethodName} {ws : List Cond} {rm : Room} {Ts : List Cond} {own C : String} {b : Addr}
/-- calls of methods that only read -/
theorem csV_i {post : Int32 → Prop} (S : CallFix p m c cc nL s args Ts own) (hM : Met l y ws rm (va_Pc (.ref b :: As) (pcS E w)) (vp_Si post) 0 0 (fun _ => False)) (cw : CallW R s args own C index y bytes maxL ret ws rm 0 0 n) (hr : ∃ cell : Cell, H[b]? = some cell ∧ cell.vm.isStatics = false ∧ s.vm.findClass C = some cell.cls) (hP : va_P E.1 vwCl w H) (hK : va_K E.1 vwCl (tyE E) s)
    (hn : As.length = n) (hz : ls.size = nL) (hst : st = As.reverse ++ .ref b :: rest) (hW : (rest.map fun v => v.category).sum ≤ 8) (hdg : decode cc pc = .ok (.invokevirtual index, 3)) (hc : cells ≤ R.cells) (hs : slots ≤ R.slots)
    (kk : ∀ r : Int32, post r → W p l e R s m args below meth c H locs cells slots Q (F0 m (pc + 3) ls (.int r :: rest))) : W p l e R s m args below meth c H locs cells slots Q (F0 m pc ls st) :=
  vp_callSi (W.runV (As := As) (rest := rest) S hM cw ⟨fb_S, hr, fun U hU hW => ⟨rfl, by rw [hU]; exact hP, va_K.moved hW.alike hK⟩⟩ rfl hn hz hst (lv_room hW) hdg ⟨hc, hs⟩) kk
theorem csV_l {post : Int64 → Prop} (S : CallFix p m c cc nL s args Ts own) (hM : Met l y ws rm (va_Pc (.ref b :: As) (pcS E w)) (vp_Sl post) 0 0 (fun _ => False)) (cw : CallW R s args own C index y bytes maxL ret ws rm 0 0 n) (hr : ∃ cell : Cell, H[b]? = some cell ∧ cell.vm.isStatics = false ∧ s.vm.findClass C = some cell.cls) (hP : va_P E.1 vwCl w H) (hK : va_K E.1 vwCl (tyE E) s)
    (hn : As.length = n) (hz : ls.size = nL) (hst : st = As.reverse ++ .ref b :: rest) (hW : (rest.map fun v => v.category).sum ≤ 8) (hdg : decode cc pc = .ok (.invokevirtual index, 3)) (hc : cells ≤ R.cells) (hs : slots ≤ R.slots)
    (kk : ∀ r : Int64, post r → W p l e R s m args below meth c H locs cells slots Q (F0 m (pc + 3) ls (.long r :: rest))) : W p l e R s m args below meth c H locs cells slots Q (F0 m pc ls st) :=
  vp_callSl (W.runV (As := As) (rest := rest) S hM cw ⟨fb_S, hr, fun U hU hW => ⟨rfl, by rw [hU]; exact hP, va_K.moved hW.alike hK⟩⟩ rfl hn hz hst (lv_room hW) hdg ⟨hc, hs⟩) kk
theorem csV_r {post : Nat → Prop} (S : CallFix p m c cc nL s args Ts own) (hM : Met l y ws rm (va_Pc (.ref b :: As) (pcS E w)) (va_Sr post (fun k => .ref k)) 0 0 (fun _ => False)) (cw : CallW R s args own C index y bytes maxL ret ws rm 0 0 n) (hr : ∃ cell : Cell, H[b]? = some cell ∧ cell.vm.isStatics = false ∧ s.vm.findClass C = some cell.cls) (hP : va_P E.1 vwCl w H) (hK : va_K E.1 vwCl (tyE E) s)
    (hn : As.length = n) (hz : ls.size = nL) (hst : st = As.reverse ++ .ref b :: rest) (hW : (rest.map fun v => v.category).sum ≤ 8) (hdg : decode cc pc = .ok (.invokevirtual index, 3)) (hc : cells ≤ R.cells) (hs : slots ≤ R.slots)
    (kk : ∀ r : Nat, post r → W p l e R s m args below meth c H locs cells slots Q (F0 m (pc + 3) ls (.ref r :: rest))) : W p l e R s m args below meth c H locs cells slots Q (F0 m pc ls st) :=
  va_csr (W.runV (As := As) (rest := rest) S hM cw ⟨fb_S, hr, fun U hU hW => ⟨rfl, by rw [hU]; exact hP, va_K.moved hW.alike hK⟩⟩ rfl hn hz hst (lv_room hW) hdg ⟨hc, hs⟩) kk
theorem csS_i {post : Int32 → Prop} (S : CallFix p m c cc nL s args Ts own) (hM : Met l y ws rm (va_Pc As (pcS E w)) (vp_Si post) 0 0 (fun _ => False)) (cw : CallB R s args own index y bytes maxL ret ws rm 0 0 n ∧ (Cond.static y).before args s = true) (hP : va_P E.1 vwCl w H) (hK : va_K E.1 vwCl (tyE E) s)
    (hn : As.length = n) (hz : ls.size = nL) (hst : st = As.reverse ++ rest) (hW : (rest.map fun v => v.category).sum ≤ 8) (hdg : decode cc pc = .ok (.invokestatic index, 3)) (hc : cells ≤ R.cells) (hs : slots ≤ R.slots)
    (kk : ∀ r : Int32, post r → W p l e R s m args below meth c H locs cells slots Q (F0 m (pc + 3) ls (.int r :: rest))) : W p l e R s m args below meth c H locs cells slots Q (F0 m pc ls st) :=
  vp_callSi (W.runS (As := As) (rest := rest) S hM cw ⟨fb_S, fun U hU hW => ⟨rfl, by rw [hU]; exact hP, va_K.moved hW.alike hK⟩⟩ rfl hn hz hst (lv_room hW) hdg ⟨hc, hs⟩) kk
theorem csS_l {post : Int64 → Prop} (S : CallFix p m c cc nL s args Ts own) (hM : Met l y ws rm (va_Pc As (pcS E w)) (vp_Sl post) 0 0 (fun _ => False)) (cw : CallB R s args own index y bytes maxL ret ws rm 0 0 n ∧ (Cond.static y).before args s = true) (hP : va_P E.1 vwCl w H) (hK : va_K E.1 vwCl (tyE E) s)
    (hn : As.length = n) (hz : ls.size = nL) (hst : st = As.reverse ++ rest) (hW : (rest.map fun v => v.category).sum ≤ 8) (hdg : decode cc pc = .ok (.invokestatic index, 3)) (hc : cells ≤ R.cells) (hs : slots ≤ R.slots)
    (kk : ∀ r : Int64, post r → W p l e R s m args below meth c H locs cells slots Q (F0 m (pc + 3) ls (.long r :: rest))) : W p l e R s m args below meth c H locs cells slots Q (F0 m pc ls st) :=
  vp_callSl (W.runS (As := As) (rest := rest) S hM cw ⟨fb_S, fun U hU hW => ⟨rfl, by rw [hU]; exact hP, va_K.moved hW.alike hK⟩⟩ rfl hn hz hst (lv_room hW) hdg ⟨hc, hs⟩) kk
/-- calls of methods that write: the callee's world w is the whole world here -/
theorem atM_in {A0 : Nat → Prop} {w1 : va_W} {u t : State} {H1 : Heap} (hF : ∀ q, va_A w H.size q → A0 q) (ht : t.heap = H1) (hvm : u.vm.Alike t.vm) (h : atM E (va_A w H.size) w1 t) : va_P E.1 vwCl w1 H1 ∧ va_K E.1 vwCl (tyE E) u ∧ va_D A0 w1 := by
  obtain ⟨h1, h2, h3⟩ := h
  rw [ht] at h1
  exact ⟨h1, va_K.moved hvm.symm h2, h3.weaken (fun _ q _ h => hF q.1 h)⟩
theorem va_freeW {A0 : Nat → Prop} {H0 : Heap} (hD : va_D A0 w) (hS : va_S A0 H0 H locs) (hA : ∀ q, H0.size ≤ q → A0 q) : ∀ q, va_A w H.size q → A0 q := by
  intro q h
  rcases h with ⟨k, e, h⟩ | h
  · exact hD.2 k (q, e) h
  · exact hA q (Nat.le_trans hS.1 h)
end CS
section CM
variable {p : Program} {l : Launch} {e : Env} {R : Room} {s : State} {m : MethodId} {args : Array Value} {below : List Frame} {meth : Method} {c : Code} {H : Heap} {locs : List Loc} {cells slots : Nat} {Q : State → Prop}
variable {cc bytes : ByteArray} {pc maxL nL n index mc ms : Nat} {ret : Option FieldType} {ls : Array Slot} {rest st As : List Value} {E : GE} {w : va_W} {y : MethodName} {ws : List Cond} {rm : Room} {Ts : List Cond} {own C : String} {b : Addr} {A0 : Nat → Prop} {S : Type} {W1 : S → va_W}
theorem cmV_i {post : Int32 → S → Prop} (F : CallFix p m c cc nL s args Ts own) (hM : Met l y ws rm (va_Pc (.ref b :: As) (pcM E w H.size)) (va_Qi post (fun u t => atM E (va_A w H.size) (W1 u) t) (va_A w H.size)) mc ms (va_A w H.size)) (cw : CallW R s args own C index y bytes maxL ret ws rm mc ms n) (hr : ∃ cell : Cell, H[b]? = some cell ∧ cell.vm.isStatics = false ∧ s.vm.findClass C = some cell.cls) (hP : va_P E.1 vwCl w H) (hK : va_K E.1 vwCl (tyE E) s) (hD : va_D A0 w) (hS : va_S A0 s.heap H locs) (hA : ∀ q, s.heap.size ≤ q → A0 q)
    (hn : As.length = n) (hz : ls.size = nL) (hst : st = As.reverse ++ .ref b :: rest) (hW : (rest.map fun v => v.category).sum ≤ 8) (hdg : decode cc pc = .ok (.invokevirtual index, 3)) (hf : cells + mc ≤ R.cells ∧ slots + ms ≤ R.slots)
    (kk : ∀ (r : Int32) (u : S) (H1 : Heap) (locs1 : List Loc), post r u → va_P E.1 vwCl (W1 u) H1 → va_D A0 (W1 u) → va_S A0 s.heap H1 locs1 → W p l e R s m args below meth c H1 locs1 (cells + mc) (slots + ms) Q (F0 m (pc + 3) ls (.int r :: rest))) : W p l e R s m args below meth c H locs cells slots Q (F0 m pc ls st) :=
  va_calli (va_runV (As := As) (rest := rest) F hM cw ⟨fb_M, hr, fun U hU hW => ⟨rfl, by rw [hU], by rw [hU]; exact hP, va_K.moved hW.alike hK, hD.weaken (fun _ _ _ _ => trivial)⟩⟩ rfl hn hz hst (lv_room hW) hdg hf) hS (fun q _ h => va_freeW hD hS hA q h) (va_freeW hD hS hA)
    (fun r u t H1 locs1 ht hvm hw hB _ _ hS1 => by
      obtain ⟨h1, -, h3⟩ := atM_in (va_freeW hD hS hA) ht hvm hB
      exact kk r u H1 locs1 hw h1 h3 hS1)
theorem cmV_v {post : S → Prop} (F : CallFix p m c cc nL s args Ts own) (hM : Met l y ws rm (va_Pc (.ref b :: As) (pcM E w H.size)) (va_Qv post (fun u t => atM E (va_A w H.size) (W1 u) t) (va_A w H.size)) mc ms (va_A w H.size)) (cw : CallW R s args own C index y bytes maxL ret ws rm mc ms n) (hr : ∃ cell : Cell, H[b]? = some cell ∧ cell.vm.isStatics = false ∧ s.vm.findClass C = some cell.cls) (hP : va_P E.1 vwCl w H) (hK : va_K E.1 vwCl (tyE E) s) (hD : va_D A0 w) (hS : va_S A0 s.heap H locs) (hA : ∀ q, s.heap.size ≤ q → A0 q)
    (hn : As.length = n) (hz : ls.size = nL) (hst : st = As.reverse ++ .ref b :: rest) (hW : (rest.map fun v => v.category).sum ≤ 8) (hdg : decode cc pc = .ok (.invokevirtual index, 3)) (hf : cells + mc ≤ R.cells ∧ slots + ms ≤ R.slots)
    (kk : ∀ (u : S) (H1 : Heap) (locs1 : List Loc), post u → va_P E.1 vwCl (W1 u) H1 → va_D A0 (W1 u) → va_S A0 s.heap H1 locs1 → W p l e R s m args below meth c H1 locs1 (cells + mc) (slots + ms) Q (F0 m (pc + 3) ls rest)) : W p l e R s m args below meth c H locs cells slots Q (F0 m pc ls st) :=
  va_callv (va_runV (As := As) (rest := rest) F hM cw ⟨fb_M, hr, fun U hU hW => ⟨rfl, by rw [hU], by rw [hU]; exact hP, va_K.moved hW.alike hK, hD.weaken (fun _ _ _ _ => trivial)⟩⟩ rfl hn hz hst (lv_room hW) hdg hf) hS (fun q _ h => va_freeW hD hS hA q h) (va_freeW hD hS hA)
    (fun u t H1 locs1 ht hvm hw hB _ _ hS1 => by
      obtain ⟨h1, -, h3⟩ := atM_in (va_freeW hD hS hA) ht hvm hB
      exact kk u H1 locs1 hw h1 h3 hS1)
theorem cmV_l {post : Int64 → S → Prop} (F : CallFix p m c cc nL s args Ts own) (hM : Met l y ws rm (va_Pc (.ref b :: As) (pcM E w H.size)) (va_Ql post (fun u t => atM E (va_A w H.size) (W1 u) t) (va_A w H.size)) mc ms (va_A w H.size)) (cw : CallW R s args own C index y bytes maxL ret ws rm mc ms n) (hr : ∃ cell : Cell, H[b]? = some cell ∧ cell.vm.isStatics = false ∧ s.vm.findClass C = some cell.cls) (hP : va_P E.1 vwCl w H) (hK : va_K E.1 vwCl (tyE E) s) (hD : va_D A0 w) (hS : va_S A0 s.heap H locs) (hA : ∀ q, s.heap.size ≤ q → A0 q)
    (hn : As.length = n) (hz : ls.size = nL) (hst : st = As.reverse ++ .ref b :: rest) (hW : (rest.map fun v => v.category).sum ≤ 8) (hdg : decode cc pc = .ok (.invokevirtual index, 3)) (hf : cells + mc ≤ R.cells ∧ slots + ms ≤ R.slots)
    (kk : ∀ (r : Int64) (u : S) (H1 : Heap) (locs1 : List Loc), post r u → va_P E.1 vwCl (W1 u) H1 → va_D A0 (W1 u) → va_S A0 s.heap H1 locs1 → W p l e R s m args below meth c H1 locs1 (cells + mc) (slots + ms) Q (F0 m (pc + 3) ls (.long r :: rest))) : W p l e R s m args below meth c H locs cells slots Q (F0 m pc ls st) :=
  va_calll (va_runV (As := As) (rest := rest) F hM cw ⟨fb_M, hr, fun U hU hW => ⟨rfl, by rw [hU], by rw [hU]; exact hP, va_K.moved hW.alike hK, hD.weaken (fun _ _ _ _ => trivial)⟩⟩ rfl hn hz hst (lv_room hW) hdg hf) hS (fun q _ h => va_freeW hD hS hA q h) (va_freeW hD hS hA)
    (fun r u t H1 locs1 ht hvm hw hB _ _ hS1 => by
      obtain ⟨h1, -, h3⟩ := atM_in (va_freeW hD hS hA) ht hvm hB
      exact kk r u H1 locs1 hw h1 h3 hS1)
/-- ends -/
theorem retS_i {post : Int32 → Prop} {v : Int32} (hx : p.tables.exec = Jvm.exec) (hb : c.code = cc) (hr : meth.sig.returnType = some .int) (hlocks : meth.locks = false) (h : post v) (hdg : decode cc pc = .ok (.ireturn, 1)) : W p l e R s m args below meth c s.heap [] 0 0 (MQ below (vp_Si post) args s 0 0 (fun _ => False)) (F0 m pc ls [.int v]) :=
  W.iret hx hb hr (fun t ht _ => ⟨v, rfl, h, ht⟩) (fun _ h => nomatch h) hdg hlocks
theorem retS_z {post : Int32 → Prop} {b : Bool} (hx : p.tables.exec = Jvm.exec) (hb : c.code = cc) (hr : meth.sig.returnType = some .boolean) (hlocks : meth.locks = false) (h : post (bI b)) (hdg : decode cc pc = .ok (.ireturn, 1)) : W p l e R s m args below meth c s.heap [] 0 0 (MQ below (vp_Si post) args s 0 0 (fun _ => False)) (F0 m pc ls [.int (bI b)]) :=
  W.zret hx hb hr (bI_nar b) (fun t ht _ => ⟨bI b, rfl, h, ht⟩) (fun _ h => nomatch h) hdg hlocks
theorem retS_l {post : Int64 → Prop} {v : Int64} (hx : p.tables.exec = Jvm.exec) (hb : c.code = cc) (hr : meth.sig.returnType = some .long) (hlocks : meth.locks = false) (h : post v) (hdg : decode cc pc = .ok (.lreturn, 1)) : W p l e R s m args below meth c s.heap [] 0 0 (MQ below (vp_Sl post) args s 0 0 (fun _ => False)) (F0 m pc ls [.long v]) :=
  W.lret hx hb hr (fun t ht _ => ⟨v, rfl, h, ht⟩) (fun _ h => nomatch h) hdg hlocks
theorem retS_r {post : Nat → Prop} {v : Nat} {N : String} (hx : p.tables.exec = Jvm.exec) (hb : c.code = cc) (hr : meth.sig.returnType = some (.object N)) (hlocks : meth.locks = false) (h : post v) (hdg : decode cc pc = .ok (.areturn, 1)) : W p l e R s m args below meth c s.heap [] 0 0 (MQ below (va_Sr post (fun k => .ref k)) args s 0 0 (fun _ => False)) (F0 m pc ls [.ref v]) :=
  W.aret hx hb hr (Or.inl ⟨N, rfl⟩) (Or.inr ⟨v, rfl⟩) (fun t ht _ => ⟨v, rfl, h, ht⟩) (fun _ h => nomatch h) hdg hlocks
theorem retM_i {post : Int32 → S → Prop} {v : Int32} {u : S} (hx : p.tables.exec = Jvm.exec) (hb : c.code = cc) (hr : meth.sig.returnType = some .int) (hlocks : meth.locks = false) (hP : va_P E.1 vwCl (W1 u) H) (hK : va_K E.1 vwCl (tyE E) s) (hD : va_D A0 (W1 u)) (hS : va_S A0 s.heap H locs) (h : post v u) (hdg : decode cc pc = .ok (.ireturn, 1)) : W p l e R s m args below meth c H locs cells slots (MQ below (va_Qi post (fun u t => atM E A0 (W1 u) t) A0) args s cells slots A0) (F0 m pc ls [.int v]) :=
  W.iret hx hb hr (fun t ht hW => ⟨⟨v, u, rfl, h, by rw [ht]; exact hP, va_K.moved hW.alike hK, hD⟩, hS.F ht⟩) hS.2.2 hdg hlocks
theorem retM_z {post : Int32 → S → Prop} {b : Bool} {u : S} (hx : p.tables.exec = Jvm.exec) (hb : c.code = cc) (hr : meth.sig.returnType = some .boolean) (hlocks : meth.locks = false) (hP : va_P E.1 vwCl (W1 u) H) (hK : va_K E.1 vwCl (tyE E) s) (hD : va_D A0 (W1 u)) (hS : va_S A0 s.heap H locs) (h : post (bI b) u) (hdg : decode cc pc = .ok (.ireturn, 1)) : W p l e R s m args below meth c H locs cells slots (MQ below (va_Qi post (fun u t => atM E A0 (W1 u) t) A0) args s cells slots A0) (F0 m pc ls [.int (bI b)]) :=
  W.zret hx hb hr (bI_nar b) (fun t ht hW => ⟨⟨bI b, u, rfl, h, by rw [ht]; exact hP, va_K.moved hW.alike hK, hD⟩, hS.F ht⟩) hS.2.2 hdg hlocks
theorem retM_l {post : Int64 → S → Prop} {v : Int64} {u : S} (hx : p.tables.exec = Jvm.exec) (hb : c.code = cc) (hr : meth.sig.returnType = some .long) (hlocks : meth.locks = false) (hP : va_P E.1 vwCl (W1 u) H) (hK : va_K E.1 vwCl (tyE E) s) (hD : va_D A0 (W1 u)) (hS : va_S A0 s.heap H locs) (h : post v u) (hdg : decode cc pc = .ok (.lreturn, 1)) : W p l e R s m args below meth c H locs cells slots (MQ below (va_Ql post (fun u t => atM E A0 (W1 u) t) A0) args s cells slots A0) (F0 m pc ls [.long v]) :=
  W.lret hx hb hr (fun t ht hW => ⟨⟨v, u, rfl, h, by rw [ht]; exact hP, va_K.moved hW.alike hK, hD⟩, hS.F ht⟩) hS.2.2 hdg hlocks
theorem retM_v {post : S → Prop} {u : S} (hx : p.tables.exec = Jvm.exec) (hb : c.code = cc) (hr : meth.sig.returnType = none) (hlocks : meth.locks = false) (hP : va_P E.1 vwCl (W1 u) H) (hK : va_K E.1 vwCl (tyE E) s) (hD : va_D A0 (W1 u)) (hS : va_S A0 s.heap H locs) (h : post u) (hdg : decode cc pc = .ok (.return_, 1)) : W p l e R s m args below meth c H locs cells slots (MQ below (va_Qv post (fun u t => atM E A0 (W1 u) t) A0) args s cells slots A0) (F0 m pc ls []) :=
  W.vret hx hb hr (fun t ht hW => ⟨⟨u, rfl, h, by rw [ht]; exact hP, va_K.moved hW.alike hK, hD⟩, hS.F ht⟩) hS.2.2 hdg hlocks
end CM
def F00 : LR := fun _ _ => 0
theorem okS_0 : OkS 0 0 20 F00 := ⟨by omega, by omega, by omega, fun i h => by omega, fun _ _ _ => rfl⟩

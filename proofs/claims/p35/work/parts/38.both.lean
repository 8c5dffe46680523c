/-! both sides together: rows for calls whose part of the world is the end -/
section CE
variable {p : Program} {l : Launch} {e : Env} {R : Room} {s : State} {m : MethodId} {args : Array Value} {below : List Frame} {meth : Method} {c : Code} {H : Heap} {locs : List Loc} {cells slots : Nat} {Q : State → Prop}
variable {cc bytes : ByteArray} {pc maxL nL n index mc ms z0 : Nat} {ret : Option FieldType} {ls : Array Slot} {rest st As : List Value} {E : GE} {w wx wy : va_W} {y : MethodName} {ws : List Cond} {rm : Room} {Ts : List Cond} {own C : String} {b : Addr} {A0 : Nat → Prop} {S : Type}
theorem cmE_i {W1 : S → va_W} {post : Int32 → S → Prop} (F : CallFix p m c cc nL s args Ts own) (hM : Met l y ws rm (va_Pc (.ref b :: As) (pcM E w H.size)) (va_Qi post (fun u t => atM E (va_A w H.size) (W1 u) t) (va_A w H.size)) mc ms (va_A w H.size)) (cw : CallW R s args own C index y bytes maxL ret ws rm mc ms n) (hr : ∃ cell : Cell, H[b]? = some cell ∧ cell.vm.isStatics = false ∧ s.vm.findClass C = some cell.cls) (hP : va_P E.1 vwCl (wx ++ w) H) (hK : va_K E.1 vwCl (tyE E) s) (hD : va_D A0 (wx ++ w)) (hS : va_S A0 s.heap H locs) (hA : ∀ q, s.heap.size ≤ q → A0 q)
    (hn : As.length = n) (hz : ls.size = nL) (hst : st = As.reverse ++ .ref b :: rest) (hW : (rest.map fun v => v.category).sum ≤ 8) (hdg : decode cc pc = .ok (.invokevirtual index, 3)) (hf : cells + mc ≤ R.cells ∧ slots + ms ≤ R.slots)
    (kk : ∀ (r : Int32) (u : S) (H1 : Heap) (locs1 : List Loc), post r u → va_P E.1 vwCl (wx ++ W1 u) H1 → va_D A0 (wx ++ W1 u) → va_S A0 s.heap H1 locs1 → W p l e R s m args below meth c H1 locs1 (cells + mc) (slots + ms) Q (F0 m (pc + 3) ls (.int r :: rest))) : W p l e R s m args below meth c H locs cells slots Q (F0 m pc ls st) :=
  cmX_i (wx := wx) (wy := []) F hM cw hr (by rw [List.append_nil]; exact hP) hK (by rw [List.append_nil]; exact hD) hS hA hn hz hst hW hdg hf (fun r u H1 locs1 h1 h2 h3 h4 => kk r u H1 locs1 h1 (by rw [List.append_nil] at h2; exact h2) (by rw [List.append_nil] at h3; exact h3) h4)
theorem cmE_r {W1 : Nat → va_W} (F : CallFix p m c cc nL s args Ts own) (hM : Met l y ws rm (va_Pc (.ref b :: As) (pcM E w H.size)) (va_Qr (S := Unit) (fun _ => True) (fun _ aQ tQ => atM E (va_A w H.size) (W1 aQ) tQ) (va_A w H.size)) mc ms (va_A w H.size)) (cw : CallW R s args own C index y bytes maxL ret ws rm mc ms n) (hr : ∃ cell : Cell, H[b]? = some cell ∧ cell.vm.isStatics = false ∧ s.vm.findClass C = some cell.cls) (hP : va_P E.1 vwCl (wx ++ w) H) (hK : va_K E.1 vwCl (tyE E) s) (hD : va_D A0 (wx ++ w)) (hS : va_S A0 s.heap H locs) (hA : ∀ q, s.heap.size ≤ q → A0 q)
    (hn : As.length = n) (hz : ls.size = nL) (hst : st = As.reverse ++ .ref b :: rest) (hW : (rest.map fun v => v.category).sum ≤ 8) (hdg : decode cc pc = .ok (.invokevirtual index, 3)) (hf : cells + mc ≤ R.cells ∧ slots + ms ≤ R.slots)
    (kk : ∀ (ra : Nat) (H1 : Heap) (locs1 : List Loc), va_P E.1 vwCl (wx ++ W1 ra) H1 → va_D A0 (wx ++ W1 ra) → va_S A0 s.heap H1 locs1 → W p l e R s m args below meth c H1 locs1 (cells + mc) (slots + ms) Q (F0 m (pc + 3) ls (.ref ra :: rest))) : W p l e R s m args below meth c H locs cells slots Q (F0 m pc ls st) :=
  cmX_r (wx := wx) (wy := []) F hM cw hr (by rw [List.append_nil]; exact hP) hK (by rw [List.append_nil]; exact hD) hS hA hn hz hst hW hdg hf (fun ra H1 locs1 h2 h3 h4 => kk ra H1 locs1 (by rw [List.append_nil] at h2; exact h2) (by rw [List.append_nil] at h3; exact h3) h4)
theorem cmES_r {W1 : Nat → va_W} (F : CallFix p m c cc nL s args Ts own) (hM : Met l y ws rm (va_Pc As (pcZ E w H.size z0)) (va_Qr (S := Unit) (fun _ => True) (fun _ aQ tQ => atM E (va_A w H.size) (W1 aQ) tQ) (va_A w H.size)) mc ms (va_A w H.size)) (cw : CallB R s args own index y bytes maxL ret ws rm mc ms n ∧ (Cond.static y).before args s = true) (hP : va_P E.1 vwCl (wx ++ w) H) (hK : va_K E.1 vwCl (tyE E) s) (hD : va_D A0 (wx ++ w)) (hZ : ZE z0 A0 s s.heap) (hS : va_S A0 s.heap H locs) (hA : ∀ q, s.heap.size ≤ q → A0 q)
    (hn : As.length = n) (hz : ls.size = nL) (hst : st = As.reverse ++ rest) (hW : (rest.map fun v => v.category).sum ≤ 8) (hdg : decode cc pc = .ok (.invokestatic index, 3)) (hf : cells + mc ≤ R.cells ∧ slots + ms ≤ R.slots)
    (kk : ∀ (ra : Nat) (H1 : Heap) (locs1 : List Loc), va_P E.1 vwCl (wx ++ W1 ra) H1 → va_D A0 (wx ++ W1 ra) → va_S A0 s.heap H1 locs1 → W p l e R s m args below meth c H1 locs1 (cells + mc) (slots + ms) Q (F0 m (pc + 3) ls (.ref ra :: rest))) : W p l e R s m args below meth c H locs cells slots Q (F0 m pc ls st) :=
  cmSZ_r (wx := wx) (wy := []) F hM cw (by rw [List.append_nil]; exact hP) hK (by rw [List.append_nil]; exact hD) hZ hS hA hn hz hst hW hdg hf (fun ra H1 locs1 h2 h3 h4 => kk ra H1 locs1 (by rw [List.append_nil] at h2; exact h2) (by rw [List.append_nil] at h3; exact h3) h4)
end CE
theorem wS_em {E : GE} {b : Nat → Nat} {n now lim : Nat} {R : Nat → Nat → Int32} {y : Nat × va_E} {wx wr : va_W} : (wx ++ (wSg E b n now lim R ++ (y :: wr)))[wx.length + (2 + n)]? = some y := list_rig wS_e
theorem wS_ems {E : GE} {b : Nat → Nat} {n now lim : Nat} {R : Nat → Nat → Int32} {y z : Nat × va_E} {wx wr : va_W} : (wx ++ (wSg E b n now lim R ++ (y :: wr))).set (wx.length + (2 + n)) z = wx ++ (wSg E b n now lim R ++ (z :: wr)) := by
  rw [List.set_append_right _ _ (Nat.le_add_right _ _), Nat.add_sub_cancel_left, wS_es]
theorem wS_l0 {E : GE} {b : Nat → Nat} {n now lim lim2 now2 : Nat} {R : Nat → Nat → Int32} {wx : va_W} : (wx ++ wSg E b n now lim R).set wx.length (b 0, .inr (3, [.ref (b 1), .int (nI lim2), .int (nI now2)])) = wx ++ wSg E b n now2 lim2 R := by
  rw [List.set_append_right _ _ (Nat.le_refl _), Nat.sub_self]
  rfl
/-- a new lamp's row, seven numbers written -/
theorem own_rw {F : LR} {n k v u z : Nat} (h : ∀ q, F n q = 0) : upd (upd (upd (upd (upd (upd (upd (fun _ => 0) ((nI 0).toNatClampNeg) (nI k)) ((nI 1).toNatClampNeg) (nI v)) ((nI 2).toNatClampNeg) (nI 0)) ((nI 3).toNatClampNeg) (nI u)) ((nI 4).toNatClampNeg) (nI z)) ((nI 5).toNatClampNeg) (nI 0)) ((nI 6).toNatClampNeg) (nI 0) = rwF (up2 (up2 (up2 (up2 F n 2 k) n 0 v) n 4 u) n 1 z) n := by
  rw [nI_clamp (by omega), nI_clamp (by omega), nI_clamp (by omega), nI_clamp (by omega), nI_clamp (by omega), nI_clamp (by omega), nI_clamp (by omega)]
  funext q
  match q with
  | 0 => simp [upd, rwF, up2]
  | 1 => simp [upd, rwF, up2]
  | 2 => simp [upd, rwF, up2, h]
  | 3 => simp [upd, rwF, up2]
  | 4 => simp [upd, rwF, up2]
  | 5 => simp [upd, rwF, up2, h]
  | 6 => simp [upd, rwF, up2, h]
  | q + 7 => simp [upd, rwF]
theorem rwF_o {F : LR} {n k v u z j : Nat} (hj : j ≠ n) : rwF (up2 (up2 (up2 (up2 F n 2 k) n 0 v) n 4 u) n 1 z) j = rwF F j := by
  funext q
  simp [rwF, up2, hj]
def bookA (b : Nat → Nat) (n q h2 : Nat) : Nat → Nat := fun j => if j = 1 then q else if j = 2 + n then h2 else b j
theorem bookA_0 (b : Nat → Nat) (n q h2 : Nat) : bookA b n q h2 0 = b 0 := by
  unfold bookA
  rw [if_neg (by omega), if_neg (by omega)]
theorem bookA_n (b : Nat → Nat) (n q h2 : Nat) : bookA b n q h2 (2 + n) = h2 := by
  unfold bookA
  rw [if_neg (by omega), if_pos rfl]
/-- the new row of rows takes the old one's place -/
theorem wS_add {wx : va_W} {E : GE} {b : Nat → Nat} {n now lim h2 q : Nat} {F G : LR} (ho : ∀ j, j < n → rwF G j = rwF F j) {A0 : Nat → Prop} {H : Heap}
    (hP : va_P E.1 vwCl ((wx ++ ((wS E b n now lim F ++ ([(h2, .inl (E.2.1, 7, .inl (rwF G n)))] : va_W)) ++ ([(q, .inl (E.2.2.2.2, n + 1, .inr (.inr (.inr (.inr (arS (va_up b (2 + n) h2) (n + 1)))))))] : va_W))).set wx.length (b 0, .inr (3, [.ref q, .int (nI lim), .int (nI now)]))) H)
    (hD : va_D A0 ((wx ++ ((wS E b n now lim F ++ ([(h2, .inl (E.2.1, 7, .inl (rwF G n)))] : va_W)) ++ ([(q, .inl (E.2.2.2.2, n + 1, .inr (.inr (.inr (.inr (arS (va_up b (2 + n) h2) (n + 1)))))))] : va_W))).set wx.length (b 0, .inr (3, [.ref q, .int (nI lim), .int (nI now)])))) :
    va_P E.1 vwCl (wx ++ wS E (bookA b n q h2) (n + 1) now lim G) H ∧ va_D A0 (wx ++ wS E (bookA b n q h2) (n + 1) now lim G) := by
  have e1 : (wx ++ ((wS E b n now lim F ++ ([(h2, .inl (E.2.1, 7, .inl (rwF G n)))] : va_W)) ++ ([(q, .inl (E.2.2.2.2, n + 1, .inr (.inr (.inr (.inr (arS (va_up b (2 + n) h2) (n + 1)))))))] : va_W))).set wx.length (b 0, .inr (3, [.ref q, .int (nI lim), .int (nI now)])) = wx ++ ((b 0, .inr (3, [.ref q, .int (nI lim), .int (nI now)])) :: (b 1, .inl (E.2.2.2.2, n, .inr (.inr (.inr (.inr (arS b n)))))) :: (((List.range n).map (fun i => (b (2 + i), .inl (E.2.1, 7, .inl (rwF F i)))) ++ ([(h2, .inl (E.2.1, 7, .inl (rwF G n)))] : va_W)) ++ ([(q, .inl (E.2.2.2.2, n + 1, .inr (.inr (.inr (.inr (arS (va_up b (2 + n) h2) (n + 1)))))))] : va_W))) := by
    rw [List.set_append_right _ _ (Nat.le_refl _), Nat.sub_self]
    rfl
  have e2 : wx ++ wS E (bookA b n q h2) (n + 1) now lim G = wx ++ ((b 0, .inr (3, [.ref q, .int (nI lim), .int (nI now)])) :: (q, .inl (E.2.2.2.2, n + 1, .inr (.inr (.inr (.inr (arS (va_up b (2 + n) h2) (n + 1))))))) :: ((List.range n).map (fun i => (b (2 + i), .inl (E.2.1, 7, .inl (rwF F i)))) ++ ([(h2, .inl (E.2.1, 7, .inl (rwF G n)))] : va_W))) := by
    have a1 : arS (bookA b n q h2) (n + 1) = arS (va_up b (2 + n) h2) (n + 1) := by
      funext j
      unfold arS bookA va_up
      rw [if_neg (show ¬ 2 + j = 1 by omega)]
    have a2 : (List.range (n + 1)).map (fun i => (bookA b n q h2 (2 + i), (Sum.inl (E.2.1, 7, Sum.inl (rwF G i)) : va_E))) = (List.range n).map (fun i => (b (2 + i), (Sum.inl (E.2.1, 7, Sum.inl (rwF F i)) : va_E))) ++ [(h2, (Sum.inl (E.2.1, 7, Sum.inl (rwF G n)) : va_E))] := by
      rw [List.range_succ, List.map_append]
      have a3 : (List.range n).map (fun i => (bookA b n q h2 (2 + i), (Sum.inl (E.2.1, 7, Sum.inl (rwF G i)) : va_E))) = (List.range n).map (fun i => (b (2 + i), (Sum.inl (E.2.1, 7, Sum.inl (rwF F i)) : va_E))) := by
        apply List.map_congr_left
        intro j hj
        have hj2 := List.mem_range.mp hj
        rw [ho j hj2]
        unfold bookA
        rw [if_neg (by omega), if_neg (by omega)]
      rw [a3, List.map_cons, List.map_nil, bookA_n]
    unfold wS wSg
    rw [a1, a2, bookA_0]
    rfl
  rw [e1] at hP hD
  rw [e2]
  exact ⟨va_Psw hP, va_Dsw hD⟩
/-! the script, and the law's little helpers -/
def blN (v : Int32) : Nat := (v &&& nI 2147483647).toNatClampNeg
theorem bl_and (v : Int32) : v &&& nI 2147483647 = nI (blN v) ∧ blN v < 2147483648 := by
  obtain ⟨q, hq, e9⟩ := pk_andE v (m := nI 2147483647) 31 (by decide)
  unfold blN
  rw [e9, nI_clamp (by omega)]
  exact ⟨rfl, by omega⟩
def bl (v : Int32) (k : Nat) : Nat := blN v % k
theorem bl_lt {v : Int32} {k : Nat} (h : 0 < k) : bl v k < k := Nat.mod_lt _ h
theorem bl_11 (v : Int32) : bl (nI 11 * (v &&& nI 16777215)) 11 = 0 := by
  obtain ⟨q, hq, e9⟩ := pk_andE v (m := nI 16777215) 24 (by decide)
  unfold bl blN
  have e8 : 11 * q % 2 ^ 31 = 11 * q := Nat.mod_eq_of_lt (by omega)
  rw [e9, pk_mul, pk_andN (by omega) 31 (by decide), e8, nI_clamp (by omega)]
  exact Nat.mul_mod_right 11 q
def pcX (bs L : Nat) (xs : Nat → Int32) : State → Prop := fun U => va_X bs L xs U U.heap
theorem fb_X {av : List Value} {bs L : Nat} {xs : Nat → Int32} : FrameBlind (va_Pc av (pcX bs L xs)) := fun a U g mk q => ⟨q.1, va_X.moved (u := U) (U := U.calling g mk a) (Vm.Alike.refl U.vm) q.2⟩
def NL (U : State) : Prop := va_Nw (.methodLinkNest "PulseLoomLaw" 53 yX2_init "PulseLoomLaw") U
def pcB (E : GE) (w : va_W) (sz z0 bs L : Nat) (xs : Nat → Int32) : State → Prop := fun U => pcZ E w sz z0 U ∧ va_X bs L xs U U.heap ∧ ¬ va_A w sz bs ∧ NL U
theorem fb_B {av : List Value} {E : GE} {w : va_W} {sz z0 bs L : Nat} {xs : Nat → Int32} : FrameBlind (va_Pc av (pcB E w sz z0 bs L xs)) := fun a U g mk q => ⟨q.1, (fb_Z (E := E) (w := w) (sz := sz) (z0 := z0) (av := av) a U g mk ⟨q.1, q.2.1⟩).2, va_X.moved (u := U) (U := U.calling g mk a) (Vm.Alike.refl U.vm) q.2.2.1, q.2.2.2.1, va_Nw.same rfl rfl q.2.2.2.2⟩
section MX
variable {l : Launch} {y : MethodName} {ws ws' : List Cond} {rm : Room} {av : List Value} {E : GE} {w : va_W} {cc : ByteArray} {maxL : Nat} {ret : Option FieldType} {bs L : Nat} {xs : Nat → Int32}
theorem metX {Qc : Array Value → State → Outcome → State → Prop} (hy : plainName y.cls = true) (hw : ws = Cond.code y cc maxL ret :: ws') (hn : (lg_sl av).length ≤ maxL)
    (body : ∀ (p : Program) (e : Env) (s : State) (m : MethodId) (args : Array Value) (below : List Frame) (meth : Method) (c : Code) (ls : Array Slot), p.tables.exec = Jvm.exec → c.code = cc → meth.sig.returnType = ret → c.maxLocals = maxL → (∀ q ∈ ws, q.before args s = true) → s.vm.findClass y.cls = some m.cls → meth.locks = false → va_X bs L xs s s.heap → lv_has ls maxL (lv_args 0 av) →
      W p l e rm s m args below meth c s.heap [] 0 0 (MQ below Qc args s 0 0 (fun _ => False)) (F0 m 0 ls [])) : Met l y ws rm (va_Pc av (pcX bs L xs)) Qc 0 0 (fun _ => False) := by
  refine Met.ofW (cc := cc) (maxL := maxL) (ret := ret) hy hw ?_
  intro p e s m args below meth c s₁ B hml hv
  obtain ⟨rfl, hX⟩ := hv
  rw [lg_entry_eq]
  exact body p e s m _ below meth c _ B.exec B.bytes B.returns hml (atoms_spec (ws := ws) B.pre) (findClass_of_methodNamed B.named) B.notSynchronized hX (lv_entry av hn)
theorem metB {Qc : Array Value → State → Outcome → State → Prop} {sz mc ms z0 : Nat} (hy : plainName y.cls = true) (hw : ws = Cond.code y cc maxL ret :: ws') (hn : (lg_sl av).length ≤ maxL)
    (body : ∀ (p : Program) (e : Env) (s : State) (m : MethodId) (args : Array Value) (below : List Frame) (meth : Method) (c : Code) (ls : Array Slot) (A : Nat → Prop), va_A w sz = A → (∀ q : Nat, s.heap.size ≤ q → A q) → p.tables.exec = Jvm.exec → c.code = cc → meth.sig.returnType = ret → c.maxLocals = maxL → (∀ q ∈ ws, q.before args s = true) → s.vm.findClass y.cls = some m.cls → meth.locks = false → va_P E.1 vwCl w s.heap → va_K E.1 vwCl (tyE E) s → va_D A w → ZE z0 A s s.heap → va_S A s.heap s.heap [] → va_X bs L xs s s.heap → ¬ A bs → NL s → lv_has ls maxL (lv_args 0 av) →
      W p l e rm s m args below meth c s.heap [] 0 0 (MQ below Qc args s mc ms A) (F0 m 0 ls [])) : Met l y ws rm (va_Pc av (pcB E w sz z0 bs L xs)) Qc mc ms (va_A w sz) := by
  refine Met.ofW (cc := cc) (maxL := maxL) (ret := ret) hy hw ?_
  intro p e s m args below meth c s₁ B hml hv
  obtain ⟨rfl, ⟨⟨hsz, hP, hK, hD⟩, hZ⟩, hX, hbs, hN⟩ := hv
  rw [lg_entry_eq]
  exact body p e s m _ below meth c _ (va_A w sz) rfl (fun q hq => Or.inr (by rw [← hsz]; exact hq)) B.exec B.bytes B.returns hml (atoms_spec (ws := ws) B.pre) (findClass_of_methodNamed B.named) B.notSynchronized hP hK hD.self hZ va_S.rf hX hbs hN (lv_entry av hn)
end MX
section CXX
variable {p : Program} {l : Launch} {e : Env} {R : Room} {s : State} {m : MethodId} {args : Array Value} {below : List Frame} {meth : Method} {c : Code} {H : Heap} {locs : List Loc} {cells slots : Nat} {Q : State → Prop}
variable {cc bytes : ByteArray} {pc maxL nL n index mc ms z0 bs L : Nat} {xs : Nat → Int32} {ret : Option FieldType} {ls : Array Slot} {rest st As : List Value} {E : GE} {w wx wy : va_W} {y : MethodName} {ws : List Cond} {rm : Room} {Ts : List Cond} {own C : String} {b : Addr} {A0 : Nat → Prop} {S : Type} {W1 : S → va_W}
theorem csX_i {post : Int32 → Prop} (S : CallFix p m c cc nL s args Ts own) (hM : Met l y ws rm (va_Pc As (pcX bs L xs)) (vp_Si post) 0 0 (fun _ => False)) (cw : CallB R s args own index y bytes maxL ret ws rm 0 0 n ∧ (Cond.static y).before args s = true) (hX : va_X bs L xs s s.heap) (hbs : ¬ A0 bs) (hbl : bs < s.heap.size) (hS : va_S A0 s.heap H locs)
    (hn : As.length = n) (hz : ls.size = nL) (hst : st = As.reverse ++ rest) (hW : (rest.map fun v => v.category).sum ≤ 8) (hdg : decode cc pc = .ok (.invokestatic index, 3)) (hc : cells ≤ R.cells) (hs : slots ≤ R.slots)
    (kk : ∀ r : Int32, post r → W p l e R s m args below meth c H locs cells slots Q (F0 m (pc + 3) ls (.int r :: rest))) : W p l e R s m args below meth c H locs cells slots Q (F0 m pc ls st) :=
  vp_callSi (W.runS (As := As) (rest := rest) S hM cw ⟨fb_X, fun U hU hW => ⟨rfl, by show va_X bs L xs U U.heap; rw [hU]; exact va_X.moved hW.alike (hX.kept (hS.2.1 bs hbl hbs))⟩⟩ rfl hn hz hst (lv_room hW) hdg ⟨hc, hs⟩) kk
/-- a static call that may hang up a lamp -/
theorem cmSZ_i {post : Int32 → S → Prop} (F : CallFix p m c cc nL s args Ts own) (hM : Met l y ws rm (va_Pc As (pcZ E w H.size z0)) (va_Qi post (fun u t => atM E (va_A w H.size) (W1 u) t) (va_A w H.size)) mc ms (va_A w H.size)) (cw : CallB R s args own index y bytes maxL ret ws rm mc ms n ∧ (Cond.static y).before args s = true) (hP : va_P E.1 vwCl w H) (hK : va_K E.1 vwCl (tyE E) s) (hD : va_D A0 w) (hZ : ZE z0 A0 s s.heap) (hS : va_S A0 s.heap H locs) (hA : ∀ q, s.heap.size ≤ q → A0 q)
    (hn : As.length = n) (hz : ls.size = nL) (hst : st = As.reverse ++ rest) (hW : (rest.map fun v => v.category).sum ≤ 8) (hdg : decode cc pc = .ok (.invokestatic index, 3)) (hf : cells + mc ≤ R.cells ∧ slots + ms ≤ R.slots)
    (kk : ∀ (r : Int32) (u : S) (H1 : Heap) (locs1 : List Loc), post r u → va_P E.1 vwCl (W1 u) H1 → va_D A0 (W1 u) → va_S A0 s.heap H1 locs1 → W p l e R s m args below meth c H1 locs1 (cells + mc) (slots + ms) Q (F0 m (pc + 3) ls (.int r :: rest))) : W p l e R s m args below meth c H locs cells slots Q (F0 m pc ls st) :=
  va_calli (va_runS (As := As) (rest := rest) F hM cw ⟨fb_Z, fun U hU hW => ⟨rfl, ⟨by rw [hU], by rw [hU]; exact hP, va_K.moved hW.alike hK, hD.weaken (fun _ _ _ _ => trivial)⟩, ze_in hZ hS (va_freeW hD hS hA) hU hW.alike⟩⟩ rfl hn hz hst (lv_room hW) hdg hf) hS (fun q _ h => va_freeW hD hS hA q h) (va_freeW hD hS hA)
    (fun r u t H1 locs1 ht hvm hw hB _ _ hS1 => by
      obtain ⟨h1, -, h3⟩ := atM_in (va_freeW hD hS hA) ht hvm hB
      exact kk r u H1 locs1 hw h1 h3 hS1)
end CXX
theorem va_X.lt {bs L : Nat} {xs : Nat → Int32} {U : State} {H : Heap} (h : va_X bs L xs U H) : bs < H.size := by
  obtain ⟨scr, h1, -⟩ := h
  exact (Array.getElem?_eq_some_iff.mp h1).1
/-! the mean is told alike -/
theorem or_self2 {x : FP.Core.Datum} (h : x ≠ .nan) : FP.Core.order x x = some .eq := by
  cases x with
  | nan => exact absurd rfl h
  | inf => simp [FP.Core.order, compare, compareOfLessAndEq]
  | fin s9 c9 q9 => simp [FP.Core.order, compare, compareOfLessAndEq]
theorem dd_z {x n : Nat} (hn : 0 < n ∧ n ≤ 8) : ∃ z : Nat, z % 9223372036854775808 ≤ 9218868437227405312 ∧ FP.ddiv (FP.i2d (nI x)) (FP.i2d (nI n)) = UInt64.ofNat z := by
  refine ⟨_, f_enc (f_quo (f_dec ?_) (f_by n (by omega) hn.1)), rfl⟩
  have h1 : fgood (FP.Core.round FP.Core.b64 (FP.Core.ofInt (nI x).toInt)) := f_round _ _ _ _
  have h2 := f_enc h1
  show (UInt64.ofNat (FP.Core.fromInt FP.Core.b64 (nI x).toInt)).toNat % _ ≤ _
  rw [UInt64.toNat_ofNat']
  unfold FP.Core.fromInt
  omega
theorem dcmp_ok {x n : Nat} (hn : 0 < n ∧ n ≤ 8) : Op.cmpValue (FP.dcmp (FP.ddiv (FP.i2d (nI x)) (FP.i2d (nI n))) (FP.ddiv (FP.i2d (nI x)) (FP.i2d (nI n)))) .l = nI 0 := by
  obtain ⟨z, hz, e9⟩ := dd_z (x := x) hn
  rw [e9]
  have h1 : FP.Core.decode FP.Core.b64 (UInt64.ofNat z).toNat ≠ .nan := f_dec (by rw [UInt64.toNat_ofNat']; omega)
  have h2 : FP.dcmp (UInt64.ofNat z) (UInt64.ofNat z) = some .eq := or_self2 h1
  rw [h2]
  rfl
theorem mnD_pos {F : LR} {n : Nat} (h : 0 < n) : mnD F n = FP.ddiv (FP.i2d (nI (sumS F n))) (FP.i2d (nI n)) := by
  unfold mnD
  rw [if_neg (by omega)]

set_option maxHeartbeats 4000000 in
set_option maxRecDepth 100000 in
/-- below(v, k) -/
theorem c_L_below (l : Launch) (E : GE) (w : va_W) (v : Int32) (k : Nat) (hk : 1 ≤ k ∧ k ≤ 1000) : Met l yL_below wsL_below ({ frames := 0, cells := 0, slots := 0, locals := 0 } : Room) (va_Pc [.int v, .int (nI k)] (pcS E (w))) (vp_Si (fun r => r = nI (bl v k))) 0 0 (fun _ => False) := by
  refine metS (by decide) rfl (Nat.le_of_ble_eq_true rfl) ?_
  intro p e s m args below meth c ls hx hb hr hml hts hown hlocks hP hK hl
  have hbl9 := (bl_and v).2
  refine lv_iload_n hx hb dL_below_0 rfl (lv_at hl 0 rfl) ?_
  refine lv_ldc (v := nI 2147483647) hx hb hown (show (Jvm.Cond.constant RL 7 (nI 2147483647)).before args s = true from (hts (.constant RL 7 (2147483647)) (List.mem_of_getElem? (i := 1) (by rfl)))) dL_below_1 ?_
  refine lv_iand hx hb dL_below_3 ?_
  refine nq_top (show (v &&& (nI 2147483647)) = (nI (blN v)) from (bl_and v).1) ?_
  refine lv_iload_n hx hb dL_below_4 rfl (lv_at hl 1 rfl) ?_
  refine nq_rem hx hb dL_below_5 (by omega) (by omega) (by omega) ?_
  exact retS_i hx hb hr hlocks (rfl) dL_below_6

set_option maxHeartbeats 4000000 in
set_option maxRecDepth 100000 in
/-- cell(the script, k): some number -/
theorem c_L_cell (l : Launch) (bs L : Nat) (xs : Nat → Int32) (k : Nat) (hk : k ≤ 1000) (hL : L ≤ 1000) : Met l yL_cell wsL_cell ({ frames := 0, cells := 0, slots := 0, locals := 0 } : Room) (va_Pc [.ref bs, .int (nI k)] (pcX bs L xs)) (vp_Si (fun _ => True)) 0 0 (fun _ => False) := by
  refine metX (by decide) rfl (Nat.le_of_ble_eq_true rfl) ?_
  intro p e s m args below meth c ls hx hb hr hml hts hown hlocks hX hl
  have hS : va_S (fun _ => False) s.heap s.heap [] := va_S.rf
  refine lv_iload_n hx hb dL_cell_0 rfl (lv_at hl 1 rfl) ?_
  refine lv_aload_n hx hb dL_cell_1 rfl (lv_at hl 0 rfl) ?_
  refine va_slen hx hb hX hX.lt (fun h => h) hS dL_cell_2 ?_
  refine nq_top (show Int32.ofNat L = nI L from rfl) ?_
  refine nq_icmp_ge (tgt := 12) hx hb dL_cell_3 (by decide) (by omega) (by omega) (fun h3 => ?_) (fun h3 => ?_)
  · refine lv_ldc (v := nI 790386105) hx hb hown (show (Jvm.Cond.constant RL 8 (nI 790386105)).before args s = true from (hts (.constant RL 8 (790386105)) (List.mem_of_getElem? (i := 1) (by rfl)))) dL_cell_12 ?_
    refine lv_iload_n hx hb dL_cell_14 rfl (lv_at hl 1 rfl) ?_
    refine lv_iconst (v := (nI 3)) hx hb dL_cell_15 (by decide) ?_
    refine nq_add hx hb dL_cell_16 ?_
    refine nq_mul hx hb dL_cell_17 ?_
    exact retS_i hx hb hr hlocks trivial dL_cell_18
  · refine lv_aload_n hx hb dL_cell_6 rfl (lv_at hl 0 rfl) ?_
    refine lv_iload_n hx hb dL_cell_7 rfl (lv_at hl 1 rfl) ?_
    refine va_sld hx hb hX hX.lt (fun h => h) hS (i := nI k) (by exact vp_in_nI (by omega) (by omega)) dL_cell_8 ?_
    refine lv_goto (tgt := 18) hx hb dL_cell_9 (by decide) ?_
    exact retS_i hx hb hr hlocks trivial dL_cell_18

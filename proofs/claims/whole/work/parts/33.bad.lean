/-! where the class refuses -/
def TE (A : Nat → Prop) (U : State) (H : Heap) : Prop := vx_Zq Bundle.tN "UNASSIGNED_STACK" Bundle.steD A U H ∧ vx_Zq Bundle.tN "SUPPRESSED_SENTINEL" Bundle.listD A U H ∧ (∃ sa, vk_R RX1 177 "a number is outside what is allowed" sa U) ∧ (∃ sa, vk_R RX1 181 "there is no such lamp" sa U) ∧ (∃ sa, vk_R RX1 62 "both lamps are the same" sa U) ∧ (∃ sa, vk_R RX1 33 "there are 8 lamps" sa U) ∧ va_Nw (.castable "java/lang/IllegalArgumentException" "java/lang/IllegalArgumentException") U ∧ va_Nw (.castable "java/lang/IndexOutOfBoundsException" "java/lang/IndexOutOfBoundsException") U ∧ va_Nw (.castable "java/lang/IllegalStateException" "java/lang/IllegalStateException") U ∧ va_Nc "java/lang/IllegalStateException" "java/lang/IllegalArgumentException" U ∧ va_Nc "java/lang/IllegalArgumentException" "java/lang/IndexOutOfBoundsException" U ∧ va_Nw (.declares (Bundle.initS "java/lang/RuntimeException")) U ∧ va_Nw (.declares (Bundle.initS "java/lang/Exception")) U ∧ va_Nw (.declares (Bundle.initS Bundle.tN)) U
def pcT (E : GE) (w : va_W) (sz : Nat) : State → Prop := fun U => pcM E w sz U ∧ TE (va_A w sz) U U.heap
theorem te_same {A : Nat → Prop} {u U : State} {H : Heap} (hv : U.vm = u.vm) (h : TE A u H) : TE A U H := by
  obtain ⟨h1, h2, ⟨sa, h3⟩, ⟨sb, h4⟩, ⟨sc, h5⟩, ⟨sd, h6⟩, h7, h8, h9, h10, h11, h12, h13, h14⟩ := h
  have ha : u.vm.Alike U.vm := by rw [hv]; exact Vm.Alike.refl _
  exact ⟨vx_Zq.moved ha h1, vx_Zq.moved ha h2, ⟨sa, vk_R.same hv h3⟩, ⟨sb, vk_R.same hv h4⟩, ⟨sc, vk_R.same hv h5⟩, ⟨sd, vk_R.same hv h6⟩, va_Nw.same rfl hv.symm h7, va_Nw.same rfl hv.symm h8, va_Nw.same rfl hv.symm h9, va_Nc.moved ha h10, va_Nc.moved ha h11, va_Nw.same rfl hv.symm h12, va_Nw.same rfl hv.symm h13, va_Nw.same rfl hv.symm h14⟩
theorem te_in {s U : State} {A0 A1 : Nat → Prop} {H : Heap} {locs : List Loc} (hT : TE A0 s s.heap) (hS : va_S A0 s.heap H locs) (hF : ∀ q, A1 q → A0 q) (hU : U.heap = H) (hW : s.WarmedH U.vm) : TE A1 U U.heap := by
  rw [hU]
  obtain ⟨h1, h2, ⟨sa, h3⟩, ⟨sb, h4⟩, ⟨sc, h5⟩, ⟨sd, h6⟩, h7, h8, h9, h10, h11, h12, h13, h14⟩ := hT
  exact ⟨vx_Zq.moved hW.alike ((h1.kept hS.2.1).narrow hF), vx_Zq.moved hW.alike ((h2.kept hS.2.1).narrow hF), ⟨sa, vk_R.warm hW h3⟩, ⟨sb, vk_R.warm hW h4⟩, ⟨sc, vk_R.warm hW h5⟩, ⟨sd, vk_R.warm hW h6⟩, va_Nw.warmC hW h7, va_Nw.warmC hW h8, va_Nw.warmC hW h9, va_Nc.moved hW.alike h10, va_Nc.moved hW.alike h11, va_Nw.warmD hW h12, va_Nw.warmD hW h13, va_Nw.warmD hW h14⟩
theorem fb_T {av : List Value} {E : GE} {w : va_W} {sz : Nat} : FrameBlind (va_Pc av (pcT E w sz)) := fun a U g mk q => ⟨q.1, (fb_M (E := E) (w := w) (sz := sz) (av := av) a U g mk ⟨q.1, q.2.1⟩).2, te_same (u := U) (U := U.calling g mk a) rfl q.2.2⟩
/-- a throw of X: the world stays -/
def xT (E : GE) (X : String) (w : va_W) (A : Nat → Prop) : String → State → State → Prop := vx_X (fun _ : Unit => True) (fun Ex _ t => Ex = X ∧ atM E A w t) A
abbrev xnm : List String := ["java/lang/RuntimeException", "java/lang/Exception"]
section MT
variable {l : Launch} {y : MethodName} {ws ws' : List Cond} {rm : Room} {av : List Value} {E : GE} {w : va_W} {cc : ByteArray} {maxL : Nat} {ret : Option FieldType}
theorem metT {Qc : Array Value → State → Outcome → State → Prop} {XC : String → State → State → Prop} {sz mc ms : Nat} (hy : plainName y.cls = true) (hw : ws = Cond.code y cc maxL ret :: ws') (hn : (lg_sl av).length ≤ maxL)
    (body : ∀ (p : Program) (e : Env) (s : State) (m : MethodId) (args : Array Value) (below : List Frame) (meth : Method) (c : Code) (ls : Array Slot) (A : Nat → Prop), va_A w sz = A → (∀ q : Nat, s.heap.size ≤ q → A q) → p.tables.exec = Jvm.exec → c.code = cc → meth.sig.returnType = ret → c.maxLocals = maxL → (∀ q ∈ ws, q.before args s = true) → s.vm.findClass y.cls = some m.cls → meth.locks = false → (∀ x ∈ c.exceptionTable.toList, False) → va_P E.1 vwCl w s.heap → va_K E.1 vwCl (tyE E) s → va_D A w → TE A s s.heap → lv_has ls maxL (lv_args 0 av) →
      W p l e rm s m args below meth c s.heap [] 0 0 (vx_MQ below Qc XC args s mc ms A) (F0 m 0 ls [])) : vx_Met l y ws rm (va_Pc av (pcT E w sz)) Qc XC mc ms (va_A w sz) := by
  refine vx_ofW (cc := cc) (maxL := maxL) (ret := ret) hy hw ?_
  intro p e s m args below meth c s₁ B hml hout hv
  obtain ⟨rfl, ⟨hsz, hP, hK, hD⟩, hT⟩ := hv
  rw [lg_entry_eq]
  exact body p e s m _ below meth c _ (va_A w sz) rfl (fun q hq => Or.inr (by rw [← hsz]; exact hq)) B.exec B.bytes B.returns hml (atoms_spec (ws := ws) B.pre) (findClass_of_methodNamed B.named) B.notSynchronized hout hP hK hD.self hT (lv_entry av hn)
end MT
section XR
variable {p : Program} {l : Launch} {e : Env} {R : Room} {s : State} {m : MethodId} {args : Array Value} {below : List Frame} {meth : Method} {c : Code} {H : Heap} {locs : List Loc} {cells slots : Nat} {Q : State → Prop}
variable {cc bytes : ByteArray} {pc maxL nL n index mc ms mc2 ms2 : Nat} {ret : Option FieldType} {ls : Array Slot} {rest st As : List Value} {E : GE} {w w0 wx wy : va_W} {y : MethodName} {ws : List Cond} {rm : Room} {Ts : List Cond} {own C X : String} {b : Addr} {A0 A1 : Nat → Prop} {free : Addr → Prop} {Qc : Array Value → State → Outcome → State → Prop}
theorem xrun (hr : vx_Run p l e R s m args below meth c H locs cells slots mc ms (F0 m pc ls st) rest (fun _ _ _ => False) (xT E X w A1) free) (hS : va_S A0 s.heap H locs) (hA : ∀ q, q < H.size → A1 q → A0 q) (hf : ∀ q, free q → A0 q)
    (kx : ∀ (ce : Cell) (q9 : Addr) (t : State) (H1 : Heap) (locs1 : List Loc), t.heap = H1 → s.vm.Alike t.vm → atM E A1 w t → H.size ≤ H1.size → (∀ q : Nat, q < H.size → ¬ A1 q → H1[q]? = H[q]?) → va_S A0 s.heap H1 locs1 → H1[q9]? = some ce → ce.vm = .none → s.vm.findClass X = some ce.cls → vx_W p l e R s m args below meth c H1 locs1 (cells + mc) (slots + ms) Q (F0 m pc ls rest) q9) : W p l e R s m args below meth c H locs cells slots Q (F0 m pc ls st) := by
  intro T hT X9
  rcases hr T hT X9 with ⟨v, st₀, t, T', L, h0, X', hL, e1, e2, hff, st⟩ | ⟨q, st₀, t, T', L, Ex, ce, h0, X', hL, e1, e2, ⟨u, hp, ⟨hE, hb⟩, hF⟩, hce, hcv, hcl, st⟩
  · exact hff.elim
  · subst hE
    obtain ⟨k1, k2, k3⟩ := vx_keep h0 e1 hS hA hf hL hF
    obtain ⟨t2, a1, b1⟩ := kx ce q t T'.heap (locs ++ L) e1.symm (by rw [← e2]; exact X'.warmed.alike) hb k1 k2 k3 (by rw [e1]; exact hce) hcv hcl T' rfl X'
    exact ⟨t2, st.trans a1, b1⟩
theorem xcV (F : CallFix p m c cc nL s args Ts own) (hM : vx_Met l y ws rm (va_Pc (.ref b :: As) (pcT E w H.size)) (fun _ _ _ _ => False) (xT E X w (va_A w H.size)) mc ms (va_A w H.size)) (cw : CallW R s args own C index y bytes maxL ret ws rm mc ms n) (hr : ∃ cell : Cell, H[b]? = some cell ∧ cell.vm.isStatics = false ∧ s.vm.findClass C = some cell.cls) (hsp : w0 = wx ++ (w ++ wy)) (hP : va_P E.1 vwCl w0 H) (hK : va_K E.1 vwCl (tyE E) s) (hD : va_D A0 w0) (hT : TE A0 s s.heap) (hS : va_S A0 s.heap H locs) (hA : ∀ q, s.heap.size ≤ q → A0 q)
    (hn : As.length = n) (hz : ls.size = nL) (hst : st = As.reverse ++ .ref b :: rest) (hW : (rest.map fun v => v.category).sum ≤ 8) (hdg : decode cc pc = .ok (.invokevirtual index, 3)) (hf : cells + mc ≤ R.cells ∧ slots + ms ≤ R.slots)
    (kx : ∀ (ce : Cell) (q9 : Addr) (H1 : Heap) (locs1 : List Loc), va_P E.1 vwCl w0 H1 → va_D A0 w0 → va_S A0 s.heap H1 locs1 → H1[q9]? = some ce → ce.vm = .none → s.vm.findClass X = some ce.cls → vx_W p l e R s m args below meth c H1 locs1 (cells + mc) (slots + ms) Q (F0 m pc ls rest) q9) : W p l e R s m args below meth c H locs cells slots Q (F0 m pc ls st) := by
  subst hsp
  refine xrun (vx_runV (As := As) (rest := rest) F hM cw ⟨fb_T, hr, fun U hU hW => ⟨rfl, ⟨by rw [hU], by rw [hU]; exact va_Pm hP, va_K.moved hW.alike hK, (va_Dm hD).weaken (fun _ _ _ _ => trivial)⟩, te_in hT hS (va_freeW (va_Dm hD) hS hA) hU hW⟩⟩ rfl hn hz hst (lv_room hW) hdg hf) hS (fun q _ h => va_freeW (va_Dm hD) hS hA q h) (va_freeW (va_Dm hD) hS hA) ?_
  intro ce q9 t H1 locs1 ht hvm hB _ hk hS1 hc1 hv1 hcl1
  obtain ⟨b1, b2, b3⟩ := hB
  rw [ht] at b1
  obtain ⟨h1, h3⟩ := va_split hP hD hk (va_freeW (va_Dm hD) hS hA) b1 b3
  exact kx ce q9 H1 locs1 h1 h3 hS1 hc1 hv1 hcl1
theorem xcS (F : CallFix p m c cc nL s args Ts own) (hM : vx_Met l y ws rm (va_Pc As (pcT E w H.size)) (fun _ _ _ _ => False) (xT E X w (va_A w H.size)) mc ms (va_A w H.size)) (cw : CallB R s args own index y bytes maxL ret ws rm mc ms n ∧ (Cond.static y).before args s = true) (hsp : w0 = wx ++ (w ++ wy)) (hP : va_P E.1 vwCl w0 H) (hK : va_K E.1 vwCl (tyE E) s) (hD : va_D A0 w0) (hT : TE A0 s s.heap) (hS : va_S A0 s.heap H locs) (hA : ∀ q, s.heap.size ≤ q → A0 q)
    (hn : As.length = n) (hz : ls.size = nL) (hst : st = As.reverse ++ rest) (hW : (rest.map fun v => v.category).sum ≤ 8) (hdg : decode cc pc = .ok (.invokestatic index, 3)) (hf : cells + mc ≤ R.cells ∧ slots + ms ≤ R.slots)
    (kx : ∀ (ce : Cell) (q9 : Addr) (H1 : Heap) (locs1 : List Loc), va_P E.1 vwCl w0 H1 → va_D A0 w0 → va_S A0 s.heap H1 locs1 → H1[q9]? = some ce → ce.vm = .none → s.vm.findClass X = some ce.cls → vx_W p l e R s m args below meth c H1 locs1 (cells + mc) (slots + ms) Q (F0 m pc ls rest) q9) : W p l e R s m args below meth c H locs cells slots Q (F0 m pc ls st) := by
  subst hsp
  refine xrun (vx_runS (As := As) (rest := rest) F hM cw ⟨fb_T, fun U hU hW => ⟨rfl, ⟨by rw [hU], by rw [hU]; exact va_Pm hP, va_K.moved hW.alike hK, (va_Dm hD).weaken (fun _ _ _ _ => trivial)⟩, te_in hT hS (va_freeW (va_Dm hD) hS hA) hU hW⟩⟩ rfl hn hz hst (lv_room hW) hdg hf) hS (fun q _ h => va_freeW (va_Dm hD) hS hA q h) (va_freeW (va_Dm hD) hS hA) ?_
  intro ce q9 t H1 locs1 ht hvm hB _ hk hS1 hc1 hv1 hcl1
  obtain ⟨b1, b2, b3⟩ := hB
  rw [ht] at b1
  obtain ⟨h1, h3⟩ := va_split hP hD hk (va_freeW (va_Dm hD) hS hA) b1 b3
  exact kx ce q9 H1 locs1 h1 h3 hS1 hc1 hv1 hcl1
theorem xoutT {ce : Cell} {q : Addr} (hout : ∀ x ∈ c.exceptionTable.toList, False) (hlocks : meth.locks = false) (hcell : H[q]? = some ce) (hv : ce.vm = .none) (hcl : s.vm.findClass X = some ce.cls) (hP : va_P E.1 vwCl w H) (hK : va_K E.1 vwCl (tyE E) s) (hD : va_D A0 w) (hS : va_S A0 s.heap H locs) (hc : cells ≤ mc2) (hs : slots ≤ ms2) :
    vx_W p l e R s m args below meth c H locs cells slots (vx_MQ below Qc (xT E X w A0) args s mc2 ms2 A0) (F0 m pc ls rest) q :=
  vx_out (fun x hx => (hout x hx).elim) hlocks hcell hv hcl (fun t ht hvm => ⟨(), trivial, ⟨rfl, by rw [ht]; exact hP, va_K.moved hvm hK, hD⟩, hS.F ht⟩) hS.2.2 hc hs
theorem thrS {text : String} {ik is ic : Nat} (hx : p.tables.exec = Jvm.exec) (hb : c.code = cc) (hl9 : l.stackTraces = false) (hown : s.vm.findClass RX1 = some m.cls) (hX : Bundle.fit X = true) (hk : (Cond.classLink RX1 ik X).before args s = true) (hini : (Cond.initialized X).before args s = true) (hstr : ∃ sa, vk_R RX1 is text sa s) (hat : ∀ w ∈ vx_atS RX1 ic X xnm, w.before args s = true)
    (hgood : ∀ w ∈ Cond.classLink RX1 ik X :: Cond.initialized X :: vx_atS RX1 ic X xnm, vx_ot w = true) (hT : TE A0 s s.heap) (hP : va_P E.1 vwCl w H) (hK : va_K E.1 vwCl (tyE E) s) (hD : va_D A0 w) (hS : va_S A0 s.heap H locs) (hsize : ls.size = c.maxLocals)
    (d0 : decode cc pc = .ok (.new ik, 3)) (d3 : decode cc (pc + 3) = .ok (.dup, 1)) (d4 : decode cc (pc + 4) = .ok (.ldc is, 2)) (d6 : decode cc (pc + 6) = .ok (.invokespecial ic, 3)) (d9 : decode cc (pc + 9) = .ok (.athrow, 1))
    (hout : ∀ x ∈ c.exceptionTable.toList, False) (hR : 5 < R.frames ∧ (rest.map fun v => v.category).sum + 82 ≤ R.locals ∧ cells + 1 ≤ R.cells ∧ slots + 6 ≤ R.slots) (hlocks : meth.locks = false) (hc : cells + 1 ≤ mc2) (hs : slots + 6 ≤ ms2) :
    W p l e R s m args below meth c H locs cells slots (vx_MQ below Qc (xT E X w A0) args s mc2 ms2 A0) (F0 m pc ls rest) := by
  obtain ⟨sa, hstr⟩ := hstr
  refine vx_throwS (names := xnm) (A := A0) hx hb hl9 hown hX (by decide +kernel) hk hini hstr hat hgood hT.1 hT.2.1 hS hsize d0 d3 d4 d6 d9 (fun x hx => (hout x hx).elim) hR.1 hR.2.1 hR.2.2.1 hR.2.2.2 hlocks ?_ hS.2.2 hc hs
  intro t hvm hsz hkeep
  exact ⟨(), trivial, ⟨rfl, fun k q hq => (hP k q hq).kept (hkeep q.1 (hP k q hq).lt), va_K.moved hvm hK, hD⟩, Nat.le_trans hS.1 hsz, fun q h1 h2 => by rw [hkeep q (Nat.lt_of_lt_of_le h1 hS.1)]; exact hS.2.1 q h1 h2⟩
end XR
theorem inB_ff {x lo hi : Int32} (h : inB x lo hi = false) (h1 : ¬ x < lo) (h2 : x ≤ hi) : False := by
  rw [inB, decide_eq_false_iff_not] at h
  exact h ⟨Int32.not_lt.mp h1, h2⟩
theorem inB_tt {x lo hi : Int32} (h : inB x lo hi = true) : ¬ x < lo ∧ x ≤ hi := by
  rw [inB, decide_eq_true_eq] at h
  exact ⟨Int32.not_lt.mpr h.1, h.2⟩
theorem lpB_ff {n : Nat} {x : Int32} (hn : n ≤ 8) (h : lpB n x = false) (h1 : ¬ x < 0) (h2 : x < nI n) : False := by
  rw [lpB, decide_eq_false_iff_not] at h
  refine h ⟨?_, ?_⟩
  · have h3 := Int32.le_iff_toInt_le.mp (Int32.not_lt.mp h1)
    exact h3
  · have h3 := Int32.lt_iff_toInt_lt.mp h2
    rw [nI_toInt (by omega)] at h3
    exact h3
theorem lpB_ex {n : Nat} {x : Int32} (hn : n ≤ 8) (h : lpB n x = true) : ∃ k, x = nI k ∧ k < n := by
  rw [lpB, decide_eq_true_eq] at h
  refine ⟨x.toInt.toNat, ?_, by omega⟩
  rw [← iI_n, Int.toNat_of_nonneg h.1, iI_of]
theorem inB_ex {lo hi : Nat} {x : Int32} (hh : lo ≤ hi ∧ hi < 2147483648) (h : inB x (nI lo) (nI hi) = true) : ∃ k, x = nI k ∧ lo ≤ k ∧ k ≤ hi := by
  rw [inB, decide_eq_true_eq] at h
  have h1 := Int32.le_iff_toInt_le.mp h.1
  have h2 := Int32.le_iff_toInt_le.mp h.2
  rw [nI_toInt (by omega)] at h1
  rw [nI_toInt (by omega)] at h2
  refine ⟨x.toInt.toNat, ?_, by omega, by omega⟩
  rw [← iI_n, Int.toNat_of_nonneg (by omega), iI_of]

theorem xg64 : ∀ w ∈ Cond.classLink RX1 60 "java/lang/IllegalArgumentException" :: Cond.initialized "java/lang/IllegalArgumentException" :: vx_atS RX1 64 "java/lang/IllegalArgumentException" xnm, vx_ot w = true := by decide +kernel
theorem xf64 : ∀ w ∈ (vx_atS RX1 64 "java/lang/IllegalArgumentException" xnm).filter (fun w => !goodWord w), w ∈ [Cond.castable "java/lang/IllegalArgumentException" "java/lang/IllegalArgumentException", .declares (Bundle.initS "java/lang/RuntimeException"), .declares (Bundle.initS "java/lang/Exception"), .declares (Bundle.initS Bundle.tN)] := by decide +kernel

theorem xg183 : ∀ w ∈ Cond.classLink RX1 179 "java/lang/IndexOutOfBoundsException" :: Cond.initialized "java/lang/IndexOutOfBoundsException" :: vx_atS RX1 183 "java/lang/IndexOutOfBoundsException" xnm, vx_ot w = true := by decide +kernel
theorem xf183 : ∀ w ∈ (vx_atS RX1 183 "java/lang/IndexOutOfBoundsException" xnm).filter (fun w => !goodWord w), w ∈ [Cond.castable "java/lang/IndexOutOfBoundsException" "java/lang/IndexOutOfBoundsException", .declares (Bundle.initS "java/lang/RuntimeException"), .declares (Bundle.initS "java/lang/Exception"), .declares (Bundle.initS Bundle.tN)] := by decide +kernel

theorem xg35 : ∀ w ∈ Cond.classLink RX1 31 "java/lang/IllegalStateException" :: Cond.initialized "java/lang/IllegalStateException" :: vx_atS RX1 35 "java/lang/IllegalStateException" xnm, vx_ot w = true := by decide +kernel
theorem xf35 : ∀ w ∈ (vx_atS RX1 35 "java/lang/IllegalStateException" xnm).filter (fun w => !goodWord w), w ∈ [Cond.castable "java/lang/IllegalStateException" "java/lang/IllegalStateException", .declares (Bundle.initS "java/lang/RuntimeException"), .declares (Bundle.initS "java/lang/Exception"), .declares (Bundle.initS Bundle.tN)] := by decide +kernel

set_option maxHeartbeats 4000000 in
set_option maxRecDepth 100000 in
/-- refuseOutside refuses -/
theorem x_X1_refuseOutside (l : Launch) (hl9 : l.stackTraces = false) (E : GE) (sz : Nat) (w : va_W) (x lo hi : Int32) (hbad : inB x lo hi = false) : vx_Met l yX1_refuseOutside wsX1_refuseOutside ({ frames := 6, cells := 1, slots := 6, locals := 82 } : Room) (va_Pc [.int x, .int lo, .int hi] (pcT E (w) sz)) (fun _ _ _ _ => False) (xT E "java/lang/IllegalArgumentException" (w) (va_A (w) sz)) 1 6 (va_A (w) sz) := by
  refine metT (by decide) rfl (Nat.le_of_ble_eq_true rfl) ?_
  intro p e s m args below meth c ls A hAe hA hx hb hr hml hts hown hlocks hout hP hK hD hT hl
  rw [hAe]
  refine lv_iload_n hx hb dX1_refuseOutside_0 rfl (lv_at hl 0 rfl) ?_
  refine lv_iload_n hx hb dX1_refuseOutside_1 rfl (lv_at hl 1 rfl) ?_
  refine lv_icmp_lt (tgt := 10) hx hb dX1_refuseOutside_2 (by decide) (fun h2 => ?_) (fun h2 => ?_)
  · skip
    exact thrS (X := "java/lang/IllegalArgumentException") (text := "a number is outside what is allowed") (ik := 60) (is := 177) (ic := 64) hx hb hl9 hown (by decide +kernel) (hts (.classLink RX1 60 "java/lang/IllegalArgumentException") (List.mem_of_getElem? (i := 1) (by rfl))) (hts (.initialized "java/lang/IllegalArgumentException") (List.mem_of_getElem? (i := 2) (by rfl))) hT.2.2.1 (vx_hat (fun w hw => hts w (List.mem_cons_of_mem _ (List.mem_append_right _ hw))) xf64 (vx_c (va_Nw.use rfl hT.2.2.2.2.2.2.1) (vx_c (va_Nw.use rfl hT.2.2.2.2.2.2.2.2.2.2.2.1) (vx_c (va_Nw.use rfl hT.2.2.2.2.2.2.2.2.2.2.2.2.1) (vx_c (va_Nw.use rfl hT.2.2.2.2.2.2.2.2.2.2.2.2.2) vx_n))))) xg64 hT hP hK hD va_S.rf (hl.1.trans hml.symm) dX1_refuseOutside_10 dX1_refuseOutside_13 dX1_refuseOutside_14 dX1_refuseOutside_16 dX1_refuseOutside_19 hout ⟨by decide, by decide, by decide, by decide⟩ hlocks (by decide) (by decide)
  · skip
    refine lv_iload_n hx hb dX1_refuseOutside_5 rfl (lv_at hl 0 rfl) ?_
    refine lv_iload_n hx hb dX1_refuseOutside_6 rfl (lv_at hl 2 rfl) ?_
    refine lv_icmp_le (tgt := 20) hx hb dX1_refuseOutside_7 (by decide) (fun h7 => ?_) (fun h7 => ?_)
    · skip
      exact (inB_ff hbad h2 h7).elim
    · skip
      exact thrS (X := "java/lang/IllegalArgumentException") (text := "a number is outside what is allowed") (ik := 60) (is := 177) (ic := 64) hx hb hl9 hown (by decide +kernel) (hts (.classLink RX1 60 "java/lang/IllegalArgumentException") (List.mem_of_getElem? (i := 1) (by rfl))) (hts (.initialized "java/lang/IllegalArgumentException") (List.mem_of_getElem? (i := 2) (by rfl))) hT.2.2.1 (vx_hat (fun w hw => hts w (List.mem_cons_of_mem _ (List.mem_append_right _ hw))) xf64 (vx_c (va_Nw.use rfl hT.2.2.2.2.2.2.1) (vx_c (va_Nw.use rfl hT.2.2.2.2.2.2.2.2.2.2.2.1) (vx_c (va_Nw.use rfl hT.2.2.2.2.2.2.2.2.2.2.2.2.1) (vx_c (va_Nw.use rfl hT.2.2.2.2.2.2.2.2.2.2.2.2.2) vx_n))))) xg64 hT hP hK hD va_S.rf (hl.1.trans hml.symm) dX1_refuseOutside_10 dX1_refuseOutside_13 dX1_refuseOutside_14 dX1_refuseOutside_16 dX1_refuseOutside_19 hout ⟨by decide, by decide, by decide, by decide⟩ hlocks (by decide) (by decide)

set_option maxHeartbeats 4000000 in
set_option maxRecDepth 100000 in
/-- lampAt refuses -/
theorem x_X1_lampAt (l : Launch) (hl9 : l.stackTraces = false) (E : GE) (sz : Nat) (w : va_W) (a : Nat → Nat) (n now lim : Nat) (F : LR) (lit : Nat → Bool) (fo : Nat → Nat) (hv : CV E a n now lim (LF F lit fo) w) (hO : OkS n now lim F) (x : Int32) (hbad : lpB n x = false) : vx_Met l yX1_lampAt wsX1_lampAt ({ frames := 6, cells := 1, slots := 6, locals := 82 } : Room) (va_Pc [.ref (a 0), .int x] (pcT E (w) sz)) (fun _ _ _ _ => False) (xT E "java/lang/IndexOutOfBoundsException" (w) (va_A (w) sz)) 1 6 (va_A (w) sz) := by
  refine metT (by decide) rfl (Nat.le_of_ble_eq_true rfl) ?_
  intro p e s m args below meth c ls A hAe hA hx hb hr hml hts hown hlocks hout hP hK hD hT hl
  rw [hAe]
  have hiX1 : ∀ q ∈ wsX10, q ∈ wsX1_lampAt := by decide +kernel
  obtain ⟨mc, h0x, h1x, h2x, h3x⟩ := cv_all hv
  obtain ⟨hO1, hO2, hO3, hO4, hO5⟩ := id hO
  refine lv_iload_n hx hb dX1_lampAt_0 rfl (lv_at hl 1 rfl) ?_
  refine lv_if_lt (tgt := 15) hx hb dX1_lampAt_1 (by decide) (fun h1 => ?_) (fun h1 => ?_)
  · skip
    exact thrS (X := "java/lang/IndexOutOfBoundsException") (text := "there is no such lamp") (ik := 179) (is := 181) (ic := 183) hx hb hl9 hown (by decide +kernel) (hts (.classLink RX1 179 "java/lang/IndexOutOfBoundsException") (List.mem_of_getElem? (i := 1) (by rfl))) (hts (.initialized "java/lang/IndexOutOfBoundsException") (List.mem_of_getElem? (i := 2) (by rfl))) hT.2.2.2.1 (vx_hat (fun w hw => hts w (List.mem_cons_of_mem _ (List.mem_append_right _ hw))) xf183 (vx_c (va_Nw.use rfl hT.2.2.2.2.2.2.2.1) (vx_c (va_Nw.use rfl hT.2.2.2.2.2.2.2.2.2.2.2.1) (vx_c (va_Nw.use rfl hT.2.2.2.2.2.2.2.2.2.2.2.2.1) (vx_c (va_Nw.use rfl hT.2.2.2.2.2.2.2.2.2.2.2.2.2) vx_n))))) xg183 hT hP hK hD va_S.rf (hl.1.trans hml.symm) dX1_lampAt_15 dX1_lampAt_18 dX1_lampAt_19 dX1_lampAt_21 dX1_lampAt_24 hout ⟨by decide, by decide, by decide, by decide⟩ hlocks (by decide) (by decide)
  · skip
    refine lv_iload_n hx hb dX1_lampAt_4 rfl (lv_at hl 1 rfl) ?_
    refine lv_aload_n hx hb dX1_lampAt_5 rfl (lv_at hl 0 rfl) ?_
    refine va_get (D := E.1) (ci := 2) (v := .ref (a 1)) (C := RX1) (T := TX1) (N := 3) hx hb hts hiX1 hown hK hP 0 h0x rfl 0 (by decide) (hts (.fieldLink RX1 10 "PulseLoom" "row" "Ljava/util/ArrayList;") (List.mem_of_getElem? (i := 3) (by rfl))) (fun _ h9 => h9) rfl dX1_lampAt_6 ?_
    refine csV_i (rest := [.int x]) (As := []) ⟨hx, hb, hml, hown, hts⟩ (c_Jx4a65c_size_8abf5 l E _ 1 _ _ _ n h1x) (cwV 0 hts gX1_lampAt_Jx4a65c_size_8abf5 rfl rfl rfl (by decide +kernel) ⟨Nat.le_of_ble_eq_true rfl, Nat.le_of_ble_eq_true rfl⟩) (va_recv hK hP (ci := 0) (q0 := 1) rfl h1x) hP hK rfl hl.1 rfl (Nat.le_of_ble_eq_true rfl) dX1_lampAt_9 (Nat.le_of_ble_eq_true rfl) (Nat.le_of_ble_eq_true rfl) (fun r9 hr9 => ?_)
    subst hr9
    refine lv_icmp_lt (tgt := 25) hx hb dX1_lampAt_12 (by decide) (fun h12 => ?_) (fun h12 => ?_)
    · skip
      exact (lpB_ff hO1 hbad h1 h12).elim
    · skip
      exact thrS (X := "java/lang/IndexOutOfBoundsException") (text := "there is no such lamp") (ik := 179) (is := 181) (ic := 183) hx hb hl9 hown (by decide +kernel) (hts (.classLink RX1 179 "java/lang/IndexOutOfBoundsException") (List.mem_of_getElem? (i := 1) (by rfl))) (hts (.initialized "java/lang/IndexOutOfBoundsException") (List.mem_of_getElem? (i := 2) (by rfl))) hT.2.2.2.1 (vx_hat (fun w hw => hts w (List.mem_cons_of_mem _ (List.mem_append_right _ hw))) xf183 (vx_c (va_Nw.use rfl hT.2.2.2.2.2.2.2.1) (vx_c (va_Nw.use rfl hT.2.2.2.2.2.2.2.2.2.2.2.1) (vx_c (va_Nw.use rfl hT.2.2.2.2.2.2.2.2.2.2.2.2.1) (vx_c (va_Nw.use rfl hT.2.2.2.2.2.2.2.2.2.2.2.2.2) vx_n))))) xg183 hT hP hK hD va_S.rf (hl.1.trans hml.symm) dX1_lampAt_15 dX1_lampAt_18 dX1_lampAt_19 dX1_lampAt_21 dX1_lampAt_24 hout ⟨by decide, by decide, by decide, by decide⟩ hlocks (by decide) (by decide)

set_option maxHeartbeats 4000000 in
set_option maxRecDepth 100000 in
/-- phaseOf refuses -/
theorem x_X1_phaseOf (l : Launch) (hl9 : l.stackTraces = false) (E : GE) (sz : Nat) (w : va_W) (a : Nat → Nat) (n now lim : Nat) (F : LR) (lit : Nat → Bool) (fo : Nat → Nat) (hv : CV E a n now lim (LF F lit fo) w) (hO : OkS n now lim F) (x : Int32) (hx9 : lpB n x = false) : vx_Met l yX1_phaseOf wsX1_phaseOf ({ frames := 7, cells := 1, slots := 6, locals := 112 } : Room) (va_Pc [.ref (a 0), .int x] (pcT E (w) sz)) (fun _ _ _ _ => False) (xT E "java/lang/IndexOutOfBoundsException" (w) (va_A (w) sz)) 1 6 (va_A (w) sz) := by
  refine metT (by decide) rfl (Nat.le_of_ble_eq_true rfl) ?_
  intro p e s m args below meth c ls A hAe hA hx hb hr hml hts hown hlocks hout hP hK hD hT hl
  rw [hAe]
  have hiX1 : ∀ q ∈ wsX10, q ∈ wsX1_phaseOf := by decide +kernel
  obtain ⟨mc, h0x, h1x, h2x, h3x⟩ := cv_all hv
  obtain ⟨hO1, hO2, hO3, hO4, hO5⟩ := id hO
  refine lv_aload_n hx hb dX1_phaseOf_0 rfl (lv_at hl 0 rfl) ?_
  refine lv_iload_n hx hb dX1_phaseOf_1 rfl (lv_at hl 1 rfl) ?_
  exact xcV (wx := []) (wy := []) (rest := []) (As := [.int x]) ⟨hx, hb, hml, hown, hts⟩ (x_X1_lampAt l hl9 E _ w a n now lim F lit fo hv hO x hx9) (cwV 1 hts gX1_phaseOf_X1_lampAt rfl rfl rfl (by decide +kernel) ⟨Nat.le_of_ble_eq_true rfl, Nat.le_of_ble_eq_true rfl⟩) (va_recv hK hP (ci := 2) (q0 := 0) rfl h0x) (by rw [List.append_nil]; rfl) hP hK hD hT va_S.rf hA rfl hl.1 rfl (Nat.le_of_ble_eq_true rfl) dX1_phaseOf_2 ⟨Nat.le_of_ble_eq_true rfl, Nat.le_of_ble_eq_true rfl⟩ (fun ce q9 H1 locs1 hP1 hD1 hS1 hc1 hv1 hcl1 => xoutT hout hlocks hc1 hv1 hcl1 hP1 hK hD1 hS1 (by decide) (by decide))

set_option maxHeartbeats 4000000 in
set_option maxRecDepth 100000 in
/-- isDue refuses -/
theorem x_X1_isDue (l : Launch) (hl9 : l.stackTraces = false) (E : GE) (sz : Nat) (w : va_W) (a : Nat → Nat) (n now lim : Nat) (F : LR) (lit : Nat → Bool) (fo : Nat → Nat) (hv : CV E a n now lim (LF F lit fo) w) (hO : OkS n now lim F) (x : Int32) (hx9 : lpB n x = false) : vx_Met l yX1_isDue wsX1_isDue ({ frames := 7, cells := 1, slots := 6, locals := 112 } : Room) (va_Pc [.ref (a 0), .int x] (pcT E (w) sz)) (fun _ _ _ _ => False) (xT E "java/lang/IndexOutOfBoundsException" (w) (va_A (w) sz)) 1 6 (va_A (w) sz) := by
  refine metT (by decide) rfl (Nat.le_of_ble_eq_true rfl) ?_
  intro p e s m args below meth c ls A hAe hA hx hb hr hml hts hown hlocks hout hP hK hD hT hl
  rw [hAe]
  have hiX1 : ∀ q ∈ wsX10, q ∈ wsX1_isDue := by decide +kernel
  obtain ⟨mc, h0x, h1x, h2x, h3x⟩ := cv_all hv
  obtain ⟨hO1, hO2, hO3, hO4, hO5⟩ := id hO
  refine lv_aload_n hx hb dX1_isDue_0 rfl (lv_at hl 0 rfl) ?_
  refine lv_iload_n hx hb dX1_isDue_1 rfl (lv_at hl 1 rfl) ?_
  exact xcV (wx := []) (wy := []) (rest := []) (As := [.int x]) ⟨hx, hb, hml, hown, hts⟩ (x_X1_lampAt l hl9 E _ w a n now lim F lit fo hv hO x hx9) (cwV 1 hts gX1_isDue_X1_lampAt rfl rfl rfl (by decide +kernel) ⟨Nat.le_of_ble_eq_true rfl, Nat.le_of_ble_eq_true rfl⟩) (va_recv hK hP (ci := 2) (q0 := 0) rfl h0x) (by rw [List.append_nil]; rfl) hP hK hD hT va_S.rf hA rfl hl.1 rfl (Nat.le_of_ble_eq_true rfl) dX1_isDue_2 ⟨Nat.le_of_ble_eq_true rfl, Nat.le_of_ble_eq_true rfl⟩ (fun ce q9 H1 locs1 hP1 hD1 hS1 hc1 hv1 hcl1 => xoutT hout hlocks hc1 hv1 hcl1 hP1 hK hD1 hS1 (by decide) (by decide))

set_option maxHeartbeats 4000000 in
set_option maxRecDepth 100000 in
/-- shines refuses -/
theorem x_X1_shines (l : Launch) (hl9 : l.stackTraces = false) (E : GE) (sz : Nat) (w : va_W) (a : Nat → Nat) (n now lim : Nat) (F : LR) (lit : Nat → Bool) (fo : Nat → Nat) (hv : CV E a n now lim (LF F lit fo) w) (hO : OkS n now lim F) (x : Int32) (hx9 : lpB n x = false) : vx_Met l yX1_shines wsX1_shines ({ frames := 7, cells := 1, slots := 6, locals := 112 } : Room) (va_Pc [.ref (a 0), .int x] (pcT E (w) sz)) (fun _ _ _ _ => False) (xT E "java/lang/IndexOutOfBoundsException" (w) (va_A (w) sz)) 1 6 (va_A (w) sz) := by
  refine metT (by decide) rfl (Nat.le_of_ble_eq_true rfl) ?_
  intro p e s m args below meth c ls A hAe hA hx hb hr hml hts hown hlocks hout hP hK hD hT hl
  rw [hAe]
  have hiX1 : ∀ q ∈ wsX10, q ∈ wsX1_shines := by decide +kernel
  have hiX0 : ∀ q ∈ wsX00, q ∈ wsX1_shines := by decide +kernel
  obtain ⟨mc, h0x, h1x, h2x, h3x⟩ := cv_all hv
  obtain ⟨hO1, hO2, hO3, hO4, hO5⟩ := id hO
  refine lv_aload_n hx hb dX1_shines_0 rfl (lv_at hl 0 rfl) ?_
  refine lv_iload_n hx hb dX1_shines_1 rfl (lv_at hl 1 rfl) ?_
  exact xcV (wx := []) (wy := []) (rest := []) (As := [.int x]) ⟨hx, hb, hml, hown, hts⟩ (x_X1_lampAt l hl9 E _ w a n now lim F lit fo hv hO x hx9) (cwV 1 hts gX1_shines_X1_lampAt rfl rfl rfl (by decide +kernel) ⟨Nat.le_of_ble_eq_true rfl, Nat.le_of_ble_eq_true rfl⟩) (va_recv hK hP (ci := 2) (q0 := 0) rfl h0x) (by rw [List.append_nil]; rfl) hP hK hD hT va_S.rf hA rfl hl.1 rfl (Nat.le_of_ble_eq_true rfl) dX1_shines_2 ⟨Nat.le_of_ble_eq_true rfl, Nat.le_of_ble_eq_true rfl⟩ (fun ce q9 H1 locs1 hP1 hD1 hS1 hc1 hv1 hcl1 => xoutT hout hlocks hc1 hv1 hcl1 hP1 hK hD1 hS1 (by decide) (by decide))

set_option maxHeartbeats 4000000 in
set_option maxRecDepth 100000 in
/-- colourOf refuses -/
theorem x_X1_colourOf (l : Launch) (hl9 : l.stackTraces = false) (E : GE) (sz : Nat) (w : va_W) (a : Nat → Nat) (n now lim : Nat) (F : LR) (lit : Nat → Bool) (fo : Nat → Nat) (hv : CV E a n now lim (LF F lit fo) w) (hO : OkS n now lim F) (x : Int32) (hx9 : lpB n x = false) : vx_Met l yX1_colourOf wsX1_colourOf ({ frames := 7, cells := 1, slots := 6, locals := 112 } : Room) (va_Pc [.ref (a 0), .int x] (pcT E (w) sz)) (fun _ _ _ _ => False) (xT E "java/lang/IndexOutOfBoundsException" (w) (va_A (w) sz)) 1 6 (va_A (w) sz) := by
  refine metT (by decide) rfl (Nat.le_of_ble_eq_true rfl) ?_
  intro p e s m args below meth c ls A hAe hA hx hb hr hml hts hown hlocks hout hP hK hD hT hl
  rw [hAe]
  have hiX0 : ∀ q ∈ wsX00, q ∈ wsX1_colourOf := by decide +kernel
  obtain ⟨mc, h0x, h1x, h2x, h3x⟩ := cv_all hv
  obtain ⟨hO1, hO2, hO3, hO4, hO5⟩ := id hO
  refine lv_aload_n hx hb dX1_colourOf_0 rfl (lv_at hl 0 rfl) ?_
  refine lv_iload_n hx hb dX1_colourOf_1 rfl (lv_at hl 1 rfl) ?_
  exact xcV (wx := []) (wy := []) (rest := []) (As := [.int x]) ⟨hx, hb, hml, hown, hts⟩ (x_X1_lampAt l hl9 E _ w a n now lim F lit fo hv hO x hx9) (cwV 1 hts gX1_colourOf_X1_lampAt rfl rfl rfl (by decide +kernel) ⟨Nat.le_of_ble_eq_true rfl, Nat.le_of_ble_eq_true rfl⟩) (va_recv hK hP (ci := 2) (q0 := 0) rfl h0x) (by rw [List.append_nil]; rfl) hP hK hD hT va_S.rf hA rfl hl.1 rfl (Nat.le_of_ble_eq_true rfl) dX1_colourOf_2 ⟨Nat.le_of_ble_eq_true rfl, Nat.le_of_ble_eq_true rfl⟩ (fun ce q9 H1 locs1 hP1 hD1 hS1 hc1 hv1 hcl1 => xoutT hout hlocks hc1 hv1 hcl1 hP1 hK hD1 hS1 (by decide) (by decide))

set_option maxHeartbeats 4000000 in
set_option maxRecDepth 100000 in
/-- shiftOf refuses -/
theorem x_X1_shiftOf (l : Launch) (hl9 : l.stackTraces = false) (E : GE) (sz : Nat) (w : va_W) (a : Nat → Nat) (n now lim : Nat) (F : LR) (lit : Nat → Bool) (fo : Nat → Nat) (hv : CV E a n now lim (LF F lit fo) w) (hO : OkS n now lim F) (x : Int32) (hx9 : lpB n x = false) : vx_Met l yX1_shiftOf wsX1_shiftOf ({ frames := 7, cells := 1, slots := 6, locals := 112 } : Room) (va_Pc [.ref (a 0), .int x] (pcT E (w) sz)) (fun _ _ _ _ => False) (xT E "java/lang/IndexOutOfBoundsException" (w) (va_A (w) sz)) 1 6 (va_A (w) sz) := by
  refine metT (by decide) rfl (Nat.le_of_ble_eq_true rfl) ?_
  intro p e s m args below meth c ls A hAe hA hx hb hr hml hts hown hlocks hout hP hK hD hT hl
  rw [hAe]
  have hiX0 : ∀ q ∈ wsX00, q ∈ wsX1_shiftOf := by decide +kernel
  obtain ⟨mc, h0x, h1x, h2x, h3x⟩ := cv_all hv
  obtain ⟨hO1, hO2, hO3, hO4, hO5⟩ := id hO
  refine lv_aload_n hx hb dX1_shiftOf_0 rfl (lv_at hl 0 rfl) ?_
  refine lv_iload_n hx hb dX1_shiftOf_1 rfl (lv_at hl 1 rfl) ?_
  exact xcV (wx := []) (wy := []) (rest := []) (As := [.int x]) ⟨hx, hb, hml, hown, hts⟩ (x_X1_lampAt l hl9 E _ w a n now lim F lit fo hv hO x hx9) (cwV 1 hts gX1_shiftOf_X1_lampAt rfl rfl rfl (by decide +kernel) ⟨Nat.le_of_ble_eq_true rfl, Nat.le_of_ble_eq_true rfl⟩) (va_recv hK hP (ci := 2) (q0 := 0) rfl h0x) (by rw [List.append_nil]; rfl) hP hK hD hT va_S.rf hA rfl hl.1 rfl (Nat.le_of_ble_eq_true rfl) dX1_shiftOf_2 ⟨Nat.le_of_ble_eq_true rfl, Nat.le_of_ble_eq_true rfl⟩ (fun ce q9 H1 locs1 hP1 hD1 hS1 hc1 hv1 hcl1 => xoutT hout hlocks hc1 hv1 hcl1 hP1 hK hD1 hS1 (by decide) (by decide))

set_option maxHeartbeats 4000000 in
set_option maxRecDepth 100000 in
/-- shone refuses -/
theorem x_X1_shone (l : Launch) (hl9 : l.stackTraces = false) (E : GE) (sz : Nat) (w : va_W) (a : Nat → Nat) (n now lim : Nat) (F : LR) (lit : Nat → Bool) (fo : Nat → Nat) (hv : CV E a n now lim (LF F lit fo) w) (hO : OkS n now lim F) (x : Int32) (hx9 : lpB n x = false) : vx_Met l yX1_shone wsX1_shone ({ frames := 7, cells := 1, slots := 6, locals := 112 } : Room) (va_Pc [.ref (a 0), .int x] (pcT E (w) sz)) (fun _ _ _ _ => False) (xT E "java/lang/IndexOutOfBoundsException" (w) (va_A (w) sz)) 1 6 (va_A (w) sz) := by
  refine metT (by decide) rfl (Nat.le_of_ble_eq_true rfl) ?_
  intro p e s m args below meth c ls A hAe hA hx hb hr hml hts hown hlocks hout hP hK hD hT hl
  rw [hAe]
  have hiX0 : ∀ q ∈ wsX00, q ∈ wsX1_shone := by decide +kernel
  obtain ⟨mc, h0x, h1x, h2x, h3x⟩ := cv_all hv
  obtain ⟨hO1, hO2, hO3, hO4, hO5⟩ := id hO
  refine lv_aload_n hx hb dX1_shone_0 rfl (lv_at hl 0 rfl) ?_
  refine lv_iload_n hx hb dX1_shone_1 rfl (lv_at hl 1 rfl) ?_
  exact xcV (wx := []) (wy := []) (rest := []) (As := [.int x]) ⟨hx, hb, hml, hown, hts⟩ (x_X1_lampAt l hl9 E _ w a n now lim F lit fo hv hO x hx9) (cwV 1 hts gX1_shone_X1_lampAt rfl rfl rfl (by decide +kernel) ⟨Nat.le_of_ble_eq_true rfl, Nat.le_of_ble_eq_true rfl⟩) (va_recv hK hP (ci := 2) (q0 := 0) rfl h0x) (by rw [List.append_nil]; rfl) hP hK hD hT va_S.rf hA rfl hl.1 rfl (Nat.le_of_ble_eq_true rfl) dX1_shone_2 ⟨Nat.le_of_ble_eq_true rfl, Nat.le_of_ble_eq_true rfl⟩ (fun ce q9 H1 locs1 hP1 hD1 hS1 hc1 hv1 hcl1 => xoutT hout hlocks hc1 hv1 hcl1 hP1 hK hD1 hS1 (by decide) (by decide))

set_option maxHeartbeats 4000000 in
set_option maxRecDepth 100000 in
/-- stayedDark refuses -/
theorem x_X1_stayedDark (l : Launch) (hl9 : l.stackTraces = false) (E : GE) (sz : Nat) (w : va_W) (a : Nat → Nat) (n now lim : Nat) (F : LR) (lit : Nat → Bool) (fo : Nat → Nat) (hv : CV E a n now lim (LF F lit fo) w) (hO : OkS n now lim F) (x : Int32) (hx9 : lpB n x = false) : vx_Met l yX1_stayedDark wsX1_stayedDark ({ frames := 7, cells := 1, slots := 6, locals := 112 } : Room) (va_Pc [.ref (a 0), .int x] (pcT E (w) sz)) (fun _ _ _ _ => False) (xT E "java/lang/IndexOutOfBoundsException" (w) (va_A (w) sz)) 1 6 (va_A (w) sz) := by
  refine metT (by decide) rfl (Nat.le_of_ble_eq_true rfl) ?_
  intro p e s m args below meth c ls A hAe hA hx hb hr hml hts hown hlocks hout hP hK hD hT hl
  rw [hAe]
  have hiX0 : ∀ q ∈ wsX00, q ∈ wsX1_stayedDark := by decide +kernel
  obtain ⟨mc, h0x, h1x, h2x, h3x⟩ := cv_all hv
  obtain ⟨hO1, hO2, hO3, hO4, hO5⟩ := id hO
  refine lv_aload_n hx hb dX1_stayedDark_0 rfl (lv_at hl 0 rfl) ?_
  refine lv_iload_n hx hb dX1_stayedDark_1 rfl (lv_at hl 1 rfl) ?_
  exact xcV (wx := []) (wy := []) (rest := []) (As := [.int x]) ⟨hx, hb, hml, hown, hts⟩ (x_X1_lampAt l hl9 E _ w a n now lim F lit fo hv hO x hx9) (cwV 1 hts gX1_stayedDark_X1_lampAt rfl rfl rfl (by decide +kernel) ⟨Nat.le_of_ble_eq_true rfl, Nat.le_of_ble_eq_true rfl⟩) (va_recv hK hP (ci := 2) (q0 := 0) rfl h0x) (by rw [List.append_nil]; rfl) hP hK hD hT va_S.rf hA rfl hl.1 rfl (Nat.le_of_ble_eq_true rfl) dX1_stayedDark_2 ⟨Nat.le_of_ble_eq_true rfl, Nat.le_of_ble_eq_true rfl⟩ (fun ce q9 H1 locs1 hP1 hD1 hS1 hc1 hv1 hcl1 => xoutT hout hlocks hc1 hv1 hcl1 hP1 hK hD1 hS1 (by decide) (by decide))

set_option maxHeartbeats 4000000 in
set_option maxRecDepth 100000 in
/-- meets refuses -/
theorem x_X1_meets (l : Launch) (hl9 : l.stackTraces = false) (E : GE) (sz : Nat) (w : va_W) (a : Nat → Nat) (n now lim : Nat) (F : LR) (lit : Nat → Bool) (fo : Nat → Nat) (hv : CV E a n now lim (LF F lit fo) w) (hO : OkS n now lim F) (x : Int32) (hx9 : lpB n x = false) : vx_Met l yX1_meets wsX1_meets ({ frames := 7, cells := 1, slots := 6, locals := 112 } : Room) (va_Pc [.ref (a 0), .int x] (pcT E (w) sz)) (fun _ _ _ _ => False) (xT E "java/lang/IndexOutOfBoundsException" (w) (va_A (w) sz)) 1 6 (va_A (w) sz) := by
  refine metT (by decide) rfl (Nat.le_of_ble_eq_true rfl) ?_
  intro p e s m args below meth c ls A hAe hA hx hb hr hml hts hown hlocks hout hP hK hD hT hl
  rw [hAe]
  have hiX0 : ∀ q ∈ wsX00, q ∈ wsX1_meets := by decide +kernel
  obtain ⟨mc, h0x, h1x, h2x, h3x⟩ := cv_all hv
  obtain ⟨hO1, hO2, hO3, hO4, hO5⟩ := id hO
  refine lv_aload_n hx hb dX1_meets_0 rfl (lv_at hl 0 rfl) ?_
  refine lv_iload_n hx hb dX1_meets_1 rfl (lv_at hl 1 rfl) ?_
  exact xcV (wx := []) (wy := []) (rest := []) (As := [.int x]) ⟨hx, hb, hml, hown, hts⟩ (x_X1_lampAt l hl9 E _ w a n now lim F lit fo hv hO x hx9) (cwV 1 hts gX1_meets_X1_lampAt rfl rfl rfl (by decide +kernel) ⟨Nat.le_of_ble_eq_true rfl, Nat.le_of_ble_eq_true rfl⟩) (va_recv hK hP (ci := 2) (q0 := 0) rfl h0x) (by rw [List.append_nil]; rfl) hP hK hD hT va_S.rf hA rfl hl.1 rfl (Nat.le_of_ble_eq_true rfl) dX1_meets_2 ⟨Nat.le_of_ble_eq_true rfl, Nat.le_of_ble_eq_true rfl⟩ (fun ce q9 H1 locs1 hP1 hD1 hS1 hc1 hv1 hcl1 => xoutT hout hlocks hc1 hv1 hcl1 hP1 hK hD1 hS1 (by decide) (by decide))

set_option maxHeartbeats 4000000 in
set_option maxRecDepth 100000 in
/-- bestShift refuses -/
theorem x_X1_bestShift (l : Launch) (hl9 : l.stackTraces = false) (E : GE) (sz : Nat) (w : va_W) (a : Nat → Nat) (n now lim : Nat) (F : LR) (lit : Nat → Bool) (fo : Nat → Nat) (hv : CV E a n now lim (LF F lit fo) w) (hO : OkS n now lim F) (x : Int32) (hx9 : lpB n x = false) : vx_Met l yX1_bestShift wsX1_bestShift ({ frames := 7, cells := 1, slots := 6, locals := 112 } : Room) (va_Pc [.ref (a 0), .int x] (pcT E (w) sz)) (fun _ _ _ _ => False) (xT E "java/lang/IndexOutOfBoundsException" (w) (va_A (w) sz)) 1 6 (va_A (w) sz) := by
  refine metT (by decide) rfl (Nat.le_of_ble_eq_true rfl) ?_
  intro p e s m args below meth c ls A hAe hA hx hb hr hml hts hown hlocks hout hP hK hD hT hl
  rw [hAe]
  have hiX0 : ∀ q ∈ wsX00, q ∈ wsX1_bestShift := by decide +kernel
  obtain ⟨mc, h0x, h1x, h2x, h3x⟩ := cv_all hv
  obtain ⟨hO1, hO2, hO3, hO4, hO5⟩ := id hO
  refine lv_aload_n hx hb dX1_bestShift_0 rfl (lv_at hl 0 rfl) ?_
  refine lv_iload_n hx hb dX1_bestShift_1 rfl (lv_at hl 1 rfl) ?_
  exact xcV (wx := []) (wy := []) (rest := []) (As := [.int x]) ⟨hx, hb, hml, hown, hts⟩ (x_X1_lampAt l hl9 E _ w a n now lim F lit fo hv hO x hx9) (cwV 1 hts gX1_bestShift_X1_lampAt rfl rfl rfl (by decide +kernel) ⟨Nat.le_of_ble_eq_true rfl, Nat.le_of_ble_eq_true rfl⟩) (va_recv hK hP (ci := 2) (q0 := 0) rfl h0x) (by rw [List.append_nil]; rfl) hP hK hD hT va_S.rf hA rfl hl.1 rfl (Nat.le_of_ble_eq_true rfl) dX1_bestShift_2 ⟨Nat.le_of_ble_eq_true rfl, Nat.le_of_ble_eq_true rfl⟩ (fun ce q9 H1 locs1 hP1 hD1 hS1 hc1 hv1 hcl1 => xoutT hout hlocks hc1 hv1 hcl1 hP1 hK hD1 hS1 (by decide) (by decide))

set_option maxHeartbeats 4000000 in
set_option maxRecDepth 100000 in
/-- setShift refuses: no such lamp -/
theorem x_X1_setShift (l : Launch) (hl9 : l.stackTraces = false) (E : GE) (sz : Nat) (w : va_W) (a : Nat → Nat) (n now lim : Nat) (F : LR) (lit : Nat → Bool) (fo : Nat → Nat) (hv : CV E a n now lim (LF F lit fo) w) (hO : OkS n now lim F) (x : Int32) (hx9 : lpB n x = false) (z : Int32) : vx_Met l yX1_setShift wsX1_setShift ({ frames := 7, cells := 1, slots := 6, locals := 112 } : Room) (va_Pc [.ref (a 0), .int x, .int z] (pcT E (w) sz)) (fun _ _ _ _ => False) (xT E "java/lang/IndexOutOfBoundsException" (w) (va_A (w) sz)) 1 6 (va_A (w) sz) := by
  refine metT (by decide) rfl (Nat.le_of_ble_eq_true rfl) ?_
  intro p e s m args below meth c ls A hAe hA hx hb hr hml hts hown hlocks hout hP hK hD hT hl
  rw [hAe]
  have hiX0 : ∀ q ∈ wsX00, q ∈ wsX1_setShift := by decide +kernel
  obtain ⟨mc, h0x, h1x, h2x, h3x⟩ := cv_all hv
  obtain ⟨hO1, hO2, hO3, hO4, hO5⟩ := id hO
  refine lv_aload_n hx hb dX1_setShift_0 rfl (lv_at hl 0 rfl) ?_
  refine lv_iload_n hx hb dX1_setShift_1 rfl (lv_at hl 1 rfl) ?_
  exact xcV (wx := []) (wy := []) (rest := []) (As := [.int x]) ⟨hx, hb, hml, hown, hts⟩ (x_X1_lampAt l hl9 E _ w a n now lim F lit fo hv hO x hx9) (cwV 1 hts gX1_setShift_X1_lampAt rfl rfl rfl (by decide +kernel) ⟨Nat.le_of_ble_eq_true rfl, Nat.le_of_ble_eq_true rfl⟩) (va_recv hK hP (ci := 2) (q0 := 0) rfl h0x) (by rw [List.append_nil]; rfl) hP hK hD hT va_S.rf hA rfl hl.1 rfl (Nat.le_of_ble_eq_true rfl) dX1_setShift_2 ⟨Nat.le_of_ble_eq_true rfl, Nat.le_of_ble_eq_true rfl⟩ (fun ce q9 H1 locs1 hP1 hD1 hS1 hc1 hv1 hcl1 => xoutT hout hlocks hc1 hv1 hcl1 hP1 hK hD1 hS1 (by decide) (by decide))

set_option maxHeartbeats 4000000 in
set_option maxRecDepth 100000 in
/-- setShift refuses: outside -/
theorem x_X1_setShift_y (l : Launch) (hl9 : l.stackTraces = false) (E : GE) (sz : Nat) (w : va_W) (a : Nat → Nat) (n now lim : Nat) (F : LR) (lit : Nat → Bool) (fo : Nat → Nat) (hv : CV E a n now lim (LF F lit fo) w) (hO : OkS n now lim F) (k : Nat) (hk : k < n) (z : Int32) (hz9 : inB z (nI 0) (nI (F k 0 - 1)) = false) : vx_Met l yX1_setShift wsX1_setShift ({ frames := 7, cells := 1, slots := 6, locals := 112 } : Room) (va_Pc [.ref (a 0), .int (nI k), .int z] (pcT E (w) sz)) (fun _ _ _ _ => False) (xT E "java/lang/IllegalArgumentException" (w) (va_A (w) sz)) 1 6 (va_A (w) sz) := by
  refine metT (by decide) rfl (Nat.le_of_ble_eq_true rfl) ?_
  intro p e s m args below meth c ls A hAe hA hx hb hr hml hts hown hlocks hout hP hK hD hT hl
  rw [hAe]
  have hiX0 : ∀ q ∈ wsX00, q ∈ wsX1_setShift := by decide +kernel
  obtain ⟨mc, h0x, h1x, h2x, h3x⟩ := cv_all hv
  obtain ⟨hO1, hO2, hO3, hO4, hO5⟩ := id hO
  have hk9 := hO4 k hk
  refine lv_aload_n hx hb dX1_setShift_0 rfl (lv_at hl 0 rfl) ?_
  refine lv_iload_n hx hb dX1_setShift_1 rfl (lv_at hl 1 rfl) ?_
  refine csV_r (rest := []) (As := [.int (nI k)]) ⟨hx, hb, hml, hown, hts⟩ (c_X1_lampAt l E _ a n now lim F lit fo hv hO k (by omega)) (cwV 1 hts gX1_setShift_X1_lampAt rfl rfl rfl (by decide +kernel) ⟨Nat.le_of_ble_eq_true rfl, Nat.le_of_ble_eq_true rfl⟩) (va_recv hK hP (ci := 2) (q0 := 0) rfl h0x) hP hK rfl hl.1 rfl (Nat.le_of_ble_eq_true rfl) dX1_setShift_2 (Nat.le_of_ble_eq_true rfl) (Nat.le_of_ble_eq_true rfl) (fun r2 hr2 => ?_)
  subst hr2
  refine lv_astore_n (lv' := [(3, .ref (a (3 + k))), (0, .ref (a 0)), (1, .int (nI k)), (2, .int z)]) hx hb dX1_setShift_5 rfl hl (by decide) rfl (fun ls hl => ?_)
  refine lv_iload_n hx hb dX1_setShift_6 rfl (lv_at hl 3 rfl) ?_
  refine lv_iconst (v := (nI 0)) hx hb dX1_setShift_7 (by decide) ?_
  refine lv_aload_n hx hb dX1_setShift_8 rfl (lv_at hl 0 rfl) ?_
  refine va_get (D := E.1) (ci := 1) (v := .int (nI (F k 0))) (C := RX0) (T := TX0) (N := 9) hx hb hts hiX0 hown hK hP (3 + k) (h3x k (by omega)) rfl 0 (by decide) (hts (.fieldLink RX1 51 "PulseLoom$Lamp" "period" "I") (List.mem_of_getElem? (i := 1) (by rfl))) (fun _ h9 => h9) rfl dX1_setShift_9 ?_
  refine lv_iconst (v := (nI 1)) hx hb dX1_setShift_12 (by decide) ?_
  refine nq_sub hx hb dX1_setShift_13 (by omega) ?_
  exact xcS (wx := []) (wy := []) (rest := []) (As := [.int z, .int (nI 0), .int (nI ((F k 0) - 1))]) ⟨hx, hb, hml, hown, hts⟩ (x_X1_refuseOutside l hl9 E _ w z (nI 0) (nI ((F k 0) - 1)) hz9) (va_cwS 3 hts gX1_setShift_X1_refuseOutside rfl rfl rfl (by decide +kernel) ⟨Nat.le_of_ble_eq_true rfl, Nat.le_of_ble_eq_true rfl⟩) (by rw [List.append_nil]; rfl) hP hK hD hT va_S.rf hA rfl hl.1 rfl (Nat.le_of_ble_eq_true rfl) dX1_setShift_14 ⟨Nat.le_of_ble_eq_true rfl, Nat.le_of_ble_eq_true rfl⟩ (fun ce q9 H1 locs1 hP1 hD1 hS1 hc1 hv1 hcl1 => xoutT hout hlocks hc1 hv1 hcl1 hP1 hK hD1 hS1 (by decide) (by decide))

set_option maxHeartbeats 4000000 in
set_option maxRecDepth 100000 in
/-- setLength refuses: no such lamp -/
theorem x_X1_setLength (l : Launch) (hl9 : l.stackTraces = false) (E : GE) (sz : Nat) (w : va_W) (a : Nat → Nat) (n now lim : Nat) (F : LR) (lit : Nat → Bool) (fo : Nat → Nat) (hv : CV E a n now lim (LF F lit fo) w) (hO : OkS n now lim F) (x : Int32) (hx9 : lpB n x = false) (z : Int32) : vx_Met l yX1_setLength wsX1_setLength ({ frames := 7, cells := 1, slots := 6, locals := 112 } : Room) (va_Pc [.ref (a 0), .int x, .int z] (pcT E (w) sz)) (fun _ _ _ _ => False) (xT E "java/lang/IndexOutOfBoundsException" (w) (va_A (w) sz)) 1 6 (va_A (w) sz) := by
  refine metT (by decide) rfl (Nat.le_of_ble_eq_true rfl) ?_
  intro p e s m args below meth c ls A hAe hA hx hb hr hml hts hown hlocks hout hP hK hD hT hl
  rw [hAe]
  have hiX0 : ∀ q ∈ wsX00, q ∈ wsX1_setLength := by decide +kernel
  obtain ⟨mc, h0x, h1x, h2x, h3x⟩ := cv_all hv
  obtain ⟨hO1, hO2, hO3, hO4, hO5⟩ := id hO
  refine lv_aload_n hx hb dX1_setLength_0 rfl (lv_at hl 0 rfl) ?_
  refine lv_iload_n hx hb dX1_setLength_1 rfl (lv_at hl 1 rfl) ?_
  exact xcV (wx := []) (wy := []) (rest := []) (As := [.int x]) ⟨hx, hb, hml, hown, hts⟩ (x_X1_lampAt l hl9 E _ w a n now lim F lit fo hv hO x hx9) (cwV 1 hts gX1_setLength_X1_lampAt rfl rfl rfl (by decide +kernel) ⟨Nat.le_of_ble_eq_true rfl, Nat.le_of_ble_eq_true rfl⟩) (va_recv hK hP (ci := 2) (q0 := 0) rfl h0x) (by rw [List.append_nil]; rfl) hP hK hD hT va_S.rf hA rfl hl.1 rfl (Nat.le_of_ble_eq_true rfl) dX1_setLength_2 ⟨Nat.le_of_ble_eq_true rfl, Nat.le_of_ble_eq_true rfl⟩ (fun ce q9 H1 locs1 hP1 hD1 hS1 hc1 hv1 hcl1 => xoutT hout hlocks hc1 hv1 hcl1 hP1 hK hD1 hS1 (by decide) (by decide))

set_option maxHeartbeats 4000000 in
set_option maxRecDepth 100000 in
/-- setLength refuses: outside -/
theorem x_X1_setLength_y (l : Launch) (hl9 : l.stackTraces = false) (E : GE) (sz : Nat) (w : va_W) (a : Nat → Nat) (n now lim : Nat) (F : LR) (lit : Nat → Bool) (fo : Nat → Nat) (hv : CV E a n now lim (LF F lit fo) w) (hO : OkS n now lim F) (k : Nat) (hk : k < n) (z : Int32) (hz9 : inB z (nI 1) (nI (F k 0 - 1)) = false) : vx_Met l yX1_setLength wsX1_setLength ({ frames := 7, cells := 1, slots := 6, locals := 112 } : Room) (va_Pc [.ref (a 0), .int (nI k), .int z] (pcT E (w) sz)) (fun _ _ _ _ => False) (xT E "java/lang/IllegalArgumentException" (w) (va_A (w) sz)) 1 6 (va_A (w) sz) := by
  refine metT (by decide) rfl (Nat.le_of_ble_eq_true rfl) ?_
  intro p e s m args below meth c ls A hAe hA hx hb hr hml hts hown hlocks hout hP hK hD hT hl
  rw [hAe]
  have hiX0 : ∀ q ∈ wsX00, q ∈ wsX1_setLength := by decide +kernel
  obtain ⟨mc, h0x, h1x, h2x, h3x⟩ := cv_all hv
  obtain ⟨hO1, hO2, hO3, hO4, hO5⟩ := id hO
  have hk9 := hO4 k hk
  refine lv_aload_n hx hb dX1_setLength_0 rfl (lv_at hl 0 rfl) ?_
  refine lv_iload_n hx hb dX1_setLength_1 rfl (lv_at hl 1 rfl) ?_
  refine csV_r (rest := []) (As := [.int (nI k)]) ⟨hx, hb, hml, hown, hts⟩ (c_X1_lampAt l E _ a n now lim F lit fo hv hO k (by omega)) (cwV 1 hts gX1_setLength_X1_lampAt rfl rfl rfl (by decide +kernel) ⟨Nat.le_of_ble_eq_true rfl, Nat.le_of_ble_eq_true rfl⟩) (va_recv hK hP (ci := 2) (q0 := 0) rfl h0x) hP hK rfl hl.1 rfl (Nat.le_of_ble_eq_true rfl) dX1_setLength_2 (Nat.le_of_ble_eq_true rfl) (Nat.le_of_ble_eq_true rfl) (fun r2 hr2 => ?_)
  subst hr2
  refine lv_astore_n (lv' := [(3, .ref (a (3 + k))), (0, .ref (a 0)), (1, .int (nI k)), (2, .int z)]) hx hb dX1_setLength_5 rfl hl (by decide) rfl (fun ls hl => ?_)
  refine lv_iload_n hx hb dX1_setLength_6 rfl (lv_at hl 3 rfl) ?_
  refine lv_iconst (v := (nI 1)) hx hb dX1_setLength_7 (by decide) ?_
  refine lv_aload_n hx hb dX1_setLength_8 rfl (lv_at hl 0 rfl) ?_
  refine va_get (D := E.1) (ci := 1) (v := .int (nI (F k 0))) (C := RX0) (T := TX0) (N := 9) hx hb hts hiX0 hown hK hP (3 + k) (h3x k (by omega)) rfl 0 (by decide) (hts (.fieldLink RX1 51 "PulseLoom$Lamp" "period" "I") (List.mem_of_getElem? (i := 1) (by rfl))) (fun _ h9 => h9) rfl dX1_setLength_9 ?_
  refine lv_iconst (v := (nI 1)) hx hb dX1_setLength_12 (by decide) ?_
  refine nq_sub hx hb dX1_setLength_13 (by omega) ?_
  exact xcS (wx := []) (wy := []) (rest := []) (As := [.int z, .int (nI 1), .int (nI ((F k 0) - 1))]) ⟨hx, hb, hml, hown, hts⟩ (x_X1_refuseOutside l hl9 E _ w z (nI 1) (nI ((F k 0) - 1)) hz9) (va_cwS 3 hts gX1_setLength_X1_refuseOutside rfl rfl rfl (by decide +kernel) ⟨Nat.le_of_ble_eq_true rfl, Nat.le_of_ble_eq_true rfl⟩) (by rw [List.append_nil]; rfl) hP hK hD hT va_S.rf hA rfl hl.1 rfl (Nat.le_of_ble_eq_true rfl) dX1_setLength_14 ⟨Nat.le_of_ble_eq_true rfl, Nat.le_of_ble_eq_true rfl⟩ (fun ce q9 H1 locs1 hP1 hD1 hS1 hc1 hv1 hcl1 => xoutT hout hlocks hc1 hv1 hcl1 hP1 hK hD1 hS1 (by decide) (by decide))

set_option maxHeartbeats 4000000 in
set_option maxRecDepth 100000 in
/-- dueIn refuses: no such lamp -/
theorem x_X1_dueIn (l : Launch) (hl9 : l.stackTraces = false) (E : GE) (sz : Nat) (w : va_W) (a : Nat → Nat) (n now lim : Nat) (F : LR) (lit : Nat → Bool) (fo : Nat → Nat) (hv : CV E a n now lim (LF F lit fo) w) (hO : OkS n now lim F) (x : Int32) (hx9 : lpB n x = false) (z : Int32) : vx_Met l yX1_dueIn wsX1_dueIn ({ frames := 7, cells := 1, slots := 6, locals := 112 } : Room) (va_Pc [.ref (a 0), .int x, .int z] (pcT E (w) sz)) (fun _ _ _ _ => False) (xT E "java/lang/IndexOutOfBoundsException" (w) (va_A (w) sz)) 1 6 (va_A (w) sz) := by
  refine metT (by decide) rfl (Nat.le_of_ble_eq_true rfl) ?_
  intro p e s m args below meth c ls A hAe hA hx hb hr hml hts hown hlocks hout hP hK hD hT hl
  rw [hAe]
  have hiX1 : ∀ q ∈ wsX10, q ∈ wsX1_dueIn := by decide +kernel
  obtain ⟨mc, h0x, h1x, h2x, h3x⟩ := cv_all hv
  obtain ⟨hO1, hO2, hO3, hO4, hO5⟩ := id hO
  refine lv_aload_n hx hb dX1_dueIn_0 rfl (lv_at hl 0 rfl) ?_
  refine lv_iload_n hx hb dX1_dueIn_1 rfl (lv_at hl 1 rfl) ?_
  exact xcV (wx := []) (wy := []) (rest := []) (As := [.int x]) ⟨hx, hb, hml, hown, hts⟩ (x_X1_lampAt l hl9 E _ w a n now lim F lit fo hv hO x hx9) (cwV 1 hts gX1_dueIn_X1_lampAt rfl rfl rfl (by decide +kernel) ⟨Nat.le_of_ble_eq_true rfl, Nat.le_of_ble_eq_true rfl⟩) (va_recv hK hP (ci := 2) (q0 := 0) rfl h0x) (by rw [List.append_nil]; rfl) hP hK hD hT va_S.rf hA rfl hl.1 rfl (Nat.le_of_ble_eq_true rfl) dX1_dueIn_2 ⟨Nat.le_of_ble_eq_true rfl, Nat.le_of_ble_eq_true rfl⟩ (fun ce q9 H1 locs1 hP1 hD1 hS1 hc1 hv1 hcl1 => xoutT hout hlocks hc1 hv1 hcl1 hP1 hK hD1 hS1 (by decide) (by decide))

set_option maxHeartbeats 4000000 in
set_option maxRecDepth 100000 in
/-- dueIn refuses: outside -/
theorem x_X1_dueIn_y (l : Launch) (hl9 : l.stackTraces = false) (E : GE) (sz : Nat) (w : va_W) (a : Nat → Nat) (n now lim : Nat) (F : LR) (lit : Nat → Bool) (fo : Nat → Nat) (hv : CV E a n now lim (LF F lit fo) w) (hO : OkS n now lim F) (k : Nat) (hk : k < n) (z : Int32) (hz9 : inB z (nI 1) (nI 100000) = false) : vx_Met l yX1_dueIn wsX1_dueIn ({ frames := 7, cells := 1, slots := 6, locals := 112 } : Room) (va_Pc [.ref (a 0), .int (nI k), .int z] (pcT E (w) sz)) (fun _ _ _ _ => False) (xT E "java/lang/IllegalArgumentException" (w) (va_A (w) sz)) 1 6 (va_A (w) sz) := by
  refine metT (by decide) rfl (Nat.le_of_ble_eq_true rfl) ?_
  intro p e s m args below meth c ls A hAe hA hx hb hr hml hts hown hlocks hout hP hK hD hT hl
  rw [hAe]
  have hiX1 : ∀ q ∈ wsX10, q ∈ wsX1_dueIn := by decide +kernel
  obtain ⟨mc, h0x, h1x, h2x, h3x⟩ := cv_all hv
  obtain ⟨hO1, hO2, hO3, hO4, hO5⟩ := id hO
  have hk9 := hO4 k hk
  refine lv_aload_n hx hb dX1_dueIn_0 rfl (lv_at hl 0 rfl) ?_
  refine lv_iload_n hx hb dX1_dueIn_1 rfl (lv_at hl 1 rfl) ?_
  refine csV_r (rest := []) (As := [.int (nI k)]) ⟨hx, hb, hml, hown, hts⟩ (c_X1_lampAt l E _ a n now lim F lit fo hv hO k (by omega)) (cwV 1 hts gX1_dueIn_X1_lampAt rfl rfl rfl (by decide +kernel) ⟨Nat.le_of_ble_eq_true rfl, Nat.le_of_ble_eq_true rfl⟩) (va_recv hK hP (ci := 2) (q0 := 0) rfl h0x) hP hK rfl hl.1 rfl (Nat.le_of_ble_eq_true rfl) dX1_dueIn_2 (Nat.le_of_ble_eq_true rfl) (Nat.le_of_ble_eq_true rfl) (fun r2 hr2 => ?_)
  subst hr2
  refine lv_astore_n (lv' := [(3, .ref (a (3 + k))), (0, .ref (a 0)), (1, .int (nI k)), (2, .int z)]) hx hb dX1_dueIn_5 rfl hl (by decide) rfl (fun ls hl => ?_)
  refine lv_iload_n hx hb dX1_dueIn_6 rfl (lv_at hl 3 rfl) ?_
  refine lv_iconst (v := (nI 1)) hx hb dX1_dueIn_7 (by decide) ?_
  refine lv_ldc (v := nI 100000) hx hb hown (show (Jvm.Cond.constant RX1 122 (nI 100000)).before args s = true from (hts (.constant RX1 122 (100000)) (List.mem_of_getElem? (i := 1) (by rfl)))) dX1_dueIn_8 ?_
  exact xcS (wx := []) (wy := []) (rest := []) (As := [.int z, .int (nI 1), .int (nI 100000)]) ⟨hx, hb, hml, hown, hts⟩ (x_X1_refuseOutside l hl9 E _ w z (nI 1) (nI 100000) hz9) (va_cwS 3 hts gX1_dueIn_X1_refuseOutside rfl rfl rfl (by decide +kernel) ⟨Nat.le_of_ble_eq_true rfl, Nat.le_of_ble_eq_true rfl⟩) (by rw [List.append_nil]; rfl) hP hK hD hT va_S.rf hA rfl hl.1 rfl (Nat.le_of_ble_eq_true rfl) dX1_dueIn_10 ⟨Nat.le_of_ble_eq_true rfl, Nat.le_of_ble_eq_true rfl⟩ (fun ce q9 H1 locs1 hP1 hD1 hS1 hc1 hv1 hcl1 => xoutT hout hlocks hc1 hv1 hcl1 hP1 hK hD1 hS1 (by decide) (by decide))

set_option maxHeartbeats 4000000 in
set_option maxRecDepth 100000 in
/-- divisor refuses -/
theorem x_X1_divisor (l : Launch) (hl9 : l.stackTraces = false) (E : GE) (sz : Nat) (w : va_W) (a : Nat → Nat) (n now lim : Nat) (F : LR) (lit : Nat → Bool) (fo : Nat → Nat) (hv : CV E a n now lim (LF F lit fo) w) (hO : OkS n now lim F) (x z : Int32) (hx9 : (lpB n x && lpB n z) = false) : vx_Met l yX1_divisor wsX1_divisor ({ frames := 7, cells := 1, slots := 6, locals := 112 } : Room) (va_Pc [.ref (a 0), .int x, .int z] (pcT E (w) sz)) (fun _ _ _ _ => False) (xT E "java/lang/IndexOutOfBoundsException" (w) (va_A (w) sz)) 1 6 (va_A (w) sz) := by
  refine metT (by decide) rfl (Nat.le_of_ble_eq_true rfl) ?_
  intro p e s m args below meth c ls A hAe hA hx hb hr hml hts hown hlocks hout hP hK hD hT hl
  rw [hAe]
  have hiX0 : ∀ q ∈ wsX00, q ∈ wsX1_divisor := by decide +kernel
  obtain ⟨mc, h0x, h1x, h2x, h3x⟩ := cv_all hv
  obtain ⟨hO1, hO2, hO3, hO4, hO5⟩ := id hO
  refine lv_aload_n hx hb dX1_divisor_0 rfl (lv_at hl 0 rfl) ?_
  refine lv_iload_n hx hb dX1_divisor_1 rfl (lv_at hl 1 rfl) ?_
  cases hlx : lpB n x with
  | false =>
    exact xcV (wx := []) (wy := []) (rest := []) (As := [.int x]) ⟨hx, hb, hml, hown, hts⟩ (x_X1_lampAt l hl9 E _ w a n now lim F lit fo hv hO x hlx) (cwV 1 hts gX1_divisor_X1_lampAt rfl rfl rfl (by decide +kernel) ⟨Nat.le_of_ble_eq_true rfl, Nat.le_of_ble_eq_true rfl⟩) (va_recv hK hP (ci := 2) (q0 := 0) rfl h0x) (by rw [List.append_nil]; rfl) hP hK hD hT va_S.rf hA rfl hl.1 rfl (Nat.le_of_ble_eq_true rfl) dX1_divisor_2 ⟨Nat.le_of_ble_eq_true rfl, Nat.le_of_ble_eq_true rfl⟩ (fun ce q9 H1 locs1 hP1 hD1 hS1 hc1 hv1 hcl1 => xoutT hout hlocks hc1 hv1 hcl1 hP1 hK hD1 hS1 (by decide) (by decide))
  | true =>
    rw [hlx, Bool.true_and] at hx9
    obtain ⟨k, rfl, hk⟩ := lpB_ex hO1 hlx
    have hk9 := hO4 k hk
    refine csV_r (rest := []) (As := [.int (nI k)]) ⟨hx, hb, hml, hown, hts⟩ (c_X1_lampAt l E _ a n now lim F lit fo hv hO k (by omega)) (cwV 1 hts gX1_divisor_X1_lampAt rfl rfl rfl (by decide +kernel) ⟨Nat.le_of_ble_eq_true rfl, Nat.le_of_ble_eq_true rfl⟩) (va_recv hK hP (ci := 2) (q0 := 0) rfl h0x) hP hK rfl hl.1 rfl (Nat.le_of_ble_eq_true rfl) dX1_divisor_2 (Nat.le_of_ble_eq_true rfl) (Nat.le_of_ble_eq_true rfl) (fun r2 hr2 => ?_)
    subst hr2
    refine lv_astore_n (lv' := [(3, .ref (a (3 + k))), (0, .ref (a 0)), (1, .int (nI k)), (2, .int z)]) hx hb dX1_divisor_5 rfl hl (by decide) rfl (fun ls hl => ?_)
    refine lv_aload_n hx hb dX1_divisor_6 rfl (lv_at hl 1 rfl) ?_
    refine lv_iload_n hx hb dX1_divisor_7 rfl (lv_at hl 3 rfl) ?_
    exact xcV (wx := []) (wy := []) (rest := []) (As := [.int z]) ⟨hx, hb, hml, hown, hts⟩ (x_X1_lampAt l hl9 E _ w a n now lim F lit fo hv hO z hx9) (cwV 1 hts gX1_divisor_X1_lampAt rfl rfl rfl (by decide +kernel) ⟨Nat.le_of_ble_eq_true rfl, Nat.le_of_ble_eq_true rfl⟩) (va_recv hK hP (ci := 2) (q0 := 0) rfl h0x) (by rw [List.append_nil]; rfl) hP hK hD hT va_S.rf hA rfl hl.1 rfl (Nat.le_of_ble_eq_true rfl) dX1_divisor_8 ⟨Nat.le_of_ble_eq_true rfl, Nat.le_of_ble_eq_true rfl⟩ (fun ce q9 H1 locs1 hP1 hD1 hS1 hc1 hv1 hcl1 => xoutT hout hlocks hc1 hv1 hcl1 hP1 hK hD1 hS1 (by decide) (by decide))

set_option maxHeartbeats 4000000 in
set_option maxRecDepth 100000 in
/-- meet refuses -/
theorem x_X1_meet (l : Launch) (hl9 : l.stackTraces = false) (E : GE) (sz : Nat) (w : va_W) (a : Nat → Nat) (n now lim : Nat) (F : LR) (lit : Nat → Bool) (fo : Nat → Nat) (hv : CV E a n now lim (LF F lit fo) w) (hO : OkS n now lim F) (x z : Int32) (hx9 : (lpB n x && lpB n z) = false) : vx_Met l yX1_meet wsX1_meet ({ frames := 7, cells := 1, slots := 6, locals := 112 } : Room) (va_Pc [.ref (a 0), .int x, .int z] (pcT E (w) sz)) (fun _ _ _ _ => False) (xT E "java/lang/IndexOutOfBoundsException" (w) (va_A (w) sz)) 1 6 (va_A (w) sz) := by
  refine metT (by decide) rfl (Nat.le_of_ble_eq_true rfl) ?_
  intro p e s m args below meth c ls A hAe hA hx hb hr hml hts hown hlocks hout hP hK hD hT hl
  rw [hAe]
  have hiX0 : ∀ q ∈ wsX00, q ∈ wsX1_meet := by decide +kernel
  obtain ⟨mc, h0x, h1x, h2x, h3x⟩ := cv_all hv
  obtain ⟨hO1, hO2, hO3, hO4, hO5⟩ := id hO
  refine lv_aload_n hx hb dX1_meet_0 rfl (lv_at hl 0 rfl) ?_
  refine lv_iload_n hx hb dX1_meet_1 rfl (lv_at hl 1 rfl) ?_
  cases hlx : lpB n x with
  | false =>
    exact xcV (wx := []) (wy := []) (rest := []) (As := [.int x]) ⟨hx, hb, hml, hown, hts⟩ (x_X1_lampAt l hl9 E _ w a n now lim F lit fo hv hO x hlx) (cwV 1 hts gX1_meet_X1_lampAt rfl rfl rfl (by decide +kernel) ⟨Nat.le_of_ble_eq_true rfl, Nat.le_of_ble_eq_true rfl⟩) (va_recv hK hP (ci := 2) (q0 := 0) rfl h0x) (by rw [List.append_nil]; rfl) hP hK hD hT va_S.rf hA rfl hl.1 rfl (Nat.le_of_ble_eq_true rfl) dX1_meet_2 ⟨Nat.le_of_ble_eq_true rfl, Nat.le_of_ble_eq_true rfl⟩ (fun ce q9 H1 locs1 hP1 hD1 hS1 hc1 hv1 hcl1 => xoutT hout hlocks hc1 hv1 hcl1 hP1 hK hD1 hS1 (by decide) (by decide))
  | true =>
    rw [hlx, Bool.true_and] at hx9
    obtain ⟨k, rfl, hk⟩ := lpB_ex hO1 hlx
    have hk9 := hO4 k hk
    refine csV_r (rest := []) (As := [.int (nI k)]) ⟨hx, hb, hml, hown, hts⟩ (c_X1_lampAt l E _ a n now lim F lit fo hv hO k (by omega)) (cwV 1 hts gX1_meet_X1_lampAt rfl rfl rfl (by decide +kernel) ⟨Nat.le_of_ble_eq_true rfl, Nat.le_of_ble_eq_true rfl⟩) (va_recv hK hP (ci := 2) (q0 := 0) rfl h0x) hP hK rfl hl.1 rfl (Nat.le_of_ble_eq_true rfl) dX1_meet_2 (Nat.le_of_ble_eq_true rfl) (Nat.le_of_ble_eq_true rfl) (fun r2 hr2 => ?_)
    subst hr2
    refine lv_astore_n (lv' := [(3, .ref (a (3 + k))), (0, .ref (a 0)), (1, .int (nI k)), (2, .int z)]) hx hb dX1_meet_5 rfl hl (by decide) rfl (fun ls hl => ?_)
    refine lv_aload_n hx hb dX1_meet_6 rfl (lv_at hl 1 rfl) ?_
    refine lv_iload_n hx hb dX1_meet_7 rfl (lv_at hl 3 rfl) ?_
    exact xcV (wx := []) (wy := []) (rest := []) (As := [.int z]) ⟨hx, hb, hml, hown, hts⟩ (x_X1_lampAt l hl9 E _ w a n now lim F lit fo hv hO z hx9) (cwV 1 hts gX1_meet_X1_lampAt rfl rfl rfl (by decide +kernel) ⟨Nat.le_of_ble_eq_true rfl, Nat.le_of_ble_eq_true rfl⟩) (va_recv hK hP (ci := 2) (q0 := 0) rfl h0x) (by rw [List.append_nil]; rfl) hP hK hD hT va_S.rf hA rfl hl.1 rfl (Nat.le_of_ble_eq_true rfl) dX1_meet_8 ⟨Nat.le_of_ble_eq_true rfl, Nat.le_of_ble_eq_true rfl⟩ (fun ce q9 H1 locs1 hP1 hD1 hS1 hc1 hv1 hcl1 => xoutT hout hlocks hc1 hv1 hcl1 hP1 hK hD1 hS1 (by decide) (by decide))

set_option maxHeartbeats 4000000 in
set_option maxRecDepth 100000 in
/-- beatsUntilMeet refuses -/
theorem x_X1_beatsUntilMeet (l : Launch) (hl9 : l.stackTraces = false) (E : GE) (sz : Nat) (w : va_W) (a : Nat → Nat) (n now lim : Nat) (F : LR) (lit : Nat → Bool) (fo : Nat → Nat) (hv : CV E a n now lim (LF F lit fo) w) (hO : OkS n now lim F) (x z : Int32) (hx9 : (lpB n x && lpB n z) = false) : vx_Met l yX1_beatsUntilMeet wsX1_beatsUntilMeet ({ frames := 7, cells := 1, slots := 6, locals := 112 } : Room) (va_Pc [.ref (a 0), .int x, .int z] (pcT E (w) sz)) (fun _ _ _ _ => False) (xT E "java/lang/IndexOutOfBoundsException" (w) (va_A (w) sz)) 1 6 (va_A (w) sz) := by
  refine metT (by decide) rfl (Nat.le_of_ble_eq_true rfl) ?_
  intro p e s m args below meth c ls A hAe hA hx hb hr hml hts hown hlocks hout hP hK hD hT hl
  rw [hAe]
  have hiX1 : ∀ q ∈ wsX10, q ∈ wsX1_beatsUntilMeet := by decide +kernel
  have hiX0 : ∀ q ∈ wsX00, q ∈ wsX1_beatsUntilMeet := by decide +kernel
  obtain ⟨mc, h0x, h1x, h2x, h3x⟩ := cv_all hv
  obtain ⟨hO1, hO2, hO3, hO4, hO5⟩ := id hO
  refine lv_aload_n hx hb dX1_beatsUntilMeet_0 rfl (lv_at hl 0 rfl) ?_
  refine lv_iload_n hx hb dX1_beatsUntilMeet_1 rfl (lv_at hl 1 rfl) ?_
  cases hlx : lpB n x with
  | false =>
    exact xcV (wx := []) (wy := []) (rest := []) (As := [.int x]) ⟨hx, hb, hml, hown, hts⟩ (x_X1_lampAt l hl9 E _ w a n now lim F lit fo hv hO x hlx) (cwV 1 hts gX1_beatsUntilMeet_X1_lampAt rfl rfl rfl (by decide +kernel) ⟨Nat.le_of_ble_eq_true rfl, Nat.le_of_ble_eq_true rfl⟩) (va_recv hK hP (ci := 2) (q0 := 0) rfl h0x) (by rw [List.append_nil]; rfl) hP hK hD hT va_S.rf hA rfl hl.1 rfl (Nat.le_of_ble_eq_true rfl) dX1_beatsUntilMeet_2 ⟨Nat.le_of_ble_eq_true rfl, Nat.le_of_ble_eq_true rfl⟩ (fun ce q9 H1 locs1 hP1 hD1 hS1 hc1 hv1 hcl1 => xoutT hout hlocks hc1 hv1 hcl1 hP1 hK hD1 hS1 (by decide) (by decide))
  | true =>
    rw [hlx, Bool.true_and] at hx9
    obtain ⟨k, rfl, hk⟩ := lpB_ex hO1 hlx
    have hk9 := hO4 k hk
    refine csV_r (rest := []) (As := [.int (nI k)]) ⟨hx, hb, hml, hown, hts⟩ (c_X1_lampAt l E _ a n now lim F lit fo hv hO k (by omega)) (cwV 1 hts gX1_beatsUntilMeet_X1_lampAt rfl rfl rfl (by decide +kernel) ⟨Nat.le_of_ble_eq_true rfl, Nat.le_of_ble_eq_true rfl⟩) (va_recv hK hP (ci := 2) (q0 := 0) rfl h0x) hP hK rfl hl.1 rfl (Nat.le_of_ble_eq_true rfl) dX1_beatsUntilMeet_2 (Nat.le_of_ble_eq_true rfl) (Nat.le_of_ble_eq_true rfl) (fun r2 hr2 => ?_)
    subst hr2
    refine lv_astore_n (lv' := [(3, .ref (a (3 + k))), (0, .ref (a 0)), (1, .int (nI k)), (2, .int z)]) hx hb dX1_beatsUntilMeet_5 rfl hl (by decide) rfl (fun ls hl => ?_)
    refine lv_aload_n hx hb dX1_beatsUntilMeet_6 rfl (lv_at hl 1 rfl) ?_
    refine lv_iload_n hx hb dX1_beatsUntilMeet_7 rfl (lv_at hl 3 rfl) ?_
    exact xcV (wx := []) (wy := []) (rest := []) (As := [.int z]) ⟨hx, hb, hml, hown, hts⟩ (x_X1_lampAt l hl9 E _ w a n now lim F lit fo hv hO z hx9) (cwV 1 hts gX1_beatsUntilMeet_X1_lampAt rfl rfl rfl (by decide +kernel) ⟨Nat.le_of_ble_eq_true rfl, Nat.le_of_ble_eq_true rfl⟩) (va_recv hK hP (ci := 2) (q0 := 0) rfl h0x) (by rw [List.append_nil]; rfl) hP hK hD hT va_S.rf hA rfl hl.1 rfl (Nat.le_of_ble_eq_true rfl) dX1_beatsUntilMeet_8 ⟨Nat.le_of_ble_eq_true rfl, Nat.le_of_ble_eq_true rfl⟩ (fun ce q9 H1 locs1 hP1 hD1 hS1 hc1 hv1 hcl1 => xoutT hout hlocks hc1 hv1 hcl1 hP1 hK hD1 hS1 (by decide) (by decide))

set_option maxHeartbeats 4000000 in
set_option maxRecDepth 100000 in
/-- swapColours refuses -/
theorem x_X1_swapColours (l : Launch) (hl9 : l.stackTraces = false) (E : GE) (sz : Nat) (w : va_W) (a : Nat → Nat) (n now lim : Nat) (F : LR) (lit : Nat → Bool) (fo : Nat → Nat) (hv : CV E a n now lim (LF F lit fo) w) (hO : OkS n now lim F) (x z : Int32) (hx9 : (lpB n x && lpB n z) = false) : vx_Met l yX1_swapColours wsX1_swapColours ({ frames := 7, cells := 1, slots := 6, locals := 112 } : Room) (va_Pc [.ref (a 0), .int x, .int z] (pcT E (w) sz)) (fun _ _ _ _ => False) (xT E "java/lang/IndexOutOfBoundsException" (w) (va_A (w) sz)) 1 6 (va_A (w) sz) := by
  refine metT (by decide) rfl (Nat.le_of_ble_eq_true rfl) ?_
  intro p e s m args below meth c ls A hAe hA hx hb hr hml hts hown hlocks hout hP hK hD hT hl
  rw [hAe]
  have hiX0 : ∀ q ∈ wsX00, q ∈ wsX1_swapColours := by decide +kernel
  obtain ⟨mc, h0x, h1x, h2x, h3x⟩ := cv_all hv
  obtain ⟨hO1, hO2, hO3, hO4, hO5⟩ := id hO
  refine lv_aload_n hx hb dX1_swapColours_0 rfl (lv_at hl 0 rfl) ?_
  refine lv_iload_n hx hb dX1_swapColours_1 rfl (lv_at hl 1 rfl) ?_
  cases hlx : lpB n x with
  | false =>
    exact xcV (wx := []) (wy := []) (rest := []) (As := [.int x]) ⟨hx, hb, hml, hown, hts⟩ (x_X1_lampAt l hl9 E _ w a n now lim F lit fo hv hO x hlx) (cwV 1 hts gX1_swapColours_X1_lampAt rfl rfl rfl (by decide +kernel) ⟨Nat.le_of_ble_eq_true rfl, Nat.le_of_ble_eq_true rfl⟩) (va_recv hK hP (ci := 2) (q0 := 0) rfl h0x) (by rw [List.append_nil]; rfl) hP hK hD hT va_S.rf hA rfl hl.1 rfl (Nat.le_of_ble_eq_true rfl) dX1_swapColours_2 ⟨Nat.le_of_ble_eq_true rfl, Nat.le_of_ble_eq_true rfl⟩ (fun ce q9 H1 locs1 hP1 hD1 hS1 hc1 hv1 hcl1 => xoutT hout hlocks hc1 hv1 hcl1 hP1 hK hD1 hS1 (by decide) (by decide))
  | true =>
    rw [hlx, Bool.true_and] at hx9
    obtain ⟨k, rfl, hk⟩ := lpB_ex hO1 hlx
    have hk9 := hO4 k hk
    refine csV_r (rest := []) (As := [.int (nI k)]) ⟨hx, hb, hml, hown, hts⟩ (c_X1_lampAt l E _ a n now lim F lit fo hv hO k (by omega)) (cwV 1 hts gX1_swapColours_X1_lampAt rfl rfl rfl (by decide +kernel) ⟨Nat.le_of_ble_eq_true rfl, Nat.le_of_ble_eq_true rfl⟩) (va_recv hK hP (ci := 2) (q0 := 0) rfl h0x) hP hK rfl hl.1 rfl (Nat.le_of_ble_eq_true rfl) dX1_swapColours_2 (Nat.le_of_ble_eq_true rfl) (Nat.le_of_ble_eq_true rfl) (fun r2 hr2 => ?_)
    subst hr2
    refine lv_astore_n (lv' := [(3, .ref (a (3 + k))), (0, .ref (a 0)), (1, .int (nI k)), (2, .int z)]) hx hb dX1_swapColours_5 rfl hl (by decide) rfl (fun ls hl => ?_)
    refine lv_aload_n hx hb dX1_swapColours_6 rfl (lv_at hl 1 rfl) ?_
    refine lv_iload_n hx hb dX1_swapColours_7 rfl (lv_at hl 3 rfl) ?_
    exact xcV (wx := []) (wy := []) (rest := []) (As := [.int z]) ⟨hx, hb, hml, hown, hts⟩ (x_X1_lampAt l hl9 E _ w a n now lim F lit fo hv hO z hx9) (cwV 1 hts gX1_swapColours_X1_lampAt rfl rfl rfl (by decide +kernel) ⟨Nat.le_of_ble_eq_true rfl, Nat.le_of_ble_eq_true rfl⟩) (va_recv hK hP (ci := 2) (q0 := 0) rfl h0x) (by rw [List.append_nil]; rfl) hP hK hD hT va_S.rf hA rfl hl.1 rfl (Nat.le_of_ble_eq_true rfl) dX1_swapColours_8 ⟨Nat.le_of_ble_eq_true rfl, Nat.le_of_ble_eq_true rfl⟩ (fun ce q9 H1 locs1 hP1 hD1 hS1 hc1 hv1 hcl1 => xoutT hout hlocks hc1 hv1 hcl1 hP1 hK hD1 hS1 (by decide) (by decide))

set_option maxHeartbeats 4000000 in
set_option maxRecDepth 100000 in
/-- swapColours refuses: the same -/
theorem x_X1_swapColours_y (l : Launch) (hl9 : l.stackTraces = false) (E : GE) (sz : Nat) (w : va_W) (a : Nat → Nat) (n now lim : Nat) (F : LR) (lit : Nat → Bool) (fo : Nat → Nat) (hv : CV E a n now lim (LF F lit fo) w) (hO : OkS n now lim F) (k : Nat) (hk : k < n) : vx_Met l yX1_swapColours wsX1_swapColours ({ frames := 7, cells := 1, slots := 6, locals := 112 } : Room) (va_Pc [.ref (a 0), .int (nI k), .int (nI k)] (pcT E (w) sz)) (fun _ _ _ _ => False) (xT E "java/lang/IllegalArgumentException" (w) (va_A (w) sz)) 1 6 (va_A (w) sz) := by
  refine metT (by decide) rfl (Nat.le_of_ble_eq_true rfl) ?_
  intro p e s m args below meth c ls A hAe hA hx hb hr hml hts hown hlocks hout hP hK hD hT hl
  rw [hAe]
  have hiX0 : ∀ q ∈ wsX00, q ∈ wsX1_swapColours := by decide +kernel
  obtain ⟨mc, h0x, h1x, h2x, h3x⟩ := cv_all hv
  obtain ⟨hO1, hO2, hO3, hO4, hO5⟩ := id hO
  refine lv_aload_n hx hb dX1_swapColours_0 rfl (lv_at hl 0 rfl) ?_
  refine lv_iload_n hx hb dX1_swapColours_1 rfl (lv_at hl 1 rfl) ?_
  refine csV_r (rest := []) (As := [.int (nI k)]) ⟨hx, hb, hml, hown, hts⟩ (c_X1_lampAt l E _ a n now lim F lit fo hv hO k (by omega)) (cwV 1 hts gX1_swapColours_X1_lampAt rfl rfl rfl (by decide +kernel) ⟨Nat.le_of_ble_eq_true rfl, Nat.le_of_ble_eq_true rfl⟩) (va_recv hK hP (ci := 2) (q0 := 0) rfl h0x) hP hK rfl hl.1 rfl (Nat.le_of_ble_eq_true rfl) dX1_swapColours_2 (Nat.le_of_ble_eq_true rfl) (Nat.le_of_ble_eq_true rfl) (fun r2 hr2 => ?_)
  subst hr2
  refine lv_astore_n (lv' := [(3, .ref (a (3 + k))), (0, .ref (a 0)), (1, .int (nI k)), (2, .int (nI k))]) hx hb dX1_swapColours_5 rfl hl (by decide) rfl (fun ls hl => ?_)
  refine lv_aload_n hx hb dX1_swapColours_6 rfl (lv_at hl 1 rfl) ?_
  refine lv_iload_n hx hb dX1_swapColours_7 rfl (lv_at hl 3 rfl) ?_
  refine csV_r (rest := []) (As := [.int (nI k)]) ⟨hx, hb, hml, hown, hts⟩ (c_X1_lampAt l E _ a n now lim F lit fo hv hO k (by omega)) (cwV 1 hts gX1_swapColours_X1_lampAt rfl rfl rfl (by decide +kernel) ⟨Nat.le_of_ble_eq_true rfl, Nat.le_of_ble_eq_true rfl⟩) (va_recv hK hP (ci := 2) (q0 := 0) rfl h0x) hP hK rfl hl.1 rfl (Nat.le_of_ble_eq_true rfl) dX1_swapColours_8 (Nat.le_of_ble_eq_true rfl) (Nat.le_of_ble_eq_true rfl) (fun r8 hr8 => ?_)
  subst hr8
  refine lv_astore (lv' := [(4, .ref (a (3 + k))), (3, .ref (a (3 + k))), (0, .ref (a 0)), (1, .int (nI k)), (2, .int (nI k))]) hx hb dX1_swapColours_11 hl (by decide) rfl (fun ls hl => ?_)
  refine lv_iload_n hx hb dX1_swapColours_13 rfl (lv_at hl 3 rfl) ?_
  refine lv_iload_n hx hb dX1_swapColours_14 rfl (lv_at hl 4 rfl) ?_
  refine nq_icmp_ne (tgt := 28) hx hb dX1_swapColours_15 (by decide) (by omega) (by omega) (fun h15 => ?_) (fun h15 => ?_)
  · skip
    exact absurd rfl h15
  · skip
    exact thrS (X := "java/lang/IllegalArgumentException") (text := "both lamps are the same") (ik := 60) (is := 62) (ic := 64) hx hb hl9 hown (by decide +kernel) (hts (.classLink RX1 60 "java/lang/IllegalArgumentException") (List.mem_of_getElem? (i := 1) (by rfl))) (hts (.initialized "java/lang/IllegalArgumentException") (List.mem_of_getElem? (i := 2) (by rfl))) hT.2.2.2.2.1 (vx_hat (fun w hw => hts w (List.mem_cons_of_mem _ (List.mem_append_left _ (List.mem_append_right _ hw)))) xf64 (vx_c (va_Nw.use rfl hT.2.2.2.2.2.2.1) (vx_c (va_Nw.use rfl hT.2.2.2.2.2.2.2.2.2.2.2.1) (vx_c (va_Nw.use rfl hT.2.2.2.2.2.2.2.2.2.2.2.2.1) (vx_c (va_Nw.use rfl hT.2.2.2.2.2.2.2.2.2.2.2.2.2) vx_n))))) xg64 hT hP hK hD va_S.rf (hl.1.trans hml.symm) dX1_swapColours_18 dX1_swapColours_21 dX1_swapColours_22 dX1_swapColours_24 dX1_swapColours_27 hout ⟨by decide, by decide, by decide, by decide⟩ hlocks (by decide) (by decide)

set_option maxHeartbeats 4000000 in
set_option maxRecDepth 100000 in
/-- setLimit refuses -/
theorem x_X1_setLimit (l : Launch) (hl9 : l.stackTraces = false) (E : GE) (sz : Nat) (w : va_W) (a : Nat → Nat) (n now lim : Nat) (F : LR) (lit : Nat → Bool) (fo : Nat → Nat) (hv : CV E a n now lim (LF F lit fo) w) (hO : OkS n now lim F) (x : Int32) (hx9 : inB x (nI 0) (nI 99) = false) : vx_Met l yX1_setLimit wsX1_setLimit ({ frames := 7, cells := 1, slots := 6, locals := 112 } : Room) (va_Pc [.ref (a 0), .int x] (pcT E (w) sz)) (fun _ _ _ _ => False) (xT E "java/lang/IllegalArgumentException" (w) (va_A (w) sz)) 1 6 (va_A (w) sz) := by
  refine metT (by decide) rfl (Nat.le_of_ble_eq_true rfl) ?_
  intro p e s m args below meth c ls A hAe hA hx hb hr hml hts hown hlocks hout hP hK hD hT hl
  rw [hAe]
  have hiX1 : ∀ q ∈ wsX10, q ∈ wsX1_setLimit := by decide +kernel
  obtain ⟨mc, h0x, h1x, h2x, h3x⟩ := cv_all hv
  obtain ⟨hO1, hO2, hO3, hO4, hO5⟩ := id hO
  refine lv_iload_n hx hb dX1_setLimit_0 rfl (lv_at hl 1 rfl) ?_
  refine lv_iconst (v := (nI 0)) hx hb dX1_setLimit_1 (by decide) ?_
  refine lv_bipush (v := (nI 99)) hx hb dX1_setLimit_2 (by decide) ?_
  exact xcS (wx := []) (wy := []) (rest := []) (As := [.int x, .int (nI 0), .int (nI 99)]) ⟨hx, hb, hml, hown, hts⟩ (x_X1_refuseOutside l hl9 E _ w x (nI 0) (nI 99) hx9) (va_cwS 3 hts gX1_setLimit_X1_refuseOutside rfl rfl rfl (by decide +kernel) ⟨Nat.le_of_ble_eq_true rfl, Nat.le_of_ble_eq_true rfl⟩) (by rw [List.append_nil]; rfl) hP hK hD hT va_S.rf hA rfl hl.1 rfl (Nat.le_of_ble_eq_true rfl) dX1_setLimit_4 ⟨Nat.le_of_ble_eq_true rfl, Nat.le_of_ble_eq_true rfl⟩ (fun ce q9 H1 locs1 hP1 hD1 hS1 hc1 hv1 hcl1 => xoutT hout hlocks hc1 hv1 hcl1 hP1 hK hD1 hS1 (by decide) (by decide))

set_option maxHeartbeats 4000000 in
set_option maxRecDepth 100000 in
/-- pass refuses -/
theorem x_X1_pass (l : Launch) (hl9 : l.stackTraces = false) (E : GE) (sz : Nat) (w : va_W) (a : Nat → Nat) (n now lim : Nat) (F : LR) (lit : Nat → Bool) (fo : Nat → Nat) (hv : CV E a n now lim (LF F lit fo) w) (hO : OkS n now lim F) (x : Int32) (hx9 : inB x (nI 1) (nI 200) = false) : vx_Met l yX1_pass wsX1_pass ({ frames := 7, cells := 1, slots := 6, locals := 112 } : Room) (va_Pc [.ref (a 0), .int x] (pcT E (w) sz)) (fun _ _ _ _ => False) (xT E "java/lang/IllegalArgumentException" (w) (va_A (w) sz)) 1 6 (va_A (w) sz) := by
  refine metT (by decide) rfl (Nat.le_of_ble_eq_true rfl) ?_
  intro p e s m args below meth c ls A hAe hA hx hb hr hml hts hown hlocks hout hP hK hD hT hl
  rw [hAe]
  obtain ⟨mc, h0x, h1x, h2x, h3x⟩ := cv_all hv
  obtain ⟨hO1, hO2, hO3, hO4, hO5⟩ := id hO
  refine lv_iload_n hx hb dX1_pass_0 rfl (lv_at hl 1 rfl) ?_
  refine lv_iconst (v := (nI 1)) hx hb dX1_pass_1 (by decide) ?_
  refine lv_sipush (v := (nI 200)) hx hb dX1_pass_2 (by decide) ?_
  exact xcS (wx := []) (wy := []) (rest := []) (As := [.int x, .int (nI 1), .int (nI 200)]) ⟨hx, hb, hml, hown, hts⟩ (x_X1_refuseOutside l hl9 E _ w x (nI 1) (nI 200) hx9) (va_cwS 3 hts gX1_pass_X1_refuseOutside rfl rfl rfl (by decide +kernel) ⟨Nat.le_of_ble_eq_true rfl, Nat.le_of_ble_eq_true rfl⟩) (by rw [List.append_nil]; rfl) hP hK hD hT va_S.rf hA rfl hl.1 rfl (Nat.le_of_ble_eq_true rfl) dX1_pass_5 ⟨Nat.le_of_ble_eq_true rfl, Nat.le_of_ble_eq_true rfl⟩ (fun ce q9 H1 locs1 hP1 hD1 hS1 hc1 hv1 hcl1 => xoutT hout hlocks hc1 hv1 hcl1 hP1 hK hD1 hS1 (by decide) (by decide))

set_option maxHeartbeats 4000000 in
set_option maxRecDepth 100000 in
/-- seen refuses -/
theorem x_X1_seen (l : Launch) (hl9 : l.stackTraces = false) (E : GE) (sz : Nat) (w : va_W) (a : Nat → Nat) (n now lim : Nat) (F : LR) (lit : Nat → Bool) (fo : Nat → Nat) (hv : CV E a n now lim (LF F lit fo) w) (hO : OkS n now lim F) (x : Int32) (hx9 : inB x (nI 0) (nI 5) = false) : vx_Met l yX1_seen wsX1_seen ({ frames := 7, cells := 1, slots := 6, locals := 112 } : Room) (va_Pc [.ref (a 0), .int x] (pcT E (w) sz)) (fun _ _ _ _ => False) (xT E "java/lang/IllegalArgumentException" (w) (va_A (w) sz)) 1 6 (va_A (w) sz) := by
  refine metT (by decide) rfl (Nat.le_of_ble_eq_true rfl) ?_
  intro p e s m args below meth c ls A hAe hA hx hb hr hml hts hown hlocks hout hP hK hD hT hl
  rw [hAe]
  have hiX1 : ∀ q ∈ wsX10, q ∈ wsX1_seen := by decide +kernel
  have hiX0 : ∀ q ∈ wsX00, q ∈ wsX1_seen := by decide +kernel
  obtain ⟨mc, h0x, h1x, h2x, h3x⟩ := cv_all hv
  obtain ⟨hO1, hO2, hO3, hO4, hO5⟩ := id hO
  refine lv_iload_n hx hb dX1_seen_0 rfl (lv_at hl 1 rfl) ?_
  refine lv_iconst (v := (nI 0)) hx hb dX1_seen_1 (by decide) ?_
  refine lv_iconst (v := (nI 5)) hx hb dX1_seen_2 (by decide) ?_
  exact xcS (wx := []) (wy := []) (rest := []) (As := [.int x, .int (nI 0), .int (nI 5)]) ⟨hx, hb, hml, hown, hts⟩ (x_X1_refuseOutside l hl9 E _ w x (nI 0) (nI 5) hx9) (va_cwS 3 hts gX1_seen_X1_refuseOutside rfl rfl rfl (by decide +kernel) ⟨Nat.le_of_ble_eq_true rfl, Nat.le_of_ble_eq_true rfl⟩) (by rw [List.append_nil]; rfl) hP hK hD hT va_S.rf hA rfl hl.1 rfl (Nat.le_of_ble_eq_true rfl) dX1_seen_3 ⟨Nat.le_of_ble_eq_true rfl, Nat.le_of_ble_eq_true rfl⟩ (fun ce q9 H1 locs1 hP1 hD1 hS1 hc1 hv1 hcl1 => xoutT hout hlocks hc1 hv1 hcl1 hP1 hK hD1 hS1 (by decide) (by decide))

set_option maxHeartbeats 4000000 in
set_option maxRecDepth 100000 in
/-- brightest refuses -/
theorem x_X1_brightest (l : Launch) (hl9 : l.stackTraces = false) (E : GE) (sz : Nat) (w : va_W) (a : Nat → Nat) (n now lim : Nat) (F : LR) (lit : Nat → Bool) (fo : Nat → Nat) (hv : CV E a n now lim (LF F lit fo) w) (hO : OkS n now lim F) (x : Int32) (hx9 : inB x (nI 1) (nI 200) = false) : vx_Met l yX1_brightest wsX1_brightest ({ frames := 7, cells := 1, slots := 6, locals := 112 } : Room) (va_Pc [.ref (a 0), .int x] (pcT E (w) sz)) (fun _ _ _ _ => False) (xT E "java/lang/IllegalArgumentException" (w) (va_A (w) sz)) 1 6 (va_A (w) sz) := by
  refine metT (by decide) rfl (Nat.le_of_ble_eq_true rfl) ?_
  intro p e s m args below meth c ls A hAe hA hx hb hr hml hts hown hlocks hout hP hK hD hT hl
  rw [hAe]
  have hiX1 : ∀ q ∈ wsX10, q ∈ wsX1_brightest := by decide +kernel
  obtain ⟨mc, h0x, h1x, h2x, h3x⟩ := cv_all hv
  obtain ⟨hO1, hO2, hO3, hO4, hO5⟩ := id hO
  refine lv_iload_n hx hb dX1_brightest_0 rfl (lv_at hl 1 rfl) ?_
  refine lv_iconst (v := (nI 1)) hx hb dX1_brightest_1 (by decide) ?_
  refine lv_sipush (v := (nI 200)) hx hb dX1_brightest_2 (by decide) ?_
  exact xcS (wx := []) (wy := []) (rest := []) (As := [.int x, .int (nI 1), .int (nI 200)]) ⟨hx, hb, hml, hown, hts⟩ (x_X1_refuseOutside l hl9 E _ w x (nI 1) (nI 200) hx9) (va_cwS 3 hts gX1_brightest_X1_refuseOutside rfl rfl rfl (by decide +kernel) ⟨Nat.le_of_ble_eq_true rfl, Nat.le_of_ble_eq_true rfl⟩) (by rw [List.append_nil]; rfl) hP hK hD hT va_S.rf hA rfl hl.1 rfl (Nat.le_of_ble_eq_true rfl) dX1_brightest_5 ⟨Nat.le_of_ble_eq_true rfl, Nat.le_of_ble_eq_true rfl⟩ (fun ce q9 H1 locs1 hP1 hD1 hS1 hc1 hv1 hcl1 => xoutT hout hlocks hc1 hv1 hcl1 hP1 hK hD1 hS1 (by decide) (by decide))

set_option maxHeartbeats 4000000 in
set_option maxRecDepth 100000 in
/-- unfairnessIn refuses -/
theorem x_X1_unfairnessIn (l : Launch) (hl9 : l.stackTraces = false) (E : GE) (sz : Nat) (w : va_W) (a : Nat → Nat) (n now lim : Nat) (F : LR) (lit : Nat → Bool) (fo : Nat → Nat) (hv : CV E a n now lim (LF F lit fo) w) (hO : OkS n now lim F) (x : Int32) (hx9 : inB x (nI 1) (nI 200) = false) : vx_Met l yX1_unfairnessIn wsX1_unfairnessIn ({ frames := 7, cells := 1, slots := 6, locals := 135 } : Room) (va_Pc [.ref (a 0), .int x] (pcT E (w) sz)) (fun _ _ _ _ => False) (xT E "java/lang/IllegalArgumentException" (w) (va_A (w) sz)) 1 6 (va_A (w) sz) := by
  refine metT (by decide) rfl (Nat.le_of_ble_eq_true rfl) ?_
  intro p e s m args below meth c ls A hAe hA hx hb hr hml hts hown hlocks hout hP hK hD hT hl
  rw [hAe]
  obtain ⟨mc, h0x, h1x, h2x, h3x⟩ := cv_all hv
  obtain ⟨hO1, hO2, hO3, hO4, hO5⟩ := id hO
  refine lv_iload_n hx hb dX1_unfairnessIn_0 rfl (lv_at hl 1 rfl) ?_
  refine lv_iconst (v := (nI 1)) hx hb dX1_unfairnessIn_1 (by decide) ?_
  refine lv_sipush (v := (nI 200)) hx hb dX1_unfairnessIn_2 (by decide) ?_
  exact xcS (wx := []) (wy := []) (rest := []) (As := [.int x, .int (nI 1), .int (nI 200)]) ⟨hx, hb, hml, hown, hts⟩ (x_X1_refuseOutside l hl9 E _ w x (nI 1) (nI 200) hx9) (va_cwS 3 hts gX1_unfairnessIn_X1_refuseOutside rfl rfl rfl (by decide +kernel) ⟨Nat.le_of_ble_eq_true rfl, Nat.le_of_ble_eq_true rfl⟩) (by rw [List.append_nil]; rfl) hP hK hD hT va_S.rf hA rfl hl.1 rfl (Nat.le_of_ble_eq_true rfl) dX1_unfairnessIn_5 ⟨Nat.le_of_ble_eq_true rfl, Nat.le_of_ble_eq_true rfl⟩ (fun ce q9 H1 locs1 hP1 hD1 hS1 hc1 hv1 hcl1 => xoutT hout hlocks hc1 hv1 hcl1 hP1 hK hD1 hS1 (by decide) (by decide))

set_option maxHeartbeats 4000000 in
set_option maxRecDepth 100000 in
/-- limitWanted refuses -/
theorem x_X1_limitWanted (l : Launch) (hl9 : l.stackTraces = false) (E : GE) (sz : Nat) (w : va_W) (a : Nat → Nat) (n now lim : Nat) (F : LR) (lit : Nat → Bool) (fo : Nat → Nat) (hv : CV E a n now lim (LF F lit fo) w) (hO : OkS n now lim F) (x : Int32) (hx9 : inB x (nI 1) (nI 200) = false) : vx_Met l yX1_limitWanted wsX1_limitWanted ({ frames := 7, cells := 1, slots := 6, locals := 112 } : Room) (va_Pc [.ref (a 0), .int x] (pcT E (w) sz)) (fun _ _ _ _ => False) (xT E "java/lang/IllegalArgumentException" (w) (va_A (w) sz)) 1 6 (va_A (w) sz) := by
  refine metT (by decide) rfl (Nat.le_of_ble_eq_true rfl) ?_
  intro p e s m args below meth c ls A hAe hA hx hb hr hml hts hown hlocks hout hP hK hD hT hl
  rw [hAe]
  have hiX1 : ∀ q ∈ wsX10, q ∈ wsX1_limitWanted := by decide +kernel
  obtain ⟨mc, h0x, h1x, h2x, h3x⟩ := cv_all hv
  obtain ⟨hO1, hO2, hO3, hO4, hO5⟩ := id hO
  refine lv_iload_n hx hb dX1_limitWanted_0 rfl (lv_at hl 1 rfl) ?_
  refine lv_iconst (v := (nI 1)) hx hb dX1_limitWanted_1 (by decide) ?_
  refine lv_sipush (v := (nI 200)) hx hb dX1_limitWanted_2 (by decide) ?_
  exact xcS (wx := []) (wy := []) (rest := []) (As := [.int x, .int (nI 1), .int (nI 200)]) ⟨hx, hb, hml, hown, hts⟩ (x_X1_refuseOutside l hl9 E _ w x (nI 1) (nI 200) hx9) (va_cwS 3 hts gX1_limitWanted_X1_refuseOutside rfl rfl rfl (by decide +kernel) ⟨Nat.le_of_ble_eq_true rfl, Nat.le_of_ble_eq_true rfl⟩) (by rw [List.append_nil]; rfl) hP hK hD hT va_S.rf hA rfl hl.1 rfl (Nat.le_of_ble_eq_true rfl) dX1_limitWanted_5 ⟨Nat.le_of_ble_eq_true rfl, Nat.le_of_ble_eq_true rfl⟩ (fun ce q9 H1 locs1 hP1 hD1 hS1 hc1 hv1 hcl1 => xoutT hout hlocks hc1 hv1 hcl1 hP1 hK hD1 hS1 (by decide) (by decide))

set_option maxHeartbeats 4000000 in
set_option maxRecDepth 100000 in
/-- addLamp refuses: outside -/
theorem x_X1_addLamp (l : Launch) (hl9 : l.stackTraces = false) (E : GE) (sz : Nat) (w : va_W) (a : Nat → Nat) (n now lim : Nat) (F : LR) (lit : Nat → Bool) (fo : Nat → Nat) (hv : CV E a n now lim (LF F lit fo) w) (hO : OkS n now lim F) (x1 x2 x3 x4 : Int32) (hx9 : (inB x1 (nI 0) (nI 5) && inB x2 (nI 2) (nI 20) && inB x3 (nI 1) (x2 - nI 1) && inB x4 (nI 1) (nI 9)) = false) : vx_Met l yX1_addLamp wsX1_addLamp ({ frames := 7, cells := 1, slots := 6, locals := 112 } : Room) (va_Pc [.ref (a 0), .int x1, .int x2, .int x3, .int x4] (pcT E (w) sz)) (fun _ _ _ _ => False) (xT E "java/lang/IllegalArgumentException" (w) (va_A (w) sz)) 1 6 (va_A (w) sz) := by
  refine metT (by decide) rfl (Nat.le_of_ble_eq_true rfl) ?_
  intro p e s m args below meth c ls A hAe hA hx hb hr hml hts hown hlocks hout hP hK hD hT hl
  rw [hAe]
  have hiX1 : ∀ q ∈ wsX10, q ∈ wsX1_addLamp := by decide +kernel
  have hiX0 : ∀ q ∈ wsX00, q ∈ wsX1_addLamp := by decide +kernel
  obtain ⟨mc, h0x, h1x, h2x, h3x⟩ := cv_all hv
  obtain ⟨hO1, hO2, hO3, hO4, hO5⟩ := id hO
  refine lv_iload_n hx hb dX1_addLamp_0 rfl (lv_at hl 1 rfl) ?_
  refine lv_iconst (v := (nI 0)) hx hb dX1_addLamp_1 (by decide) ?_
  refine lv_iconst (v := (nI 5)) hx hb dX1_addLamp_2 (by decide) ?_
  cases hl0 : inB x1 (nI 0) (nI 5) with
  | false =>
    exact xcS (wx := []) (wy := []) (rest := []) (As := [.int x1, .int (nI 0), .int (nI 5)]) ⟨hx, hb, hml, hown, hts⟩ (x_X1_refuseOutside l hl9 E _ w x1 (nI 0) (nI 5) hl0) (va_cwS 3 hts gX1_addLamp_X1_refuseOutside rfl rfl rfl (by decide +kernel) ⟨Nat.le_of_ble_eq_true rfl, Nat.le_of_ble_eq_true rfl⟩) (by rw [List.append_nil]; rfl) hP hK hD hT va_S.rf hA rfl hl.1 rfl (Nat.le_of_ble_eq_true rfl) dX1_addLamp_3 ⟨Nat.le_of_ble_eq_true rfl, Nat.le_of_ble_eq_true rfl⟩ (fun ce q9 H1 locs1 hP1 hD1 hS1 hc1 hv1 hcl1 => xoutT hout hlocks hc1 hv1 hcl1 hP1 hK hD1 hS1 (by decide) (by decide))
  | true =>
    refine csS_v (rest := []) (As := [.int x1, .int (nI 0), .int (nI 5)]) ⟨hx, hb, hml, hown, hts⟩ (c_X1_refuseOutside l E _ x1 (nI 0) (nI 5) (inB_tt hl0).1 (inB_tt hl0).2) (va_cwS 3 hts gX1_addLamp_X1_refuseOutside rfl rfl rfl (by decide +kernel) ⟨Nat.le_of_ble_eq_true rfl, Nat.le_of_ble_eq_true rfl⟩) hP hK rfl hl.1 rfl (Nat.le_of_ble_eq_true rfl) dX1_addLamp_3 (Nat.le_of_ble_eq_true rfl) (Nat.le_of_ble_eq_true rfl) (fun _ => ?_)
    refine lv_iload_n hx hb dX1_addLamp_6 rfl (lv_at hl 2 rfl) ?_
    refine lv_iconst (v := (nI 2)) hx hb dX1_addLamp_7 (by decide) ?_
    refine lv_bipush (v := (nI 20)) hx hb dX1_addLamp_8 (by decide) ?_
    cases hl1 : inB x2 (nI 2) (nI 20) with
    | false =>
      exact xcS (wx := []) (wy := []) (rest := []) (As := [.int x2, .int (nI 2), .int (nI 20)]) ⟨hx, hb, hml, hown, hts⟩ (x_X1_refuseOutside l hl9 E _ w x2 (nI 2) (nI 20) hl1) (va_cwS 3 hts gX1_addLamp_X1_refuseOutside rfl rfl rfl (by decide +kernel) ⟨Nat.le_of_ble_eq_true rfl, Nat.le_of_ble_eq_true rfl⟩) (by rw [List.append_nil]; rfl) hP hK hD hT va_S.rf hA rfl hl.1 rfl (Nat.le_of_ble_eq_true rfl) dX1_addLamp_10 ⟨Nat.le_of_ble_eq_true rfl, Nat.le_of_ble_eq_true rfl⟩ (fun ce q9 H1 locs1 hP1 hD1 hS1 hc1 hv1 hcl1 => xoutT hout hlocks hc1 hv1 hcl1 hP1 hK hD1 hS1 (by decide) (by decide))
    | true =>
      refine csS_v (rest := []) (As := [.int x2, .int (nI 2), .int (nI 20)]) ⟨hx, hb, hml, hown, hts⟩ (c_X1_refuseOutside l E _ x2 (nI 2) (nI 20) (inB_tt hl1).1 (inB_tt hl1).2) (va_cwS 3 hts gX1_addLamp_X1_refuseOutside rfl rfl rfl (by decide +kernel) ⟨Nat.le_of_ble_eq_true rfl, Nat.le_of_ble_eq_true rfl⟩) hP hK rfl hl.1 rfl (Nat.le_of_ble_eq_true rfl) dX1_addLamp_10 (Nat.le_of_ble_eq_true rfl) (Nat.le_of_ble_eq_true rfl) (fun _ => ?_)
      refine lv_iload_n hx hb dX1_addLamp_13 rfl (lv_at hl 3 rfl) ?_
      refine lv_iconst (v := (nI 1)) hx hb dX1_addLamp_14 (by decide) ?_
      refine lv_iload_n hx hb dX1_addLamp_15 rfl (lv_at hl 2 rfl) ?_
      refine lv_iconst (v := (nI 1)) hx hb dX1_addLamp_16 (by decide) ?_
      refine lv_isub hx hb dX1_addLamp_17 ?_
      cases hl2 : inB x3 (nI 1) (x2 - (nI 1)) with
      | false =>
        exact xcS (wx := []) (wy := []) (rest := []) (As := [.int x3, .int (nI 1), .int (x2 - (nI 1))]) ⟨hx, hb, hml, hown, hts⟩ (x_X1_refuseOutside l hl9 E _ w x3 (nI 1) (x2 - (nI 1)) hl2) (va_cwS 3 hts gX1_addLamp_X1_refuseOutside rfl rfl rfl (by decide +kernel) ⟨Nat.le_of_ble_eq_true rfl, Nat.le_of_ble_eq_true rfl⟩) (by rw [List.append_nil]; rfl) hP hK hD hT va_S.rf hA rfl hl.1 rfl (Nat.le_of_ble_eq_true rfl) dX1_addLamp_18 ⟨Nat.le_of_ble_eq_true rfl, Nat.le_of_ble_eq_true rfl⟩ (fun ce q9 H1 locs1 hP1 hD1 hS1 hc1 hv1 hcl1 => xoutT hout hlocks hc1 hv1 hcl1 hP1 hK hD1 hS1 (by decide) (by decide))
      | true =>
        refine csS_v (rest := []) (As := [.int x3, .int (nI 1), .int (x2 - (nI 1))]) ⟨hx, hb, hml, hown, hts⟩ (c_X1_refuseOutside l E _ x3 (nI 1) (x2 - (nI 1)) (inB_tt hl2).1 (inB_tt hl2).2) (va_cwS 3 hts gX1_addLamp_X1_refuseOutside rfl rfl rfl (by decide +kernel) ⟨Nat.le_of_ble_eq_true rfl, Nat.le_of_ble_eq_true rfl⟩) hP hK rfl hl.1 rfl (Nat.le_of_ble_eq_true rfl) dX1_addLamp_18 (Nat.le_of_ble_eq_true rfl) (Nat.le_of_ble_eq_true rfl) (fun _ => ?_)
        refine lv_iload hx hb dX1_addLamp_21 (lv_at hl 4 rfl) ?_
        refine lv_iconst (v := (nI 1)) hx hb dX1_addLamp_23 (by decide) ?_
        refine lv_bipush (v := (nI 9)) hx hb dX1_addLamp_24 (by decide) ?_
        cases hl3 : inB x4 (nI 1) (nI 9) with
        | false =>
          exact xcS (wx := []) (wy := []) (rest := []) (As := [.int x4, .int (nI 1), .int (nI 9)]) ⟨hx, hb, hml, hown, hts⟩ (x_X1_refuseOutside l hl9 E _ w x4 (nI 1) (nI 9) hl3) (va_cwS 3 hts gX1_addLamp_X1_refuseOutside rfl rfl rfl (by decide +kernel) ⟨Nat.le_of_ble_eq_true rfl, Nat.le_of_ble_eq_true rfl⟩) (by rw [List.append_nil]; rfl) hP hK hD hT va_S.rf hA rfl hl.1 rfl (Nat.le_of_ble_eq_true rfl) dX1_addLamp_26 ⟨Nat.le_of_ble_eq_true rfl, Nat.le_of_ble_eq_true rfl⟩ (fun ce q9 H1 locs1 hP1 hD1 hS1 hc1 hv1 hcl1 => xoutT hout hlocks hc1 hv1 hcl1 hP1 hK hD1 hS1 (by decide) (by decide))
        | true =>
          exact absurd hx9 (by rw [hl0, hl1, hl2, hl3]; decide)

set_option maxHeartbeats 4000000 in
set_option maxRecDepth 100000 in
/-- addLamp refuses: eight lamps -/
theorem x_X1_addLamp_y (l : Launch) (hl9 : l.stackTraces = false) (E : GE) (sz : Nat) (w : va_W) (a : Nat → Nat) (n now lim : Nat) (F : LR) (lit : Nat → Bool) (fo : Nat → Nat) (hv : CV E a n now lim (LF F lit fo) w) (hO : OkS n now lim F) (k v u z : Nat) (hc9 : k ≤ 5) (hp9 : 2 ≤ v ∧ v ≤ 20) (hl9a : 1 ≤ u ∧ u < v) (hw9 : 1 ≤ z ∧ z ≤ 9) (hn9 : n = 8) : vx_Met l yX1_addLamp wsX1_addLamp ({ frames := 7, cells := 1, slots := 6, locals := 112 } : Room) (va_Pc [.ref (a 0), .int (nI k), .int (nI v), .int (nI u), .int (nI z)] (pcT E (w) sz)) (fun _ _ _ _ => False) (xT E "java/lang/IllegalStateException" (w) (va_A (w) sz)) 1 6 (va_A (w) sz) := by
  refine metT (by decide) rfl (Nat.le_of_ble_eq_true rfl) ?_
  intro p e s m args below meth c ls A hAe hA hx hb hr hml hts hown hlocks hout hP hK hD hT hl
  rw [hAe]
  have hiX1 : ∀ q ∈ wsX10, q ∈ wsX1_addLamp := by decide +kernel
  have hiX0 : ∀ q ∈ wsX00, q ∈ wsX1_addLamp := by decide +kernel
  obtain ⟨mc, h0x, h1x, h2x, h3x⟩ := cv_all hv
  obtain ⟨hO1, hO2, hO3, hO4, hO5⟩ := id hO
  refine lv_iload_n hx hb dX1_addLamp_0 rfl (lv_at hl 1 rfl) ?_
  refine lv_iconst (v := (nI 0)) hx hb dX1_addLamp_1 (by decide) ?_
  refine lv_iconst (v := (nI 5)) hx hb dX1_addLamp_2 (by decide) ?_
  refine csS_v (rest := []) (As := [.int (nI k), .int (nI 0), .int (nI 5)]) ⟨hx, hb, hml, hown, hts⟩ (c_X1_refuseOutside l E _ (nI k) (nI 0) (nI 5) (ref_nI (k := k) (lo := 0) (hi := 5) (by omega) (by omega)).1 (ref_nI (k := k) (lo := 0) (hi := 5) (by omega) (by omega)).2) (va_cwS 3 hts gX1_addLamp_X1_refuseOutside rfl rfl rfl (by decide +kernel) ⟨Nat.le_of_ble_eq_true rfl, Nat.le_of_ble_eq_true rfl⟩) hP hK rfl hl.1 rfl (Nat.le_of_ble_eq_true rfl) dX1_addLamp_3 (Nat.le_of_ble_eq_true rfl) (Nat.le_of_ble_eq_true rfl) (fun _ => ?_)
  refine lv_iload_n hx hb dX1_addLamp_6 rfl (lv_at hl 2 rfl) ?_
  refine lv_iconst (v := (nI 2)) hx hb dX1_addLamp_7 (by decide) ?_
  refine lv_bipush (v := (nI 20)) hx hb dX1_addLamp_8 (by decide) ?_
  refine csS_v (rest := []) (As := [.int (nI v), .int (nI 2), .int (nI 20)]) ⟨hx, hb, hml, hown, hts⟩ (c_X1_refuseOutside l E _ (nI v) (nI 2) (nI 20) (ref_nI (k := v) (lo := 2) (hi := 20) (by omega) (by omega)).1 (ref_nI (k := v) (lo := 2) (hi := 20) (by omega) (by omega)).2) (va_cwS 3 hts gX1_addLamp_X1_refuseOutside rfl rfl rfl (by decide +kernel) ⟨Nat.le_of_ble_eq_true rfl, Nat.le_of_ble_eq_true rfl⟩) hP hK rfl hl.1 rfl (Nat.le_of_ble_eq_true rfl) dX1_addLamp_10 (Nat.le_of_ble_eq_true rfl) (Nat.le_of_ble_eq_true rfl) (fun _ => ?_)
  refine lv_iload_n hx hb dX1_addLamp_13 rfl (lv_at hl 3 rfl) ?_
  refine lv_iconst (v := (nI 1)) hx hb dX1_addLamp_14 (by decide) ?_
  refine lv_iload_n hx hb dX1_addLamp_15 rfl (lv_at hl 2 rfl) ?_
  refine lv_iconst (v := (nI 1)) hx hb dX1_addLamp_16 (by decide) ?_
  refine nq_sub hx hb dX1_addLamp_17 (by omega) ?_
  refine csS_v (rest := []) (As := [.int (nI u), .int (nI 1), .int (nI (v - 1))]) ⟨hx, hb, hml, hown, hts⟩ (c_X1_refuseOutside l E _ (nI u) (nI 1) (nI (v - 1)) (ref_nI (k := u) (lo := 1) (hi := v - 1) (by omega) (by omega)).1 (ref_nI (k := u) (lo := 1) (hi := v - 1) (by omega) (by omega)).2) (va_cwS 3 hts gX1_addLamp_X1_refuseOutside rfl rfl rfl (by decide +kernel) ⟨Nat.le_of_ble_eq_true rfl, Nat.le_of_ble_eq_true rfl⟩) hP hK rfl hl.1 rfl (Nat.le_of_ble_eq_true rfl) dX1_addLamp_18 (Nat.le_of_ble_eq_true rfl) (Nat.le_of_ble_eq_true rfl) (fun _ => ?_)
  refine lv_iload hx hb dX1_addLamp_21 (lv_at hl 4 rfl) ?_
  refine lv_iconst (v := (nI 1)) hx hb dX1_addLamp_23 (by decide) ?_
  refine lv_bipush (v := (nI 9)) hx hb dX1_addLamp_24 (by decide) ?_
  refine csS_v (rest := []) (As := [.int (nI z), .int (nI 1), .int (nI 9)]) ⟨hx, hb, hml, hown, hts⟩ (c_X1_refuseOutside l E _ (nI z) (nI 1) (nI 9) (ref_nI (k := z) (lo := 1) (hi := 9) (by omega) (by omega)).1 (ref_nI (k := z) (lo := 1) (hi := 9) (by omega) (by omega)).2) (va_cwS 3 hts gX1_addLamp_X1_refuseOutside rfl rfl rfl (by decide +kernel) ⟨Nat.le_of_ble_eq_true rfl, Nat.le_of_ble_eq_true rfl⟩) hP hK rfl hl.1 rfl (Nat.le_of_ble_eq_true rfl) dX1_addLamp_26 (Nat.le_of_ble_eq_true rfl) (Nat.le_of_ble_eq_true rfl) (fun _ => ?_)
  refine lv_aload_n hx hb dX1_addLamp_29 rfl (lv_at hl 0 rfl) ?_
  refine va_get (D := E.1) (ci := 2) (v := .ref (a 1)) (C := RX1) (T := TX1) (N := 3) hx hb hts hiX1 hown hK hP 0 h0x rfl 0 (by decide) (hts (.fieldLink RX1 10 "PulseLoom" "row" "Ljava/util/ArrayList;") (List.mem_of_getElem? (i := 3) (by rfl))) (fun _ h9 => h9) rfl dX1_addLamp_30 ?_
  refine csV_i (rest := []) (As := []) ⟨hx, hb, hml, hown, hts⟩ (c_Jx4a65c_size_8abf5 l E _ 1 _ _ _ n h1x) (cwV 0 hts gX1_addLamp_Jx4a65c_size_8abf5 rfl rfl rfl (by decide +kernel) ⟨Nat.le_of_ble_eq_true rfl, Nat.le_of_ble_eq_true rfl⟩) (va_recv hK hP (ci := 0) (q0 := 1) rfl h1x) hP hK rfl hl.1 rfl (Nat.le_of_ble_eq_true rfl) dX1_addLamp_33 (Nat.le_of_ble_eq_true rfl) (Nat.le_of_ble_eq_true rfl) (fun r33 hr33 => ?_)
  subst hr33
  refine lv_bipush (v := (nI 8)) hx hb dX1_addLamp_36 (by decide) ?_
  refine nq_icmp_lt (tgt := 51) hx hb dX1_addLamp_38 (by decide) (by omega) (by omega) (fun h38 => ?_) (fun h38 => ?_)
  · skip
    exact absurd h38 (by omega)
  · skip
    exact thrS (X := "java/lang/IllegalStateException") (text := "there are 8 lamps") (ik := 31) (is := 33) (ic := 35) hx hb hl9 hown (by decide +kernel) (hts (.classLink RX1 31 "java/lang/IllegalStateException") (List.mem_of_getElem? (i := 1) (by rfl))) (hts (.initialized "java/lang/IllegalStateException") (List.mem_of_getElem? (i := 2) (by rfl))) hT.2.2.2.2.2.1 (vx_hat (fun w hw => hts w (List.mem_cons_of_mem _ (List.mem_append_left _ (List.mem_append_right _ hw)))) xf35 (vx_c (va_Nw.use rfl hT.2.2.2.2.2.2.2.2.1) (vx_c (va_Nw.use rfl hT.2.2.2.2.2.2.2.2.2.2.2.1) (vx_c (va_Nw.use rfl hT.2.2.2.2.2.2.2.2.2.2.2.2.1) (vx_c (va_Nw.use rfl hT.2.2.2.2.2.2.2.2.2.2.2.2.2) vx_n))))) xg35 hT hP hK hD va_S.rf (hl.1.trans hml.symm) dX1_addLamp_41 dX1_addLamp_44 dX1_addLamp_45 dX1_addLamp_47 dX1_addLamp_50 hout ⟨by decide, by decide, by decide, by decide⟩ hlocks (by decide) (by decide)

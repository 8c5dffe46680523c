/-! the other side of the law: lamps by hand, as rows of ints; rows of rows, and rows of truths -/
def rwF (F : LR) (i : Nat) : Nat → Int32 := fun k => if k = 0 then nI (F i 2) else if k = 1 then nI (F i 0) else if k = 2 then nI (F i 3) else if k = 3 then nI (F i 4) else if k = 4 then nI (F i 1) else if k = 5 then nI (F i 5) else if k = 6 then nI (F i 6) else 0
def arS (b : Nat → Nat) (n : Nat) : Nat → Option Nat := fun j => if j < n then some (b (2 + j)) else none
theorem arS_at {b : Nat → Nat} {n i : Nat} (h : i < n) : arS b n i = some (b (2 + i)) := if_pos h
theorem arS_0 (b : Nat → Nat) : (fun _ => none) = arS b 0 := by
  funext j
  unfold arS
  rw [if_neg (Nat.not_lt_zero _)]
theorem arS_s (b : Nat → Nat) (i : Nat) : va_up (arS b i) ((nI i).toNatClampNeg) (some (b (2 + i))) = arS b (i + 1) ∨ 2147483648 ≤ i := by
  rcases Nat.lt_or_ge i 2147483648 with h | h
  · refine Or.inl ?_
    rw [nI_clamp h]
    funext j
    unfold arS va_up
    by_cases hj : j = i
    · subst hj; rw [if_pos rfl, if_pos (by omega)]
    · rw [if_neg hj]
      show (if j < i then some (b (2 + j)) else none) = (if j < i + 1 then some (b (2 + j)) else none)
      by_cases h2 : j < i
      · rw [if_pos h2, if_pos (by omega)]
      · rw [if_neg h2, if_neg (by omega)]
  · exact Or.inr h
theorem arS_n (b : Nat → Nat) {n h2 : Nat} (hn : n < 2147483648) : va_up (arS b n) ((nI n).toNatClampNeg) (some h2) = arS (va_up b (2 + n) h2) (n + 1) := by
  rw [nI_clamp hn]
  funext j
  unfold arS va_up
  by_cases hj : j = n
  · subst hj; rw [if_pos rfl, if_pos (by omega), if_pos rfl]
  · rw [if_neg hj, if_neg (show ¬ 2 + j = 2 + n by omega)]
    show (if j < n then some (b (2 + j)) else none) = (if j < n + 1 then some (b (2 + j)) else none)
    by_cases h3 : j < n
    · rw [if_pos h3, if_pos (by omega)]
    · rw [if_neg h3, if_neg (by omega)]
/-- an address book: 0 the object, 1 its row of rows, 2 + i the row of lamp i -/
def wSg (E : GE) (b : Nat → Nat) (n now lim : Nat) (R : Nat → Nat → Int32) : va_W :=
  (b 0, .inr (3, [.ref (b 1), .int (nI lim), .int (nI now)])) :: (b 1, .inl (E.2.2.2.2, n, .inr (.inr (.inr (.inr (arS b n)))))) :: (List.range n).map (fun i => (b (2 + i), .inl (E.2.1, 7, .inl (R i))))
abbrev wS (E : GE) (b : Nat → Nat) (n now lim : Nat) (F : LR) : va_W := wSg E b n now lim (rwF F)
theorem wS_0 {E : GE} {b : Nat → Nat} {n now lim : Nat} {R : Nat → Nat → Int32} : (wSg E b n now lim R)[0]? = some (b 0, .inr (3, [.ref (b 1), .int (nI lim), .int (nI now)])) := rfl
theorem wS_1 {E : GE} {b : Nat → Nat} {n now lim : Nat} {R : Nat → Nat → Int32} : (wSg E b n now lim R)[1]? = some (b 1, .inl (E.2.2.2.2, n, .inr (.inr (.inr (.inr (arS b n)))))) := rfl
theorem wS_r {E : GE} {b : Nat → Nat} {n now lim : Nat} {R : Nat → Nat → Int32} {i : Nat} (h : i < n) : (wSg E b n now lim R)[2 + i]? = some (b (2 + i), .inl (E.2.1, 7, .inl (R i))) := by
  unfold wSg
  rw [show 2 + i = (i + 1) + 1 by omega, List.getElem?_cons_succ, List.getElem?_cons_succ, List.getElem?_map, List.getElem?_range h]
  show some (b (2 + i), _) = _
  rw [Nat.add_comm 2 i]
theorem wS_len {E : GE} {b : Nat → Nat} {n now lim : Nat} {R : Nat → Nat → Int32} : (wSg E b n now lim R).length = 2 + n := by
  unfold wSg
  simp only [List.length_cons, List.length_map, List.length_range]
  omega
theorem wS_e {E : GE} {b : Nat → Nat} {n now lim : Nat} {R : Nat → Nat → Int32} {y : Nat × va_E} {wr : va_W} : (wSg E b n now lim R ++ (y :: wr))[2 + n]? = some y := by
  rw [List.getElem?_append_right (by rw [wS_len]; exact Nat.le_refl _), wS_len, Nat.sub_self]
  rfl
theorem wS_es {E : GE} {b : Nat → Nat} {n now lim : Nat} {R : Nat → Nat → Int32} {y z : Nat × va_E} {wr : va_W} : (wSg E b n now lim R ++ (y :: wr)).set (2 + n) z = wSg E b n now lim R ++ (z :: wr) := by
  rw [List.set_append_right _ _ (by rw [wS_len]; exact Nat.le_refl _), wS_len, Nat.sub_self]
  rfl
theorem wSg_set {E : GE} {b : Nat → Nat} {n now lim : Nat} {R : Nat → Nat → Int32} {i : Nat} (h : i < n) (f : Nat → Int32) : (wSg E b n now lim R).set (2 + i) (b (2 + i), .inl (E.2.1, 7, .inl f)) = wSg E b n now lim (va_up R i f) := by
  unfold wSg
  rw [show 2 + i = (i + 1) + 1 by omega, List.set_cons_succ, List.set_cons_succ]
  congr 2
  apply List.ext_getElem?
  intro k
  rw [List.getElem?_set, List.getElem?_map, List.getElem?_map, List.length_map, List.length_range]
  by_cases hk : i = k
  · subst hk
    rw [if_pos rfl, if_pos h, List.getElem?_range h]
    simp [va_up, Nat.add_comm 2 i]
  · rw [if_neg hk]
    cases hr : (List.range n)[k]? with
    | none => rfl
    | some z =>
      have hz : z = k := by
        obtain ⟨h1, h2⟩ := List.getElem?_eq_some_iff.mp hr
        rw [List.getElem_range] at h2
        exact h2.symm
      subst hz
      simp [va_up]
      exact fun q => absurd q.symm hk
theorem rw_up {F : LR} {i q v : Nat} : va_up (rwF F) i (rwF (up2 F i q v) i) = rwF (up2 F i q v) := by
  funext j
  by_cases h : j = i
  · subst h; simp [va_up]
  · funext k
    simp [va_up, rwF, up2, h]
theorem wSa_set {E : GE} {b : Nat → Nat} {n now lim : Nat} {F : LR} {i q v : Nat} {wr : va_W} {f : Nat → Int32} (h : i < n) (hf : f = rwF (up2 F i q v) i) : (wS E b n now lim F ++ wr).set (2 + i) (b (2 + i), .inl (E.2.1, 7, .inl f)) = wS E b n now lim (up2 F i q v) ++ wr := by
  rw [List.set_append_left _ _ (by rw [wS_len]; omega), wSg_set h, hf, rw_up]
theorem wSb_set {E : GE} {b : Nat → Nat} {n now lim : Nat} {F : LR} {i q v : Nat} {f : Nat → Int32} (h : i < n) (hf : f = rwF (up2 F i q v) i) : (wS E b n now lim F).set (2 + i) (b (2 + i), .inl (E.2.1, 7, .inl f)) = wS E b n now lim (up2 F i q v) := by
  rw [wSg_set h, hf, rw_up]
theorem wSc_set {E : GE} {b : Nat → Nat} {n now lim : Nat} {F : LR} {i q v : Nat} {wx wr : va_W} {f : Nat → Int32} (h : i < n) (hf : f = rwF (up2 F i q v) i) : (wx ++ (wS E b n now lim F ++ wr)).set (wx.length + (2 + i)) (b (2 + i), .inl (E.2.1, 7, .inl f)) = wx ++ (wS E b n now lim (up2 F i q v) ++ wr) := by
  rw [List.set_append_right _ _ (Nat.le_add_right _ _), Nat.add_sub_cancel_left, wSa_set h hf]
theorem wSd_set {E : GE} {b : Nat → Nat} {n now lim : Nat} {F : LR} {i q v : Nat} {wx : va_W} {f : Nat → Int32} (h : i < n) (hf : f = rwF (up2 F i q v) i) : (wx ++ wS E b n now lim F).set (wx.length + (2 + i)) (b (2 + i), .inl (E.2.1, 7, .inl f)) = wx ++ wS E b n now lim (up2 F i q v) := by
  rw [List.set_append_right _ _ (Nat.le_add_right _ _), Nat.add_sub_cancel_left, wSb_set h hf]
theorem rwF_c {F : LR} {i v : Nat} : upd (rwF F i) ((nI 0).toNatClampNeg) (nI v) = rwF (up2 F i 2 v) i := by
  rw [nI_clamp (by omega)]
  funext k
  by_cases h : k = 0
  · subst h; simp [upd, rwF, up2]
  · simp [upd, rwF, up2, h]
theorem rwF_s {F : LR} {i v : Nat} : upd (rwF F i) ((nI 2).toNatClampNeg) (nI v) = rwF (up2 F i 3 v) i := by
  rw [nI_clamp (by omega)]
  funext k
  by_cases h : k = 2
  · subst h; simp [upd, rwF, up2]
  · simp [upd, rwF, up2, h]
theorem rwF_l {F : LR} {i v : Nat} : upd (rwF F i) ((nI 3).toNatClampNeg) (nI v) = rwF (up2 F i 4 v) i := by
  rw [nI_clamp (by omega)]
  funext k
  by_cases h : k = 3
  · subst h; simp [upd, rwF, up2]
  · simp [upd, rwF, up2, h]
theorem rwF_5 {F : LR} {i v : Nat} : upd (rwF F i) ((nI 5).toNatClampNeg) (nI v) = rwF (up2 F i 5 v) i := by
  rw [nI_clamp (by omega)]
  funext k
  by_cases h : k = 5
  · subst h; simp [upd, rwF, up2]
  · simp [upd, rwF, up2, h]
theorem rwF_6 {F : LR} {i v : Nat} : upd (rwF F i) ((nI 6).toNatClampNeg) (nI v) = rwF (up2 F i 6 v) i := by
  rw [nI_clamp (by omega)]
  funext k
  by_cases h : k = 6
  · subst h; simp [upd, rwF, up2]
  · simp [upd, rwF, up2, h]
/-- a world that holds it, from the place p0 on -/
def SV (E : GE) (b : Nat → Nat) (n now lim : Nat) (F : LR) (p0 : Nat) (w : va_W) : Prop := w[p0]? = some (b 0, .inr (3, [.ref (b 1), .int (nI lim), .int (nI now)])) ∧ w[p0 + 1]? = some (b 1, .inl (E.2.2.2.2, n, .inr (.inr (.inr (.inr (arS b n)))))) ∧ ∀ i, i < n → w[p0 + (2 + i)]? = some (b (2 + i), .inl (E.2.1, 7, .inl (rwF F i)))
theorem SV_self {E : GE} {b : Nat → Nat} {n now lim : Nat} {F : LR} : SV E b n now lim F 0 (wS E b n now lim F) := ⟨wS_0, wS_1, fun i h => by rw [Nat.zero_add]; exact wS_r h⟩
theorem SV_app {E : GE} {b : Nat → Nat} {n now lim : Nat} {F : LR} {wr : va_W} : SV E b n now lim F 0 (wS E b n now lim F ++ wr) := ⟨list_app wS_0, list_app wS_1, fun i h => by rw [Nat.zero_add]; exact list_app (wS_r h)⟩
theorem list_rig {α : Type} {x l : List α} {i : Nat} {v : α} (h : l[i]? = some v) : (x ++ l)[x.length + i]? = some v := by
  rw [List.getElem?_append_right (Nat.le_add_right _ _), Nat.add_sub_cancel_left]
  exact h
theorem SV_mid {E : GE} {b : Nat → Nat} {n now lim : Nat} {F : LR} {wx wr : va_W} : SV E b n now lim F wx.length (wx ++ (wS E b n now lim F ++ wr)) := ⟨list_rig (i := 0) (list_app wS_0), list_rig (list_app wS_1), fun i h => list_rig (list_app (wS_r h))⟩
theorem SV_end {E : GE} {b : Nat → Nat} {n now lim : Nat} {F : LR} {wx : va_W} : SV E b n now lim F wx.length (wx ++ wS E b n now lim F) := ⟨list_rig (i := 0) wS_0, list_rig wS_1, fun i h => list_rig (wS_r h)⟩
/-- who shines, as a row of truths, filled up to k -/
def liF (F : LR) (lim b k : Nat) : Nat → Int32 := fun j => if j < k then bI (litS F lim b j) else 0
theorem liF_0 (F : LR) (lim b : Nat) : (fun _ => 0) = liF F lim b 0 := by
  funext j
  unfold liF
  rw [if_neg (Nat.not_lt_zero _)]
theorem bI_nr (c : Bool) : vp_nar .boolean (bI c) = bI c := by cases c <;> rfl
theorem liF_s {F : LR} {lim b i : Nat} (h : i < 2147483648) : upd (liF F lim b i) ((nI i).toNatClampNeg) (vp_nar .boolean (bI (litS F lim b i))) = liF F lim b (i + 1) := by
  rw [nI_clamp h, bI_nr]
  funext j
  unfold upd liF
  by_cases hj : j = i
  · subst hj; rw [if_pos rfl, if_pos (by omega)]
  · rw [if_neg hj]
    by_cases h2 : j < i
    · rw [if_pos h2, if_pos (by omega)]
    · rw [if_neg h2, if_neg (by omega)]
theorem liF_at {F : LR} {lim b i k : Nat} (h : i < k) (h2 : i < 2147483648) : liF F lim b k ((nI i).toNatClampNeg) = bI (litS F lim b i) := by
  rw [nI_clamp h2]
  exact if_pos h
/-- the tables know rows of rows of ints -/
theorem AI.use {U : State} (h : AI U) : ∃ c k comp, U.vm.findClass (FieldType.array .int).toString = some comp ∧ U.vm.classes[c]? = some k ∧ k.kind = .array comp (.array .int) ∧ U.vm.findClass ("[" ++ (FieldType.array .int).toString) = some c := by
  obtain ⟨comp, c, k, h1, -, h3, h4, h5⟩ := arrayOverA_spec (show (Cond.arrayOver (.array .int)).holds #[] U none U [] = true from h)
  exact ⟨c, k, comp, h1, h3, h4, h5⟩
theorem asg_self (vm : Vm) (k : ClassId) : vm.assignable k k = true := by
  unfold Vm.assignable Vm.assignableAux
  rw [beq_self_eq_true, Bool.true_or]
section NZ
variable {p : Program} {l : Launch} {e : Env} {R : Room} {s : State} {m : MethodId} {args : Array Value} {below : List Frame} {meth : Method} {c : Code} {H : Heap} {locs : List Loc} {cells slots : Nat} {Q : State → Prop}
variable {cc bytes : ByteArray} {pc maxL nL n index mc ms z0 : Nat} {ret : Option FieldType} {ls : Array Slot} {rest st As : List Value} {E : GE} {w wx wy : va_W} {y : MethodName} {ws : List Cond} {rm : Room} {Ts : List Cond} {own C : String} {b : Addr} {A0 : Nat → Prop} {W1 : Nat → va_W}
theorem nz_aald (hx : p.tables.exec = Jvm.exec) (hb : c.code = cc) (hK : va_K E.1 vwCl (tyE E) s) (hP : va_P E.1 vwCl w H) (q0 : Nat) {z9 k9 : Nat} {f : Nat → Option Nat} (ha : w[q0]? = some (z9, .inl (E.2.2.2.2, k9, .inr (.inr (.inr (.inr f)))))) {i : Int32} (hin : vp_in i k9) (hdg : decode cc pc = .ok (.aaload, 1))
    (kk : W p l e R s m args below meth c H locs cells slots Q (F0 m (pc + 1) ls (va_rf (f i.toNatClampNeg) :: rest))) : W p l e R s m args below meth c H locs cells slots Q (F0 m pc ls (.int i :: .ref z9 :: rest)) := by
  have hlt : i.toNatClampNeg < k9 := Nat.not_le.mp fun q => hin (Or.inr q)
  exact W.aald (v := va_rf (f i.toNatClampNeg)) (ty := .array .int) hx hb (hP q0 _ ha) ((hK.2 3 _ rfl).1 k9 (fun j => va_rf (f j))) rfl (fun q => by cases q) (by show ¬ (i < 0 ∨ (arrV _ _ _).slots.size ≤ _); rw [arrV_size]; exact hin) (by show (arrV _ _ _).slots[_]? = _; rw [arrV_read _ _ hlt]) rfl rfl hdg kk
theorem nz_aast (hx : p.tables.exec = Jvm.exec) (hb : c.code = cc) (hAI : AI s) (hK : va_K E.1 vwCl (tyE E) s) (hP : va_P E.1 vwCl w H) (hD : va_D A0 w) (hS : va_S A0 s.heap H locs) (q0 qk : Nat) {z9 v9 k9 n9 : Nat} {g : Nat → Int32} {f : Nat → Option Nat} (ha : w[q0]? = some (z9, .inl (E.2.2.2.2, k9, .inr (.inr (.inr (.inr f)))))) (hv : w[qk]? = some (v9, .inl (E.2.1, n9, .inl g))) {i : Int32} (hin : vp_in i k9) (hdg : decode cc pc = .ok (.aastore, 1))
    (kk : ∀ (H1 : Heap) (locs1 : List Loc), va_P E.1 vwCl (w.set q0 (z9, .inl (E.2.2.2.2, k9, .inr (.inr (.inr (.inr (va_up f i.toNatClampNeg (some v9)))))))) H1 → va_D A0 (w.set q0 (z9, .inl (E.2.2.2.2, k9, .inr (.inr (.inr (.inr (va_up f i.toNatClampNeg (some v9)))))))) → va_S A0 s.heap H1 locs1 → W p l e R s m args below meth c H1 locs1 cells slots Q (F0 m (pc + 1) ls rest)) : W p l e R s m args below meth c H locs cells slots Q (F0 m pc ls (.ref v9 :: .int i :: .ref z9 :: rest)) := by
  have hlt : i.toNatClampNeg < k9 := Nat.not_le.mp fun q => hin (Or.inr q)
  have h0 : ¬ i < 0 := fun q => hin (Or.inl q)
  obtain ⟨cI, kI, comp, f1, f2, f3, f4⟩ := hAI.use
  have r3 : va_RA s E.2.2.2.2 (.array .int) := (hK.2 3 _ rfl).2
  have r0 : va_RA s E.2.1 .int := (hK.2 0 _ rfl).2
  have e1 : cI = E.2.2.2.2 := Option.some.inj (f4.symm.trans r3)
  have e2 : comp = E.2.1 := Option.some.inj (f1.symm.trans r0)
  subst e1
  subst e2
  obtain ⟨kC, hkC, -⟩ := Vm.findClass_spec f1
  have g1 : H[v9]? = some (arrV E.2.1 n9 (fun j => .int (g j))) := hP qk _ hv
  refine W.aast (kv := kC) hx hb (hP q0 _ ha) (fun q h => by cases h) (fun h => by cases h) f2 f3 rfl hkC ⟨h0, by show _ < (arrV _ _ _).slots.size; rw [arrV_size]; exact hlt⟩ g1 (fun q h => by cases h) hkC (asg_self s.vm E.2.1) rfl rfl hdg fun H1 e z oq => ?_
  refine kk H1 _ (hP.set hD ha ?_ oq) (hD.set ha) (hS.put z oq (hD.2 q0 _ ha))
  show H1[z9]? = some (vp_cell _ _)
  rw [e]
  rw [vp_cell_q, vp_cell_q, arrV_store]
  congr 2
  funext q
  by_cases hq : q = i.toNatClampNeg
  · subst hq
    simp [updV, va_up, va_rf]
  · simp [updV, va_up, hq]
/-- a new row of rows, behind the world -/
theorem nz_anew (hx : p.tables.exec = Jvm.exec) (hb : c.code = cc) (hown : s.vm.findClass own = some m.cls) (hcl : (Cond.classLink own index "[I").before args s = true) (hAI : AI s) (hK : va_K E.1 vwCl (tyE E) s) (hP : va_P E.1 vwCl w H) (hD : va_D A0 w) (hS : va_S A0 s.heap H locs) (hA : ∀ q, s.heap.size ≤ q → A0 q)
    {N : Nat} (hN : N ≤ 1000) (hc : cells + 1 ≤ R.cells) (hs : slots + N ≤ R.slots) (hdg : decode cc pc = .ok (.anewarray index, 3))
    (kk : ∀ (q : Nat) (H1 : Heap), va_P E.1 vwCl (w ++ [(q, .inl (E.2.2.2.2, N, .inr (.inr (.inr (.inr (fun _ => none))))))]) H1 → va_D A0 (w ++ [(q, .inl (E.2.2.2.2, N, .inr (.inr (.inr (.inr (fun _ => none))))))]) → va_S A0 s.heap H1 locs → W p l e R s m args below meth c H1 locs (cells + 1) (slots + N) Q (F0 m (pc + 3) ls (.ref q :: rest))) : W p l e R s m args below meth c H locs cells slots Q (F0 m pc ls (.int (nI N) :: rest)) := by
  have hN2 : (nI N).toNatClampNeg = N := nI_clamp (by omega)
  refine W.anewA (t := .int) hx hb hown hcl (AI.any hAI) rfl hdg rfl (by rw [Int32.lt_iff_toInt_lt, nI_toInt (by omega)]; show ¬ ((N : Int) < 0); omega) (by rw [hN2]; omega) hc (by rw [hN2]; exact hs) fun cA kA comp f1 f2 f3 f4 => ?_
  rw [hN2]
  have r3 : va_RA s E.2.2.2.2 (.array .int) := (hK.2 3 _ rfl).2
  have e1 : cA = E.2.2.2.2 := Option.some.inj (f1.symm.trans r3)
  subst e1
  generalize hH1 : H.push ({ cls := E.2.2.2.2, slots := Array.replicate N .null, vm := .none } : Cell) = H1
  have z1 : H1.size = H.size + 1 := by rw [← hH1, Array.size_push]
  have e1 : H1[H.size]? = some (arrV E.2.2.2.2 N (fun _ => .null)) := by rw [← hH1, Array.getElem?_push_size, ← arrV_new]
  have o1 : ∀ q : Nat, q < H.size → H1[q]? = H[q]? := fun q hq => by rw [← hH1, Array.getElem?_push, if_neg (Nat.ne_of_lt hq)]
  have hk : ∀ (k : Nat) (x : Nat × va_E), w[k]? = some x → H1[x.1]? = H[x.1]? := fun k x hx => o1 x.1 ((hP k x hx).lt)
  refine kk H.size H1 ((hP.kept hk).app (fun k x hx => ?_)) (hD.push hP rfl (hA _ hS.1)) ⟨Nat.le_trans hS.1 (by omega), fun x h1 h2 => (o1 x (Nat.lt_of_lt_of_le h1 hS.1)).trans (hS.2.1 x h1 h2), hS.2.2⟩
  have hz : k < 1 := (List.getElem?_eq_some_iff.mp hx).1
  rw [show k = 0 by omega] at hx
  cases hx
  show H1[H.size]? = some (vp_cell _ _)
  rw [vp_cell_q]
  exact e1
/-- a new row of truths -/
theorem nz_newz {atype : ArrayType} (hx : p.tables.exec = Jvm.exec) (hb : c.code = cc) (harr : (Cond.arrayClass (newarray.typeOf atype)).before args s = true) (hty : newarray.typeOf atype = .boolean) (hK : va_K E.1 vwCl (tyE E) s) (hP : va_P E.1 vwCl w H) (hD : va_D A0 w) (hS : va_S A0 s.heap H locs) (hA : ∀ q, s.heap.size ≤ q → A0 q)
    {N : Nat} (hN : N ≤ 1000) (hc : cells + 1 ≤ R.cells) (hs : slots + N ≤ R.slots) (hdg : decode cc pc = .ok (.newarray atype, 2))
    (kk : ∀ (q : Nat) (H1 : Heap), va_P E.1 vwCl (w ++ [(q, .inl (E.2.2.2.1, N, .inl (fun _ => 0)))]) H1 → va_D A0 (w ++ [(q, .inl (E.2.2.2.1, N, .inl (fun _ => 0)))]) → va_S A0 s.heap H1 locs → W p l e R s m args below meth c H1 locs (cells + 1) (slots + N) Q (F0 m (pc + 2) ls (.ref q :: rest))) : W p l e R s m args below meth c H locs cells slots Q (F0 m pc ls (.int (nI N) :: rest)) := by
  refine va_newa (ty := .boolean) (a0 := (N, .inl (fun _ => 0))) hx hb harr hty hK hP hD hS hA (fun cA => by rw [vp_cell_i]; rfl) (by rw [Int32.lt_iff_toInt_lt, nI_toInt (by omega)]; show ¬ ((N : Int) < 0); omega) (nI_clamp (by omega)) (by show N * 1 ≤ 536870912; omega) hc hs hdg (fun q cA H1 hK1 hP1 hD1 hS1 => ?_)
  have e : cA = E.2.2.2.1 := by
    have h1 : va_RA s cA .boolean := (hK1.2 (tyE E).length (cA, .boolean) (by simp)).2
    have h2 : va_RA s E.2.2.2.1 .boolean := (hK.2 2 _ rfl).2
    exact Option.some.inj (h1.symm.trans h2)
  subst e
  exact kk q H1 hP1 hD1 hS1
theorem cmX_r (F : CallFix p m c cc nL s args Ts own) (hM : Met l y ws rm (va_Pc (.ref b :: As) (pcM E w H.size)) (va_Qr (S := Unit) (fun _ => True) (fun _ aQ tQ => atM E (va_A w H.size) (W1 aQ) tQ) (va_A w H.size)) mc ms (va_A w H.size)) (cw : CallW R s args own C index y bytes maxL ret ws rm mc ms n) (hr : ∃ cell : Cell, H[b]? = some cell ∧ cell.vm.isStatics = false ∧ s.vm.findClass C = some cell.cls) (hP : va_P E.1 vwCl (wx ++ (w ++ wy)) H) (hK : va_K E.1 vwCl (tyE E) s) (hD : va_D A0 (wx ++ (w ++ wy))) (hS : va_S A0 s.heap H locs) (hA : ∀ q, s.heap.size ≤ q → A0 q)
    (hn : As.length = n) (hz : ls.size = nL) (hst : st = As.reverse ++ .ref b :: rest) (hW : (rest.map fun v => v.category).sum ≤ 8) (hdg : decode cc pc = .ok (.invokevirtual index, 3)) (hf : cells + mc ≤ R.cells ∧ slots + ms ≤ R.slots)
    (kk : ∀ (ra : Nat) (H1 : Heap) (locs1 : List Loc), va_P E.1 vwCl (wx ++ (W1 ra ++ wy)) H1 → va_D A0 (wx ++ (W1 ra ++ wy)) → va_S A0 s.heap H1 locs1 → W p l e R s m args below meth c H1 locs1 (cells + mc) (slots + ms) Q (F0 m (pc + 3) ls (.ref ra :: rest))) : W p l e R s m args below meth c H locs cells slots Q (F0 m pc ls st) :=
  va_callr (va_runV (As := As) (rest := rest) F hM cw ⟨fb_M, hr, fun U hU hW => ⟨rfl, by rw [hU], by rw [hU]; exact va_Pm hP, va_K.moved hW.alike hK, (va_Dm hD).weaken (fun _ _ _ _ => trivial)⟩⟩ rfl hn hz hst (lv_room hW) hdg hf) hS (fun q _ h => va_freeW (va_Dm hD) hS hA q h) (va_freeW (va_Dm hD) hS hA)
    (fun _ ra t H1 locs1 ht hvm _ hB _ hk hS1 => by
      obtain ⟨b1, b2, b3⟩ := hB
      rw [ht] at b1
      obtain ⟨h1, h3⟩ := va_split hP hD hk (va_freeW (va_Dm hD) hS hA) b1 b3
      exact kk ra H1 locs1 h1 h3 hS1)
theorem cmV_r (F : CallFix p m c cc nL s args Ts own) (hM : Met l y ws rm (va_Pc (.ref b :: As) (pcM E w H.size)) (va_Qr (S := Unit) (fun _ => True) (fun _ aQ tQ => atM E (va_A w H.size) (W1 aQ) tQ) (va_A w H.size)) mc ms (va_A w H.size)) (cw : CallW R s args own C index y bytes maxL ret ws rm mc ms n) (hr : ∃ cell : Cell, H[b]? = some cell ∧ cell.vm.isStatics = false ∧ s.vm.findClass C = some cell.cls) (hP : va_P E.1 vwCl w H) (hK : va_K E.1 vwCl (tyE E) s) (hD : va_D A0 w) (hS : va_S A0 s.heap H locs) (hA : ∀ q, s.heap.size ≤ q → A0 q)
    (hn : As.length = n) (hz : ls.size = nL) (hst : st = As.reverse ++ .ref b :: rest) (hW : (rest.map fun v => v.category).sum ≤ 8) (hdg : decode cc pc = .ok (.invokevirtual index, 3)) (hf : cells + mc ≤ R.cells ∧ slots + ms ≤ R.slots)
    (kk : ∀ (ra : Nat) (H1 : Heap) (locs1 : List Loc), va_P E.1 vwCl (W1 ra) H1 → va_D A0 (W1 ra) → va_S A0 s.heap H1 locs1 → W p l e R s m args below meth c H1 locs1 (cells + mc) (slots + ms) Q (F0 m (pc + 3) ls (.ref ra :: rest))) : W p l e R s m args below meth c H locs cells slots Q (F0 m pc ls st) :=
  va_callr (va_runV (As := As) (rest := rest) F hM cw ⟨fb_M, hr, fun U hU hW => ⟨rfl, by rw [hU], by rw [hU]; exact hP, va_K.moved hW.alike hK, hD.weaken (fun _ _ _ _ => trivial)⟩⟩ rfl hn hz hst (lv_room hW) hdg hf) hS (fun q _ h => va_freeW hD hS hA q h) (va_freeW hD hS hA)
    (fun _ ra t H1 locs1 ht hvm _ hB _ _ hS1 => by
      obtain ⟨h1, -, h3⟩ := atM_in (va_freeW hD hS hA) ht hvm hB
      exact kk ra H1 locs1 h1 h3 hS1)
/-- a static call that needs the tables' word of rows of rows -/
theorem cmSZ_r (F : CallFix p m c cc nL s args Ts own) (hM : Met l y ws rm (va_Pc As (pcZ E w H.size z0)) (va_Qr (S := Unit) (fun _ => True) (fun _ aQ tQ => atM E (va_A w H.size) (W1 aQ) tQ) (va_A w H.size)) mc ms (va_A w H.size)) (cw : CallB R s args own index y bytes maxL ret ws rm mc ms n ∧ (Cond.static y).before args s = true) (hP : va_P E.1 vwCl (wx ++ (w ++ wy)) H) (hK : va_K E.1 vwCl (tyE E) s) (hD : va_D A0 (wx ++ (w ++ wy))) (hZ : ZE z0 A0 s s.heap) (hS : va_S A0 s.heap H locs) (hA : ∀ q, s.heap.size ≤ q → A0 q)
    (hn : As.length = n) (hz : ls.size = nL) (hst : st = As.reverse ++ rest) (hW : (rest.map fun v => v.category).sum ≤ 8) (hdg : decode cc pc = .ok (.invokestatic index, 3)) (hf : cells + mc ≤ R.cells ∧ slots + ms ≤ R.slots)
    (kk : ∀ (ra : Nat) (H1 : Heap) (locs1 : List Loc), va_P E.1 vwCl (wx ++ (W1 ra ++ wy)) H1 → va_D A0 (wx ++ (W1 ra ++ wy)) → va_S A0 s.heap H1 locs1 → W p l e R s m args below meth c H1 locs1 (cells + mc) (slots + ms) Q (F0 m (pc + 3) ls (.ref ra :: rest))) : W p l e R s m args below meth c H locs cells slots Q (F0 m pc ls st) :=
  va_callr (va_runS (As := As) (rest := rest) F hM cw ⟨fb_Z, fun U hU hW => ⟨rfl, ⟨by rw [hU], by rw [hU]; exact va_Pm hP, va_K.moved hW.alike hK, (va_Dm hD).weaken (fun _ _ _ _ => trivial)⟩, ze_in hZ hS (va_freeW (va_Dm hD) hS hA) hU hW.alike⟩⟩ rfl hn hz hst (lv_room hW) hdg hf) hS (fun q _ h => va_freeW (va_Dm hD) hS hA q h) (va_freeW (va_Dm hD) hS hA)
    (fun _ ra t H1 locs1 ht hvm _ hB _ hk hS1 => by
      obtain ⟨b1, b2, b3⟩ := hB
      rw [ht] at b1
      obtain ⟨h1, h3⟩ := va_split hP hD hk (va_freeW (va_Dm hD) hS hA) b1 b3
      exact kk ra H1 locs1 h1 h3 hS1)
end NZ
/-- dropping, and putting the last in the second place -/
theorem va_Dmap {A0 : Nat → Prop} {w w' : va_W} (f : Nat → Nat) (hD : va_D A0 w) (hf : ∀ k q, w'[k]? = some q → w[f k]? = some q) (hi : ∀ i j, i < w'.length → j < w'.length → f i = f j → i = j) : va_D A0 w' :=
  ⟨fun i j p q hp hq e => hi i j (List.getElem?_eq_some_iff.mp hp).1 (List.getElem?_eq_some_iff.mp hq).1 (hD.1 _ _ p q (hf i p hp) (hf j q hq) e), fun k q hk => hD.2 _ q (hf k q hk)⟩
def swF (wx : va_W) (r : va_W) (k : Nat) : Nat := if k = wx.length + 1 then wx.length + (2 + r.length) else k
theorem sw_at {wx r : va_W} {x0 x1 y : Nat × va_E} : ∀ k q, (wx ++ (x0 :: y :: r))[k]? = some q → (wx ++ (x0 :: x1 :: (r ++ [y])))[swF wx r k]? = some q := by
  intro k q h
  unfold swF
  by_cases h1 : k = wx.length + 1
  · subst h1
    rw [if_pos rfl]
    have e1 : (wx ++ (x0 :: y :: r))[wx.length + 1]? = some y := list_rig (i := 1) rfl
    have e2 : (wx ++ (x0 :: x1 :: (r ++ [y])))[wx.length + (2 + r.length)]? = some y := by
      refine list_rig ?_
      rw [show 2 + r.length = (r.length + 1) + 1 by omega, List.getElem?_cons_succ, List.getElem?_cons_succ, List.getElem?_append_right (Nat.le_refl _), Nat.sub_self]
      rfl
    rw [e2, ← h, e1]
  · rw [if_neg h1]
    rcases Nat.lt_or_ge k wx.length with h2 | h2
    · rw [List.getElem?_append_left h2] at h ⊢
      exact h
    · rw [List.getElem?_append_right h2] at h ⊢
      rcases hk : k - wx.length with _ | z
      · rw [hk] at h; exact h
      · rw [hk, List.getElem?_cons_succ] at h
        rw [List.getElem?_cons_succ]
        rcases z with _ | z
        · exact absurd hk (by omega)
        · rw [List.getElem?_cons_succ] at h ⊢
          exact list_app h
theorem va_Psw {D : va_G} {cl : List vw_C} {wx r : va_W} {x0 x1 y : Nat × va_E} {H : Heap} (h : va_P D cl (wx ++ (x0 :: x1 :: (r ++ [y]))) H) : va_P D cl (wx ++ (x0 :: y :: r)) H := fun k q hq => h _ q (sw_at k q hq)
theorem va_Dsw {A0 : Nat → Prop} {wx r : va_W} {x0 x1 y : Nat × va_E} (h : va_D A0 (wx ++ (x0 :: x1 :: (r ++ [y])))) : va_D A0 (wx ++ (x0 :: y :: r)) := va_Dmap (swF wx r) h sw_at (fun i j hi hj e => by
  rw [List.length_append, List.length_cons, List.length_cons] at hi hj
  unfold swF at e
  split at e <;> split at e <;> omega)
theorem wS_f {E : GE} {b : Nat → Nat} {n now lim : Nat} {R : Nat → Nat → Int32} {y z : Nat × va_E} : ((wSg E b n now lim R ++ [y]) ++ [z])[3 + n]? = some z := by
  rw [List.getElem?_append_right (by rw [List.length_append, wS_len]; show 2 + n + 1 ≤ 3 + n; omega), List.length_append, wS_len, show 3 + n - (2 + n + [y].length) = 0 by show 3 + n - (2 + n + 1) = 0; omega]
  rfl
theorem wS_fs {E : GE} {b : Nat → Nat} {n now lim : Nat} {R : Nat → Nat → Int32} {y z z' : Nat × va_E} : ((wSg E b n now lim R ++ [y]) ++ [z]).set (3 + n) z' = (wSg E b n now lim R ++ [y]) ++ [z'] := by
  rw [List.set_append_right _ _ (by rw [List.length_append, wS_len]; show 2 + n + 1 ≤ 3 + n; omega), List.length_append, wS_len, show 3 + n - (2 + n + [y].length) = 0 by show 3 + n - (2 + n + 1) = 0; omega]
  rfl

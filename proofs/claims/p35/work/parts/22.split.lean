/-! calls whose callee has a part of the world; new rows of ints -/
theorem va_split {A0 : Nat → Prop} {D : va_G} {cl : List vw_C} {wx wc wy w1 : va_W} {H H1 : Heap} (hP : va_P D cl (wx ++ (wc ++ wy)) H) (hD : va_D A0 (wx ++ (wc ++ wy)))
    (hk : ∀ q : Nat, q < H.size → ¬ va_A wc H.size q → H1[q]? = H[q]?) (hF : ∀ q, va_A wc H.size q → A0 q) (hP1 : va_P D cl w1 H1) (hD1 : va_D (va_A wc H.size) w1) : va_P D cl (wx ++ (w1 ++ wy)) H1 ∧ va_D A0 (wx ++ (w1 ++ wy)) := by
  have ex : ∀ (k : Nat) (q : Nat × va_E), wx[k]? = some q → (wx ++ (wc ++ wy))[k]? = some q ∧ k < wx.length := by
    intro k q h
    have hl := (List.getElem?_eq_some_iff.mp h).1
    exact ⟨by rw [List.getElem?_append_left hl]; exact h, hl⟩
  have ec : ∀ (k : Nat) (q : Nat × va_E), wc[k]? = some q → (wx ++ (wc ++ wy))[wx.length + k]? = some q ∧ k < wc.length := by
    intro k q h
    have hl := (List.getElem?_eq_some_iff.mp h).1
    exact ⟨by rw [List.getElem?_append_right (Nat.le_add_right _ _), Nat.add_sub_cancel_left, List.getElem?_append_left hl]; exact h, hl⟩
  have ey : ∀ (k : Nat) (q : Nat × va_E), wy[k]? = some q → (wx ++ (wc ++ wy))[wx.length + (wc.length + k)]? = some q := by
    intro k q h
    rw [List.getElem?_append_right (Nat.le_add_right _ _), Nat.add_sub_cancel_left, List.getElem?_append_right (Nat.le_add_right _ _), Nat.add_sub_cancel_left]
    exact h
  have apart : ∀ (i : Nat) (q : Nat × va_E), (wx ++ (wc ++ wy))[i]? = some q → (i < wx.length ∨ wx.length + wc.length ≤ i) → q.1 < H.size ∧ ¬ va_A wc H.size q.1 := by
    intro i q hq hi
    have hl := (hP i q hq).lt
    refine ⟨hl, fun h => ?_⟩
    rcases h with ⟨k2, e, h⟩ | h
    · obtain ⟨h3, h4⟩ := ec k2 (q.1, e) h
      have hij := hD.1 i _ q (q.1, e) hq h3 rfl
      omega
    · omega
  have ax : ∀ (k : Nat) (q : Nat × va_E), wx[k]? = some q → q.1 < H.size ∧ ¬ va_A wc H.size q.1 := fun k q h => apart k q (ex k q h).1 (Or.inl (ex k q h).2)
  have ay : ∀ (k : Nat) (q : Nat × va_E), wy[k]? = some q → q.1 < H.size ∧ ¬ va_A wc H.size q.1 := fun k q h => apart _ q (ey k q h) (Or.inr (by omega))
  have D1 : va_D A0 w1 := hD1.weaken (fun k q _ h => hF q.1 h)
  have DX : va_D A0 wx := ⟨fun i j p q hp hq e => hD.1 i j p q (ex i p hp).1 (ex j q hq).1 e, fun k q hk => hD.2 k q (ex k q hk).1⟩
  have DY : va_D A0 wy := ⟨fun i j p q hp hq e => by have := hD.1 _ _ p q (ey i p hp) (ey j q hq) e; omega, fun k q hk => hD.2 _ q (ey k q hk)⟩
  refine ⟨va_P.app (fun k q hq => (hP k q (ex k q hq).1).kept (hk q.1 (ax k q hq).1 (ax k q hq).2)) (va_P.app hP1 (fun k q hq => (hP _ q (ey k q hq)).kept (hk q.1 (ay k q hq).1 (ay k q hq).2))), va_D.app DX (va_D.app D1 DY (fun i j x y hx hy hxy => (ay j y hy).2 (by rw [← hxy]; exact hD1.2 i x hx))) (fun i j x y hx hy hxy => ?_)⟩
  rcases List.mem_append.mp (List.mem_of_getElem? hy) with h | h
  · obtain ⟨j2, hj⟩ := List.getElem?_of_mem h
    exact (ax i x hx).2 (by rw [hxy]; exact hD1.2 j2 y hj)
  · obtain ⟨j2, hj⟩ := List.getElem?_of_mem h
    have := hD.1 _ _ x y (ex i x hx).1 (ey j2 y hj) hxy
    have := (ex i x hx).2
    omega
theorem va_Pm {D : va_G} {cl : List vw_C} {wx wc wy : va_W} {H : Heap} (h : va_P D cl (wx ++ (wc ++ wy)) H) : va_P D cl wc H := fun k q hq => by
  have hl := (List.getElem?_eq_some_iff.mp hq).1
  exact h (wx.length + k) q (by rw [List.getElem?_append_right (Nat.le_add_right _ _), Nat.add_sub_cancel_left, List.getElem?_append_left hl]; exact hq)
theorem va_Dm {A0 : Nat → Prop} {wx wc wy : va_W} (h : va_D A0 (wx ++ (wc ++ wy))) : va_D A0 wc := by
  have key : ∀ (k : Nat) (q : Nat × va_E), wc[k]? = some q → (wx ++ (wc ++ wy))[wx.length + k]? = some q := fun k q hq => by
    have hl := (List.getElem?_eq_some_iff.mp hq).1
    rw [List.getElem?_append_right (Nat.le_add_right _ _), Nat.add_sub_cancel_left, List.getElem?_append_left hl]; exact hq
  exact ⟨fun i j p q hp hq e => by have := h.1 _ _ p q (key i p hp) (key j q hq) e; omega, fun k q hk => h.2 _ q (key k q hk)⟩
section CX
variable {p : Program} {l : Launch} {e : Env} {R : Room} {s : State} {m : MethodId} {args : Array Value} {below : List Frame} {meth : Method} {c : Code} {H : Heap} {locs : List Loc} {cells slots : Nat} {Q : State → Prop}
variable {cc bytes : ByteArray} {pc maxL nL n index mc ms : Nat} {ret : Option FieldType} {ls : Array Slot} {rest st As : List Value} {E : GE} {w wx wy : va_W} {y : MethodName} {ws : List Cond} {rm : Room} {Ts : List Cond} {own C : String} {b : Addr} {A0 : Nat → Prop} {S : Type} {W1 : S → va_W}
theorem cmX_i {post : Int32 → S → Prop} (F : CallFix p m c cc nL s args Ts own) (hM : Met l y ws rm (va_Pc (.ref b :: As) (pcM E w H.size)) (va_Qi post (fun u t => atM E (va_A w H.size) (W1 u) t) (va_A w H.size)) mc ms (va_A w H.size)) (cw : CallW R s args own C index y bytes maxL ret ws rm mc ms n) (hr : ∃ cell : Cell, H[b]? = some cell ∧ cell.vm.isStatics = false ∧ s.vm.findClass C = some cell.cls) (hP : va_P E.1 vwCl (wx ++ (w ++ wy)) H) (hK : va_K E.1 vwCl (tyE E) s) (hD : va_D A0 (wx ++ (w ++ wy))) (hS : va_S A0 s.heap H locs) (hA : ∀ q, s.heap.size ≤ q → A0 q)
    (hn : As.length = n) (hz : ls.size = nL) (hst : st = As.reverse ++ .ref b :: rest) (hW : (rest.map fun v => v.category).sum ≤ 8) (hdg : decode cc pc = .ok (.invokevirtual index, 3)) (hf : cells + mc ≤ R.cells ∧ slots + ms ≤ R.slots)
    (kk : ∀ (r : Int32) (u : S) (H1 : Heap) (locs1 : List Loc), post r u → va_P E.1 vwCl (wx ++ (W1 u ++ wy)) H1 → va_D A0 (wx ++ (W1 u ++ wy)) → va_S A0 s.heap H1 locs1 → W p l e R s m args below meth c H1 locs1 (cells + mc) (slots + ms) Q (F0 m (pc + 3) ls (.int r :: rest))) : W p l e R s m args below meth c H locs cells slots Q (F0 m pc ls st) :=
  va_calli (va_runV (As := As) (rest := rest) F hM cw ⟨fb_M, hr, fun U hU hW => ⟨rfl, by rw [hU], by rw [hU]; exact va_Pm hP, va_K.moved hW.alike hK, (va_Dm hD).weaken (fun _ _ _ _ => trivial)⟩⟩ rfl hn hz hst (lv_room hW) hdg hf) hS (fun q _ h => va_freeW (va_Dm hD) hS hA q h) (va_freeW (va_Dm hD) hS hA)
    (fun r u t H1 locs1 ht hvm hw hB _ hk hS1 => by
      obtain ⟨b1, b2, b3⟩ := hB
      rw [ht] at b1
      obtain ⟨h1, h3⟩ := va_split hP hD hk (va_freeW (va_Dm hD) hS hA) b1 b3
      exact kk r u H1 locs1 hw h1 h3 hS1)
theorem cmX_l {post : Int64 → S → Prop} (F : CallFix p m c cc nL s args Ts own) (hM : Met l y ws rm (va_Pc (.ref b :: As) (pcM E w H.size)) (va_Ql post (fun u t => atM E (va_A w H.size) (W1 u) t) (va_A w H.size)) mc ms (va_A w H.size)) (cw : CallW R s args own C index y bytes maxL ret ws rm mc ms n) (hr : ∃ cell : Cell, H[b]? = some cell ∧ cell.vm.isStatics = false ∧ s.vm.findClass C = some cell.cls) (hP : va_P E.1 vwCl (wx ++ (w ++ wy)) H) (hK : va_K E.1 vwCl (tyE E) s) (hD : va_D A0 (wx ++ (w ++ wy))) (hS : va_S A0 s.heap H locs) (hA : ∀ q, s.heap.size ≤ q → A0 q)
    (hn : As.length = n) (hz : ls.size = nL) (hst : st = As.reverse ++ .ref b :: rest) (hW : (rest.map fun v => v.category).sum ≤ 8) (hdg : decode cc pc = .ok (.invokevirtual index, 3)) (hf : cells + mc ≤ R.cells ∧ slots + ms ≤ R.slots)
    (kk : ∀ (r : Int64) (u : S) (H1 : Heap) (locs1 : List Loc), post r u → va_P E.1 vwCl (wx ++ (W1 u ++ wy)) H1 → va_D A0 (wx ++ (W1 u ++ wy)) → va_S A0 s.heap H1 locs1 → W p l e R s m args below meth c H1 locs1 (cells + mc) (slots + ms) Q (F0 m (pc + 3) ls (.long r :: rest))) : W p l e R s m args below meth c H locs cells slots Q (F0 m pc ls st) :=
  va_calll (va_runV (As := As) (rest := rest) F hM cw ⟨fb_M, hr, fun U hU hW => ⟨rfl, by rw [hU], by rw [hU]; exact va_Pm hP, va_K.moved hW.alike hK, (va_Dm hD).weaken (fun _ _ _ _ => trivial)⟩⟩ rfl hn hz hst (lv_room hW) hdg hf) hS (fun q _ h => va_freeW (va_Dm hD) hS hA q h) (va_freeW (va_Dm hD) hS hA)
    (fun r u t H1 locs1 ht hvm hw hB _ hk hS1 => by
      obtain ⟨b1, b2, b3⟩ := hB
      rw [ht] at b1
      obtain ⟨h1, h3⟩ := va_split hP hD hk (va_freeW (va_Dm hD) hS hA) b1 b3
      exact kk r u H1 locs1 hw h1 h3 hS1)
theorem cmX_d {post : UInt64 → S → Prop} (F : CallFix p m c cc nL s args Ts own) (hM : Met l y ws rm (va_Pc (.ref b :: As) (pcM E w H.size)) (va_Qd post (fun u t => atM E (va_A w H.size) (W1 u) t) (va_A w H.size)) mc ms (va_A w H.size)) (cw : CallW R s args own C index y bytes maxL ret ws rm mc ms n) (hr : ∃ cell : Cell, H[b]? = some cell ∧ cell.vm.isStatics = false ∧ s.vm.findClass C = some cell.cls) (hP : va_P E.1 vwCl (wx ++ (w ++ wy)) H) (hK : va_K E.1 vwCl (tyE E) s) (hD : va_D A0 (wx ++ (w ++ wy))) (hS : va_S A0 s.heap H locs) (hA : ∀ q, s.heap.size ≤ q → A0 q)
    (hn : As.length = n) (hz : ls.size = nL) (hst : st = As.reverse ++ .ref b :: rest) (hW : (rest.map fun v => v.category).sum ≤ 8) (hdg : decode cc pc = .ok (.invokevirtual index, 3)) (hf : cells + mc ≤ R.cells ∧ slots + ms ≤ R.slots)
    (kk : ∀ (r : UInt64) (u : S) (H1 : Heap) (locs1 : List Loc), post r u → va_P E.1 vwCl (wx ++ (W1 u ++ wy)) H1 → va_D A0 (wx ++ (W1 u ++ wy)) → va_S A0 s.heap H1 locs1 → W p l e R s m args below meth c H1 locs1 (cells + mc) (slots + ms) Q (F0 m (pc + 3) ls (.double r :: rest))) : W p l e R s m args below meth c H locs cells slots Q (F0 m pc ls st) :=
  va_calld (va_runV (As := As) (rest := rest) F hM cw ⟨fb_M, hr, fun U hU hW => ⟨rfl, by rw [hU], by rw [hU]; exact va_Pm hP, va_K.moved hW.alike hK, (va_Dm hD).weaken (fun _ _ _ _ => trivial)⟩⟩ rfl hn hz hst (lv_room hW) hdg hf) hS (fun q _ h => va_freeW (va_Dm hD) hS hA q h) (va_freeW (va_Dm hD) hS hA)
    (fun r u t H1 locs1 ht hvm hw hB _ hk hS1 => by
      obtain ⟨b1, b2, b3⟩ := hB
      rw [ht] at b1
      obtain ⟨h1, h3⟩ := va_split hP hD hk (va_freeW (va_Dm hD) hS hA) b1 b3
      exact kk r u H1 locs1 hw h1 h3 hS1)
/-- a new row of N ints, behind the world -/
theorem nq_newa {atype : ArrayType} (hx : p.tables.exec = Jvm.exec) (hb : c.code = cc) (harr : (Cond.arrayClass (newarray.typeOf atype)).before args s = true) (hty : newarray.typeOf atype = .int) (hK : va_K E.1 vwCl (tyE E) s) (hP : va_P E.1 vwCl w H) (hD : va_D A0 w) (hS : va_S A0 s.heap H locs) (hA : ∀ q, s.heap.size ≤ q → A0 q)
    {N : Nat} (hN : N ≤ 1000) (hc : cells + 1 ≤ R.cells) (hs : slots + N ≤ R.slots) (hdg : decode cc pc = .ok (.newarray atype, 2))
    (kk : ∀ (q : Nat) (H1 : Heap), va_P E.1 vwCl (w ++ [(q, .inl (E.2.1, N, .inl (fun _ => 0)))]) H1 → va_D A0 (w ++ [(q, .inl (E.2.1, N, .inl (fun _ => 0)))]) → va_S A0 s.heap H1 locs → W p l e R s m args below meth c H1 locs (cells + 1) (slots + N) Q (F0 m (pc + 2) ls (.ref q :: rest))) : W p l e R s m args below meth c H locs cells slots Q (F0 m pc ls (.int (nI N) :: rest)) := by
  refine va_newa (ty := .int) (a0 := (N, .inl (fun _ => 0))) hx hb harr hty hK hP hD hS hA (fun cA => by rw [vp_cell_i]; rfl) (by rw [Int32.lt_iff_toInt_lt, nI_toInt (by omega)]; show ¬ ((N : Int) < 0); omega) (nI_clamp (by omega)) (by show N * 4 ≤ 536870912; omega) hc hs hdg (fun q cA H1 hK1 hP1 hD1 hS1 => ?_)
  have e : cA = E.2.1 := by
    have h1 : va_RA s cA .int := (hK1.2 (tyE E).length (cA, .int) (by simp)).2
    have h2 : va_RA s E.2.1 .int := (hK.2 0 _ rfl).2
    exact Option.some.inj (h1.symm.trans h2)
  subst e
  exact kk q H1 hP1 hD1 hS1
end CX
theorem va_Pl {D : va_G} {cl : List vw_C} {w wy : va_W} {H : Heap} (h : va_P D cl (w ++ wy) H) : va_P D cl w H := va_Pm (wx := []) h
theorem va_Dl {A0 : Nat → Prop} {w wy : va_W} (h : va_D A0 (w ++ wy)) : va_D A0 w := va_Dm (wx := []) h

/-! the law: rows for its calls, and what its loop keeps -/
theorem lg_self (x : Int64) : lg_cmp x x = 0 := (lg_cmp_eq x x).mpr rfl
theorem ok_add {n now lim k v u z : Nat} {F : LR} (h : OkS n now lim F) (hn : n < 8) (hc9 : k ≤ 5) (hp9 : 2 ≤ v ∧ v ≤ 20) (hl9 : 1 ≤ u ∧ u < v) (hw9 : 1 ≤ z ∧ z ≤ 9) : OkS (n + 1) now lim (up2 (up2 (up2 (up2 F n 2 k) n 0 v) n 4 u) n 1 z) := by
  obtain ⟨h1, h2, h3, h4, h5⟩ := h
  have eo : ∀ i q, i ≠ n → up2 (up2 (up2 (up2 F n 2 k) n 0 v) n 4 u) n 1 z i q = F i q := fun i q hi => by simp [up2, hi]
  refine ⟨by omega, h2, h3, fun i hi => ?_, fun i hi q => ?_⟩
  · by_cases e : i = n
    · subst e
      have z0 : ∀ q, F i q = 0 := h5 i (Nat.le_refl _)
      have e0 : up2 (up2 (up2 (up2 F i 2 k) i 0 v) i 4 u) i 1 z i 0 = v := by simp [up2]
      have e1 : up2 (up2 (up2 (up2 F i 2 k) i 0 v) i 4 u) i 1 z i 1 = z := by simp [up2]
      have e2 : up2 (up2 (up2 (up2 F i 2 k) i 0 v) i 4 u) i 1 z i 2 = k := by simp [up2]
      have e3 : up2 (up2 (up2 (up2 F i 2 k) i 0 v) i 4 u) i 1 z i 3 = 0 := by simp [up2, z0]
      have e4 : up2 (up2 (up2 (up2 F i 2 k) i 0 v) i 4 u) i 1 z i 4 = u := by simp [up2]
      have e5 : up2 (up2 (up2 (up2 F i 2 k) i 0 v) i 4 u) i 1 z i 5 = 0 := by simp [up2, z0]
      have e6 : up2 (up2 (up2 (up2 F i 2 k) i 0 v) i 4 u) i 1 z i 6 = 0 := by simp [up2, z0]
      rw [e0, e1, e2, e3, e4, e5, e6]
      omega
    · rw [eo i 0 e, eo i 1 e, eo i 2 e, eo i 3 e, eo i 4 e, eo i 5 e, eo i 6 e]
      exact h4 i (by omega)
  · rw [eo i q (by omega)]
    exact h5 i (by omega) q
theorem ok_3 {n now lim k v : Nat} {F : LR} (h : OkS n now lim F) (hk : k < n) (hv : v < F k 0) : OkS n now lim (up2 F k 3 v) := by
  obtain ⟨h1, h2, h3, h4, h5⟩ := h
  refine ⟨h1, h2, h3, fun i hi => ?_, fun i hi q => ?_⟩
  · have h6 := h4 i hi
    have a3 : up2 F k 3 v i 3 < F i 0 := by
      unfold up2
      by_cases e : i = k
      · subst e; rw [if_pos ⟨rfl, rfl⟩]; exact hv
      · rw [if_neg (fun z => e z.1)]; omega
    rw [up2_ne (q := 0) (by decide), up2_ne (q := 1) (by decide), up2_ne (q := 2) (by decide), up2_ne (q := 4) (by decide), up2_ne (q := 5) (by decide), up2_ne (q := 6) (by decide)]
    omega
  · unfold up2
    rw [if_neg (fun z => by omega)]
    exact h5 i hi q
theorem ok_4 {n now lim k v : Nat} {F : LR} (h : OkS n now lim F) (hk : k < n) (hv : 1 ≤ v ∧ v < F k 0) : OkS n now lim (up2 F k 4 v) := by
  obtain ⟨h1, h2, h3, h4, h5⟩ := h
  refine ⟨h1, h2, h3, fun i hi => ?_, fun i hi q => ?_⟩
  · have h6 := h4 i hi
    have a3 : 1 ≤ up2 F k 4 v i 4 ∧ up2 F k 4 v i 4 < F i 0 := by
      unfold up2
      by_cases e : i = k
      · subst e; rw [if_pos ⟨rfl, rfl⟩]; exact hv
      · rw [if_neg (fun z => e z.1)]; omega
    rw [up2_ne (q := 0) (by decide), up2_ne (q := 1) (by decide), up2_ne (q := 2) (by decide), up2_ne (q := 3) (by decide), up2_ne (q := 5) (by decide), up2_ne (q := 6) (by decide)]
    omega
  · unfold up2
    rw [if_neg (fun z => by omega)]
    exact h5 i hi q
theorem ok_2 {n now lim k v : Nat} {F : LR} (h : OkS n now lim F) (hk : k < n) (hv : v ≤ 5) : OkS n now lim (up2 F k 2 v) := by
  obtain ⟨h1, h2, h3, h4, h5⟩ := h
  refine ⟨h1, h2, h3, fun i hi => ?_, fun i hi q => ?_⟩
  · have h6 := h4 i hi
    have a3 : up2 F k 2 v i 2 ≤ 5 := by
      unfold up2
      by_cases e : i = k
      · subst e; rw [if_pos ⟨rfl, rfl⟩]; exact hv
      · rw [if_neg (fun z => e z.1)]; omega
    rw [up2_ne (q := 0) (by decide), up2_ne (q := 1) (by decide), up2_ne (q := 3) (by decide), up2_ne (q := 4) (by decide), up2_ne (q := 5) (by decide), up2_ne (q := 6) (by decide)]
    omega
  · unfold up2
    rw [if_neg (fun z => by omega)]
    exact h5 i hi q
theorem ok_lim {n now lim v : Nat} {F : LR} (h : OkS n now lim F) (hv : v ≤ 99) : OkS n now v F := ⟨h.1, h.2.1, hv, h.2.2.2⟩
def wG (E : GE) (wc : va_W) (o : Nat) (fn : Nat → Int64) (wm : va_W) : va_W := wc ++ ([(o, .inl (E.2.2.2, 1, .inr (.inl fn)))] ++ wm)
theorem wG_s {E : GE} {wc wm : va_W} {o : Nat} {fn : Nat → Int64} : wG E wc o fn wm = [] ++ ((wc ++ [(o, .inl (E.2.2.2, 1, .inr (.inl fn)))]) ++ wm) := by
  unfold wG
  rw [List.nil_append, List.append_assoc]
theorem wG_m {E : GE} {wc wm : va_W} {o : Nat} {fn : Nat → Int64} : wG E wc o fn wm = (wc ++ [(o, .inl (E.2.2.2, 1, .inr (.inl fn)))]) ++ (wm ++ []) := by
  unfold wG
  rw [List.append_nil, List.append_assoc]
theorem wG_o {E : GE} {wc wm : va_W} {o : Nat} {fn : Nat → Int64} : (wG E wc o fn wm)[wc.length]? = some (o, .inl (E.2.2.2, 1, .inr (.inl fn))) := by
  unfold wG
  rw [List.getElem?_append_right (Nat.le_refl _), Nat.sub_self]
  rfl
theorem wG_m0 {E : GE} {wc wm : va_W} {o : Nat} {fn : Nat → Int64} {y : Nat × va_E} : (wG E wc o fn (y :: wm))[wc.length + 1]? = some y := by
  unfold wG
  rw [List.getElem?_append_right (Nat.le_add_right _ _), Nat.add_sub_cancel_left]
  rfl
section LW
variable {p : Program} {l : Launch} {e : Env} {R : Room} {s : State} {m : MethodId} {args : Array Value} {below : List Frame} {meth : Method} {c : Code} {H : Heap} {locs : List Loc} {cells slots : Nat} {Q : State → Prop}
variable {cc bytes : ByteArray} {pc maxL nL n index mc ms z0 o : Nat} {ret : Option FieldType} {ls : Array Slot} {rest st As : List Value} {E : GE} {wc wm : va_W} {fn : Nat → Int64} {y : MethodName} {ws : List Cond} {rm : Room} {Ts : List Cond} {own C : String} {b : Addr} {A0 : Nat → Prop} {S : Type} {W1 : S → va_W} {f1 : S → Nat → Int64} {hh : List (Nat × Nat × Nat × Nat)}
theorem lawS {post : Int32 → S → Prop} (F : CallFix p m c cc nL s args Ts own) (hM : Met l y ws rm (va_Pc As (pcW E (wc ++ [(o, .inl (E.2.2.2, 1, .inr (.inl fn)))]) H.size z0)) (va_Qi post (fun u t => atM E (va_A (wc ++ [(o, .inl (E.2.2.2, 1, .inr (.inl fn)))]) H.size) (W1 u ++ [(o, .inl (E.2.2.2, 1, .inr (.inl (f1 u))))]) t) (va_A (wc ++ [(o, .inl (E.2.2.2, 1, .inr (.inl fn)))]) H.size)) mc ms (va_A (wc ++ [(o, .inl (E.2.2.2, 1, .inr (.inl fn)))]) H.size)) (cw : vx_CSW R s args own index y bytes maxL ret hh ws rm mc ms n) (hP : va_P E.1 vwCl (wG E wc o fn wm) H) (hK : va_K E.1 vwCl (tyE E) s) (hD : va_D A0 (wG E wc o fn wm)) (hZ : ZE z0 A0 s s.heap) (hT : TE A0 s s.heap) (hS : va_S A0 s.heap H locs) (hA : ∀ q, s.heap.size ≤ q → A0 q)
    (hn : As.length = n) (hz : ls.size = nL) (hst : st = As.reverse ++ rest) (hW : (rest.map fun v => v.category).sum ≤ 8) (hdg : decode cc pc = .ok (.invokestatic index, 3)) (hf : cells + mc ≤ R.cells ∧ slots + ms ≤ R.slots)
    (kk : ∀ (r : Int32) (u : S) (H1 : Heap) (locs1 : List Loc), post r u → va_P E.1 vwCl (wG E (W1 u) o (f1 u) wm) H1 → va_D A0 (wG E (W1 u) o (f1 u) wm) → va_S A0 s.heap H1 locs1 → W p l e R s m args below meth c H1 locs1 (cells + mc) (slots + ms) Q (F0 m (pc + 3) ls (.int r :: rest))) : W p l e R s m args below meth c H locs cells slots Q (F0 m pc ls st) := by
  rw [wG_s] at hP hD
  refine va_calli (vx_runSW (As := As) (rest := rest) F hM cw ⟨fb_W, fun U hU hW => ⟨rfl, ⟨by rw [hU], by rw [hU]; exact va_Pm hP, va_K.moved hW.alike hK, (va_Dm hD).weaken (fun _ _ _ _ => trivial)⟩, ze_in hZ hS (va_freeW (va_Dm hD) hS hA) hU hW.alike, te_in hT hS (va_freeW (va_Dm hD) hS hA) hU hW⟩⟩ rfl hn hz hst (lv_room hW) hdg hf) hS (fun q _ h => va_freeW (va_Dm hD) hS hA q h) (va_freeW (va_Dm hD) hS hA) ?_
  intro r u t H1 locs1 ht hvm hw hB _ hk hS1
  obtain ⟨b1, b2, b3⟩ := hB
  rw [ht] at b1
  obtain ⟨h1, h3⟩ := va_split hP hD hk (va_freeW (va_Dm hD) hS hA) b1 b3
  rw [← wG_s] at h1 h3
  exact kk r u H1 locs1 hw h1 h3 hS1

theorem lawM_i {post : Int32 → S → Prop} (F : CallFix p m c cc nL s args Ts own) (hM : Met l y ws rm (va_Pc (.ref b :: As) (pcM E wm H.size)) (va_Qi post (fun u t => atM E (va_A wm H.size) (W1 u) t) (va_A wm H.size)) mc ms (va_A wm H.size)) (cw : CallW R s args own C index y bytes maxL ret ws rm mc ms n) (hr : ∃ cell : Cell, H[b]? = some cell ∧ cell.vm.isStatics = false ∧ s.vm.findClass C = some cell.cls) (hP : va_P E.1 vwCl (wG E wc o fn wm) H) (hK : va_K E.1 vwCl (tyE E) s) (hD : va_D A0 (wG E wc o fn wm)) (hS : va_S A0 s.heap H locs) (hA : ∀ q, s.heap.size ≤ q → A0 q)
    (hn : As.length = n) (hz : ls.size = nL) (hst : st = As.reverse ++ .ref b :: rest) (hW : (rest.map fun v => v.category).sum ≤ 8) (hdg : decode cc pc = .ok (.invokevirtual index, 3)) (hf : cells + mc ≤ R.cells ∧ slots + ms ≤ R.slots)
    (kk : ∀ (r : Int32) (u : S) (H1 : Heap) (locs1 : List Loc), post r u → va_P E.1 vwCl (wG E wc o fn (W1 u)) H1 → va_D A0 (wG E wc o fn (W1 u)) → va_S A0 s.heap H1 locs1 → W p l e R s m args below meth c H1 locs1 (cells + mc) (slots + ms) Q (F0 m (pc + 3) ls (.int r :: rest))) : W p l e R s m args below meth c H locs cells slots Q (F0 m pc ls st) := by
  rw [wG_m] at hP hD
  exact cmX_i F hM cw hr hP hK hD hS hA hn hz hst hW hdg hf (fun r u H1 locs1 h1 h2 h3 h4 => kk r u H1 locs1 h1 (by rw [wG_m]; exact h2) (by rw [wG_m]; exact h3) h4)
theorem lawC_i {post : Int32 → S → Prop} (F : CallFix p m c cc nL s args Ts own) (hM : Met l y ws rm (va_Pc (.ref b :: As) (pcM E wc H.size)) (va_Qi post (fun u t => atM E (va_A wc H.size) (W1 u) t) (va_A wc H.size)) mc ms (va_A wc H.size)) (cw : CallW R s args own C index y bytes maxL ret ws rm mc ms n) (hr : ∃ cell : Cell, H[b]? = some cell ∧ cell.vm.isStatics = false ∧ s.vm.findClass C = some cell.cls) (hP : va_P E.1 vwCl (wG E wc o fn wm) H) (hK : va_K E.1 vwCl (tyE E) s) (hD : va_D A0 (wG E wc o fn wm)) (hS : va_S A0 s.heap H locs) (hA : ∀ q, s.heap.size ≤ q → A0 q)
    (hn : As.length = n) (hz : ls.size = nL) (hst : st = As.reverse ++ .ref b :: rest) (hW : (rest.map fun v => v.category).sum ≤ 8) (hdg : decode cc pc = .ok (.invokevirtual index, 3)) (hf : cells + mc ≤ R.cells ∧ slots + ms ≤ R.slots)
    (kk : ∀ (r : Int32) (u : S) (H1 : Heap) (locs1 : List Loc), post r u → va_P E.1 vwCl (wG E (W1 u) o fn wm) H1 → va_D A0 (wG E (W1 u) o fn wm) → va_S A0 s.heap H1 locs1 → W p l e R s m args below meth c H1 locs1 (cells + mc) (slots + ms) Q (F0 m (pc + 3) ls (.int r :: rest))) : W p l e R s m args below meth c H locs cells slots Q (F0 m pc ls st) := by
  exact cmX_i (wx := []) (wy := [(o, .inl (E.2.2.2, 1, .inr (.inl fn)))] ++ wm) F hM cw hr hP hK hD hS hA hn hz hst hW hdg hf (fun r u H1 locs1 h1 h2 h3 h4 => kk r u H1 locs1 h1 h2 h3 h4)
theorem lawM_l {post : Int64 → S → Prop} (F : CallFix p m c cc nL s args Ts own) (hM : Met l y ws rm (va_Pc (.ref b :: As) (pcM E wm H.size)) (va_Ql post (fun u t => atM E (va_A wm H.size) (W1 u) t) (va_A wm H.size)) mc ms (va_A wm H.size)) (cw : CallW R s args own C index y bytes maxL ret ws rm mc ms n) (hr : ∃ cell : Cell, H[b]? = some cell ∧ cell.vm.isStatics = false ∧ s.vm.findClass C = some cell.cls) (hP : va_P E.1 vwCl (wG E wc o fn wm) H) (hK : va_K E.1 vwCl (tyE E) s) (hD : va_D A0 (wG E wc o fn wm)) (hS : va_S A0 s.heap H locs) (hA : ∀ q, s.heap.size ≤ q → A0 q)
    (hn : As.length = n) (hz : ls.size = nL) (hst : st = As.reverse ++ .ref b :: rest) (hW : (rest.map fun v => v.category).sum ≤ 8) (hdg : decode cc pc = .ok (.invokevirtual index, 3)) (hf : cells + mc ≤ R.cells ∧ slots + ms ≤ R.slots)
    (kk : ∀ (r : Int64) (u : S) (H1 : Heap) (locs1 : List Loc), post r u → va_P E.1 vwCl (wG E wc o fn (W1 u)) H1 → va_D A0 (wG E wc o fn (W1 u)) → va_S A0 s.heap H1 locs1 → W p l e R s m args below meth c H1 locs1 (cells + mc) (slots + ms) Q (F0 m (pc + 3) ls (.long r :: rest))) : W p l e R s m args below meth c H locs cells slots Q (F0 m pc ls st) := by
  rw [wG_m] at hP hD
  exact cmX_l F hM cw hr hP hK hD hS hA hn hz hst hW hdg hf (fun r u H1 locs1 h1 h2 h3 h4 => kk r u H1 locs1 h1 (by rw [wG_m]; exact h2) (by rw [wG_m]; exact h3) h4)
theorem lawC_l {post : Int64 → S → Prop} (F : CallFix p m c cc nL s args Ts own) (hM : Met l y ws rm (va_Pc (.ref b :: As) (pcM E wc H.size)) (va_Ql post (fun u t => atM E (va_A wc H.size) (W1 u) t) (va_A wc H.size)) mc ms (va_A wc H.size)) (cw : CallW R s args own C index y bytes maxL ret ws rm mc ms n) (hr : ∃ cell : Cell, H[b]? = some cell ∧ cell.vm.isStatics = false ∧ s.vm.findClass C = some cell.cls) (hP : va_P E.1 vwCl (wG E wc o fn wm) H) (hK : va_K E.1 vwCl (tyE E) s) (hD : va_D A0 (wG E wc o fn wm)) (hS : va_S A0 s.heap H locs) (hA : ∀ q, s.heap.size ≤ q → A0 q)
    (hn : As.length = n) (hz : ls.size = nL) (hst : st = As.reverse ++ .ref b :: rest) (hW : (rest.map fun v => v.category).sum ≤ 8) (hdg : decode cc pc = .ok (.invokevirtual index, 3)) (hf : cells + mc ≤ R.cells ∧ slots + ms ≤ R.slots)
    (kk : ∀ (r : Int64) (u : S) (H1 : Heap) (locs1 : List Loc), post r u → va_P E.1 vwCl (wG E (W1 u) o fn wm) H1 → va_D A0 (wG E (W1 u) o fn wm) → va_S A0 s.heap H1 locs1 → W p l e R s m args below meth c H1 locs1 (cells + mc) (slots + ms) Q (F0 m (pc + 3) ls (.long r :: rest))) : W p l e R s m args below meth c H locs cells slots Q (F0 m pc ls st) := by
  exact cmX_l (wx := []) (wy := [(o, .inl (E.2.2.2, 1, .inr (.inl fn)))] ++ wm) F hM cw hr hP hK hD hS hA hn hz hst hW hdg hf (fun r u H1 locs1 h1 h2 h3 h4 => kk r u H1 locs1 h1 h2 h3 h4)
theorem lawM_d {post : UInt64 → S → Prop} (F : CallFix p m c cc nL s args Ts own) (hM : Met l y ws rm (va_Pc (.ref b :: As) (pcM E wm H.size)) (va_Qd post (fun u t => atM E (va_A wm H.size) (W1 u) t) (va_A wm H.size)) mc ms (va_A wm H.size)) (cw : CallW R s args own C index y bytes maxL ret ws rm mc ms n) (hr : ∃ cell : Cell, H[b]? = some cell ∧ cell.vm.isStatics = false ∧ s.vm.findClass C = some cell.cls) (hP : va_P E.1 vwCl (wG E wc o fn wm) H) (hK : va_K E.1 vwCl (tyE E) s) (hD : va_D A0 (wG E wc o fn wm)) (hS : va_S A0 s.heap H locs) (hA : ∀ q, s.heap.size ≤ q → A0 q)
    (hn : As.length = n) (hz : ls.size = nL) (hst : st = As.reverse ++ .ref b :: rest) (hW : (rest.map fun v => v.category).sum ≤ 8) (hdg : decode cc pc = .ok (.invokevirtual index, 3)) (hf : cells + mc ≤ R.cells ∧ slots + ms ≤ R.slots)
    (kk : ∀ (r : UInt64) (u : S) (H1 : Heap) (locs1 : List Loc), post r u → va_P E.1 vwCl (wG E wc o fn (W1 u)) H1 → va_D A0 (wG E wc o fn (W1 u)) → va_S A0 s.heap H1 locs1 → W p l e R s m args below meth c H1 locs1 (cells + mc) (slots + ms) Q (F0 m (pc + 3) ls (.double r :: rest))) : W p l e R s m args below meth c H locs cells slots Q (F0 m pc ls st) := by
  rw [wG_m] at hP hD
  exact cmX_d F hM cw hr hP hK hD hS hA hn hz hst hW hdg hf (fun r u H1 locs1 h1 h2 h3 h4 => kk r u H1 locs1 h1 (by rw [wG_m]; exact h2) (by rw [wG_m]; exact h3) h4)
theorem lawC_d {post : UInt64 → S → Prop} (F : CallFix p m c cc nL s args Ts own) (hM : Met l y ws rm (va_Pc (.ref b :: As) (pcM E wc H.size)) (va_Qd post (fun u t => atM E (va_A wc H.size) (W1 u) t) (va_A wc H.size)) mc ms (va_A wc H.size)) (cw : CallW R s args own C index y bytes maxL ret ws rm mc ms n) (hr : ∃ cell : Cell, H[b]? = some cell ∧ cell.vm.isStatics = false ∧ s.vm.findClass C = some cell.cls) (hP : va_P E.1 vwCl (wG E wc o fn wm) H) (hK : va_K E.1 vwCl (tyE E) s) (hD : va_D A0 (wG E wc o fn wm)) (hS : va_S A0 s.heap H locs) (hA : ∀ q, s.heap.size ≤ q → A0 q)
    (hn : As.length = n) (hz : ls.size = nL) (hst : st = As.reverse ++ .ref b :: rest) (hW : (rest.map fun v => v.category).sum ≤ 8) (hdg : decode cc pc = .ok (.invokevirtual index, 3)) (hf : cells + mc ≤ R.cells ∧ slots + ms ≤ R.slots)
    (kk : ∀ (r : UInt64) (u : S) (H1 : Heap) (locs1 : List Loc), post r u → va_P E.1 vwCl (wG E (W1 u) o fn wm) H1 → va_D A0 (wG E (W1 u) o fn wm) → va_S A0 s.heap H1 locs1 → W p l e R s m args below meth c H1 locs1 (cells + mc) (slots + ms) Q (F0 m (pc + 3) ls (.double r :: rest))) : W p l e R s m args below meth c H locs cells slots Q (F0 m pc ls st) := by
  exact cmX_d (wx := []) (wy := [(o, .inl (E.2.2.2, 1, .inr (.inl fn)))] ++ wm) F hM cw hr hP hK hD hS hA hn hz hst hW hdg hf (fun r u H1 locs1 h1 h2 h3 h4 => kk r u H1 locs1 h1 h2 h3 h4)
end LW
/-- the state between two calls: i the place in the script, j calls are behind -/
def LSt (E : GE) (A : Nat → Prop) (s : State) (b z0 i j : Nat) (a : Nat → Nat) (mc : Int32) (n now lim : Nat) (F : LR) (lit : Nat → Bool) (fo : Nat → Nat) (o : Nat) (fn : Nat → Int64) (bb : Nat → Nat) (th : Int32) (kp : Nat → Int32) (H : Heap) (locs : List Loc) (ls : Array Slot) (cells slots : Nat) : Prop :=
  OkS n now lim F ∧ now ≤ 200 * j ∧ (n = 0 → a 2 = z0) ∧ cells ≤ 100 + 20 * j ∧ slots ≤ 1000 + 100 * j ∧ va_P E.1 vwCl (wG E (wC E a mc n now lim (LF F lit fo)) o fn (wM E bb th n lim F (NW now F) kp)) H ∧ va_D A (wG E (wC E a mc n now lim (LF F lit fo)) o fn (wM E bb th n lim F (NW now F) kp)) ∧ va_S A s.heap H locs ∧ lv_has ls 9 [(0, .ref b), (1, .ref (a 0)), (2, .ref (bb 0)), (3, .ref o), (4, .int (nI i))]
/-- what holds of the law's own run -/
def LC (p : Program) (l : Launch) (s : State) (m : MethodId) (b : Nat) (c : Code) (E : GE) (A : Nat → Prop) (z0 L : Nat) (xs : Nat → Int32) : Prop :=
  p.tables.exec = Jvm.exec ∧ c.code = cL_law ∧ c.maxLocals = 9 ∧ s.vm.findClass RL = some m.cls ∧ (∀ q ∈ wsL_law, q.before #[Value.ref b] s = true) ∧ va_K E.1 vwCl (tyE E) s ∧ ZE z0 A s s.heap ∧ TE A s s.heap ∧ (∀ q, s.heap.size ≤ q → A q) ∧ ¬ A b ∧ va_X b L xs s s.heap ∧ b < s.heap.size ∧ l.stackTraces = false
def LK (p : Program) (l : Launch) (e : Env) (s : State) (m : MethodId) (b : Nat) (below : List Frame) (meth : Method) (c : Code) (E : GE) (A : Nat → Prop) (z0 o : Nat) (Q : State → Prop) (pc i j : Nat) : Prop :=
  ∀ (a : Nat → Nat) (mc : Int32) (n now lim : Nat) (F : LR) (lit : Nat → Bool) (fo : Nat → Nat) (fn : Nat → Int64) (bb : Nat → Nat) (th : Int32) (kp : Nat → Int32) (H : Heap) (locs : List Loc) (ls : Array Slot) (cells slots : Nat), LSt E A s b z0 i j a mc n now lim F lit fo o fn bb th kp H locs ls cells slots → W p l e room_1 s m #[Value.ref b] below meth c H locs cells slots Q (F0 m pc ls [])

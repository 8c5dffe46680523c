/-! a loom that cells choose -/
section CB
variable {p : Program} {l : Launch} {e : Env} {R : Room} {s : State} {m : MethodId} {args : Array Value} {below : List Frame} {meth : Method} {c : Code} {H : Heap} {locs : List Loc} {cells slots : Nat} {Q : State → Prop}
variable {cc bytes : ByteArray} {pc maxL nL n index mc ms z0 bs L : Nat} {xs : Nat → Int32} {ret : Option FieldType} {ls : Array Slot} {rest st As : List Value} {E : GE} {w wx wy : va_W} {y : MethodName} {ws : List Cond} {rm : Room} {Ts : List Cond} {own host C : String} {b : Addr} {A0 : Nat → Prop} {S : Type} {W1 : S → va_W}
theorem cmINZ_v {post : S → Prop} (F : CallFix p m c cc nL s args Ts own) (hM : Met l y ws rm (va_Pc (.ref b :: As) (pcZ E w H.size z0)) (va_Qv post (fun u t => atM E (va_A w H.size) (W1 u) t) (va_A w H.size)) mc ms (va_A w H.size)) (cw : va_CN R s args own index y host bytes maxL none ws rm mc ms n ∧ y.name = "<init>" ∧ (Cond.instanceMethod y).before args s = true) (hP : va_P E.1 vwCl (wx ++ w) H) (hK : va_K E.1 vwCl (tyE E) s) (hD : va_D A0 (wx ++ w)) (hZ : ZE z0 A0 s s.heap) (hS : va_S A0 s.heap H locs) (hA : ∀ q, s.heap.size ≤ q → A0 q)
    (hn : As.length = n) (hz : ls.size = nL) (hst : st = As.reverse ++ .ref b :: rest) (hW : (rest.map fun v => v.category).sum ≤ 8) (hdg : decode cc pc = .ok (.invokespecial index, 3)) (hf : cells + mc ≤ R.cells ∧ slots + ms ≤ R.slots)
    (kk : ∀ (u : S) (H1 : Heap) (locs1 : List Loc), post u → va_P E.1 vwCl (wx ++ W1 u) H1 → va_D A0 (wx ++ W1 u) → va_S A0 s.heap H1 locs1 → W p l e R s m args below meth c H1 locs1 (cells + mc) (slots + ms) Q (F0 m (pc + 3) ls rest)) : W p l e R s m args below meth c H locs cells slots Q (F0 m pc ls st) := by
  have hP9 : va_P E.1 vwCl (wx ++ (w ++ [])) H := by rw [List.append_nil]; exact hP
  have hD9 : va_D A0 (wx ++ (w ++ [])) := by rw [List.append_nil]; exact hD
  exact va_callv (va_runIN (As := As) (rest := rest) F hM cw ⟨fb_Z, fun U hU hW => ⟨rfl, ⟨by rw [hU], by rw [hU]; exact va_Pm hP9, va_K.moved hW.alike hK, (va_Dm hD9).weaken (fun _ _ _ _ => trivial)⟩, ze_in hZ hS (va_freeW (va_Dm hD9) hS hA) hU hW.alike⟩⟩ rfl hn hz hst (lv_room hW) hdg hf) hS (fun q _ h => va_freeW (va_Dm hD9) hS hA q h) (va_freeW (va_Dm hD9) hS hA)
    (fun u t H1 locs1 ht hvm hw hB _ hk hS1 => by
      obtain ⟨b1, b2, b3⟩ := hB
      rw [ht] at b1
      obtain ⟨h1, h3⟩ := va_split hP9 hD9 hk (va_freeW (va_Dm hD9) hS hA) b1 b3
      rw [List.append_nil] at h1 h3
      exact kk u H1 locs1 hw h1 h3 hS1)
theorem retB_r {post : STT → Prop} {v : Nat} {u : STT} {N : String} (hx : p.tables.exec = Jvm.exec) (hb : c.code = cc) (hr : meth.sig.returnType = some (.object N)) (hlocks : meth.locks = false) (hP : va_P E.1 vwCl (wU E u) H) (hK : va_K E.1 vwCl (tyE E) s) (hD : va_D A0 (wU E u)) (hS : va_S A0 s.heap H locs) (h : post u) (hv : v = u.2.2.2.2.2.2.2.2 0) (hdg : decode cc pc = .ok (.areturn, 1)) : W p l e R s m args below meth c H locs cells slots (MQ below (va_Qr (S := STT) post (fun uQ aQ tQ => atM E A0 (wU E uQ) tQ ∧ aQ = uQ.2.2.2.2.2.2.2.2 0) A0) args s cells slots A0) (F0 m pc ls [.ref v]) :=
  W.aret hx hb hr (Or.inl ⟨_, rfl⟩) (Or.inr ⟨v, rfl⟩) (fun t ht hW => ⟨⟨u, v, rfl, h, ⟨by rw [ht]; exact hP, va_K.moved hW.alike hK, hD⟩, hv⟩, hS.F ht⟩) hS.2.2 hdg hlocks
theorem cmSB_r {post : STT → Prop} (F : CallFix p m c cc nL s args Ts own) (hM : Met l y ws rm (va_Pc As (pcB E w H.size z0 bs L xs)) (va_Qr (S := STT) post (fun uQ aQ tQ => atM E (va_A w H.size) (wU E uQ) tQ ∧ aQ = uQ.2.2.2.2.2.2.2.2 0) (va_A w H.size)) mc ms (va_A w H.size)) (cw : CallB R s args own index y bytes maxL ret ws rm mc ms n ∧ (Cond.static y).before args s = true) (hP : va_P E.1 vwCl w H) (hK : va_K E.1 vwCl (tyE E) s) (hD : va_D A0 w) (hZ : ZE z0 A0 s s.heap) (hX : va_X bs L xs s s.heap) (hbs : ¬ A0 bs) (hN : NL s) (hS : va_S A0 s.heap H locs) (hA : ∀ q, s.heap.size ≤ q → A0 q)
    (hn : As.length = n) (hz : ls.size = nL) (hst : st = As.reverse ++ rest) (hW : (rest.map fun v => v.category).sum ≤ 8) (hdg : decode cc pc = .ok (.invokestatic index, 3)) (hf : cells + mc ≤ R.cells ∧ slots + ms ≤ R.slots)
    (kk : ∀ (ra : Nat) (u : STT) (H1 : Heap) (locs1 : List Loc), post u → ra = u.2.2.2.2.2.2.2.2 0 → va_P E.1 vwCl (wU E u) H1 → va_D A0 (wU E u) → va_S A0 s.heap H1 locs1 → W p l e R s m args below meth c H1 locs1 (cells + mc) (slots + ms) Q (F0 m (pc + 3) ls (.ref ra :: rest))) : W p l e R s m args below meth c H locs cells slots Q (F0 m pc ls st) :=
  va_callr (va_runS (As := As) (rest := rest) F hM cw ⟨fb_B, fun U hU hW => ⟨rfl, ⟨⟨by rw [hU], by rw [hU]; exact hP, va_K.moved hW.alike hK, hD.weaken (fun _ _ _ _ => trivial)⟩, ze_in hZ hS (va_freeW hD hS hA) hU hW.alike⟩, by rw [hU]; exact va_X.moved hW.alike (hX.kept (hS.2.1 bs hX.lt hbs)), fun h => hbs (va_freeW hD hS hA _ h), va_Nw.warmM hW hN⟩⟩ rfl hn hz hst (lv_room hW) hdg hf) hS (fun q _ h => va_freeW hD hS hA q h) (va_freeW hD hS hA)
    (fun u ra t H1 locs1 ht hvm hw hB _ _ hS1 => by
      obtain ⟨h1, -, h3⟩ := atM_in (va_freeW hD hS hA) ht hvm hB.1
      exact kk ra u H1 locs1 hw hB.2 h1 h3 hS1)
end CB
/-- what the building keeps, i lamps hanging at least -/
def BR (a0 b0 z0 lo hi nb : Nat) (u : STT) : Prop := OkS u.2.2.1 u.2.2.2.1 u.2.2.2.2.1 u.2.2.2.2.2.1 ∧ lo ≤ u.2.2.1 ∧ u.2.2.1 ≤ hi ∧ u.2.2.2.1 ≤ nb ∧ u.1 0 = a0 ∧ u.2.2.2.2.2.2.2.2 0 = b0 ∧ (u.2.2.1 = 0 → u.1 2 = z0)

set_option maxHeartbeats 4000000 in
set_option maxRecDepth 100000 in
/-- build(a new loom, the script) -/
theorem c_L_build (l : Launch) (E : GE) (sz : Nat) (z0 bs L : Nat) (xs : Nat → Int32) (hL : L ≤ 260) (a : Nat → Nat) (mc : Int32) (lit : Nat → Bool) (fo : Nat → Nat) (hz : a 2 = z0) : Met l yL_build wsL_build ({ frames := 7, cells := 4002, slots := 32003, locals := 161 } : Room) (va_Pc [.ref (a 0), .ref bs] (pcB E (wC E a mc 0 0 20 (LF F00 lit fo)) sz z0 bs L xs)) (va_Qr (S := STT) (fun u => OkS u.2.2.1 u.2.2.2.1 u.2.2.2.2.1 u.2.2.2.2.2.1 ∧ 2 ≤ u.2.2.1 ∧ u.2.2.1 ≤ 8 ∧ u.2.2.2.1 ≤ 4000 ∧ u.1 0 = a 0 ∧ u.2.2.2.2.2.2.2.2 0 = u.2.2.2.2.2.2.2.2 0 ∧ (u.2.2.1 = 0 → u.1 2 = z0)) (fun uQ aQ tQ => atM E (va_A (wC E a mc 0 0 20 (LF F00 lit fo)) sz) (wU E uQ) tQ ∧ aQ = uQ.2.2.2.2.2.2.2.2 0) (va_A (wC E a mc 0 0 20 (LF F00 lit fo)) sz)) 4002 32003 (va_A (wC E a mc 0 0 20 (LF F00 lit fo)) sz) := by
  refine metB (by decide) rfl (Nat.le_of_ble_eq_true rfl) ?_
  intro p e s m args below meth c ls A hAe hA hx hb hr hml hts hown hlocks hP hK hD hZ hS hX hbs hN hl
  rw [hAe]
  have hiX2 : ∀ q ∈ wsX20, q ∈ wsL_build := by decide +kernel
  obtain ⟨QQ, hQ⟩ : ∃ zQ, zQ = MQ below (va_Qr (S := STT) (fun u => OkS u.2.2.1 u.2.2.2.1 u.2.2.2.2.1 u.2.2.2.2.2.1 ∧ 2 ≤ u.2.2.1 ∧ u.2.2.1 ≤ 8 ∧ u.2.2.2.1 ≤ 4000 ∧ u.1 0 = a 0 ∧ u.2.2.2.2.2.2.2.2 0 = u.2.2.2.2.2.2.2.2 0 ∧ (u.2.2.1 = 0 → u.1 2 = z0)) (fun uQ aQ tQ => atM E (A) (wU E uQ) tQ ∧ aQ = uQ.2.2.2.2.2.2.2.2 0) (A)) args s 4002 32003 A := ⟨_, rfl⟩
  rw [← hQ]
  refine va_new (ci := 3) (C := RX2) (T := TX2) (N := 3) (fs := [.null, .int 0, .int 0]) hx hb hts hiX2 tyX2 tyX2_ok hown (hts (.classLink RL 10 RX2) (List.mem_of_getElem? (i := 1) (by rfl))) (hts (.instantiable RX2 3) (List.mem_of_getElem? (i := 2) (by rfl))) (hts (.initialized RX2) (List.mem_of_getElem? (i := 3) (by rfl))) hK hP hD hS hA rfl (fun j h9 => by match j, h9 with | 0, _ => rfl | 1, _ => rfl | 2, _ => rfl | j9 + 3, h9 => omega) (by show 0 + 1 ≤ 4002; omega) (by show 0 + 3 ≤ 32003; omega) dL_build_0 (fun q0 H hP hD hS => ?_)
  have hP : va_P E.1 vwCl (wC E a mc 0 0 20 (LF F00 lit fo) ++ [(q0, .inr (3, [.null, .int 0, .int 0]))]) H := hP
  have hD : va_D A (wC E a mc 0 0 20 (LF F00 lit fo) ++ [(q0, .inr (3, [.null, .int 0, .int 0]))]) := hD
  refine lv_dup hx hb dL_build_3 rfl ?_
  refine cmINZ_v (S := Nat → Nat) (W1 := fun b9 => wS E b9 0 0 20 F00) (wx := wC E a mc 0 0 20 (LF F00 lit fo)) (rest := [.ref q0]) (As := []) ⟨hx, hb, hml, hown, hts⟩ (c_X2_init l E _ q0 z0) ⟨va_cnB 0 hts gL_build_X2_init_n53 rfl rfl rfl hN (hts (.initialized RX2) (List.mem_of_getElem? (i := 3) (by rfl))) (by decide +kernel) ⟨Nat.le_of_ble_eq_true rfl, Nat.le_of_ble_eq_true rfl⟩, rfl, (hts (.instanceMethod yX2_init) (List.mem_of_getElem? (i := 5) (by rfl)))⟩ hP hK hD hZ hS hA rfl hl.1 rfl (Nat.le_of_ble_eq_true rfl) dL_build_4 ⟨Nat.le_of_ble_eq_true rfl, Nat.le_of_ble_eq_true rfl⟩ (fun b4 H locs hr4 hP hD hS => ?_)
  refine lv_astore_n (lv' := [(2, .ref q0), (0, .ref (a 0)), (1, .ref bs)]) hx hb dL_build_7 rfl hl (by decide) rfl (fun ls hl => ?_)
  refine lv_iconst (v := (nI 2)) hx hb dL_build_8 (by decide) ?_
  refine lv_aload_n hx hb dL_build_9 rfl (lv_at hl 2 rfl) ?_
  refine lv_iconst (v := (nI 0)) hx hb dL_build_10 (by decide) ?_
  refine csX_i (rest := [.int (nI 2)]) (As := [.ref bs, .int (nI 0)]) ⟨hx, hb, hml, hown, hts⟩ (c_L_cell l bs L xs 0 (by omega) (by omega)) (va_cwS 2 hts gL_build_L_cell rfl rfl rfl (by decide +kernel) ⟨Nat.le_of_ble_eq_true rfl, Nat.le_of_ble_eq_true rfl⟩) hX hbs hX.lt hS rfl hl.1 rfl (Nat.le_of_ble_eq_true rfl) dL_build_11 (Nat.le_of_ble_eq_true rfl) (Nat.le_of_ble_eq_true rfl) (fun r11 _ => ?_)
  refine lv_bipush (v := (nI 7)) hx hb dL_build_14 (by decide) ?_
  refine csS_i (rest := [.int (nI 2)]) (As := [.int r11, .int (nI 7)]) ⟨hx, hb, hml, hown, hts⟩ (c_L_below l E _ r11 7 (by omega)) (va_cwS 2 hts gL_build_L_below rfl rfl rfl (by decide +kernel) ⟨Nat.le_of_ble_eq_true rfl, Nat.le_of_ble_eq_true rfl⟩) hP hK rfl hl.1 rfl (Nat.le_of_ble_eq_true rfl) dL_build_16 (Nat.le_of_ble_eq_true rfl) (Nat.le_of_ble_eq_true rfl) (fun r16 hr16 => ?_)
  subst hr16
  refine nq_add hx hb dL_build_19 ?_
  have hb9 := bl_lt (v := r11) (k := 7) (by omega)
  refine lv_istore_n (lv' := [(3, .int (nI (2 + (bl r11 7)))), (2, .ref q0), (0, .ref (a 0)), (1, .ref bs)]) hx hb dL_build_20 rfl hl (by decide) rfl (fun ls hl => ?_)
  obtain ⟨n9, en9⟩ : ∃ z9, z9 = 2 + bl r11 7 := ⟨_, rfl⟩
  have hl : lv_has ls 5 [(3, .int (nI n9)), (2, .ref q0), (0, .ref (a 0)), (1, .ref bs)] := lv_rep hl 0 rfl (congrArg Value.int (show (nI (2 + (bl r11 7))) = (nI n9) from congrArg nI en9.symm))
  have hn9 : 2 ≤ n9 ∧ n9 ≤ 8 := by omega
  have hl : lv_has ls 5 [(3, .int (nI n9)), (2, .ref (b4 0)), (0, .ref (a 0)), (1, .ref bs)] := by rw [hr4]; exact hl
  refine lv_iconst (v := (nI 0)) hx hb dL_build_21 (by decide) ?_
  refine lv_istore (lv' := [(4, .int (nI 0)), (3, .int (nI n9)), (2, .ref (b4 0)), (0, .ref (a 0)), (1, .ref bs)]) hx hb dL_build_22 hl (by decide) rfl (fun ls hl => ?_)
  have loop24 : ∀ (tk : Nat) (i : Nat) (u : STT) (H : Heap) (locs : List Loc) (ls : Array Slot), (i ≤ n9) → (BR (a 0) (b4 0) z0 i i (200 * i) u) → (n9 - i) < tk → va_P E.1 vwCl (wU E u) H → va_D A (wU E u) → va_S A s.heap H locs → lv_has ls 5 [(4, .int (nI i)), (3, .int (nI n9)), (2, .ref (b4 0)), (0, .ref (a 0)), (1, .ref bs)] → W p l e ({ frames := 7, cells := 4002, slots := 32003, locals := 161 } : Room) s m args below meth c H locs (200 * i + 2) (1600 * i + 3) QQ (F0 m 24 ls []) := by
    intro tk
    induction tk with
    | zero => intro i u H locs ls hi hU hk hP hD hS hl; exact absurd hk (Nat.not_lt_zero _)
    | succ tk ih24 =>
      intro i u H locs ls hi hU hk hP hD hS hl
      obtain ⟨a1, mc1, n1, now1, lim1, F1, lit1, fo1, b1⟩ := u
      obtain ⟨hO, hlo, hhi, hnw, ha1, hb1, hz1⟩ := hU
      have hO : OkS n1 now1 lim1 F1 := hO
      have hlo : i ≤ n1 := hlo
      have hhi : n1 ≤ i := hhi
      have hnw : now1 ≤ 200 * i := hnw
      have ha1 : a1 0 = a 0 := ha1
      have hb1 : b1 0 = b4 0 := hb1
      have hz1 : n1 = 0 → a1 2 = z0 := hz1
      have hl : lv_has ls 5 [(4, .int (nI i)), (3, .int (nI n9)), (2, .ref (b1 0)), (0, .ref (a1 0)), (1, .ref bs)] := by rw [ha1, hb1]; exact hl
      have hP : va_P E.1 vwCl (wC E a1 mc1 n1 now1 lim1 (LF F1 lit1 fo1) ++ wS E b1 n1 now1 lim1 F1) _ := hP
      have hD : va_D A (wC E a1 mc1 n1 now1 lim1 (LF F1 lit1 fo1) ++ wS E b1 n1 now1 lim1 F1) := hD
      skip
      refine lv_iload hx hb dL_build_24 (lv_at hl 0 rfl) ?_
      refine lv_iload_n hx hb dL_build_26 rfl (lv_at hl 1 rfl) ?_
      refine nq_icmp_ge (tgt := 62) hx hb dL_build_27 (by decide) (by omega) (by omega) (fun h27 => ?_) (fun h27 => ?_)
      · skip
        have hl : lv_has ls 5 [(4, .int (nI i)), (3, .int (nI n9)), (2, .ref (b4 0)), (0, .ref (a 0)), (1, .ref bs)] := by rw [← ha1, ← hb1]; exact hl
        skip
        refine lv_iconst (v := (nI 0)) hx hb dL_build_62 (by decide) ?_
        refine lv_istore (lv' := [(4, .int (nI 0)), (3, .int (nI n9)), (2, .ref (b4 0)), (0, .ref (a 0)), (1, .ref bs)]) hx hb dL_build_63 hl (by decide) rfl (fun ls hl => ?_)
        have loop65 : ∀ (tk : Nat) (i : Nat) (u : STT) (H : Heap) (locs : List Loc) (ls : Array Slot), (i ≤ 12) → (BR (a 0) (b4 0) z0 2 8 (200 * (n9 + i)) u) → (12 - i) < tk → va_P E.1 vwCl (wU E u) H → va_D A (wU E u) → va_S A s.heap H locs → lv_has ls 5 [(4, .int (nI i)), (3, .int (nI n9)), (2, .ref (b4 0)), (0, .ref (a 0)), (1, .ref bs)] → W p l e ({ frames := 7, cells := 4002, slots := 32003, locals := 161 } : Room) s m args below meth c H locs (200 * (n9 + i) + 2) (1600 * (n9 + i) + 3) QQ (F0 m 65 ls []) := by
          intro tk
          induction tk with
          | zero => intro i u H locs ls hi hU hk hP hD hS hl; exact absurd hk (Nat.not_lt_zero _)
          | succ tk ih65 =>
            intro i u H locs ls hi hU hk hP hD hS hl
            obtain ⟨a1, mc1, n1, now1, lim1, F1, lit1, fo1, b1⟩ := u
            obtain ⟨hO, hlo, hhi, hnw, ha1, hb1, hz1⟩ := hU
            have hO : OkS n1 now1 lim1 F1 := hO
            have hlo : 2 ≤ n1 := hlo
            have hhi : n1 ≤ 8 := hhi
            have hnw : now1 ≤ 200 * (n9 + i) := hnw
            have ha1 : a1 0 = a 0 := ha1
            have hb1 : b1 0 = b4 0 := hb1
            have hz1 : n1 = 0 → a1 2 = z0 := hz1
            have hl : lv_has ls 5 [(4, .int (nI i)), (3, .int (nI n9)), (2, .ref (b1 0)), (0, .ref (a1 0)), (1, .ref bs)] := by rw [ha1, hb1]; exact hl
            have hP : va_P E.1 vwCl (wC E a1 mc1 n1 now1 lim1 (LF F1 lit1 fo1) ++ wS E b1 n1 now1 lim1 F1) _ := hP
            have hD : va_D A (wC E a1 mc1 n1 now1 lim1 (LF F1 lit1 fo1) ++ wS E b1 n1 now1 lim1 F1) := hD
            skip
            refine lv_iload hx hb dL_build_65 (lv_at hl 0 rfl) ?_
            refine lv_bipush (v := (nI 12)) hx hb dL_build_67 (by decide) ?_
            refine nq_icmp_ge (tgt := 102) hx hb dL_build_69 (by decide) (by omega) (by omega) (fun h69 => ?_) (fun h69 => ?_)
            · skip
              refine lv_aload_n hx hb dL_build_102 rfl (lv_at hl 2 rfl) ?_
              rw [hQ]
              refine W.widen (k := 4002) (n := 32003) (by omega) (by omega) ?_
              exact retB_r (E := E) (A0 := A) (u := ((a1, mc1, n1, now1, lim1, F1, lit1, fo1, b1) : STT)) hx hb hr hlocks hP hK hD hS ⟨hO, hlo, hhi, (by omega : now1 ≤ 4000), ha1, rfl, hz1⟩ rfl dL_build_103
            · skip
              refine lv_aload_n hx hb dL_build_72 rfl (lv_at hl 3 rfl) ?_
              refine lv_aload_n hx hb dL_build_73 rfl (lv_at hl 2 rfl) ?_
              refine lv_aload_n hx hb dL_build_74 rfl (lv_at hl 4 rfl) ?_
              refine lv_iload hx hb dL_build_75 (lv_at hl 0 rfl) ?_
              refine csX_i (rest := [.ref (b1 0), .ref (a1 0)]) (As := [.ref bs, .int (nI i)]) ⟨hx, hb, hml, hown, hts⟩ (c_L_cell l bs L xs i (by omega) (by omega)) (va_cwS 2 hts gL_build_L_cell rfl rfl rfl (by decide +kernel) ⟨Nat.le_of_ble_eq_true rfl, Nat.le_of_ble_eq_true rfl⟩) hX hbs hX.lt hS rfl hl.1 rfl (Nat.le_of_ble_eq_true rfl) dL_build_77 (by show (200 * (n9 + i) + 2) ≤ 4002; omega) (by show (1600 * (n9 + i) + 3) ≤ 32003; omega) (fun r77 _ => ?_)
              refine lv_iconst (v := (nI 2)) hx hb dL_build_80 (by decide) ?_
              refine lv_ishr hx hb dL_build_81 ?_
              refine lv_bipush (v := (nI 41)) hx hb dL_build_82 (by decide) ?_
              refine lv_iload hx hb dL_build_84 (lv_at hl 0 rfl) ?_
              refine nq_mul hx hb dL_build_86 ?_
              refine lv_iadd hx hb dL_build_87 ?_
              obtain ⟨x88, ex88⟩ : ∃ z9, z9 = ((r77 >>> ((nI 2) &&& 31)) + (nI (41 * i))) := ⟨_, rfl⟩
              refine nq_top ex88.symm ?_
              refine cmSZ_i (S := STT) (W1 := fun u => wU E u) (rest := []) (As := [.ref (a1 0), .ref (b1 0), .int x88]) ⟨hx, hb, hml, hown, hts⟩ (c_L_act l E _ z0 a1 mc1 n1 now1 lim1 F1 lit1 fo1 b1 hO hz1 (by omega) x88) (va_cwS 3 hts gL_build_L_act rfl rfl rfl (by decide +kernel) ⟨Nat.le_of_ble_eq_true rfl, Nat.le_of_ble_eq_true rfl⟩) hP hK hD hZ hS hA rfl hl.1 rfl (Nat.le_of_ble_eq_true rfl) dL_build_88 ⟨by show (200 * (n9 + i) + 2) + 200 ≤ 4002; omega, by show (1600 * (n9 + i) + 3) + 1600 ≤ 32003; omega⟩ (fun r88 u88 H locs hr88 hP hD hS => ?_)
              obtain ⟨hr88, hua, hub, huO, hunow, hun, hun1, hun2⟩ := hr88
              subst hr88
              refine bq_if_ne (tgt := 96) hx hb dL_build_91 (by decide) (fun h91 => ?_) (fun h91 => ?_)
              · skip
                have hl : lv_has ls 5 [(4, .int (nI i)), (3, .int (nI n9)), (2, .ref (b4 0)), (0, .ref (a 0)), (1, .ref bs)] := by rw [← ha1, ← hb1]; exact hl
                skip
                refine nq_inc (lv' := [(4, .int (nI (i + 1))), (3, .int (nI n9)), (2, .ref (b4 0)), (0, .ref (a 0)), (1, .ref bs)]) hx hb dL_build_96 (d := 1) rfl hl (k := 0) rfl (by decide) rfl (fun ls hl => ?_)
                refine lv_goto (tgt := 65) hx hb dL_build_99 (by decide) ?_
                refine W.widen (k := 200 * (n9 + (i + 1)) + 2) (n := 1600 * (n9 + (i + 1)) + 3) (by omega) (by omega) ?_
                exact ih65 (i + 1) u88 _ _ ls (by omega) (⟨huO, (by omega), huO.1, (by omega), hua.trans ha1, hub.trans hb1, fun h9 => absurd h9 (by omega)⟩) (by omega) hP hD hS (lv_sub hl [0, 1, 2, 3, 4] rfl)
              · skip
                exact absurd h91 (by decide)
        rw [show wC E a1 mc1 n1 now1 lim1 (LF F1 lit1 fo1) ++ wS E b1 n1 now1 lim1 F1 = wU E ((a1, mc1, n1, now1, lim1, F1, lit1, fo1, b1) : STT) from rfl] at hP hD
        refine W.widen (k := 200 * (n9 + 0) + 2) (n := 1600 * (n9 + 0) + 3) (by omega) (by omega) ?_
        exact loop65 ((12 - 0) + 1) 0 ((a1, mc1, n1, now1, lim1, F1, lit1, fo1, b1) : STT) _ _ ls (by omega) (⟨hO, (by show 2 ≤ n1; omega), (by show n1 ≤ 8; omega), (by show now1 ≤ 200 * (n9 + 0); omega), ha1, hb1, hz1⟩) (Nat.lt_succ_self _) hP hD hS (lv_sub hl [0, 1, 2, 3, 4] rfl)
      · skip
        refine lv_aload_n hx hb dL_build_30 rfl (lv_at hl 3 rfl) ?_
        refine lv_aload_n hx hb dL_build_31 rfl (lv_at hl 2 rfl) ?_
        refine lv_bipush (v := (nI 11)) hx hb dL_build_32 (by decide) ?_
        refine lv_aload_n hx hb dL_build_34 rfl (lv_at hl 4 rfl) ?_
        refine lv_iconst (v := (nI 1)) hx hb dL_build_35 (by decide) ?_
        refine lv_iload hx hb dL_build_36 (lv_at hl 0 rfl) ?_
        refine nq_add hx hb dL_build_38 ?_
        refine csX_i (rest := [.int (nI 11), .ref (b1 0), .ref (a1 0)]) (As := [.ref bs, .int (nI (1 + i))]) ⟨hx, hb, hml, hown, hts⟩ (c_L_cell l bs L xs (1 + i) (by omega) (by omega)) (va_cwS 2 hts gL_build_L_cell rfl rfl rfl (by decide +kernel) ⟨Nat.le_of_ble_eq_true rfl, Nat.le_of_ble_eq_true rfl⟩) hX hbs hX.lt hS rfl hl.1 rfl (Nat.le_of_ble_eq_true rfl) dL_build_39 (by show (200 * i + 2) ≤ 4002; omega) (by show (1600 * i + 3) ≤ 32003; omega) (fun r39 _ => ?_)
        refine lv_iconst (v := (nI 5)) hx hb dL_build_42 (by decide) ?_
        refine lv_ishr hx hb dL_build_43 ?_
        refine lv_ldc (v := nI 16777215) hx hb hown (show (Jvm.Cond.constant RL 58 (nI 16777215)).before args s = true from (hts (.constant RL 58 (16777215)) (List.mem_of_getElem? (i := 4) (by rfl)))) dL_build_44 ?_
        refine lv_iand hx hb dL_build_46 ?_
        refine lv_imul hx hb dL_build_47 ?_
        obtain ⟨x48, ex48⟩ : ∃ z9, z9 = ((nI 11) * ((r39 >>> ((nI 5) &&& 31)) &&& (nI 16777215))) := ⟨_, rfl⟩
        refine nq_top ex48.symm ?_
        refine cmSZ_i (S := STT) (W1 := fun u => wU E u) (rest := []) (As := [.ref (a1 0), .ref (b1 0), .int x48]) ⟨hx, hb, hml, hown, hts⟩ (c_L_act l E _ z0 a1 mc1 n1 now1 lim1 F1 lit1 fo1 b1 hO hz1 (by omega) x48) (va_cwS 3 hts gL_build_L_act rfl rfl rfl (by decide +kernel) ⟨Nat.le_of_ble_eq_true rfl, Nat.le_of_ble_eq_true rfl⟩) hP hK hD hZ hS hA rfl hl.1 rfl (Nat.le_of_ble_eq_true rfl) dL_build_48 ⟨by show (200 * i + 2) + 200 ≤ 4002; omega, by show (1600 * i + 3) + 1600 ≤ 32003; omega⟩ (fun r48 u48 H locs hr48 hP hD hS => ?_)
        obtain ⟨hr48, hua, hub, huO, hunow, hun, hun1, hun2⟩ := hr48
        subst hr48
        refine bq_if_ne (tgt := 56) hx hb dL_build_51 (by decide) (fun h51 => ?_) (fun h51 => ?_)
        · skip
          have hl : lv_has ls 5 [(4, .int (nI i)), (3, .int (nI n9)), (2, .ref (b4 0)), (0, .ref (a 0)), (1, .ref bs)] := by rw [← ha1, ← hb1]; exact hl
          skip
          refine nq_inc (lv' := [(4, .int (nI (i + 1))), (3, .int (nI n9)), (2, .ref (b4 0)), (0, .ref (a 0)), (1, .ref bs)]) hx hb dL_build_56 (d := 1) rfl hl (k := 0) rfl (by decide) rfl (fun ls hl => ?_)
          refine lv_goto (tgt := 24) hx hb dL_build_59 (by decide) ?_
          refine W.widen (k := 200 * (i + 1) + 2) (n := 1600 * (i + 1) + 3) (by omega) (by omega) ?_
          exact ih24 (i + 1) u48 _ _ ls (by omega) (⟨huO, (by rw [hun2 (by omega) (by rw [ex48]; exact bl_11 _)]; omega), (by rw [hun2 (by omega) (by rw [ex48]; exact bl_11 _)]; omega), (by omega), hua.trans ha1, hub.trans hb1, fun h9 => absurd h9 (by omega)⟩) (by omega) hP hD hS (lv_sub hl [0, 1, 2, 3, 4] rfl)
        · skip
          exact absurd h51 (by decide)
  rw [show wC E a mc 0 0 20 (LF F00 lit fo) ++ wS E b4 0 0 20 F00 = wU E ((a, mc, 0, 0, 20, F00, lit, fo, b4) : STT) from rfl] at hP hD
  refine W.widen (k := 200 * 0 + 2) (n := 1600 * 0 + 3) (by omega) (by omega) ?_
  exact loop24 ((n9 - 0) + 1) 0 ((a, mc, 0, 0, 20, F00, lit, fo, b4) : STT) _ _ ls (by omega) (⟨okS_0, Nat.le_refl _, Nat.le_refl _, Nat.le_refl _, rfl, rfl, fun _ => hz⟩) (Nat.lt_succ_self _) hP hD hS (lv_sub hl [0, 1, 2, 3, 4] rfl)

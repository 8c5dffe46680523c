/-! lamps by hand: one more lamp; none yet -/
set_option maxHeartbeats 4000000 in
set_option maxRecDepth 100000 in
/-- with(rows, the new row) -/
theorem c_X2_with (l : Launch) (E : GE) (sz : Nat) (z0 : Nat) (b : Nat → Nat) (n now lim : Nat) (F : LR) (hn9 : n ≤ 7) (h2 : Nat) (f2 : Nat → Int32) : Met l yX2_with wsX2_with ({ frames := 0, cells := 1, slots := 8, locals := 0 } : Room) (va_Pc [.ref (b 1), .ref h2] (pcZ E (wS E b n now lim F ++ [(h2, .inl (E.2.1, 7, .inl f2))]) sz z0)) (va_Qr (S := Unit) (fun _ => True) (fun _ aQ tQ => atM E (va_A (wS E b n now lim F ++ [(h2, .inl (E.2.1, 7, .inl f2))]) sz) ((fun r => (wS E b n now lim F ++ [(h2, .inl (E.2.1, 7, .inl f2))]) ++ [(r, .inl (E.2.2.2.2, n + 1, .inr (.inr (.inr (.inr (arS (va_up b (2 + n) h2) (n + 1)))))))]) aQ) tQ) (va_A (wS E b n now lim F ++ [(h2, .inl (E.2.1, 7, .inl f2))]) sz)) 1 8 (va_A (wS E b n now lim F ++ [(h2, .inl (E.2.1, 7, .inl f2))]) sz) := by
  refine metZ (by decide) rfl (Nat.le_of_ble_eq_true rfl) ?_
  intro p e s m args below meth c ls A hAe hA hx hb hr hml hts hown hlocks hin hP hK hD hZ hS hl
  rw [hAe]
  obtain ⟨QQ, hQ⟩ : ∃ zQ, zQ = MQ below (va_Qr (S := Unit) (fun _ => True) (fun _ aQ tQ => atM E A ((fun r => (wS E b n now lim F ++ [(h2, .inl (E.2.1, 7, .inl f2))]) ++ [(r, .inl (E.2.2.2.2, n + 1, .inr (.inr (.inr (.inr (arS (va_up b (2 + n) h2) (n + 1)))))))]) aQ) tQ) A) args s 1 8 A := ⟨_, rfl⟩
  rw [← hQ]
  refine lv_aload_n hx hb dX2_with_0 rfl (lv_at hl 0 rfl) ?_
  refine va_alen hx hb hK hP 1 3 (list_app wS_1) rfl (v := nI n) rfl dX2_with_1 ?_
  refine lv_iconst (v := (nI 1)) hx hb dX2_with_2 (by decide) ?_
  refine nq_add hx hb dX2_with_3 ?_
  refine nz_anew (N := n + 1) hx hb hown (hts (.classLink RX2 7 "[I") (List.mem_of_getElem? (i := 1) (by rfl))) hZ.2.2.2.2 hK hP hD hS hA (by omega) (by show 0 + 1 ≤ 1; omega) (by show 0 + (n + 1) ≤ 8; omega) dX2_with_4 (fun q4 H hP hD hS => ?_)
  rw [arS_0 b] at hP hD
  refine lv_astore_n (lv' := [(2, .ref q4), (0, .ref (b 1)), (1, .ref h2)]) hx hb dX2_with_7 rfl hl (by decide) rfl (fun ls hl => ?_)
  refine lv_iconst (v := (nI 0)) hx hb dX2_with_8 (by decide) ?_
  refine lv_istore_n (lv' := [(3, .int (nI 0)), (2, .ref q4), (0, .ref (b 1)), (1, .ref h2)]) hx hb dX2_with_9 rfl hl (by decide) rfl (fun ls hl => ?_)
  have loop10 : ∀ (tk : Nat) (i : Nat) (H : Heap) (locs : List Loc) (ls : Array Slot), (i ≤ n) → (n - i) < tk → va_P E.1 vwCl ((wS E b n now lim F ++ [(h2, .inl (E.2.1, 7, .inl f2))]) ++ [(q4, .inl (E.2.2.2.2, n + 1, .inr (.inr (.inr (.inr (arS b i))))))]) H → va_D A ((wS E b n now lim F ++ [(h2, .inl (E.2.1, 7, .inl f2))]) ++ [(q4, .inl (E.2.2.2.2, n + 1, .inr (.inr (.inr (.inr (arS b i))))))]) → va_S A s.heap H locs → lv_has ls 4 [(3, .int (nI i)), (2, .ref q4), (0, .ref (b 1)), (1, .ref h2)] → W p l e ({ frames := 0, cells := 1, slots := 8, locals := 0 } : Room) s m args below meth c H locs (0 + 1) (0 + (n + 1)) QQ (F0 m 10 ls []) := by
    intro tk
    induction tk with
    | zero => intro i H locs ls hi hk hP hD hS hl; exact absurd hk (Nat.not_lt_zero _)
    | succ tk ih10 =>
      intro i H locs ls hi hk hP hD hS hl
      refine lv_iload_n hx hb dX2_with_10 rfl (lv_at hl 0 rfl) ?_
      refine lv_aload_n hx hb dX2_with_11 rfl (lv_at hl 2 rfl) ?_
      refine va_alen hx hb hK hP 1 3 (list_app (list_app wS_1)) rfl (v := nI n) rfl dX2_with_12 ?_
      refine nq_icmp_ge (tgt := 28) hx hb dX2_with_13 (by decide) (by omega) (by omega) (fun h13 => ?_) (fun h13 => ?_)
      · skip
        rw [show i = n by omega] at hP hD
        skip
        refine lv_aload_n hx hb dX2_with_28 rfl (lv_at hl 1 rfl) ?_
        refine lv_aload_n hx hb dX2_with_29 rfl (lv_at hl 2 rfl) ?_
        refine va_alen hx hb hK hP 1 3 (list_app (list_app wS_1)) rfl (v := nI n) rfl dX2_with_30 ?_
        refine lv_aload_n hx hb dX2_with_31 rfl (lv_at hl 3 rfl) ?_
        refine nz_aast hx hb hZ.2.2.2.2 hK hP hD hS (3 + n) (2 + n) wS_f (list_app wS_e) (by exact vp_in_nI (by omega) (by omega)) dX2_with_32 (fun H locs hP hD hS => ?_)
        rw [wS_fs, arS_n b (by omega)] at hP hD
        refine lv_aload_n hx hb dX2_with_33 rfl (lv_at hl 1 rfl) ?_
        rw [hQ]
        refine W.widen (k := 1) (n := 8) (by omega) (by omega) ?_
        exact retM_r (E := E) (A0 := A) (v := q4) (W1 := fun r => (wS E b n now lim F ++ [(h2, .inl (E.2.1, 7, .inl f2))]) ++ [(r, .inl (E.2.2.2.2, n + 1, .inr (.inr (.inr (.inr (arS (va_up b (2 + n) h2) (n + 1)))))))]) hx hb hr hlocks hP hK hD hS dX2_with_34
      · skip
        refine lv_aload_n hx hb dX2_with_16 rfl (lv_at hl 1 rfl) ?_
        refine lv_iload_n hx hb dX2_with_17 rfl (lv_at hl 0 rfl) ?_
        refine lv_aload_n hx hb dX2_with_18 rfl (lv_at hl 2 rfl) ?_
        refine lv_iload_n hx hb dX2_with_19 rfl (lv_at hl 0 rfl) ?_
        refine nz_aald hx hb hK hP 1 (list_app (list_app wS_1)) (by exact vp_in_nI (by omega) (by omega)) dX2_with_20 ?_
        refine nq_topv (show va_rf ((arS b n) ((nI i)).toNatClampNeg) = .ref (b (2 + i)) from by rw [nI_clamp (by omega)]; exact congrArg va_rf (arS_at (by omega))) ?_
        refine nz_aast hx hb hZ.2.2.2.2 hK hP hD hS (3 + n) (2 + i) wS_f (list_app (list_app (wS_r (by omega)))) (by exact vp_in_nI (by omega) (by omega)) dX2_with_21 (fun H locs hP hD hS => ?_)
        rw [wS_fs, (arS_s b i).resolve_right (by omega)] at hP hD
        refine nq_inc (lv' := [(3, .int (nI (i + 1))), (2, .ref q4), (0, .ref (b 1)), (1, .ref h2)]) hx hb dX2_with_22 (d := 1) rfl hl (k := 0) rfl (by decide) rfl (fun ls hl => ?_)
        refine lv_goto (tgt := 10) hx hb dX2_with_25 (by decide) ?_
        exact ih10 (i + 1) _ _ ls (by omega) (by omega) hP hD hS (lv_sub hl [0, 1, 2, 3] rfl)
  exact loop10 ((n - 0) + 1) 0 _ _ ls (by omega) (Nat.lt_succ_self _) hP hD hS (lv_sub hl [0, 1, 2, 3] rfl)

set_option maxHeartbeats 4000000 in
set_option maxRecDepth 100000 in
/-- nothing hangs yet -/
theorem c_X2_init (l : Launch) (E : GE) (sz : Nat) (x z0 : Nat) : Met l yX2_init wsX2_init ({ frames := 1, cells := 1, slots := 0, locals := 20 } : Room) (va_Pc [.ref x] (pcZ E ([(x, .inr (3, [.null, .int 0, .int 0]))]) sz z0)) (va_Qv (S := Nat → Nat) (fun b => b 0 = x) (fun uQ tQ => atM E (va_A ([(x, .inr (3, [.null, .int 0, .int 0]))]) sz) ((fun b => wS E b 0 0 20 F00) uQ) tQ) (va_A ([(x, .inr (3, [.null, .int 0, .int 0]))]) sz)) 1 0 (va_A ([(x, .inr (3, [.null, .int 0, .int 0]))]) sz) := by
  refine metZ (by decide) rfl (Nat.le_of_ble_eq_true rfl) ?_
  intro p e s m args below meth c ls A hAe hA hx hb hr hml hts hown hlocks hin hP hK hD hZ hS hl
  rw [hAe]
  have hiX2 : ∀ q ∈ wsX20, q ∈ wsX2_init := by decide +kernel
  refine lv_aload_n hx hb dX2_init_0 rfl (lv_at hl 0 rfl) ?_
  refine W.objInit hx hb hown (hts (.methodLink RX2 1 objectInit) (List.mem_of_getElem? (i := 1) (by rfl))) (hts (.instanceMethod objectInit) (List.mem_of_getElem? (i := 2) (by rfl))) (hts _ (List.mem_of_getElem? (i := 3) (by rfl))) rfl (by rw [hml]; exact hl.1) rfl dX2_init_1 (Nat.le_of_ble_eq_true rfl) (Nat.le_of_ble_eq_true rfl) ?_
  refine W.eq (g2 := F0 m 4 ls ([])) rfl ?_
  refine lv_aload_n hx hb dX2_init_4 rfl (lv_at hl 0 rfl) ?_
  refine lv_iconst (v := (nI 0)) hx hb dX2_init_5 (by decide) ?_
  refine nz_anew (N := 0) hx hb hown (hts (.classLink RX2 7 "[I") (List.mem_of_getElem? (i := 4) (by rfl))) hZ.2.2.2.2 hK hP hD hS hA (by omega) (by show 0 + 1 ≤ 1; omega) (by show 0 + (0) ≤ 0; omega) dX2_init_6 (fun q6 H hP hD hS => ?_)
  have hP : va_P E.1 vwCl ([(x, .inr (3, [.null, .int 0, .int 0]))] ++ [(q6, .inl (E.2.2.2.2, 0, .inr (.inr (.inr (.inr (fun _ => none))))))]) H := hP
  have hD : va_D A ([(x, .inr (3, [.null, .int 0, .int 0]))] ++ [(q6, .inl (E.2.2.2.2, 0, .inr (.inr (.inr (.inr (fun _ => none))))))]) := hD
  refine va_put (D := E.1) (ci := 3) (v := .ref q6) (ty := (.array (.array .int))) (C := RX2) (T := TX2) (N := 3) hx hb hts hiX2 tyX2 tyX2_ok nmX2 hown hK hP hD hS 0 rfl rfl 0 (by decide) (hts (.fieldLink RX2 9 "PulseLoomLaw$Sim" "lamps" "[[I") (List.mem_of_getElem? (i := 5) (by rfl))) (fun _ h9 => h9) rfl (by decide +kernel) rfl (by rfl) (Nat.le_of_ble_eq_true rfl) dX2_init_9 (fun H locs hP hD hS => ?_)
  have hP : va_P E.1 vwCl ([(x, .inr (3, [.ref q6, .int 0, .int 0]))] ++ [(q6, .inl (E.2.2.2.2, 0, .inr (.inr (.inr (.inr (fun _ => none))))))]) H := hP
  have hD : va_D A ([(x, .inr (3, [.ref q6, .int 0, .int 0]))] ++ [(q6, .inl (E.2.2.2.2, 0, .inr (.inr (.inr (.inr (fun _ => none))))))]) := hD
  refine lv_aload_n hx hb dX2_init_12 rfl (lv_at hl 0 rfl) ?_
  refine lv_bipush (v := (nI 20)) hx hb dX2_init_13 (by decide) ?_
  refine va_put (D := E.1) (ci := 3) (v := .int (nI 20)) (ty := .int) (C := RX2) (T := TX2) (N := 3) hx hb hts hiX2 tyX2 tyX2_ok nmX2 hown hK hP hD hS 0 rfl rfl 1 (by decide) (hts (.fieldLink RX2 15 "PulseLoomLaw$Sim" "limit" "I") (List.mem_of_getElem? (i := 6) (by rfl))) (fun _ h9 => h9) rfl (by decide +kernel) rfl (by rfl) (Nat.le_of_ble_eq_true rfl) dX2_init_15 (fun H locs hP hD hS => ?_)
  have hP : va_P E.1 vwCl ([(x, .inr (3, [.ref q6, .int (nI 20), .int 0]))] ++ [(q6, .inl (E.2.2.2.2, 0, .inr (.inr (.inr (.inr (fun _ => none))))))]) H := hP
  have hD : va_D A ([(x, .inr (3, [.ref q6, .int (nI 20), .int 0]))] ++ [(q6, .inl (E.2.2.2.2, 0, .inr (.inr (.inr (.inr (fun _ => none))))))]) := hD
  rw [arS_0 (fun j => if j = 0 then x else q6)] at hP hD
  have hP : va_P E.1 vwCl (wS E (fun j => if j = 0 then x else q6) 0 0 20 F00) H := hP
  have hD : va_D A (wS E (fun j => if j = 0 then x else q6) 0 0 20 F00) := hD
  skip
  exact retM_v (E := E) (A0 := A) (post := fun b => b 0 = x) (u := (fun j => if j = 0 then x else q6)) (W1 := fun b => wS E b 0 0 20 F00) hx hb hr hlocks hP hK hD hS (rfl) dX2_init_18

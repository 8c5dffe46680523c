/-! the reference looks ahead, and comes back -/

set_option maxHeartbeats 4000000 in
set_option maxRecDepth 100000 in
/-- most(k, False) -/
theorem c_X2_most_f (l : Launch) (E : GE) (sz : Nat) (b : Nat → Nat) (th : Int32) (n lim t : Nat) (F : LR) (kp : Nat → Int32) (hO : OkS n t lim F) (k : Nat) (hk9 : t + k ≤ 100000000) : Met l yX2_most wsX2_most ({ frames := 3, cells := 0, slots := 0, locals := 66 } : Room) (va_Pc [.ref (b 0), .int (nI k), .int (bI false)] (pcM E (wM E b th n lim F (NW t F) kp) sz)) (va_Qi (S := Unit) (fun r _ => r = nI (mxA F lim t n k)) (fun uQ tQ => atM E (va_A (wM E b th n lim F (NW t F) kp) sz) ((fun _ => wM E b th n lim F (NW t F) (va_cpy (NW t F) kp 0 0 17)) uQ) tQ) (va_A (wM E b th n lim F (NW t F) kp) sz)) 0 0 (va_A (wM E b th n lim F (NW t F) kp) sz) := by
  refine metM (by decide) rfl (Nat.le_of_ble_eq_true rfl) ?_
  intro p e s m args below meth c ls A hAe hA hx hb hr hml hts hown hlocks hin hP hK hD hS hl
  rw [hAe]
  have hiX2 : ∀ q ∈ wsX20, q ∈ wsX2_most := by decide +kernel
  obtain ⟨QQ, hQ⟩ : ∃ zQ, zQ = MQ below (va_Qi (S := Unit) (fun r _ => r = nI (mxA F lim t n k)) (fun uQ tQ => atM E A ((fun _ => wM E b th n lim F (NW t F) (va_cpy (NW t F) kp 0 0 17)) uQ) tQ) A) args s 0 0 A := ⟨_, rfl⟩
  rw [← hQ]
  obtain ⟨hO1, hO2, hO3, hO4, hO5⟩ := id hO
  refine lv_aload_n hx hb dX2_most_0 rfl (lv_at hl 0 rfl) ?_
  refine cmV_v (rest := []) (As := []) ⟨hx, hb, hml, hown, hts⟩ (c_X2_keep l E _ b th n lim t F kp) (cwV 0 hts gX2_most_X2_keep rfl rfl rfl (by decide +kernel) ⟨Nat.le_of_ble_eq_true rfl, Nat.le_of_ble_eq_true rfl⟩) (va_recv hK hP (ci := 3) (q0 := 0) rfl rfl) hP hK hD hS hA rfl hl.1 rfl (Nat.le_of_ble_eq_true rfl) dX2_most_1 ⟨Nat.le_of_ble_eq_true rfl, Nat.le_of_ble_eq_true rfl⟩ (fun u1 H locs hr1 hP hD hS => ?_)
  refine lv_aload_n hx hb dX2_most_4 rfl (lv_at hl 0 rfl) ?_
  refine va_get (D := E.1) (ci := 3) (v := .int (nI lim)) (C := RX2) (T := TX2) (N := 10) hx hb hts hiX2 hown hK hP 0 rfl rfl 2 (by decide) (hts (.fieldLink RX2 9 "PulseLoomModel" "limit" "I") (List.mem_of_getElem? (i := 1) (by rfl))) (fun _ h9 => h9) rfl dX2_most_5 ?_
  refine lv_istore_n (lv' := [(3, .int (nI lim)), (0, .ref (b 0)), (1, .int (nI k)), (2, .int (bI false))]) hx hb dX2_most_8 rfl hl (by decide) rfl (fun ls hl => ?_)
  refine lv_iload_n hx hb dX2_most_9 rfl (lv_at hl 3 rfl) ?_
  refine bq_if_eq (tgt := 19) hx hb dX2_most_10 (by decide) (fun h10 => ?_) (fun h10 => ?_)
  · skip
    refine lv_iconst (v := (nI 0)) hx hb dX2_most_19 (by decide) ?_
    refine lv_istore (lv' := [(4, .int (nI 0)), (3, .int (nI lim)), (0, .ref (b 0)), (1, .int (nI k)), (2, .int (bI false))]) hx hb dX2_most_20 hl (by decide) rfl (fun ls hl => ?_)
    refine lv_iconst (v := (nI 0)) hx hb dX2_most_22 (by decide) ?_
    refine lv_istore (lv' := [(5, .int (nI 0)), (4, .int (nI 0)), (3, .int (nI lim)), (0, .ref (b 0)), (1, .int (nI k)), (2, .int (bI false))]) hx hb dX2_most_23 hl (by decide) rfl (fun ls hl => ?_)
    have loop25 : ∀ (tk : Nat) (i : Nat) (H : Heap) (locs : List Loc) (ls : Array Slot), (i ≤ k) → (k - i) < tk → va_P E.1 vwCl (wM E b th n lim F (NW (t + i) F) (va_cpy (NW t F) kp 0 0 17)) H → va_D A (wM E b th n lim F (NW (t + i) F) (va_cpy (NW t F) kp 0 0 17)) → va_S A s.heap H locs → lv_has ls 6 [(0, .ref (b 0)), (1, .int (nI k)), (2, .int (bI false)), (3, .int (nI lim)), (4, .int (nI (mxA F lim t n i))), (5, .int (nI i))] → W p l e ({ frames := 3, cells := 0, slots := 0, locals := 66 } : Room) s m args below meth c H locs 0 0 QQ (F0 m 25 ls []) := by
      intro tk
      induction tk with
      | zero => intro i H locs ls hi hk hP hD hS hl; exact absurd hk (Nat.not_lt_zero _)
      | succ tk ih25 =>
        intro i H locs ls hi hk hP hD hS hl
        have hOi : OkS n (t + i) lim F := OkS_mono hO (by omega) (by omega)
        have hmx := mxA_le hO lim t i
        have hac := acS_le hO lim (t + i) n (Nat.le_refl _)
        refine lv_iload hx hb dX2_most_25 (lv_at hl 5 rfl) ?_
        refine lv_iload_n hx hb dX2_most_27 rfl (lv_at hl 1 rfl) ?_
        refine nq_icmp_ge (tgt := 62) hx hb dX2_most_28 (by decide) (by omega) (by omega) (fun h28 => ?_) (fun h28 => ?_)
        · skip
          refine lv_aload_n hx hb dX2_most_62 rfl (lv_at hl 0 rfl) ?_
          refine lv_iload_n hx hb dX2_most_63 rfl (lv_at hl 3 rfl) ?_
          refine va_put (D := E.1) (ci := 3) (v := .int (nI lim)) (ty := .int) (C := RX2) (T := TX2) (N := 10) hx hb hts hiX2 tyX2 tyX2_ok nmX2 hown hK hP hD hS 0 rfl rfl 2 (by decide) (hts (.fieldLink RX2 9 "PulseLoomModel" "limit" "I") (List.mem_of_getElem? (i := 1) (by rfl))) (fun _ h9 => h9) rfl (by decide +kernel) rfl (by rfl) (Nat.le_of_ble_eq_true rfl) dX2_most_64 (fun H locs hP hD hS => ?_)
          have hP : va_P E.1 vwCl (wM E b th n lim F (NW (t + i) F) (va_cpy (NW t F) kp 0 0 17)) H := hP
          have hD : va_D A (wM E b th n lim F (NW (t + i) F) (va_cpy (NW t F) kp 0 0 17)) := hD
          refine lv_aload_n hx hb dX2_most_67 rfl (lv_at hl 0 rfl) ?_
          refine cmV_v (rest := []) (As := []) ⟨hx, hb, hml, hown, hts⟩ (c_X2_bringBack l E _ b th n lim F (NW (t + i) F) (va_cpy (NW t F) kp 0 0 17)) (cwV 0 hts gX2_most_X2_bringBack rfl rfl rfl (by decide +kernel) ⟨Nat.le_of_ble_eq_true rfl, Nat.le_of_ble_eq_true rfl⟩) (va_recv hK hP (ci := 3) (q0 := 0) rfl rfl) hP hK hD hS hA rfl hl.1 rfl (Nat.le_of_ble_eq_true rfl) dX2_most_68 ⟨Nat.le_of_ble_eq_true rfl, Nat.le_of_ble_eq_true rfl⟩ (fun u68 H locs hr68 hP hD hS => ?_)
          rw [cpy_back (fun _ _ => rfl)] at hP hD
          refine lv_iload hx hb dX2_most_71 (lv_at hl 4 rfl) ?_
          rw [hQ]
          exact retM_i (E := E) (A0 := A) (v := (nI (mxA F lim t n i))) (post := fun r _ => r = nI (mxA F lim t n k)) (u := ()) (W1 := fun _ => wM E b th n lim F (NW t F) (va_cpy (NW t F) kp 0 0 17)) hx hb hr hlocks hP hK hD hS (congrArg nI (by rw [show i = k by omega])) dX2_most_73
        · skip
          refine lv_iload hx hb dX2_most_31 (lv_at hl 4 rfl) ?_
          refine lv_aload_n hx hb dX2_most_33 rfl (lv_at hl 0 rfl) ?_
          refine lv_aload_n hx hb dX2_most_34 rfl (lv_at hl 0 rfl) ?_
          refine csV_i (rest := [.ref (b 0), .int (nI (mxA F lim t n i))]) (As := []) ⟨hx, hb, hml, hown, hts⟩ (c_X2_shining l E _ b n lim (t + i) F (t + i) MV_self hOi (Nat.le_refl _)) (cwV 0 hts gX2_most_X2_shining rfl rfl rfl (by decide +kernel) ⟨Nat.le_of_ble_eq_true rfl, Nat.le_of_ble_eq_true rfl⟩) (va_recv hK hP (ci := 3) (q0 := 0) rfl rfl) hP hK rfl hl.1 rfl (Nat.le_of_ble_eq_true rfl) dX2_most_35 (Nat.le_of_ble_eq_true rfl) (Nat.le_of_ble_eq_true rfl) (fun r35 hr35 => ?_)
          subst hr35
          refine csV_i (rest := [.int (nI (mxA F lim t n i))]) (As := [.int (nI (shN F lim (t + i) n))]) ⟨hx, hb, hml, hown, hts⟩ (c_X2_powerOf l E _ b n lim (t + i) F (t + i) MV_self hOi (Nat.le_refl _)) (cwV 1 hts gX2_most_X2_powerOf rfl rfl rfl (by decide +kernel) ⟨Nat.le_of_ble_eq_true rfl, Nat.le_of_ble_eq_true rfl⟩) (va_recv hK hP (ci := 3) (q0 := 0) rfl rfl) hP hK rfl hl.1 rfl (Nat.le_of_ble_eq_true rfl) dX2_most_38 (Nat.le_of_ble_eq_true rfl) (Nat.le_of_ble_eq_true rfl) (fun r38 hr38 => ?_)
          subst hr38
          refine va_mmax hx hb (hml.trans hl.1.symm) hown (hts (.methodLink RX2 99 Lib.Math.max.name) (List.mem_of_getElem? (i := 2) (by rfl))) (hts (.static Lib.Math.max.name) (List.mem_of_getElem? (i := 3) (by rfl))) (hts (.initialized "java/lang/Math") (List.mem_of_getElem? (i := 4) (by rfl))) (hts (.code Lib.Math.max.name Lib.Math.max.code 2 (some .int)) (List.mem_of_getElem? (i := 5) (by rfl))) (Nat.le_of_ble_eq_true rfl) (Nat.le_of_ble_eq_true rfl) (Nat.le_of_ble_eq_true rfl) (Nat.le_of_ble_eq_true rfl) dX2_most_41 ?_
          refine nq_top (show (if (nI (mxA F lim t n i)) < (nI (acS F lim (t + i) n)) then (nI (acS F lim (t + i) n)) else (nI (mxA F lim t n i))) = (nI (max (mxA F lim t n i) (acS F lim (t + i) n))) from nmax (by omega) (by omega)) ?_
          refine lv_istore (lv' := [(4, .int (nI (max (mxA F lim t n i) (acS F lim (t + i) n)))), (0, .ref (b 0)), (1, .int (nI k)), (2, .int (bI false)), (3, .int (nI lim)), (5, .int (nI i))]) hx hb dX2_most_44 hl (by decide) rfl (fun ls hl => ?_)
          refine lv_aload_n hx hb dX2_most_46 rfl (lv_at hl 1 rfl) ?_
          refine va_get (D := E.1) (ci := 3) (v := .ref (b 6)) (C := RX2) (T := TX2) (N := 10) hx hb hts hiX2 hown hK hP 0 rfl rfl 8 (by decide) (hts (.fieldLink RX2 29 "PulseLoomModel" "now" "[I") (List.mem_of_getElem? (i := 6) (by rfl))) (fun _ h9 => h9) rfl dX2_most_47 ?_
          refine lv_iconst (v := (nI 0)) hx hb dX2_most_50 (by decide) ?_
          refine lv_dup2_11 hx hb dX2_most_51 rfl rfl ?_
          refine va_iald hx hb hK hP 6 0 rfl rfl (by exact vp_in_nI (by omega) (by omega)) dX2_most_52 ?_
          refine nq_top (show (NW (t + i) F (((nI 0)).toNatClampNeg)) = (nI (t + i)) from by rw [nI_clamp (by omega)]; rfl) ?_
          refine lv_iconst (v := (nI 1)) hx hb dX2_most_53 (by decide) ?_
          refine nq_add hx hb dX2_most_54 ?_
          refine va_iast hx hb hK hP hD hS 6 0 rfl rfl (by exact vp_in_nI (by omega) (by omega)) dX2_most_55 (fun H locs hP hD hS => ?_)
          have hP : va_P E.1 vwCl (wM E b th n lim F (upd (NW (t + i) F) (((nI 0)).toNatClampNeg) ((nI ((t + i) + 1)))) (va_cpy (NW t F) kp 0 0 17)) H := hP
          have hD : va_D A (wM E b th n lim F (upd (NW (t + i) F) (((nI 0)).toNatClampNeg) ((nI ((t + i) + 1)))) (va_cpy (NW t F) kp 0 0 17)) := hD
          rw [NW_up0] at hP hD
          refine nq_inc (lv' := [(5, .int (nI (i + 1))), (4, .int (nI (max (mxA F lim t n i) (acS F lim (t + i) n)))), (0, .ref (b 0)), (1, .int (nI k)), (2, .int (bI false)), (3, .int (nI lim))]) hx hb dX2_most_56 (d := 1) rfl hl (k := 5) rfl (by decide) rfl (fun ls hl => ?_)
          refine lv_goto (tgt := 25) hx hb dX2_most_59 (by decide) ?_
          have hl : lv_has ls 6 [(5, .int (nI (i + 1))), (4, .int (nI (mxA F lim t n (i + 1)))), (0, .ref (b 0)), (1, .int (nI k)), (2, .int (bI false)), (3, .int (nI lim))] := lv_rep hl 1 rfl (congrArg Value.int (show (nI (max (mxA F lim t n i) (acS F lim (t + i) n))) = (nI (mxA F lim t n (i + 1))) from rfl))
          rw [show wM E b th n lim F (NW (t + i + 1) F) (va_cpy (NW t F) kp 0 0 17) = wM E b th n lim F (NW (t + (i + 1)) F) (va_cpy (NW t F) kp 0 0 17) from rfl] at hP hD
          exact ih25 (i + 1) _ _ ls (by omega) (by omega) hP hD hS (lv_sub hl [2, 3, 4, 5, 1, 0] rfl)
    have hl : lv_has ls 6 [(5, .int (nI 0)), (4, .int (nI (mxA F lim t n 0))), (3, .int (nI lim)), (0, .ref (b 0)), (1, .int (nI k)), (2, .int (bI false))] := lv_rep hl 1 rfl (congrArg Value.int (show (nI 0) = (nI (mxA F lim t n 0)) from rfl))
    rw [show wM E b th n lim F (NW t F) (va_cpy (NW t F) kp 0 0 17) = wM E b th n lim F (NW (t + 0) F) (va_cpy (NW t F) kp 0 0 17) from rfl] at hP hD
    exact loop25 ((k - 0) + 1) 0 _ _ ls (by omega) (Nat.lt_succ_self _) hP hD hS (lv_sub hl [3, 4, 5, 2, 1, 0] rfl)
  · skip
    exact absurd h10 (by decide)

set_option maxHeartbeats 4000000 in
set_option maxRecDepth 100000 in
/-- most(k, True) -/
theorem c_X2_most_t (l : Launch) (E : GE) (sz : Nat) (b : Nat → Nat) (th : Int32) (n lim t : Nat) (F : LR) (kp : Nat → Int32) (hO : OkS n t lim F) (k : Nat) (hk9 : t + k ≤ 100000000) : Met l yX2_most wsX2_most ({ frames := 3, cells := 0, slots := 0, locals := 66 } : Room) (va_Pc [.ref (b 0), .int (nI k), .int (bI true)] (pcM E (wM E b th n lim F (NW t F) kp) sz)) (va_Qi (S := Unit) (fun r _ => r = nI (mxA F 99 t n k)) (fun uQ tQ => atM E (va_A (wM E b th n lim F (NW t F) kp) sz) ((fun _ => wM E b th n lim F (NW t F) (va_cpy (NW t F) kp 0 0 17)) uQ) tQ) (va_A (wM E b th n lim F (NW t F) kp) sz)) 0 0 (va_A (wM E b th n lim F (NW t F) kp) sz) := by
  refine metM (by decide) rfl (Nat.le_of_ble_eq_true rfl) ?_
  intro p e s m args below meth c ls A hAe hA hx hb hr hml hts hown hlocks hin hP hK hD hS hl
  rw [hAe]
  have hiX2 : ∀ q ∈ wsX20, q ∈ wsX2_most := by decide +kernel
  obtain ⟨QQ, hQ⟩ : ∃ zQ, zQ = MQ below (va_Qi (S := Unit) (fun r _ => r = nI (mxA F 99 t n k)) (fun uQ tQ => atM E A ((fun _ => wM E b th n lim F (NW t F) (va_cpy (NW t F) kp 0 0 17)) uQ) tQ) A) args s 0 0 A := ⟨_, rfl⟩
  rw [← hQ]
  obtain ⟨hO1, hO2, hO3, hO4, hO5⟩ := id hO
  refine lv_aload_n hx hb dX2_most_0 rfl (lv_at hl 0 rfl) ?_
  refine cmV_v (rest := []) (As := []) ⟨hx, hb, hml, hown, hts⟩ (c_X2_keep l E _ b th n lim t F kp) (cwV 0 hts gX2_most_X2_keep rfl rfl rfl (by decide +kernel) ⟨Nat.le_of_ble_eq_true rfl, Nat.le_of_ble_eq_true rfl⟩) (va_recv hK hP (ci := 3) (q0 := 0) rfl rfl) hP hK hD hS hA rfl hl.1 rfl (Nat.le_of_ble_eq_true rfl) dX2_most_1 ⟨Nat.le_of_ble_eq_true rfl, Nat.le_of_ble_eq_true rfl⟩ (fun u1 H locs hr1 hP hD hS => ?_)
  refine lv_aload_n hx hb dX2_most_4 rfl (lv_at hl 0 rfl) ?_
  refine va_get (D := E.1) (ci := 3) (v := .int (nI lim)) (C := RX2) (T := TX2) (N := 10) hx hb hts hiX2 hown hK hP 0 rfl rfl 2 (by decide) (hts (.fieldLink RX2 9 "PulseLoomModel" "limit" "I") (List.mem_of_getElem? (i := 1) (by rfl))) (fun _ h9 => h9) rfl dX2_most_5 ?_
  refine lv_istore_n (lv' := [(3, .int (nI lim)), (0, .ref (b 0)), (1, .int (nI k)), (2, .int (bI true))]) hx hb dX2_most_8 rfl hl (by decide) rfl (fun ls hl => ?_)
  refine lv_iload_n hx hb dX2_most_9 rfl (lv_at hl 3 rfl) ?_
  refine bq_if_eq (tgt := 19) hx hb dX2_most_10 (by decide) (fun h10 => ?_) (fun h10 => ?_)
  · skip
    exact absurd h10 (by decide)
  · skip
    refine lv_aload_n hx hb dX2_most_13 rfl (lv_at hl 1 rfl) ?_
    refine lv_bipush (v := (nI 99)) hx hb dX2_most_14 (by decide) ?_
    refine va_put (D := E.1) (ci := 3) (v := .int (nI 99)) (ty := .int) (C := RX2) (T := TX2) (N := 10) hx hb hts hiX2 tyX2 tyX2_ok nmX2 hown hK hP hD hS 0 rfl rfl 2 (by decide) (hts (.fieldLink RX2 9 "PulseLoomModel" "limit" "I") (List.mem_of_getElem? (i := 1) (by rfl))) (fun _ h9 => h9) rfl (by decide +kernel) rfl (by rfl) (Nat.le_of_ble_eq_true rfl) dX2_most_16 (fun H locs hP hD hS => ?_)
    have hP : va_P E.1 vwCl (wM E b th n 99 F (NW t F) (va_cpy (NW t F) kp 0 0 17)) H := hP
    have hD : va_D A (wM E b th n 99 F (NW t F) (va_cpy (NW t F) kp 0 0 17)) := hD
    refine lv_iconst (v := (nI 0)) hx hb dX2_most_19 (by decide) ?_
    refine lv_istore (lv' := [(4, .int (nI 0)), (3, .int (nI lim)), (0, .ref (b 0)), (1, .int (nI k)), (2, .int (bI true))]) hx hb dX2_most_20 hl (by decide) rfl (fun ls hl => ?_)
    refine lv_iconst (v := (nI 0)) hx hb dX2_most_22 (by decide) ?_
    refine lv_istore (lv' := [(5, .int (nI 0)), (4, .int (nI 0)), (3, .int (nI lim)), (0, .ref (b 0)), (1, .int (nI k)), (2, .int (bI true))]) hx hb dX2_most_23 hl (by decide) rfl (fun ls hl => ?_)
    have loop25 : ∀ (tk : Nat) (i : Nat) (H : Heap) (locs : List Loc) (ls : Array Slot), (i ≤ k) → (k - i) < tk → va_P E.1 vwCl (wM E b th n 99 F (NW (t + i) F) (va_cpy (NW t F) kp 0 0 17)) H → va_D A (wM E b th n 99 F (NW (t + i) F) (va_cpy (NW t F) kp 0 0 17)) → va_S A s.heap H locs → lv_has ls 6 [(0, .ref (b 0)), (1, .int (nI k)), (2, .int (bI true)), (3, .int (nI lim)), (4, .int (nI (mxA F 99 t n i))), (5, .int (nI i))] → W p l e ({ frames := 3, cells := 0, slots := 0, locals := 66 } : Room) s m args below meth c H locs 0 0 QQ (F0 m 25 ls []) := by
      intro tk
      induction tk with
      | zero => intro i H locs ls hi hk hP hD hS hl; exact absurd hk (Nat.not_lt_zero _)
      | succ tk ih25 =>
        intro i H locs ls hi hk hP hD hS hl
        have hOi : OkS n (t + i) 99 F := OkS_lim (OkS_mono hO (by omega) (by omega)) (by omega)
        have hmx := mxA_le hO 99 t i
        have hac := acS_le hO 99 (t + i) n (Nat.le_refl _)
        refine lv_iload hx hb dX2_most_25 (lv_at hl 5 rfl) ?_
        refine lv_iload_n hx hb dX2_most_27 rfl (lv_at hl 1 rfl) ?_
        refine nq_icmp_ge (tgt := 62) hx hb dX2_most_28 (by decide) (by omega) (by omega) (fun h28 => ?_) (fun h28 => ?_)
        · skip
          refine lv_aload_n hx hb dX2_most_62 rfl (lv_at hl 0 rfl) ?_
          refine lv_iload_n hx hb dX2_most_63 rfl (lv_at hl 3 rfl) ?_
          refine va_put (D := E.1) (ci := 3) (v := .int (nI lim)) (ty := .int) (C := RX2) (T := TX2) (N := 10) hx hb hts hiX2 tyX2 tyX2_ok nmX2 hown hK hP hD hS 0 rfl rfl 2 (by decide) (hts (.fieldLink RX2 9 "PulseLoomModel" "limit" "I") (List.mem_of_getElem? (i := 1) (by rfl))) (fun _ h9 => h9) rfl (by decide +kernel) rfl (by rfl) (Nat.le_of_ble_eq_true rfl) dX2_most_64 (fun H locs hP hD hS => ?_)
          have hP : va_P E.1 vwCl (wM E b th n lim F (NW (t + i) F) (va_cpy (NW t F) kp 0 0 17)) H := hP
          have hD : va_D A (wM E b th n lim F (NW (t + i) F) (va_cpy (NW t F) kp 0 0 17)) := hD
          refine lv_aload_n hx hb dX2_most_67 rfl (lv_at hl 0 rfl) ?_
          refine cmV_v (rest := []) (As := []) ⟨hx, hb, hml, hown, hts⟩ (c_X2_bringBack l E _ b th n lim F (NW (t + i) F) (va_cpy (NW t F) kp 0 0 17)) (cwV 0 hts gX2_most_X2_bringBack rfl rfl rfl (by decide +kernel) ⟨Nat.le_of_ble_eq_true rfl, Nat.le_of_ble_eq_true rfl⟩) (va_recv hK hP (ci := 3) (q0 := 0) rfl rfl) hP hK hD hS hA rfl hl.1 rfl (Nat.le_of_ble_eq_true rfl) dX2_most_68 ⟨Nat.le_of_ble_eq_true rfl, Nat.le_of_ble_eq_true rfl⟩ (fun u68 H locs hr68 hP hD hS => ?_)
          rw [cpy_back (fun _ _ => rfl)] at hP hD
          refine lv_iload hx hb dX2_most_71 (lv_at hl 4 rfl) ?_
          rw [hQ]
          exact retM_i (E := E) (A0 := A) (v := (nI (mxA F 99 t n i))) (post := fun r _ => r = nI (mxA F 99 t n k)) (u := ()) (W1 := fun _ => wM E b th n lim F (NW t F) (va_cpy (NW t F) kp 0 0 17)) hx hb hr hlocks hP hK hD hS (congrArg nI (by rw [show i = k by omega])) dX2_most_73
        · skip
          refine lv_iload hx hb dX2_most_31 (lv_at hl 4 rfl) ?_
          refine lv_aload_n hx hb dX2_most_33 rfl (lv_at hl 0 rfl) ?_
          refine lv_aload_n hx hb dX2_most_34 rfl (lv_at hl 0 rfl) ?_
          refine csV_i (rest := [.ref (b 0), .int (nI (mxA F 99 t n i))]) (As := []) ⟨hx, hb, hml, hown, hts⟩ (c_X2_shining l E _ b n 99 (t + i) F (t + i) MV_self hOi (Nat.le_refl _)) (cwV 0 hts gX2_most_X2_shining rfl rfl rfl (by decide +kernel) ⟨Nat.le_of_ble_eq_true rfl, Nat.le_of_ble_eq_true rfl⟩) (va_recv hK hP (ci := 3) (q0 := 0) rfl rfl) hP hK rfl hl.1 rfl (Nat.le_of_ble_eq_true rfl) dX2_most_35 (Nat.le_of_ble_eq_true rfl) (Nat.le_of_ble_eq_true rfl) (fun r35 hr35 => ?_)
          subst hr35
          refine csV_i (rest := [.int (nI (mxA F 99 t n i))]) (As := [.int (nI (shN F 99 (t + i) n))]) ⟨hx, hb, hml, hown, hts⟩ (c_X2_powerOf l E _ b n 99 (t + i) F (t + i) MV_self hOi (Nat.le_refl _)) (cwV 1 hts gX2_most_X2_powerOf rfl rfl rfl (by decide +kernel) ⟨Nat.le_of_ble_eq_true rfl, Nat.le_of_ble_eq_true rfl⟩) (va_recv hK hP (ci := 3) (q0 := 0) rfl rfl) hP hK rfl hl.1 rfl (Nat.le_of_ble_eq_true rfl) dX2_most_38 (Nat.le_of_ble_eq_true rfl) (Nat.le_of_ble_eq_true rfl) (fun r38 hr38 => ?_)
          subst hr38
          refine va_mmax hx hb (hml.trans hl.1.symm) hown (hts (.methodLink RX2 99 Lib.Math.max.name) (List.mem_of_getElem? (i := 2) (by rfl))) (hts (.static Lib.Math.max.name) (List.mem_of_getElem? (i := 3) (by rfl))) (hts (.initialized "java/lang/Math") (List.mem_of_getElem? (i := 4) (by rfl))) (hts (.code Lib.Math.max.name Lib.Math.max.code 2 (some .int)) (List.mem_of_getElem? (i := 5) (by rfl))) (Nat.le_of_ble_eq_true rfl) (Nat.le_of_ble_eq_true rfl) (Nat.le_of_ble_eq_true rfl) (Nat.le_of_ble_eq_true rfl) dX2_most_41 ?_
          refine nq_top (show (if (nI (mxA F 99 t n i)) < (nI (acS F 99 (t + i) n)) then (nI (acS F 99 (t + i) n)) else (nI (mxA F 99 t n i))) = (nI (max (mxA F 99 t n i) (acS F 99 (t + i) n))) from nmax (by omega) (by omega)) ?_
          refine lv_istore (lv' := [(4, .int (nI (max (mxA F 99 t n i) (acS F 99 (t + i) n)))), (0, .ref (b 0)), (1, .int (nI k)), (2, .int (bI true)), (3, .int (nI lim)), (5, .int (nI i))]) hx hb dX2_most_44 hl (by decide) rfl (fun ls hl => ?_)
          refine lv_aload_n hx hb dX2_most_46 rfl (lv_at hl 1 rfl) ?_
          refine va_get (D := E.1) (ci := 3) (v := .ref (b 6)) (C := RX2) (T := TX2) (N := 10) hx hb hts hiX2 hown hK hP 0 rfl rfl 8 (by decide) (hts (.fieldLink RX2 29 "PulseLoomModel" "now" "[I") (List.mem_of_getElem? (i := 6) (by rfl))) (fun _ h9 => h9) rfl dX2_most_47 ?_
          refine lv_iconst (v := (nI 0)) hx hb dX2_most_50 (by decide) ?_
          refine lv_dup2_11 hx hb dX2_most_51 rfl rfl ?_
          refine va_iald hx hb hK hP 6 0 rfl rfl (by exact vp_in_nI (by omega) (by omega)) dX2_most_52 ?_
          refine nq_top (show (NW (t + i) F (((nI 0)).toNatClampNeg)) = (nI (t + i)) from by rw [nI_clamp (by omega)]; rfl) ?_
          refine lv_iconst (v := (nI 1)) hx hb dX2_most_53 (by decide) ?_
          refine nq_add hx hb dX2_most_54 ?_
          refine va_iast hx hb hK hP hD hS 6 0 rfl rfl (by exact vp_in_nI (by omega) (by omega)) dX2_most_55 (fun H locs hP hD hS => ?_)
          have hP : va_P E.1 vwCl (wM E b th n 99 F (upd (NW (t + i) F) (((nI 0)).toNatClampNeg) ((nI ((t + i) + 1)))) (va_cpy (NW t F) kp 0 0 17)) H := hP
          have hD : va_D A (wM E b th n 99 F (upd (NW (t + i) F) (((nI 0)).toNatClampNeg) ((nI ((t + i) + 1)))) (va_cpy (NW t F) kp 0 0 17)) := hD
          rw [NW_up0] at hP hD
          refine nq_inc (lv' := [(5, .int (nI (i + 1))), (4, .int (nI (max (mxA F 99 t n i) (acS F 99 (t + i) n)))), (0, .ref (b 0)), (1, .int (nI k)), (2, .int (bI true)), (3, .int (nI lim))]) hx hb dX2_most_56 (d := 1) rfl hl (k := 5) rfl (by decide) rfl (fun ls hl => ?_)
          refine lv_goto (tgt := 25) hx hb dX2_most_59 (by decide) ?_
          have hl : lv_has ls 6 [(5, .int (nI (i + 1))), (4, .int (nI (mxA F 99 t n (i + 1)))), (0, .ref (b 0)), (1, .int (nI k)), (2, .int (bI true)), (3, .int (nI lim))] := lv_rep hl 1 rfl (congrArg Value.int (show (nI (max (mxA F 99 t n i) (acS F 99 (t + i) n))) = (nI (mxA F 99 t n (i + 1))) from rfl))
          rw [show wM E b th n 99 F (NW (t + i + 1) F) (va_cpy (NW t F) kp 0 0 17) = wM E b th n 99 F (NW (t + (i + 1)) F) (va_cpy (NW t F) kp 0 0 17) from rfl] at hP hD
          exact ih25 (i + 1) _ _ ls (by omega) (by omega) hP hD hS (lv_sub hl [2, 3, 4, 5, 1, 0] rfl)
    have hl : lv_has ls 6 [(5, .int (nI 0)), (4, .int (nI (mxA F 99 t n 0))), (3, .int (nI lim)), (0, .ref (b 0)), (1, .int (nI k)), (2, .int (bI true))] := lv_rep hl 1 rfl (congrArg Value.int (show (nI 0) = (nI (mxA F 99 t n 0)) from rfl))
    rw [show wM E b th n 99 F (NW t F) (va_cpy (NW t F) kp 0 0 17) = wM E b th n 99 F (NW (t + 0) F) (va_cpy (NW t F) kp 0 0 17) from rfl] at hP hD
    exact loop25 ((k - 0) + 1) 0 _ _ ls (by omega) (Nat.lt_succ_self _) hP hD hS (lv_sub hl [3, 4, 5, 2, 1, 0] rfl)

set_option maxHeartbeats 4000000 in
set_option maxRecDepth 100000 in
/-- unfairBehind(k) -/
theorem c_X2_unfairBehind (l : Launch) (E : GE) (sz : Nat) (b : Nat → Nat) (th : Int32) (n lim t : Nat) (F : LR) (kp : Nat → Int32) (hO : OkS n t lim F) (k : Nat) (hk9 : t + k ≤ 100000000) : Met l yX2_unfairBehind wsX2_unfairBehind ({ frames := 4, cells := 0, slots := 0, locals := 90 } : Room) (va_Pc [.ref (b 0), .int (nI k)] (pcM E (wM E b th n lim F (NW t F) kp) sz)) (va_Qi (S := Unit) (fun r _ => r = nI (unfS (passF F lim t n k) n)) (fun uQ tQ => atM E (va_A (wM E b th n lim F (NW t F) kp) sz) ((fun _ => wM E b th n lim F (NW t F) (va_cpy (NW t F) kp 0 0 17)) uQ) tQ) (va_A (wM E b th n lim F (NW t F) kp) sz)) 0 0 (va_A (wM E b th n lim F (NW t F) kp) sz) := by
  refine metM (by decide) rfl (Nat.le_of_ble_eq_true rfl) ?_
  intro p e s m args below meth c ls A hAe hA hx hb hr hml hts hown hlocks hin hP hK hD hS hl
  rw [hAe]
  obtain ⟨QQ, hQ⟩ : ∃ zQ, zQ = MQ below (va_Qi (S := Unit) (fun r _ => r = nI (unfS (passF F lim t n k) n)) (fun uQ tQ => atM E A ((fun _ => wM E b th n lim F (NW t F) (va_cpy (NW t F) kp 0 0 17)) uQ) tQ) A) args s 0 0 A := ⟨_, rfl⟩
  rw [← hQ]
  obtain ⟨hO1, hO2, hO3, hO4, hO5⟩ := id hO
  refine lv_aload_n hx hb dX2_unfairBehind_0 rfl (lv_at hl 0 rfl) ?_
  refine cmV_v (rest := []) (As := []) ⟨hx, hb, hml, hown, hts⟩ (c_X2_keep l E _ b th n lim t F kp) (cwV 0 hts gX2_unfairBehind_X2_keep rfl rfl rfl (by decide +kernel) ⟨Nat.le_of_ble_eq_true rfl, Nat.le_of_ble_eq_true rfl⟩) (va_recv hK hP (ci := 3) (q0 := 0) rfl rfl) hP hK hD hS hA rfl hl.1 rfl (Nat.le_of_ble_eq_true rfl) dX2_unfairBehind_1 ⟨Nat.le_of_ble_eq_true rfl, Nat.le_of_ble_eq_true rfl⟩ (fun u1 H locs hr1 hP hD hS => ?_)
  refine lv_iconst (v := (nI 0)) hx hb dX2_unfairBehind_4 (by decide) ?_
  refine lv_istore_n (lv' := [(2, .int (nI 0)), (0, .ref (b 0)), (1, .int (nI k))]) hx hb dX2_unfairBehind_5 rfl hl (by decide) rfl (fun ls hl => ?_)
  have loop6 : ∀ (tk : Nat) (i : Nat) (H : Heap) (locs : List Loc) (ls : Array Slot), (i ≤ k) → (k - i) < tk → va_P E.1 vwCl (wM E b th n lim (passF F lim t n i) (NW (t + i) (passF F lim t n i)) (va_cpy (NW t F) kp 0 0 17)) H → va_D A (wM E b th n lim (passF F lim t n i) (NW (t + i) (passF F lim t n i)) (va_cpy (NW t F) kp 0 0 17)) → va_S A s.heap H locs → lv_has ls 3 [(0, .ref (b 0)), (1, .int (nI k)), (2, .int (nI i))] → W p l e ({ frames := 4, cells := 0, slots := 0, locals := 90 } : Room) s m args below meth c H locs 0 0 QQ (F0 m 6 ls []) := by
    intro tk
    induction tk with
    | zero => intro i H locs ls hi hk hP hD hS hl; exact absurd hk (Nat.not_lt_zero _)
    | succ tk ih6 =>
      intro i H locs ls hi hk hP hD hS hl
      have hOi := pass_ok hO i (by omega)
      refine lv_iload_n hx hb dX2_unfairBehind_6 rfl (lv_at hl 2 rfl) ?_
      refine lv_iload_n hx hb dX2_unfairBehind_7 rfl (lv_at hl 1 rfl) ?_
      refine nq_icmp_ge (tgt := 22) hx hb dX2_unfairBehind_8 (by decide) (by omega) (by omega) (fun h8 => ?_) (fun h8 => ?_)
      · skip
        refine lv_aload_n hx hb dX2_unfairBehind_22 rfl (lv_at hl 0 rfl) ?_
        refine csV_i (rest := []) (As := []) ⟨hx, hb, hml, hown, hts⟩ (c_X2_unfair l E _ b n lim (t + i) (passF F lim t n i) (t + i) MV_self hOi (Nat.le_refl _)) (cwV 0 hts gX2_unfairBehind_X2_unfair rfl rfl rfl (by decide +kernel) ⟨Nat.le_of_ble_eq_true rfl, Nat.le_of_ble_eq_true rfl⟩) (va_recv hK hP (ci := 3) (q0 := 0) rfl rfl) hP hK rfl hl.1 rfl (Nat.le_of_ble_eq_true rfl) dX2_unfairBehind_23 (Nat.le_of_ble_eq_true rfl) (Nat.le_of_ble_eq_true rfl) (fun r23 hr23 => ?_)
        subst hr23
        refine lv_istore_n (lv' := [(2, .int (nI (unfS (passF F lim t n i) n))), (0, .ref (b 0)), (1, .int (nI k))]) hx hb dX2_unfairBehind_26 rfl hl (by decide) rfl (fun ls hl => ?_)
        refine lv_aload_n hx hb dX2_unfairBehind_27 rfl (lv_at hl 1 rfl) ?_
        refine cmV_v (rest := []) (As := []) ⟨hx, hb, hml, hown, hts⟩ (c_X2_bringBack l E _ b th n lim (passF F lim t n i) (NW (t + i) (passF F lim t n i)) (va_cpy (NW t F) kp 0 0 17)) (cwV 0 hts gX2_unfairBehind_X2_bringBack rfl rfl rfl (by decide +kernel) ⟨Nat.le_of_ble_eq_true rfl, Nat.le_of_ble_eq_true rfl⟩) (va_recv hK hP (ci := 3) (q0 := 0) rfl rfl) hP hK hD hS hA rfl hl.1 rfl (Nat.le_of_ble_eq_true rfl) dX2_unfairBehind_28 ⟨Nat.le_of_ble_eq_true rfl, Nat.le_of_ble_eq_true rfl⟩ (fun u28 H locs hr28 hP hD hS => ?_)
        rw [cpy_back (t := t) (F := F) (fun j hj => by rw [hOi.2.2.2.2 j (by omega) 6, hO5 j (by omega) 6]), wM_pa] at hP hD
        refine lv_iload_n hx hb dX2_unfairBehind_31 rfl (lv_at hl 0 rfl) ?_
        rw [hQ]
        exact retM_i (E := E) (A0 := A) (v := (nI (unfS (passF F lim t n i) n))) (post := fun r _ => r = nI (unfS (passF F lim t n k) n)) (u := ()) (W1 := fun _ => wM E b th n lim F (NW t F) (va_cpy (NW t F) kp 0 0 17)) hx hb hr hlocks hP hK hD hS (congrArg nI (by rw [show i = k by omega])) dX2_unfairBehind_32
      · skip
        refine lv_aload_n hx hb dX2_unfairBehind_11 rfl (lv_at hl 0 rfl) ?_
        refine cmV_i (rest := []) (As := []) ⟨hx, hb, hml, hown, hts⟩ (c_X2_beatOn l E _ b th n lim (t + i) (passF F lim t n i) (va_cpy (NW t F) kp 0 0 17) hOi (by omega)) (cwV 0 hts gX2_unfairBehind_X2_beatOn rfl rfl rfl (by decide +kernel) ⟨Nat.le_of_ble_eq_true rfl, Nat.le_of_ble_eq_true rfl⟩) (va_recv hK hP (ci := 3) (q0 := 0) rfl rfl) hP hK hD hS hA rfl hl.1 rfl (Nat.le_of_ble_eq_true rfl) dX2_unfairBehind_12 ⟨Nat.le_of_ble_eq_true rfl, Nat.le_of_ble_eq_true rfl⟩ (fun r12 u12 H locs hr12 hP hD hS => ?_)
        subst hr12
        refine lv_pop hx hb dX2_unfairBehind_15 rfl ?_
        refine nq_inc (lv' := [(2, .int (nI (i + 1))), (0, .ref (b 0)), (1, .int (nI k))]) hx hb dX2_unfairBehind_16 (d := 1) rfl hl (k := 2) rfl (by decide) rfl (fun ls hl => ?_)
        refine lv_goto (tgt := 6) hx hb dX2_unfairBehind_19 (by decide) ?_
        rw [show wM E b th n lim (stepF (passF F lim t n i) lim (t + i) n) (NW (t + i + 1) (stepF (passF F lim t n i) lim (t + i) n)) (va_cpy (NW t F) kp 0 0 17) = wM E b th n lim (passF F lim t n (i + 1)) (NW (t + (i + 1)) (passF F lim t n (i + 1))) (va_cpy (NW t F) kp 0 0 17) from rfl] at hP hD
        exact ih6 (i + 1) _ _ ls (by omega) (by omega) hP hD hS (lv_sub hl [1, 2, 0] rfl)
  rw [show wM E b th n lim F (NW t F) (va_cpy (NW t F) kp 0 0 17) = wM E b th n lim (passF F lim t n 0) (NW (t + 0) (passF F lim t n 0)) (va_cpy (NW t F) kp 0 0 17) from rfl] at hP hD
  exact loop6 ((k - 0) + 1) 0 _ _ ls (by omega) (Nat.lt_succ_self _) hP hD hS (lv_sub hl [1, 2, 0] rfl)

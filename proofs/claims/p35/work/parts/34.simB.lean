/-! lamps by hand: what only reads -/
set_option maxHeartbeats 4000000 in
set_option maxRecDepth 100000 in
/-- phase(i) -/
theorem c_X2_phase (l : Launch) (E : GE) (w : va_W) (p0 : Nat) (b : Nat → Nat) (n now lim : Nat) (F : LR) (hv : SV E b n now lim F p0 w) (hn8 : n ≤ 8) (i : Nat) (hi : i < n) (hp : 2 ≤ F i 0 ∧ F i 0 ≤ 20 ∧ F i 3 < F i 0) (hnow : now ≤ 1000000000) : Met l yX2_phase wsX2_phase ({ frames := 0, cells := 0, slots := 0, locals := 0 } : Room) (va_Pc [.ref (b 0), .int (nI i)] (pcS E (w))) (vp_Si (fun r => r = nI (ph F i now))) 0 0 (fun _ => False) := by
  refine metS (by decide) rfl (Nat.le_of_ble_eq_true rfl) ?_
  intro p e s m args below meth c ls hx hb hr hml hts hown hlocks hP hK hl
  have hiX2 : ∀ q ∈ wsX20, q ∈ wsX2_phase := by decide +kernel
  refine lv_aload_n hx hb dX2_phase_0 rfl (lv_at hl 0 rfl) ?_
  refine va_get (D := E.1) (ci := 3) (v := .int (nI now)) (C := RX2) (T := TX2) (N := 3) hx hb hts hiX2 hown hK hP p0 hv.1 rfl 2 (by decide) (hts (.fieldLink RX2 24 "PulseLoomLaw$Sim" "beat" "I") (List.mem_of_getElem? (i := 1) (by rfl))) (fun _ h9 => h9) rfl dX2_phase_1 ?_
  refine lv_aload_n hx hb dX2_phase_4 rfl (lv_at hl 0 rfl) ?_
  refine va_get (D := E.1) (ci := 3) (v := .ref (b 1)) (C := RX2) (T := TX2) (N := 3) hx hb hts hiX2 hown hK hP p0 hv.1 rfl 0 (by decide) (hts (.fieldLink RX2 9 "PulseLoomLaw$Sim" "lamps" "[[I") (List.mem_of_getElem? (i := 2) (by rfl))) (fun _ h9 => h9) rfl dX2_phase_5 ?_
  refine lv_iload_n hx hb dX2_phase_8 rfl (lv_at hl 1 rfl) ?_
  refine nz_aald hx hb hK hP (p0 + 1) hv.2.1 (by exact vp_in_nI (by omega) (by omega)) dX2_phase_9 ?_
  refine nq_topv (show va_rf ((arS b n) ((nI i)).toNatClampNeg) = .ref (b (2 + i)) from by rw [nI_clamp (by omega)]; exact congrArg va_rf (arS_at (by omega))) ?_
  refine lv_iconst (v := (nI 2)) hx hb dX2_phase_10 (by decide) ?_
  refine va_iald hx hb hK hP (p0 + (2 + i)) 0 (hv.2.2 i (by omega)) rfl (by exact vp_in_nI (by omega) (by omega)) dX2_phase_11 ?_
  refine nq_top (show (rwF F i (((nI 2)).toNatClampNeg)) = (nI (F i 3)) from by rw [nI_clamp (by omega)]; rfl) ?_
  refine nq_add hx hb dX2_phase_12 ?_
  refine lv_aload_n hx hb dX2_phase_13 rfl (lv_at hl 0 rfl) ?_
  refine va_get (D := E.1) (ci := 3) (v := .ref (b 1)) (C := RX2) (T := TX2) (N := 3) hx hb hts hiX2 hown hK hP p0 hv.1 rfl 0 (by decide) (hts (.fieldLink RX2 9 "PulseLoomLaw$Sim" "lamps" "[[I") (List.mem_of_getElem? (i := 2) (by rfl))) (fun _ h9 => h9) rfl dX2_phase_14 ?_
  refine lv_iload_n hx hb dX2_phase_17 rfl (lv_at hl 1 rfl) ?_
  refine nz_aald hx hb hK hP (p0 + 1) hv.2.1 (by exact vp_in_nI (by omega) (by omega)) dX2_phase_18 ?_
  refine nq_topv (show va_rf ((arS b n) ((nI i)).toNatClampNeg) = .ref (b (2 + i)) from by rw [nI_clamp (by omega)]; exact congrArg va_rf (arS_at (by omega))) ?_
  refine lv_iconst (v := (nI 1)) hx hb dX2_phase_19 (by decide) ?_
  refine va_iald hx hb hK hP (p0 + (2 + i)) 0 (hv.2.2 i (by omega)) rfl (by exact vp_in_nI (by omega) (by omega)) dX2_phase_20 ?_
  refine nq_top (show (rwF F i (((nI 1)).toNatClampNeg)) = (nI (F i 0)) from by rw [nI_clamp (by omega)]; rfl) ?_
  refine nq_rem hx hb dX2_phase_21 (by omega) (by omega) (by omega) ?_
  exact retS_i hx hb hr hlocks (rfl) dX2_phase_22

set_option maxHeartbeats 4000000 in
set_option maxRecDepth 100000 in
/-- isDue(i) -/
theorem c_X2_isDue (l : Launch) (E : GE) (w : va_W) (p0 : Nat) (b : Nat → Nat) (n now lim : Nat) (F : LR) (hv : SV E b n now lim F p0 w) (hn8 : n ≤ 8) (i : Nat) (hi : i < n) (hp : 2 ≤ F i 0 ∧ F i 0 ≤ 20 ∧ F i 3 < F i 0) (hnow : now ≤ 1000000000) (hlen : F i 4 < F i 0) : Met l yX2_isDue wsX2_isDue ({ frames := 1, cells := 0, slots := 0, locals := 21 } : Room) (va_Pc [.ref (b 0), .int (nI i)] (pcS E (w))) (vp_Si (fun r => r = bI (due F i now))) 0 0 (fun _ => False) := by
  refine metS (by decide) rfl (Nat.le_of_ble_eq_true rfl) ?_
  intro p e s m args below meth c ls hx hb hr hml hts hown hlocks hP hK hl
  have hiX2 : ∀ q ∈ wsX20, q ∈ wsX2_isDue := by decide +kernel
  have hp9 := ph_lt (F := F) (i := i) (b := now) (by omega)
  refine lv_aload_n hx hb dX2_isDue_0 rfl (lv_at hl 0 rfl) ?_
  refine lv_iload_n hx hb dX2_isDue_1 rfl (lv_at hl 1 rfl) ?_
  refine csV_i (rest := []) (As := [.int (nI i)]) ⟨hx, hb, hml, hown, hts⟩ (c_X2_phase l E _ p0 b n now lim F hv (by omega) i (by omega) hp (by omega)) (cwV 1 hts gX2_isDue_X2_phase rfl rfl rfl (by decide +kernel) ⟨Nat.le_of_ble_eq_true rfl, Nat.le_of_ble_eq_true rfl⟩) (va_recv hK hP (ci := 3) (q0 := p0) rfl hv.1) hP hK rfl hl.1 rfl (Nat.le_of_ble_eq_true rfl) dX2_isDue_2 (Nat.le_of_ble_eq_true rfl) (Nat.le_of_ble_eq_true rfl) (fun r2 hr2 => ?_)
  subst hr2
  refine lv_aload_n hx hb dX2_isDue_5 rfl (lv_at hl 0 rfl) ?_
  refine va_get (D := E.1) (ci := 3) (v := .ref (b 1)) (C := RX2) (T := TX2) (N := 3) hx hb hts hiX2 hown hK hP p0 hv.1 rfl 0 (by decide) (hts (.fieldLink RX2 9 "PulseLoomLaw$Sim" "lamps" "[[I") (List.mem_of_getElem? (i := 1) (by rfl))) (fun _ h9 => h9) rfl dX2_isDue_6 ?_
  refine lv_iload_n hx hb dX2_isDue_9 rfl (lv_at hl 1 rfl) ?_
  refine nz_aald hx hb hK hP (p0 + 1) hv.2.1 (by exact vp_in_nI (by omega) (by omega)) dX2_isDue_10 ?_
  refine nq_topv (show va_rf ((arS b n) ((nI i)).toNatClampNeg) = .ref (b (2 + i)) from by rw [nI_clamp (by omega)]; exact congrArg va_rf (arS_at (by omega))) ?_
  refine lv_iconst (v := (nI 3)) hx hb dX2_isDue_11 (by decide) ?_
  refine va_iald hx hb hK hP (p0 + (2 + i)) 0 (hv.2.2 i (by omega)) rfl (by exact vp_in_nI (by omega) (by omega)) dX2_isDue_12 ?_
  refine nq_top (show (rwF F i (((nI 3)).toNatClampNeg)) = (nI (F i 4)) from by rw [nI_clamp (by omega)]; rfl) ?_
  refine nq_icmp_ge (tgt := 20) hx hb dX2_isDue_13 (by decide) (by omega) (by omega) (fun h13 => ?_) (fun h13 => ?_)
  · skip
    refine lv_iconst (v := (nI 0)) hx hb dX2_isDue_20 (by decide) ?_
    refine nq_top (show nI 0 = bI false from rfl) ?_
    exact retS_z hx hb hr hlocks (congrArg bI (by unfold due; symm; first | exact decide_eq_true h13 | exact decide_eq_false (Nat.not_lt.mpr h13))) dX2_isDue_21
  · skip
    refine lv_iconst (v := (nI 1)) hx hb dX2_isDue_16 (by decide) ?_
    refine lv_goto (tgt := 21) hx hb dX2_isDue_17 (by decide) ?_
    refine nq_top (show nI 1 = bI true from rfl) ?_
    exact retS_z hx hb hr hlocks (congrArg bI (by unfold due; symm; first | exact decide_eq_true h13 | exact decide_eq_false (Nat.not_lt.mpr h13))) dX2_isDue_21

set_option maxHeartbeats 4000000 in
set_option maxRecDepth 100000 in
/-- seen(c) -/
theorem c_X2_seen (l : Launch) (E : GE) (w : va_W) (p0 : Nat) (b : Nat → Nat) (n now lim : Nat) (F : LR) (hv : SV E b n now lim F p0 w) (hn8 : n ≤ 8) (hO : OkS n now lim F) (k : Nat) (hk : k ≤ 5) : Met l yX2_seen wsX2_seen ({ frames := 0, cells := 0, slots := 0, locals := 0 } : Room) (va_Pc [.ref (b 0), .int (nI k)] (pcS E (w))) (vp_Si (fun r => r = nI (seenS F k n))) 0 0 (fun _ => False) := by
  refine metS (by decide) rfl (Nat.le_of_ble_eq_true rfl) ?_
  intro p e s m args below meth c ls hx hb hr hml hts hown hlocks hP hK hl
  have hiX2 : ∀ q ∈ wsX20, q ∈ wsX2_seen := by decide +kernel
  obtain ⟨QQ, hQ⟩ : ∃ zQ, zQ = MQ below (vp_Si (fun r => r = nI (seenS F k n))) args s 0 0 (fun _ => False) := ⟨_, rfl⟩
  rw [← hQ]
  obtain ⟨hO1, hO2, hO3, hO4, hO5⟩ := id hO
  refine lv_iconst (v := (nI 0)) hx hb dX2_seen_0 (by decide) ?_
  refine lv_istore_n (lv' := [(2, .int (nI 0)), (0, .ref (b 0)), (1, .int (nI k))]) hx hb dX2_seen_1 rfl hl (by decide) rfl (fun ls hl => ?_)
  refine lv_aload_n hx hb dX2_seen_2 rfl (lv_at hl 1 rfl) ?_
  refine va_get (D := E.1) (ci := 3) (v := .ref (b 1)) (C := RX2) (T := TX2) (N := 3) hx hb hts hiX2 hown hK hP p0 hv.1 rfl 0 (by decide) (hts (.fieldLink RX2 9 "PulseLoomLaw$Sim" "lamps" "[[I") (List.mem_of_getElem? (i := 1) (by rfl))) (fun _ h9 => h9) rfl dX2_seen_3 ?_
  refine lv_astore_n (lv' := [(3, .ref (b 1)), (2, .int (nI 0)), (0, .ref (b 0)), (1, .int (nI k))]) hx hb dX2_seen_6 rfl hl (by decide) rfl (fun ls hl => ?_)
  refine lv_aload_n hx hb dX2_seen_7 rfl (lv_at hl 0 rfl) ?_
  refine va_alen hx hb hK hP (p0 + 1) 3 hv.2.1 rfl (v := nI n) rfl dX2_seen_8 ?_
  refine lv_istore (lv' := [(4, .int (nI n)), (3, .ref (b 1)), (2, .int (nI 0)), (0, .ref (b 0)), (1, .int (nI k))]) hx hb dX2_seen_9 hl (by decide) rfl (fun ls hl => ?_)
  refine lv_iconst (v := (nI 0)) hx hb dX2_seen_11 (by decide) ?_
  refine lv_istore (lv' := [(5, .int (nI 0)), (4, .int (nI n)), (3, .ref (b 1)), (2, .int (nI 0)), (0, .ref (b 0)), (1, .int (nI k))]) hx hb dX2_seen_12 hl (by decide) rfl (fun ls hl => ?_)
  have loop14 : ∀ (tk : Nat) (i : Nat) (ls : Array Slot), (i ≤ n) → (n - i) < tk → lv_has ls 7 [(5, .int (nI i)), (4, .int (nI n)), (3, .ref (b 1)), (2, .int (nI (seenS F k i))), (0, .ref (b 0)), (1, .int (nI k))] → W p l e ({ frames := 0, cells := 0, slots := 0, locals := 0 } : Room) s m args below meth c s.heap [] 0 0 QQ (F0 m 14 ls []) := by
    intro tk
    induction tk with
    | zero => intro i ls hi hk hl; exact absurd hk (Nat.not_lt_zero _)
    | succ tk ih14 =>
      intro i ls hi hk hl
      have hse := seenS_le hO k i hi
      have hse9 : i * 100000000 ≤ 8 * 100000000 := Nat.mul_le_mul_right _ (by omega)
      refine lv_iload hx hb dX2_seen_14 (lv_at hl 0 rfl) ?_
      refine lv_iload hx hb dX2_seen_16 (lv_at hl 1 rfl) ?_
      refine nq_icmp_ge (tgt := 52) hx hb dX2_seen_18 (by decide) (by omega) (by omega) (fun h18 => ?_) (fun h18 => ?_)
      · skip
        refine lv_iload_n hx hb dX2_seen_52 rfl (lv_at hl 3 rfl) ?_
        rw [hQ]
        exact retS_i hx hb hr hlocks (congrArg nI (by rw [show i = n by omega])) dX2_seen_53
      · skip
        have hi9 := hO4 i (by omega)
        refine lv_aload_n hx hb dX2_seen_21 rfl (lv_at hl 2 rfl) ?_
        refine lv_iload hx hb dX2_seen_22 (lv_at hl 0 rfl) ?_
        refine nz_aald hx hb hK hP (p0 + 1) hv.2.1 (by exact vp_in_nI (by omega) (by omega)) dX2_seen_24 ?_
        refine nq_topv (show va_rf ((arS b n) ((nI i)).toNatClampNeg) = .ref (b (2 + i)) from by rw [nI_clamp (by omega)]; exact congrArg va_rf (arS_at (by omega))) ?_
        refine lv_astore (lv' := [(6, .ref (b (2 + i))), (5, .int (nI i)), (4, .int (nI n)), (3, .ref (b 1)), (2, .int (nI (seenS F k i))), (0, .ref (b 0)), (1, .int (nI k))]) hx hb dX2_seen_25 hl (by decide) rfl (fun ls hl => ?_)
        refine lv_iload_n hx hb dX2_seen_27 rfl (lv_at hl 4 rfl) ?_
        refine lv_aload hx hb dX2_seen_28 (lv_at hl 0 rfl) ?_
        refine lv_iconst (v := (nI 0)) hx hb dX2_seen_30 (by decide) ?_
        refine va_iald hx hb hK hP (p0 + (2 + i)) 0 (hv.2.2 i (by omega)) rfl (by exact vp_in_nI (by omega) (by omega)) dX2_seen_31 ?_
        refine nq_top (show (rwF F i (((nI 0)).toNatClampNeg)) = (nI (F i 2)) from by rw [nI_clamp (by omega)]; rfl) ?_
        refine lv_iload_n hx hb dX2_seen_32 rfl (lv_at hl 6 rfl) ?_
        refine nq_icmp_ne (tgt := 43) hx hb dX2_seen_33 (by decide) (by omega) (by omega) (fun h33 => ?_) (fun h33 => ?_)
        · skip
          refine lv_iconst (v := (nI 0)) hx hb dX2_seen_43 (by decide) ?_
          refine nq_add hx hb dX2_seen_44 ?_
          refine lv_istore_n (lv' := [(2, .int (nI ((seenS F k i) + 0))), (6, .ref (b (2 + i))), (5, .int (nI i)), (4, .int (nI n)), (3, .ref (b 1)), (0, .ref (b 0)), (1, .int (nI k))]) hx hb dX2_seen_45 rfl hl (by decide) rfl (fun ls hl => ?_)
          refine nq_inc (lv' := [(5, .int (nI (i + 1))), (2, .int (nI ((seenS F k i) + 0))), (6, .ref (b (2 + i))), (4, .int (nI n)), (3, .ref (b 1)), (0, .ref (b 0)), (1, .int (nI k))]) hx hb dX2_seen_46 (d := 1) rfl hl (k := 2) rfl (by decide) rfl (fun ls hl => ?_)
          refine lv_goto (tgt := 14) hx hb dX2_seen_49 (by decide) ?_
          have hl : lv_has ls 7 [(5, .int (nI (i + 1))), (2, .int (nI (seenS F k (i + 1)))), (6, .ref (b (2 + i))), (4, .int (nI n)), (3, .ref (b 1)), (0, .ref (b 0)), (1, .int (nI k))] := lv_rep hl 1 rfl (congrArg Value.int (show (nI ((seenS F k i) + 0)) = (nI (seenS F k (i + 1))) from congrArg nI (by rw [seenS_s, if_neg h33])))
          exact ih14 (i + 1) ls (by omega) (by omega) (lv_sub hl [0, 3, 4, 1, 5, 6] rfl)
        · skip
          refine lv_aload hx hb dX2_seen_36 (lv_at hl 0 rfl) ?_
          refine lv_iconst (v := (nI 5)) hx hb dX2_seen_38 (by decide) ?_
          refine va_iald hx hb hK hP (p0 + (2 + i)) 0 (hv.2.2 i (by omega)) rfl (by exact vp_in_nI (by omega) (by omega)) dX2_seen_39 ?_
          refine nq_top (show (rwF F i (((nI 5)).toNatClampNeg)) = (nI (F i 5)) from by rw [nI_clamp (by omega)]; rfl) ?_
          refine lv_goto (tgt := 44) hx hb dX2_seen_40 (by decide) ?_
          refine nq_add hx hb dX2_seen_44 ?_
          refine lv_istore_n (lv' := [(2, .int (nI ((seenS F k i) + (F i 5)))), (6, .ref (b (2 + i))), (5, .int (nI i)), (4, .int (nI n)), (3, .ref (b 1)), (0, .ref (b 0)), (1, .int (nI k))]) hx hb dX2_seen_45 rfl hl (by decide) rfl (fun ls hl => ?_)
          refine nq_inc (lv' := [(5, .int (nI (i + 1))), (2, .int (nI ((seenS F k i) + (F i 5)))), (6, .ref (b (2 + i))), (4, .int (nI n)), (3, .ref (b 1)), (0, .ref (b 0)), (1, .int (nI k))]) hx hb dX2_seen_46 (d := 1) rfl hl (k := 2) rfl (by decide) rfl (fun ls hl => ?_)
          refine lv_goto (tgt := 14) hx hb dX2_seen_49 (by decide) ?_
          have hl : lv_has ls 7 [(5, .int (nI (i + 1))), (2, .int (nI (seenS F k (i + 1)))), (6, .ref (b (2 + i))), (4, .int (nI n)), (3, .ref (b 1)), (0, .ref (b 0)), (1, .int (nI k))] := lv_rep hl 1 rfl (congrArg Value.int (show (nI ((seenS F k i) + (F i 5))) = (nI (seenS F k (i + 1))) from congrArg nI (by rw [seenS_s, if_pos h33])))
          exact ih14 (i + 1) ls (by omega) (by omega) (lv_sub hl [0, 3, 4, 1, 5, 6] rfl)
  have hl : lv_has ls 7 [(5, .int (nI 0)), (4, .int (nI n)), (3, .ref (b 1)), (2, .int (nI (seenS F k 0))), (0, .ref (b 0)), (1, .int (nI k))] := lv_rep hl 3 rfl (congrArg Value.int (show (nI 0) = (nI (seenS F k 0)) from rfl))
  exact loop14 ((n - 0) + 1) 0 ls (by omega) (Nat.lt_succ_self _) (lv_sub hl [0, 1, 2, 3, 4, 5] rfl)

set_option maxRecDepth 100000 in
theorem seenS_m {n now lim : Nat} {F : LR} (h : OkS n now lim F) (hn : now ≤ 100000) (c : Nat) : seenS F c n ≤ 800000 := by
  have key : ∀ k, k ≤ n → seenS F c k ≤ k * 100000 := by
    intro k
    induction k with
    | zero => intro _; exact Nat.le_refl _
    | succ k ih =>
      intro hk
      have h1 := ih (by omega)
      have h2 := h.2.2.2.1 k (by omega)
      rw [seenS_s]
      by_cases hc : F k 2 = c
      · rw [if_pos hc]; omega
      · rw [if_neg hc, Nat.add_zero]; exact Nat.le_trans h1 (Nat.mul_le_mul_right _ (Nat.le_succ k))
  have h1 := key n (Nat.le_refl _)
  have h2 : n * 100000 ≤ 8 * 100000 := Nat.mul_le_mul_right _ h.1
  omega
def hiS (F : LR) (n : Nat) : Nat → Nat | 0 => 0 | k + 1 => max (hiS F n k) (seenS F (F k 2) n)
def loS (F : LR) (n : Nat) : Nat → Nat | 0 => 1000000 | k + 1 => min (loS F n k) (seenS F (F k 2) n)
theorem hiS_s (F : LR) (n k : Nat) : hiS F n (k + 1) = max (hiS F n k) (seenS F (F k 2) n) := rfl
theorem loS_s (F : LR) (n k : Nat) : loS F n (k + 1) = min (loS F n k) (seenS F (F k 2) n) := rfl
theorem hilo_bd {n now lim : Nat} {F : LR} (h : OkS n now lim F) (hn : now ≤ 100000) : ∀ k, hiS F n k ≤ 800000 ∧ loS F n k ≤ 1000000
  | 0 => ⟨Nat.zero_le _, Nat.le_refl _⟩
  | k + 1 => by
    have h1 := hilo_bd h hn k
    have h2 := seenS_m h hn (F k 2)
    rw [hiS_s, loS_s]
    omega
theorem hilo_mx {n now lim : Nat} {F : LR} (h : OkS n now lim F) (hn : now ≤ 100000) : ∀ k, hiS F n (k + 1) = mxS F n k ∧ loS F n (k + 1) = mnS F n k
  | 0 => by
    have h2 := seenS_m h hn (F 0 2)
    have e1 : mxS F n 0 = seenS F (F 0 2) n := rfl
    have e2 : mnS F n 0 = seenS F (F 0 2) n := rfl
    have e3 : hiS F n 0 = 0 := rfl
    have e4 : loS F n 0 = 1000000 := rfl
    rw [hiS_s, loS_s, e1, e2, e3, e4]
    omega
  | k + 1 => by
    obtain ⟨h1, h2⟩ := hilo_mx h hn k
    rw [hiS_s, loS_s, h1, h2, mxS_s, mnS_s]
    exact ⟨rfl, rfl⟩
theorem hilo_unf {n now lim : Nat} {F : LR} (h : OkS n now lim F) (hn : now ≤ 100000) (h0 : 0 < n) : hiS F n n - loS F n n = unfS F n ∧ loS F n n ≤ hiS F n n := by
  obtain ⟨z, rfl⟩ : ∃ z, n = z + 1 := ⟨n - 1, by omega⟩
  obtain ⟨h1, h2⟩ := hilo_mx h hn z
  have h3 := mx_ge F (z + 1) z 0 (Nat.zero_le _)
  rw [h1, h2]
  refine ⟨?_, by omega⟩
  unfold unfS
  rw [if_neg (by omega), Nat.add_sub_cancel]

set_option maxHeartbeats 4000000 in
set_option maxRecDepth 100000 in
/-- unfairness() -/
theorem c_X2_unfairness (l : Launch) (E : GE) (w : va_W) (p0 : Nat) (b : Nat → Nat) (n now lim : Nat) (F : LR) (hv : SV E b n now lim F p0 w) (hn8 : n ≤ 8) (hO : OkS n now lim F) (hnow : now ≤ 100000) : Met l yX2_unfairness wsX2_unfairness ({ frames := 1, cells := 0, slots := 0, locals := 26 } : Room) (va_Pc [.ref (b 0)] (pcS E (w))) (vp_Si (fun r => r = nI (unfS F n))) 0 0 (fun _ => False) := by
  refine metS (by decide) rfl (Nat.le_of_ble_eq_true rfl) ?_
  intro p e s m args below meth c ls hx hb hr hml hts hown hlocks hP hK hl
  have hiX2 : ∀ q ∈ wsX20, q ∈ wsX2_unfairness := by decide +kernel
  obtain ⟨QQ, hQ⟩ : ∃ zQ, zQ = MQ below (vp_Si (fun r => r = nI (unfS F n))) args s 0 0 (fun _ => False) := ⟨_, rfl⟩
  rw [← hQ]
  obtain ⟨hO1, hO2, hO3, hO4, hO5⟩ := id hO
  refine lv_iconst (v := (nI 0)) hx hb dX2_unfairness_0 (by decide) ?_
  refine lv_istore_n (lv' := [(1, .int (nI 0)), (0, .ref (b 0))]) hx hb dX2_unfairness_1 rfl hl (by decide) rfl (fun ls hl => ?_)
  refine lv_ldc (v := nI 1000000) hx hb hown (show (Jvm.Cond.constant RX2 47 (nI 1000000)).before args s = true from (hts (.constant RX2 47 (1000000)) (List.mem_of_getElem? (i := 1) (by rfl)))) dX2_unfairness_2 ?_
  refine lv_istore_n (lv' := [(2, .int (nI 1000000)), (1, .int (nI 0)), (0, .ref (b 0))]) hx hb dX2_unfairness_4 rfl hl (by decide) rfl (fun ls hl => ?_)
  refine lv_aload_n hx hb dX2_unfairness_5 rfl (lv_at hl 2 rfl) ?_
  refine va_get (D := E.1) (ci := 3) (v := .ref (b 1)) (C := RX2) (T := TX2) (N := 3) hx hb hts hiX2 hown hK hP p0 hv.1 rfl 0 (by decide) (hts (.fieldLink RX2 9 "PulseLoomLaw$Sim" "lamps" "[[I") (List.mem_of_getElem? (i := 2) (by rfl))) (fun _ h9 => h9) rfl dX2_unfairness_6 ?_
  refine lv_astore_n (lv' := [(3, .ref (b 1)), (2, .int (nI 1000000)), (1, .int (nI 0)), (0, .ref (b 0))]) hx hb dX2_unfairness_9 rfl hl (by decide) rfl (fun ls hl => ?_)
  refine lv_aload_n hx hb dX2_unfairness_10 rfl (lv_at hl 0 rfl) ?_
  refine va_alen hx hb hK hP (p0 + 1) 3 hv.2.1 rfl (v := nI n) rfl dX2_unfairness_11 ?_
  refine lv_istore (lv' := [(4, .int (nI n)), (3, .ref (b 1)), (2, .int (nI 1000000)), (1, .int (nI 0)), (0, .ref (b 0))]) hx hb dX2_unfairness_12 hl (by decide) rfl (fun ls hl => ?_)
  refine lv_iconst (v := (nI 0)) hx hb dX2_unfairness_14 (by decide) ?_
  refine lv_istore (lv' := [(5, .int (nI 0)), (4, .int (nI n)), (3, .ref (b 1)), (2, .int (nI 1000000)), (1, .int (nI 0)), (0, .ref (b 0))]) hx hb dX2_unfairness_15 hl (by decide) rfl (fun ls hl => ?_)
  have loop17 : ∀ (tk : Nat) (i : Nat) (ls : Array Slot), (i ≤ n) → (n - i) < tk → lv_has ls 7 [(5, .int (nI i)), (4, .int (nI n)), (3, .ref (b 1)), (2, .int (nI (loS F n i))), (1, .int (nI (hiS F n i))), (0, .ref (b 0))] → W p l e ({ frames := 1, cells := 0, slots := 0, locals := 26 } : Room) s m args below meth c s.heap [] 0 0 QQ (F0 m 17 ls []) := by
    intro tk
    induction tk with
    | zero => intro i ls hi hk hl; exact absurd hk (Nat.not_lt_zero _)
    | succ tk ih17 =>
      intro i ls hi hk hl
      have hbd := hilo_bd hO hnow i
      refine lv_iload hx hb dX2_unfairness_17 (lv_at hl 0 rfl) ?_
      refine lv_iload hx hb dX2_unfairness_19 (lv_at hl 1 rfl) ?_
      refine nq_icmp_ge (tgt := 62) hx hb dX2_unfairness_21 (by decide) (by omega) (by omega) (fun h21 => ?_) (fun h21 => ?_)
      · skip
        refine lv_aload_n hx hb dX2_unfairness_62 rfl (lv_at hl 5 rfl) ?_
        refine va_get (D := E.1) (ci := 3) (v := .ref (b 1)) (C := RX2) (T := TX2) (N := 3) hx hb hts hiX2 hown hK hP p0 hv.1 rfl 0 (by decide) (hts (.fieldLink RX2 9 "PulseLoomLaw$Sim" "lamps" "[[I") (List.mem_of_getElem? (i := 2) (by rfl))) (fun _ h9 => h9) rfl dX2_unfairness_63 ?_
        refine va_alen hx hb hK hP (p0 + 1) 3 hv.2.1 rfl (v := nI n) rfl dX2_unfairness_66 ?_
        refine nq_if_ne (tgt := 74) hx hb dX2_unfairness_67 (by decide) (by omega) (fun h67 => ?_) (fun h67 => ?_)
        · skip
          have hin : i = n := by omega
          subst hin
          have hun := hilo_unf hO hnow (by omega)
          refine lv_iload_n hx hb dX2_unfairness_74 rfl (lv_at hl 4 rfl) ?_
          refine lv_iload_n hx hb dX2_unfairness_75 rfl (lv_at hl 3 rfl) ?_
          refine nq_sub hx hb dX2_unfairness_76 (by omega) ?_
          rw [hQ]
          exact retS_i hx hb hr hlocks (congrArg nI hun.1) dX2_unfairness_77
        · skip
          have e9 : n = 0 := by omega
          refine lv_iconst (v := (nI 0)) hx hb dX2_unfairness_70 (by decide) ?_
          refine lv_goto (tgt := 77) hx hb dX2_unfairness_71 (by decide) ?_
          rw [hQ]
          exact retS_i hx hb hr hlocks (congrArg nI (by unfold unfS; rw [if_pos e9])) dX2_unfairness_77
      · skip
        have hi9 := hO4 i (by omega)
        have hsm := seenS_m hO hnow (F i 2)
        refine lv_aload_n hx hb dX2_unfairness_24 rfl (lv_at hl 2 rfl) ?_
        refine lv_iload hx hb dX2_unfairness_25 (lv_at hl 0 rfl) ?_
        refine nz_aald hx hb hK hP (p0 + 1) hv.2.1 (by exact vp_in_nI (by omega) (by omega)) dX2_unfairness_27 ?_
        refine nq_topv (show va_rf ((arS b n) ((nI i)).toNatClampNeg) = .ref (b (2 + i)) from by rw [nI_clamp (by omega)]; exact congrArg va_rf (arS_at (by omega))) ?_
        refine lv_astore (lv' := [(6, .ref (b (2 + i))), (5, .int (nI i)), (4, .int (nI n)), (3, .ref (b 1)), (2, .int (nI (loS F n i))), (1, .int (nI (hiS F n i))), (0, .ref (b 0))]) hx hb dX2_unfairness_28 hl (by decide) rfl (fun ls hl => ?_)
        refine lv_iload_n hx hb dX2_unfairness_30 rfl (lv_at hl 5 rfl) ?_
        refine lv_aload_n hx hb dX2_unfairness_31 rfl (lv_at hl 6 rfl) ?_
        refine lv_aload hx hb dX2_unfairness_32 (lv_at hl 0 rfl) ?_
        refine lv_iconst (v := (nI 0)) hx hb dX2_unfairness_34 (by decide) ?_
        refine va_iald hx hb hK hP (p0 + (2 + i)) 0 (hv.2.2 i (by omega)) rfl (by exact vp_in_nI (by omega) (by omega)) dX2_unfairness_35 ?_
        refine nq_top (show (rwF F i (((nI 0)).toNatClampNeg)) = (nI (F i 2)) from by rw [nI_clamp (by omega)]; rfl) ?_
        refine csV_i (rest := [.int (nI (hiS F n i))]) (As := [.int (nI (F i 2))]) ⟨hx, hb, hml, hown, hts⟩ (c_X2_seen l E _ p0 b n now lim F hv (by omega) hO (F i 2) (by omega)) (cwV 1 hts gX2_unfairness_X2_seen rfl rfl rfl (by decide +kernel) ⟨Nat.le_of_ble_eq_true rfl, Nat.le_of_ble_eq_true rfl⟩) (va_recv hK hP (ci := 3) (q0 := p0) rfl hv.1) hP hK rfl hl.1 rfl (Nat.le_of_ble_eq_true rfl) dX2_unfairness_36 (Nat.le_of_ble_eq_true rfl) (Nat.le_of_ble_eq_true rfl) (fun r36 hr36 => ?_)
        subst hr36
        refine va_mmax hx hb (hml.trans hl.1.symm) hown (hts (.methodLink RX2 51 Lib.Math.max.name) (List.mem_of_getElem? (i := 3) (by rfl))) (hts (.static Lib.Math.max.name) (List.mem_of_getElem? (i := 4) (by rfl))) (hts (.initialized "java/lang/Math") (List.mem_of_getElem? (i := 5) (by rfl))) (hts (.code Lib.Math.max.name Lib.Math.max.code 2 (some .int)) (List.mem_of_getElem? (i := 6) (by rfl))) (Nat.le_of_ble_eq_true rfl) (Nat.le_of_ble_eq_true rfl) (Nat.le_of_ble_eq_true rfl) (Nat.le_of_ble_eq_true rfl) dX2_unfairness_39 ?_
        refine nq_top (show (if (nI (hiS F n i)) < (nI (seenS F (F i 2) n)) then (nI (seenS F (F i 2) n)) else (nI (hiS F n i))) = (nI (max (hiS F n i) (seenS F (F i 2) n))) from nmax (by omega) (by omega)) ?_
        refine lv_istore_n (lv' := [(1, .int (nI (max (hiS F n i) (seenS F (F i 2) n)))), (6, .ref (b (2 + i))), (5, .int (nI i)), (4, .int (nI n)), (3, .ref (b 1)), (2, .int (nI (loS F n i))), (0, .ref (b 0))]) hx hb dX2_unfairness_42 rfl hl (by decide) rfl (fun ls hl => ?_)
        refine lv_iload_n hx hb dX2_unfairness_43 rfl (lv_at hl 5 rfl) ?_
        refine lv_aload_n hx hb dX2_unfairness_44 rfl (lv_at hl 6 rfl) ?_
        refine lv_aload hx hb dX2_unfairness_45 (lv_at hl 1 rfl) ?_
        refine lv_iconst (v := (nI 0)) hx hb dX2_unfairness_47 (by decide) ?_
        refine va_iald hx hb hK hP (p0 + (2 + i)) 0 (hv.2.2 i (by omega)) rfl (by exact vp_in_nI (by omega) (by omega)) dX2_unfairness_48 ?_
        refine nq_top (show (rwF F i (((nI 0)).toNatClampNeg)) = (nI (F i 2)) from by rw [nI_clamp (by omega)]; rfl) ?_
        refine csV_i (rest := [.int (nI (loS F n i))]) (As := [.int (nI (F i 2))]) ⟨hx, hb, hml, hown, hts⟩ (c_X2_seen l E _ p0 b n now lim F hv (by omega) hO (F i 2) (by omega)) (cwV 1 hts gX2_unfairness_X2_seen rfl rfl rfl (by decide +kernel) ⟨Nat.le_of_ble_eq_true rfl, Nat.le_of_ble_eq_true rfl⟩) (va_recv hK hP (ci := 3) (q0 := p0) rfl hv.1) hP hK rfl hl.1 rfl (Nat.le_of_ble_eq_true rfl) dX2_unfairness_49 (Nat.le_of_ble_eq_true rfl) (Nat.le_of_ble_eq_true rfl) (fun r49 hr49 => ?_)
        subst hr49
        refine va_mmin hx hb (hml.trans hl.1.symm) hown (hts (.methodLink RX2 56 Lib.Math.min.name) (List.mem_of_getElem? (i := 7) (by rfl))) (hts (.static Lib.Math.min.name) (List.mem_of_getElem? (i := 8) (by rfl))) (hts (.initialized "java/lang/Math") (List.mem_of_getElem? (i := 5) (by rfl))) (hts (.code Lib.Math.min.name Lib.Math.min.code 2 (some .int)) (List.mem_of_getElem? (i := 9) (by rfl))) (Nat.le_of_ble_eq_true rfl) (Nat.le_of_ble_eq_true rfl) (Nat.le_of_ble_eq_true rfl) (Nat.le_of_ble_eq_true rfl) dX2_unfairness_52 ?_
        refine nq_top (show (if (nI (seenS F (F i 2) n)) < (nI (loS F n i)) then (nI (seenS F (F i 2) n)) else (nI (loS F n i))) = (nI (min (loS F n i) (seenS F (F i 2) n))) from nmin (by omega) (by omega)) ?_
        refine lv_istore_n (lv' := [(2, .int (nI (min (loS F n i) (seenS F (F i 2) n)))), (1, .int (nI (max (hiS F n i) (seenS F (F i 2) n)))), (6, .ref (b (2 + i))), (5, .int (nI i)), (4, .int (nI n)), (3, .ref (b 1)), (0, .ref (b 0))]) hx hb dX2_unfairness_55 rfl hl (by decide) rfl (fun ls hl => ?_)
        refine nq_inc (lv' := [(5, .int (nI (i + 1))), (2, .int (nI (min (loS F n i) (seenS F (F i 2) n)))), (1, .int (nI (max (hiS F n i) (seenS F (F i 2) n)))), (6, .ref (b (2 + i))), (4, .int (nI n)), (3, .ref (b 1)), (0, .ref (b 0))]) hx hb dX2_unfairness_56 (d := 1) rfl hl (k := 3) rfl (by decide) rfl (fun ls hl => ?_)
        refine lv_goto (tgt := 17) hx hb dX2_unfairness_59 (by decide) ?_
        have hl : lv_has ls 7 [(5, .int (nI (i + 1))), (2, .int (nI (loS F n (i + 1)))), (1, .int (nI (max (hiS F n i) (seenS F (F i 2) n)))), (6, .ref (b (2 + i))), (4, .int (nI n)), (3, .ref (b 1)), (0, .ref (b 0))] := lv_rep hl 1 rfl (congrArg Value.int (show (nI (min (loS F n i) (seenS F (F i 2) n))) = (nI (loS F n (i + 1))) from rfl))
        have hl : lv_has ls 7 [(5, .int (nI (i + 1))), (2, .int (nI (loS F n (i + 1)))), (1, .int (nI (hiS F n (i + 1)))), (6, .ref (b (2 + i))), (4, .int (nI n)), (3, .ref (b 1)), (0, .ref (b 0))] := lv_rep hl 2 rfl (congrArg Value.int (show (nI (max (hiS F n i) (seenS F (F i 2) n))) = (nI (hiS F n (i + 1))) from rfl))
        exact ih17 (i + 1) ls (by omega) (by omega) (lv_sub hl [0, 4, 5, 1, 2, 6] rfl)
  have hl : lv_has ls 7 [(5, .int (nI 0)), (4, .int (nI n)), (3, .ref (b 1)), (2, .int (nI (loS F n 0))), (1, .int (nI 0)), (0, .ref (b 0))] := lv_rep hl 3 rfl (congrArg Value.int (show (nI 1000000) = (nI (loS F n 0)) from rfl))
  have hl : lv_has ls 7 [(5, .int (nI 0)), (4, .int (nI n)), (3, .ref (b 1)), (2, .int (nI (loS F n 0))), (1, .int (nI (hiS F n 0))), (0, .ref (b 0))] := lv_rep hl 4 rfl (congrArg Value.int (show (nI 0) = (nI (hiS F n 0)) from rfl))
  exact loop17 ((n - 0) + 1) 0 ls (by omega) (Nat.lt_succ_self _) (lv_sub hl [0, 1, 2, 3, 4, 5] rfl)

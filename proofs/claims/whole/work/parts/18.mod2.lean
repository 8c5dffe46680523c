/-! the reference's numbers: sums, divisors, meetings -/
theorem mx_bd {n now lim : Nat} {F : LR} (h : OkS n now lim F) : ∀ k, mxS F n k ≤ 800000000 ∧ mnS F n k ≤ 800000000
  | 0 => by
    have h3 := seenS_le h (F 0 2) n (Nat.le_refl _)
    have h5 : n * 100000000 ≤ 8 * 100000000 := Nat.mul_le_mul_right _ h.1
    have h6 : mxS F n 0 = seenS F (F 0 2) n := rfl
    have h7 : mnS F n 0 = seenS F (F 0 2) n := rfl
    omega
  | k + 1 => by
    have h1 := mx_bd h k
    have h3 := seenS_le h (F (k + 1) 2) n (Nat.le_refl _)
    have h5 : n * 100000000 ≤ 8 * 100000000 := Nat.mul_le_mul_right _ h.1
    rw [mxS_s, mnS_s]
    omega
theorem mn_mx (F : LR) (n : Nat) (k : Nat) : mnS F n k ≤ mxS F n k := by
  have h := mx_ge F n k 0 (Nat.zero_le _)
  omega
theorem gcd_step {x z : Nat} : Nat.gcd x z = Nat.gcd z (x % z) := by
  rw [Nat.gcd_comm x z, Nat.gcd_rec z x, Nat.gcd_comm]
theorem strS_s (F : LR) (n k : Nat) : strS F n (k + 1) = strS F n k + (n - 1 - mtS F k (F k 3 : Int) n) := rfl
theorem strS_le (F : LR) (n : Nat) : ∀ k, strS F n k ≤ k * n
  | 0 => Nat.zero_le _
  | k + 1 => by
    have h := strS_le F n k
    rw [strS_s, Nat.succ_mul]
    omega
theorem mt_lt {F : LR} {i n : Nat} (h : i < n) (z : Int) : mtS F i z n + 1 ≤ n := by
  have key : ∀ k, i < k → mtS F i z k + 1 ≤ k := by
    intro k
    induction k with
    | zero => intro h; omega
    | succ k ih =>
      intro hk
      rw [mtS_s]
      rcases Nat.lt_or_ge i k with q | q
      · have := ih q
        split <;> omega
      · have e : k = i := by omega
        rw [if_neg (fun q => q.1 e)]
        have := mtS_le F i z k
        omega
  exact key n h
theorem lcm_div {x z : Nat} (hx : 0 < x) (hz : 0 < z) : x / Nat.gcd (x % z) z * z = Nat.lcm x z := by
  have h1 : Nat.gcd (x % z) z = Nat.gcd x z := by rw [← Nat.gcd_rec, Nat.gcd_comm]
  rw [h1]
  unfold Nat.lcm
  rw [Nat.mul_comm x z, Nat.mul_div_assoc _ (Nat.gcd_dvd_left x z), Nat.mul_comm]
theorem lN_inj0 {a : Nat} (h : a < 4611686018427387904) : lN a = 0 ↔ a = 0 := by
  rw [← lI_n, lI_eq0 (by omega)]
  omega
theorem wait_mod {F : LR} {i b : Nat} (h : 2 ≤ F i 0) : (F i 0 - ph F i b) % F i 0 = wait F i b := by
  have h2 := ph_lt (b := b) h
  unfold wait
  by_cases h3 : ph F i b = 0
  · rw [if_pos h3, h3, Nat.sub_zero, Nat.mod_self]
  · rw [if_neg h3, Nat.mod_eq_of_lt (by omega)]

set_option maxHeartbeats 4000000 in
set_option maxRecDepth 100000 in
/-- seenOf(c) -/
theorem c_X2_seenOf (l : Launch) (E : GE) (w : va_W) (b : Nat → Nat) (n lim t : Nat) (F : LR) (nw : Nat) (hv : MV E b n lim t F w) (hO : OkS n nw lim F) (htn9 : t ≤ nw) (k : Nat) (hk : k ≤ 5) : Met l yX2_seenOf wsX2_seenOf ({ frames := 0, cells := 0, slots := 0, locals := 0 } : Room) (va_Pc [.ref (b 0), .int (nI k)] (pcS E (w))) (vp_Si (fun r => r = nI (seenS F k n))) 0 0 (fun _ => False) := by
  refine metS (by decide) rfl (Nat.le_of_ble_eq_true rfl) ?_
  intro p e s m args below meth c ls hx hb hr hml hts hown hlocks hP hK hl
  have hiX2 : ∀ q ∈ wsX20, q ∈ wsX2_seenOf := by decide +kernel
  obtain ⟨QQ, hQ⟩ : ∃ zQ, zQ = MQ below (vp_Si (fun r => r = nI (seenS F k n))) args s 0 0 (fun _ => False) := ⟨_, rfl⟩
  rw [← hQ]
  obtain ⟨th, m0x, m1x, m2x, m3x, m4x, m5x, m6x⟩ := mv_all hv
  obtain ⟨hO1, hO2, hO3, hO4, hO5⟩ := id hO
  refine lv_iconst (v := (nI 0)) hx hb dX2_seenOf_0 (by decide) ?_
  refine lv_istore_n (lv' := [(2, .int (nI 0)), (0, .ref (b 0)), (1, .int (nI k))]) hx hb dX2_seenOf_1 rfl hl (by decide) rfl (fun ls hl => ?_)
  refine lv_iconst (v := (nI 0)) hx hb dX2_seenOf_2 (by decide) ?_
  refine lv_istore_n (lv' := [(3, .int (nI 0)), (2, .int (nI 0)), (0, .ref (b 0)), (1, .int (nI k))]) hx hb dX2_seenOf_3 rfl hl (by decide) rfl (fun ls hl => ?_)
  have loop4 : ∀ (tk : Nat) (i : Nat) (ls : Array Slot), (i ≤ n) → (n - i) < tk → lv_has ls 4 [(0, .ref (b 0)), (1, .int (nI k)), (2, .int (nI (seenS F k i))), (3, .int (nI i))] → W p l e ({ frames := 0, cells := 0, slots := 0, locals := 0 } : Room) s m args below meth c s.heap [] 0 0 QQ (F0 m 4 ls []) := by
    intro tk
    induction tk with
    | zero => intro i ls hi hk hl; exact absurd hk (Nat.not_lt_zero _)
    | succ tk ih4 =>
      intro i ls hi hk hl
      refine lv_iload_n hx hb dX2_seenOf_4 rfl (lv_at hl 3 rfl) ?_
      refine lv_aload_n hx hb dX2_seenOf_5 rfl (lv_at hl 0 rfl) ?_
      refine va_get (D := E.1) (ci := 3) (v := .int (nI n)) (C := RX2) (T := TX2) (N := 10) hx hb hts hiX2 hown hK hP 0 m0x rfl 1 (by decide) (hts (.fieldLink RX2 38 "PulseLoomModel" "lamps" "I") (List.mem_of_getElem? (i := 1) (by rfl))) (fun _ h9 => h9) rfl dX2_seenOf_6 ?_
      refine nq_icmp_ge (tgt := 43) hx hb dX2_seenOf_9 (by decide) (by omega) (by omega) (fun h9 => ?_) (fun h9 => ?_)
      · skip
        refine lv_iload_n hx hb dX2_seenOf_43 rfl (lv_at hl 2 rfl) ?_
        rw [hQ]
        exact retS_i hx hb hr hlocks (congrArg nI (by rw [show i = n by omega])) dX2_seenOf_44
      · skip
        have hi9 := hO4 i h9
        refine lv_iload_n hx hb dX2_seenOf_12 rfl (lv_at hl 2 rfl) ?_
        refine lv_aload_n hx hb dX2_seenOf_13 rfl (lv_at hl 0 rfl) ?_
        refine va_get (D := E.1) (ci := 3) (v := .ref (b 1)) (C := RX2) (T := TX2) (N := 10) hx hb hts hiX2 hown hK hP 0 m0x rfl 3 (by decide) (hts (.fieldLink RX2 13 "PulseLoomModel" "colour" "[I") (List.mem_of_getElem? (i := 2) (by rfl))) (fun _ h9 => h9) rfl dX2_seenOf_14 ?_
        refine lv_iload_n hx hb dX2_seenOf_17 rfl (lv_at hl 3 rfl) ?_
        refine va_iald hx hb hK hP 1 0 m1x rfl (by exact vp_in_nI (by omega) (by omega)) dX2_seenOf_18 ?_
        refine nq_top (show (nI (F (((nI i)).toNatClampNeg) 2)) = (nI (F i 2)) from by rw [nI_clamp (by omega)]) ?_
        refine lv_iload_n hx hb dX2_seenOf_19 rfl (lv_at hl 1 rfl) ?_
        refine nq_icmp_ne (tgt := 34) hx hb dX2_seenOf_20 (by decide) (by omega) (by omega) (fun h20 => ?_) (fun h20 => ?_)
        · skip
          refine lv_iconst (v := (nI 0)) hx hb dX2_seenOf_34 (by decide) ?_
          refine nq_add hx hb dX2_seenOf_35 ?_
          refine lv_istore_n (lv' := [(2, .int (nI ((seenS F k i) + 0))), (0, .ref (b 0)), (1, .int (nI k)), (3, .int (nI i))]) hx hb dX2_seenOf_36 rfl hl (by decide) rfl (fun ls hl => ?_)
          refine nq_inc (lv' := [(3, .int (nI (i + 1))), (2, .int (nI ((seenS F k i) + 0))), (0, .ref (b 0)), (1, .int (nI k))]) hx hb dX2_seenOf_37 (d := 1) rfl hl (k := 3) rfl (by decide) rfl (fun ls hl => ?_)
          refine lv_goto (tgt := 4) hx hb dX2_seenOf_40 (by decide) ?_
          have hl : lv_has ls 4 [(3, .int (nI (i + 1))), (2, .int (nI (seenS F k (i + 1)))), (0, .ref (b 0)), (1, .int (nI k))] := lv_rep hl 1 rfl (congrArg Value.int (show (nI ((seenS F k i) + 0)) = (nI (seenS F k (i + 1))) from congrArg nI (by rw [seenS_s, if_neg h20])))
          exact ih4 (i + 1) ls (by omega) (by omega) (lv_sub hl [2, 3, 1, 0] rfl)
        · skip
          refine lv_aload_n hx hb dX2_seenOf_23 rfl (lv_at hl 0 rfl) ?_
          refine va_get (D := E.1) (ci := 3) (v := .ref (b 6)) (C := RX2) (T := TX2) (N := 10) hx hb hts hiX2 hown hK hP 0 m0x rfl 8 (by decide) (hts (.fieldLink RX2 29 "PulseLoomModel" "now" "[I") (List.mem_of_getElem? (i := 3) (by rfl))) (fun _ h9 => h9) rfl dX2_seenOf_24 ?_
          refine lv_iconst (v := (nI 1)) hx hb dX2_seenOf_27 (by decide) ?_
          refine lv_iload_n hx hb dX2_seenOf_28 rfl (lv_at hl 3 rfl) ?_
          refine nq_add hx hb dX2_seenOf_29 ?_
          refine va_iald hx hb hK hP 6 0 m6x rfl (by exact vp_in_nI (by omega) (by omega)) dX2_seenOf_30 ?_
          refine nq_top (show (NW t F (((nI (1 + i))).toNatClampNeg)) = (nI (F i 5)) from by rw [nI_clamp (by omega)]; exact NW_s _ _ (by omega)) ?_
          refine lv_goto (tgt := 35) hx hb dX2_seenOf_31 (by decide) ?_
          refine nq_add hx hb dX2_seenOf_35 ?_
          refine lv_istore_n (lv' := [(2, .int (nI ((seenS F k i) + (F i 5)))), (0, .ref (b 0)), (1, .int (nI k)), (3, .int (nI i))]) hx hb dX2_seenOf_36 rfl hl (by decide) rfl (fun ls hl => ?_)
          refine nq_inc (lv' := [(3, .int (nI (i + 1))), (2, .int (nI ((seenS F k i) + (F i 5)))), (0, .ref (b 0)), (1, .int (nI k))]) hx hb dX2_seenOf_37 (d := 1) rfl hl (k := 3) rfl (by decide) rfl (fun ls hl => ?_)
          refine lv_goto (tgt := 4) hx hb dX2_seenOf_40 (by decide) ?_
          have hl : lv_has ls 4 [(3, .int (nI (i + 1))), (2, .int (nI (seenS F k (i + 1)))), (0, .ref (b 0)), (1, .int (nI k))] := lv_rep hl 1 rfl (congrArg Value.int (show (nI ((seenS F k i) + (F i 5))) = (nI (seenS F k (i + 1))) from congrArg nI (by rw [seenS_s, if_pos h20])))
          exact ih4 (i + 1) ls (by omega) (by omega) (lv_sub hl [2, 3, 1, 0] rfl)
  have hl : lv_has ls 4 [(3, .int (nI 0)), (2, .int (nI (seenS F k 0))), (0, .ref (b 0)), (1, .int (nI k))] := lv_rep hl 1 rfl (congrArg Value.int (show (nI 0) = (nI (seenS F k 0)) from rfl))
  exact loop4 ((n - 0) + 1) 0 ls (by omega) (Nat.lt_succ_self _) (lv_sub hl [2, 3, 1, 0] rfl)

set_option maxHeartbeats 4000000 in
set_option maxRecDepth 100000 in
/-- unfair() -/
theorem c_X2_unfair (l : Launch) (E : GE) (w : va_W) (b : Nat → Nat) (n lim t : Nat) (F : LR) (nw : Nat) (hv : MV E b n lim t F w) (hO : OkS n nw lim F) (htn9 : t ≤ nw) : Met l yX2_unfair wsX2_unfair ({ frames := 1, cells := 0, slots := 0, locals := 23 } : Room) (va_Pc [.ref (b 0)] (pcS E (w))) (vp_Si (fun r => r = nI (unfS F n))) 0 0 (fun _ => False) := by
  refine metS (by decide) rfl (Nat.le_of_ble_eq_true rfl) ?_
  intro p e s m args below meth c ls hx hb hr hml hts hown hlocks hP hK hl
  have hiX2 : ∀ q ∈ wsX20, q ∈ wsX2_unfair := by decide +kernel
  obtain ⟨QQ, hQ⟩ : ∃ zQ, zQ = MQ below (vp_Si (fun r => r = nI (unfS F n))) args s 0 0 (fun _ => False) := ⟨_, rfl⟩
  rw [← hQ]
  obtain ⟨th, m0x, m1x, m2x, m3x, m4x, m5x, m6x⟩ := mv_all hv
  obtain ⟨hO1, hO2, hO3, hO4, hO5⟩ := id hO
  refine lv_aload_n hx hb dX2_unfair_0 rfl (lv_at hl 0 rfl) ?_
  refine va_get (D := E.1) (ci := 3) (v := .int (nI n)) (C := RX2) (T := TX2) (N := 10) hx hb hts hiX2 hown hK hP 0 m0x rfl 1 (by decide) (hts (.fieldLink RX2 38 "PulseLoomModel" "lamps" "I") (List.mem_of_getElem? (i := 1) (by rfl))) (fun _ h9 => h9) rfl dX2_unfair_1 ?_
  refine nq_if_ne (tgt := 9) hx hb dX2_unfair_4 (by decide) (by omega) (fun h4 => ?_) (fun h4 => ?_)
  · skip
    have h09 := hO4 0 h4
    refine lv_aload_n hx hb dX2_unfair_9 rfl (lv_at hl 0 rfl) ?_
    refine lv_aload_n hx hb dX2_unfair_10 rfl (lv_at hl 0 rfl) ?_
    refine va_get (D := E.1) (ci := 3) (v := .ref (b 1)) (C := RX2) (T := TX2) (N := 10) hx hb hts hiX2 hown hK hP 0 m0x rfl 3 (by decide) (hts (.fieldLink RX2 13 "PulseLoomModel" "colour" "[I") (List.mem_of_getElem? (i := 2) (by rfl))) (fun _ h9 => h9) rfl dX2_unfair_11 ?_
    refine lv_iconst (v := (nI 0)) hx hb dX2_unfair_14 (by decide) ?_
    refine va_iald hx hb hK hP 1 0 m1x rfl (by exact vp_in_nI (by omega) (by omega)) dX2_unfair_15 ?_
    refine nq_top (show (nI (F (((nI 0)).toNatClampNeg) 2)) = (nI (F 0 2)) from by rw [nI_clamp (by omega)]) ?_
    refine csV_i (rest := []) (As := [.int (nI (F 0 2))]) ⟨hx, hb, hml, hown, hts⟩ (c_X2_seenOf l E _ b n lim t F nw hv hO htn9 (F 0 2) (by omega)) (cwV 1 hts gX2_unfair_X2_seenOf rfl rfl rfl (by decide +kernel) ⟨Nat.le_of_ble_eq_true rfl, Nat.le_of_ble_eq_true rfl⟩) (va_recv hK hP (ci := 3) (q0 := 0) rfl m0x) hP hK rfl hl.1 rfl (Nat.le_of_ble_eq_true rfl) dX2_unfair_16 (Nat.le_of_ble_eq_true rfl) (Nat.le_of_ble_eq_true rfl) (fun r16 hr16 => ?_)
    subst hr16
    refine lv_istore_n (lv' := [(1, .int (nI (seenS F (F 0 2) n))), (0, .ref (b 0))]) hx hb dX2_unfair_19 rfl hl (by decide) rfl (fun ls hl => ?_)
    refine lv_iload_n hx hb dX2_unfair_20 rfl (lv_at hl 0 rfl) ?_
    refine lv_istore_n (lv' := [(2, .int (nI (seenS F (F 0 2) n))), (1, .int (nI (seenS F (F 0 2) n))), (0, .ref (b 0))]) hx hb dX2_unfair_21 rfl hl (by decide) rfl (fun ls hl => ?_)
    refine lv_iconst (v := (nI 1)) hx hb dX2_unfair_22 (by decide) ?_
    refine lv_istore_n (lv' := [(3, .int (nI 1)), (2, .int (nI (seenS F (F 0 2) n))), (1, .int (nI (seenS F (F 0 2) n))), (0, .ref (b 0))]) hx hb dX2_unfair_23 rfl hl (by decide) rfl (fun ls hl => ?_)
    have loop24 : ∀ (tk : Nat) (i : Nat) (ls : Array Slot), (i + 1 ≤ n) → (n - i) < tk → lv_has ls 4 [(0, .ref (b 0)), (1, .int (nI (mxS F n i))), (2, .int (nI (mnS F n i))), (3, .int (nI (i + 1)))] → W p l e ({ frames := 1, cells := 0, slots := 0, locals := 23 } : Room) s m args below meth c s.heap [] 0 0 QQ (F0 m 24 ls []) := by
      intro tk
      induction tk with
      | zero => intro i ls hi hk hl; exact absurd hk (Nat.not_lt_zero _)
      | succ tk ih24 =>
        intro i ls hi hk hl
        have hbd := mx_bd hO i
        have hmm := mn_mx F n i
        refine lv_iload_n hx hb dX2_unfair_24 rfl (lv_at hl 3 rfl) ?_
        refine lv_aload_n hx hb dX2_unfair_25 rfl (lv_at hl 0 rfl) ?_
        refine va_get (D := E.1) (ci := 3) (v := .int (nI n)) (C := RX2) (T := TX2) (N := 10) hx hb hts hiX2 hown hK hP 0 m0x rfl 1 (by decide) (hts (.fieldLink RX2 38 "PulseLoomModel" "lamps" "I") (List.mem_of_getElem? (i := 1) (by rfl))) (fun _ h9 => h9) rfl dX2_unfair_26 ?_
        refine nq_icmp_ge (tgt := 68) hx hb dX2_unfair_29 (by decide) (by omega) (by omega) (fun h29 => ?_) (fun h29 => ?_)
        · skip
          refine lv_iload_n hx hb dX2_unfair_68 rfl (lv_at hl 1 rfl) ?_
          refine lv_iload_n hx hb dX2_unfair_69 rfl (lv_at hl 2 rfl) ?_
          refine nq_sub hx hb dX2_unfair_70 (by omega) ?_
          rw [hQ]
          exact retS_i hx hb hr hlocks (congrArg nI (by unfold unfS; rw [if_neg (by omega), show n - 1 = i by omega])) dX2_unfair_71
        · skip
          have hi9 := hO4 (i + 1) h29
          have hs9 := seenS_le hO (F (i + 1) 2) n (Nat.le_refl _)
          have hs8 : n * 100000000 ≤ 8 * 100000000 := Nat.mul_le_mul_right _ hO1
          refine lv_iload_n hx hb dX2_unfair_32 rfl (lv_at hl 1 rfl) ?_
          refine lv_aload_n hx hb dX2_unfair_33 rfl (lv_at hl 0 rfl) ?_
          refine lv_aload_n hx hb dX2_unfair_34 rfl (lv_at hl 0 rfl) ?_
          refine va_get (D := E.1) (ci := 3) (v := .ref (b 1)) (C := RX2) (T := TX2) (N := 10) hx hb hts hiX2 hown hK hP 0 m0x rfl 3 (by decide) (hts (.fieldLink RX2 13 "PulseLoomModel" "colour" "[I") (List.mem_of_getElem? (i := 2) (by rfl))) (fun _ h9 => h9) rfl dX2_unfair_35 ?_
          refine lv_iload_n hx hb dX2_unfair_38 rfl (lv_at hl 3 rfl) ?_
          refine va_iald hx hb hK hP 1 0 m1x rfl (by exact vp_in_nI (by omega) (by omega)) dX2_unfair_39 ?_
          refine nq_top (show (nI (F (((nI (i + 1))).toNatClampNeg) 2)) = (nI (F (i + 1) 2)) from by rw [nI_clamp (by omega)]) ?_
          refine csV_i (rest := [.int (nI (mxS F n i))]) (As := [.int (nI (F (i + 1) 2))]) ⟨hx, hb, hml, hown, hts⟩ (c_X2_seenOf l E _ b n lim t F nw hv hO htn9 (F (i + 1) 2) (by omega)) (cwV 1 hts gX2_unfair_X2_seenOf rfl rfl rfl (by decide +kernel) ⟨Nat.le_of_ble_eq_true rfl, Nat.le_of_ble_eq_true rfl⟩) (va_recv hK hP (ci := 3) (q0 := 0) rfl m0x) hP hK rfl hl.1 rfl (Nat.le_of_ble_eq_true rfl) dX2_unfair_40 (Nat.le_of_ble_eq_true rfl) (Nat.le_of_ble_eq_true rfl) (fun r40 hr40 => ?_)
          subst hr40
          refine va_mmax hx hb (hml.trans hl.1.symm) hown (hts (.methodLink RX2 99 Lib.Math.max.name) (List.mem_of_getElem? (i := 3) (by rfl))) (hts (.static Lib.Math.max.name) (List.mem_of_getElem? (i := 4) (by rfl))) (hts (.initialized "java/lang/Math") (List.mem_of_getElem? (i := 5) (by rfl))) (hts (.code Lib.Math.max.name Lib.Math.max.code 2 (some .int)) (List.mem_of_getElem? (i := 6) (by rfl))) (Nat.le_of_ble_eq_true rfl) (Nat.le_of_ble_eq_true rfl) (Nat.le_of_ble_eq_true rfl) (Nat.le_of_ble_eq_true rfl) dX2_unfair_43 ?_
          refine nq_top (show (if (nI (mxS F n i)) < (nI (seenS F (F (i + 1) 2) n)) then (nI (seenS F (F (i + 1) 2) n)) else (nI (mxS F n i))) = (nI (max (mxS F n i) (seenS F (F (i + 1) 2) n))) from nmax (by omega) (by omega)) ?_
          refine lv_istore_n (lv' := [(1, .int (nI (max (mxS F n i) (seenS F (F (i + 1) 2) n)))), (0, .ref (b 0)), (2, .int (nI (mnS F n i))), (3, .int (nI (i + 1)))]) hx hb dX2_unfair_46 rfl hl (by decide) rfl (fun ls hl => ?_)
          refine lv_iload_n hx hb dX2_unfair_47 rfl (lv_at hl 2 rfl) ?_
          refine lv_aload_n hx hb dX2_unfair_48 rfl (lv_at hl 1 rfl) ?_
          refine lv_aload_n hx hb dX2_unfair_49 rfl (lv_at hl 1 rfl) ?_
          refine va_get (D := E.1) (ci := 3) (v := .ref (b 1)) (C := RX2) (T := TX2) (N := 10) hx hb hts hiX2 hown hK hP 0 m0x rfl 3 (by decide) (hts (.fieldLink RX2 13 "PulseLoomModel" "colour" "[I") (List.mem_of_getElem? (i := 2) (by rfl))) (fun _ h9 => h9) rfl dX2_unfair_50 ?_
          refine lv_iload_n hx hb dX2_unfair_53 rfl (lv_at hl 3 rfl) ?_
          refine va_iald hx hb hK hP 1 0 m1x rfl (by exact vp_in_nI (by omega) (by omega)) dX2_unfair_54 ?_
          refine nq_top (show (nI (F (((nI (i + 1))).toNatClampNeg) 2)) = (nI (F (i + 1) 2)) from by rw [nI_clamp (by omega)]) ?_
          refine csV_i (rest := [.int (nI (mnS F n i))]) (As := [.int (nI (F (i + 1) 2))]) ⟨hx, hb, hml, hown, hts⟩ (c_X2_seenOf l E _ b n lim t F nw hv hO htn9 (F (i + 1) 2) (by omega)) (cwV 1 hts gX2_unfair_X2_seenOf rfl rfl rfl (by decide +kernel) ⟨Nat.le_of_ble_eq_true rfl, Nat.le_of_ble_eq_true rfl⟩) (va_recv hK hP (ci := 3) (q0 := 0) rfl m0x) hP hK rfl hl.1 rfl (Nat.le_of_ble_eq_true rfl) dX2_unfair_55 (Nat.le_of_ble_eq_true rfl) (Nat.le_of_ble_eq_true rfl) (fun r55 hr55 => ?_)
          subst hr55
          refine va_mmin hx hb (hml.trans hl.1.symm) hown (hts (.methodLink RX2 104 Lib.Math.min.name) (List.mem_of_getElem? (i := 7) (by rfl))) (hts (.static Lib.Math.min.name) (List.mem_of_getElem? (i := 8) (by rfl))) (hts (.initialized "java/lang/Math") (List.mem_of_getElem? (i := 5) (by rfl))) (hts (.code Lib.Math.min.name Lib.Math.min.code 2 (some .int)) (List.mem_of_getElem? (i := 9) (by rfl))) (Nat.le_of_ble_eq_true rfl) (Nat.le_of_ble_eq_true rfl) (Nat.le_of_ble_eq_true rfl) (Nat.le_of_ble_eq_true rfl) dX2_unfair_58 ?_
          refine nq_top (show (if (nI (seenS F (F (i + 1) 2) n)) < (nI (mnS F n i)) then (nI (seenS F (F (i + 1) 2) n)) else (nI (mnS F n i))) = (nI (min (mnS F n i) (seenS F (F (i + 1) 2) n))) from nmin (by omega) (by omega)) ?_
          refine lv_istore_n (lv' := [(2, .int (nI (min (mnS F n i) (seenS F (F (i + 1) 2) n)))), (1, .int (nI (max (mxS F n i) (seenS F (F (i + 1) 2) n)))), (0, .ref (b 0)), (3, .int (nI (i + 1)))]) hx hb dX2_unfair_61 rfl hl (by decide) rfl (fun ls hl => ?_)
          refine nq_inc (lv' := [(3, .int (nI (i + 1 + 1))), (2, .int (nI (min (mnS F n i) (seenS F (F (i + 1) 2) n)))), (1, .int (nI (max (mxS F n i) (seenS F (F (i + 1) 2) n)))), (0, .ref (b 0))]) hx hb dX2_unfair_62 (d := 1) rfl hl (k := 3) rfl (by decide) rfl (fun ls hl => ?_)
          refine lv_goto (tgt := 24) hx hb dX2_unfair_65 (by decide) ?_
          have hl : lv_has ls 4 [(3, .int (nI (i + 1 + 1))), (2, .int (nI (min (mnS F n i) (seenS F (F (i + 1) 2) n)))), (1, .int (nI (mxS F n (i + 1)))), (0, .ref (b 0))] := lv_rep hl 2 rfl (congrArg Value.int (show (nI (max (mxS F n i) (seenS F (F (i + 1) 2) n))) = (nI (mxS F n (i + 1))) from rfl))
          have hl : lv_has ls 4 [(3, .int (nI (i + 1 + 1))), (2, .int (nI (mnS F n (i + 1)))), (1, .int (nI (mxS F n (i + 1)))), (0, .ref (b 0))] := lv_rep hl 1 rfl (congrArg Value.int (show (nI (min (mnS F n i) (seenS F (F (i + 1) 2) n))) = (nI (mnS F n (i + 1))) from rfl))
          have hl : lv_has ls 4 [(3, .int (nI ((i + 1) + 1))), (2, .int (nI (mnS F n (i + 1)))), (1, .int (nI (mxS F n (i + 1)))), (0, .ref (b 0))] := lv_rep hl 0 rfl (congrArg Value.int (show (nI (i + 1 + 1)) = (nI ((i + 1) + 1)) from by first | rfl | (congr 1; omega)))
          exact ih24 (i + 1) ls (by omega) (by omega) (lv_sub hl [3, 2, 1, 0] rfl)
    have hl : lv_has ls 4 [(3, .int (nI 1)), (2, .int (nI (seenS F (F 0 2) n))), (1, .int (nI (mxS F n 0))), (0, .ref (b 0))] := lv_rep hl 2 rfl (congrArg Value.int (show (nI (seenS F (F 0 2) n)) = (nI (mxS F n 0)) from rfl))
    have hl : lv_has ls 4 [(3, .int (nI 1)), (2, .int (nI (mnS F n 0))), (1, .int (nI (mxS F n 0))), (0, .ref (b 0))] := lv_rep hl 1 rfl (congrArg Value.int (show (nI (seenS F (F 0 2) n)) = (nI (mnS F n 0)) from rfl))
    have hl : lv_has ls 4 [(3, .int (nI (0 + 1))), (2, .int (nI (mnS F n 0))), (1, .int (nI (mxS F n 0))), (0, .ref (b 0))] := lv_rep hl 0 rfl (congrArg Value.int (show (nI 1) = (nI (0 + 1)) from rfl))
    exact loop24 ((n - 0) + 1) 0 ls (by omega) (Nat.lt_succ_self _) (lv_sub hl [3, 2, 1, 0] rfl)
  · skip
    refine lv_iconst (v := (nI 0)) hx hb dX2_unfair_7 (by decide) ?_
    rw [hQ]
    exact retS_i hx hb hr hlocks (congrArg nI (by unfold unfS; rw [if_pos h4])) dX2_unfair_8

set_option maxHeartbeats 4000000 in
set_option maxRecDepth 100000 in
/-- common(x, z) -/
theorem c_X2_common (l : Launch) (E : GE) (w : va_W) (x z : Nat) (hx9 : x ≤ 1000) (hz9 : z ≤ 1000) : Met l yX2_common wsX2_common ({ frames := 0, cells := 0, slots := 0, locals := 0 } : Room) (va_Pc [.int (nI x), .int (nI z)] (pcS E (w))) (vp_Si (fun r => r = nI (Nat.gcd x z))) 0 0 (fun _ => False) := by
  refine metS (by decide) rfl (Nat.le_of_ble_eq_true rfl) ?_
  intro p e s m args below meth c ls hx hb hr hml hts hown hlocks hP hK hl
  obtain ⟨QQ, hQ⟩ : ∃ zQ, zQ = MQ below (vp_Si (fun r => r = nI (Nat.gcd x z))) args s 0 0 (fun _ => False) := ⟨_, rfl⟩
  rw [← hQ]
  refine lv_iload_n hx hb dX2_common_0 rfl (lv_at hl 0 rfl) ?_
  refine lv_istore_n (lv' := [(2, .int (nI x)), (0, .int (nI x)), (1, .int (nI z))]) hx hb dX2_common_1 rfl hl (by decide) rfl (fun ls hl => ?_)
  refine lv_iload_n hx hb dX2_common_2 rfl (lv_at hl 2 rfl) ?_
  refine lv_istore_n (lv' := [(3, .int (nI z)), (2, .int (nI x)), (0, .int (nI x)), (1, .int (nI z))]) hx hb dX2_common_3 rfl hl (by decide) rfl (fun ls hl => ?_)
  have loop4 : ∀ (tk : Nat) (u : Nat) (v : Nat) (ls : Array Slot), (u ≤ 1000 ∧ v ≤ 1000) → (Nat.gcd u v = Nat.gcd x z) → (v) < tk → lv_has ls 5 [(2, .int (nI u)), (3, .int (nI v))] → W p l e ({ frames := 0, cells := 0, slots := 0, locals := 0 } : Room) s m args below meth c s.heap [] 0 0 QQ (F0 m 4 ls []) := by
    intro tk
    induction tk with
    | zero => intro u v ls hu hg hk hl; exact absurd hk (Nat.not_lt_zero _)
    | succ tk ih4 =>
      intro u v ls hu hg hk hl
      refine lv_iload_n hx hb dX2_common_4 rfl (lv_at hl 1 rfl) ?_
      refine nq_if_le (tgt := 21) hx hb dX2_common_5 (by decide) (by omega) (fun h5 => ?_) (fun h5 => ?_)
      · skip
        refine lv_iload_n hx hb dX2_common_21 rfl (lv_at hl 0 rfl) ?_
        rw [hQ]
        exact retS_i hx hb hr hlocks (congrArg nI (by rw [← hg, h5, Nat.gcd_zero_right])) dX2_common_22
      · skip
        refine lv_iload_n hx hb dX2_common_8 rfl (lv_at hl 0 rfl) ?_
        refine lv_iload_n hx hb dX2_common_9 rfl (lv_at hl 1 rfl) ?_
        refine nq_rem hx hb dX2_common_10 (by omega) (by omega) (by omega) ?_
        refine lv_istore (lv' := [(4, .int (nI (u % v))), (2, .int (nI u)), (3, .int (nI v))]) hx hb dX2_common_11 hl (by decide) rfl (fun ls hl => ?_)
        refine lv_iload_n hx hb dX2_common_13 rfl (lv_at hl 2 rfl) ?_
        refine lv_istore_n (lv' := [(2, .int (nI v)), (4, .int (nI (u % v))), (3, .int (nI v))]) hx hb dX2_common_14 rfl hl (by decide) rfl (fun ls hl => ?_)
        refine lv_iload hx hb dX2_common_15 (lv_at hl 1 rfl) ?_
        refine lv_istore_n (lv' := [(3, .int (nI (u % v))), (2, .int (nI v)), (4, .int (nI (u % v)))]) hx hb dX2_common_17 rfl hl (by decide) rfl (fun ls hl => ?_)
        refine lv_goto (tgt := 4) hx hb dX2_common_18 (by decide) ?_
        exact ih4 v (u % v) ls (by have := Nat.mod_lt u h5; omega) (by rw [← gcd_step]; exact hg) (by have := Nat.mod_lt u h5; omega) (lv_sub hl [1, 0] rfl)
  exact loop4 ((z) + 1) x z ls (by omega) (rfl) (Nat.lt_succ_self _) (lv_sub hl [1, 0] rfl)

set_option maxHeartbeats 4000000 in
set_option maxRecDepth 100000 in
/-- comeTogether(k, shift, j) -/
theorem c_X2_comeTogether (l : Launch) (E : GE) (w : va_W) (b : Nat → Nat) (n lim t : Nat) (F : LR) (nw : Nat) (hv : MV E b n lim t F w) (hO : OkS n nw lim F) (htn9 : t ≤ nw) (k v j : Nat) (hk : k < n) (hj : j < n) (hs9 : v < 20) : Met l yX2_comeTogether wsX2_comeTogether ({ frames := 1, cells := 0, slots := 0, locals := 24 } : Room) (va_Pc [.ref (b 0), .int (nI k), .int (nI v), .int (nI j)] (pcS E (w))) (vp_Si (fun r => r = bI (meetS F k ((v : Nat) : Int) j))) 0 0 (fun _ => False) := by
  refine metS (by decide) rfl (Nat.le_of_ble_eq_true rfl) ?_
  intro p e s m args below meth c ls hx hb hr hml hts hown hlocks hP hK hl
  have hiX2 : ∀ q ∈ wsX20, q ∈ wsX2_comeTogether := by decide +kernel
  obtain ⟨th, m0x, m1x, m2x, m3x, m4x, m5x, m6x⟩ := mv_all hv
  obtain ⟨hO1, hO2, hO3, hO4, hO5⟩ := id hO
  have hk9 := hO4 k hk
  have hj9 := hO4 j hj
  have hg9 := gcd_bd (p := F k 0) (q := F j 0) (by omega)
  have ht9 := tmod_bd (z := (v : Int) - (F j 3 : Int)) (d := ((Nat.gcd (F k 0) (F j 0) : Nat) : Int)) (by omega)
  refine lv_iload_n hx hb dX2_comeTogether_0 rfl (lv_at hl 2 rfl) ?_
  refine lv_aload_n hx hb dX2_comeTogether_1 rfl (lv_at hl 0 rfl) ?_
  refine va_get (D := E.1) (ci := 3) (v := .ref (b 3)) (C := RX2) (T := TX2) (N := 10) hx hb hts hiX2 hown hK hP 0 m0x rfl 5 (by decide) (hts (.fieldLink RX2 20 "PulseLoomModel" "shift" "[I") (List.mem_of_getElem? (i := 1) (by rfl))) (fun _ h9 => h9) rfl dX2_comeTogether_2 ?_
  refine lv_iload_n hx hb dX2_comeTogether_5 rfl (lv_at hl 3 rfl) ?_
  refine va_iald hx hb hK hP 3 0 m3x rfl (by exact vp_in_nI (by omega) (by omega)) dX2_comeTogether_6 ?_
  refine nq_top (show (nI (F (((nI j)).toNatClampNeg) 3)) = (nI (F j 3)) from by rw [nI_clamp (by omega)]) ?_
  refine nq_subi hx hb dX2_comeTogether_7 ?_
  refine lv_aload_n hx hb dX2_comeTogether_8 rfl (lv_at hl 0 rfl) ?_
  refine va_get (D := E.1) (ci := 3) (v := .ref (b 2)) (C := RX2) (T := TX2) (N := 10) hx hb hts hiX2 hown hK hP 0 m0x rfl 4 (by decide) (hts (.fieldLink RX2 17 "PulseLoomModel" "period" "[I") (List.mem_of_getElem? (i := 2) (by rfl))) (fun _ h9 => h9) rfl dX2_comeTogether_9 ?_
  refine lv_iload_n hx hb dX2_comeTogether_12 rfl (lv_at hl 1 rfl) ?_
  refine va_iald hx hb hK hP 2 0 m2x rfl (by exact vp_in_nI (by omega) (by omega)) dX2_comeTogether_13 ?_
  refine nq_top (show (nI (F (((nI k)).toNatClampNeg) 0)) = (nI (F k 0)) from by rw [nI_clamp (by omega)]) ?_
  refine lv_aload_n hx hb dX2_comeTogether_14 rfl (lv_at hl 0 rfl) ?_
  refine va_get (D := E.1) (ci := 3) (v := .ref (b 2)) (C := RX2) (T := TX2) (N := 10) hx hb hts hiX2 hown hK hP 0 m0x rfl 4 (by decide) (hts (.fieldLink RX2 17 "PulseLoomModel" "period" "[I") (List.mem_of_getElem? (i := 2) (by rfl))) (fun _ h9 => h9) rfl dX2_comeTogether_15 ?_
  refine lv_iload_n hx hb dX2_comeTogether_18 rfl (lv_at hl 3 rfl) ?_
  refine va_iald hx hb hK hP 2 0 m2x rfl (by exact vp_in_nI (by omega) (by omega)) dX2_comeTogether_19 ?_
  refine nq_top (show (nI (F (((nI j)).toNatClampNeg) 0)) = (nI (F j 0)) from by rw [nI_clamp (by omega)]) ?_
  refine csS_i (rest := [.int (iI ((v : Int) - (F j 3 : Int)))]) (As := [.int (nI (F k 0)), .int (nI (F j 0))]) ⟨hx, hb, hml, hown, hts⟩ (c_X2_common l E _ (F k 0) (F j 0) (by omega) (by omega)) (va_cwS 2 hts gX2_comeTogether_X2_common rfl rfl rfl (by decide +kernel) ⟨Nat.le_of_ble_eq_true rfl, Nat.le_of_ble_eq_true rfl⟩) hP hK rfl hl.1 rfl (Nat.le_of_ble_eq_true rfl) dX2_comeTogether_20 (Nat.le_of_ble_eq_true rfl) (Nat.le_of_ble_eq_true rfl) (fun r20 hr20 => ?_)
  subst hr20
  refine nq_top (show nI (Nat.gcd (F k 0) (F j 0)) = iI ((Nat.gcd (F k 0) (F j 0) : Nat) : Int) from (iI_n _).symm) ?_
  refine lv_irem hx hb dX2_comeTogether_23 (fun q => absurd ((iI_eq (a := ((Nat.gcd (F k 0) (F j 0) : Nat) : Int)) (b := 0) (by omega) (by omega)).mp q) (by omega)) ?_
  refine nq_top (iI_rem (by omega) (by omega)) ?_
  refine iq_if_ne (tgt := 31) hx hb dX2_comeTogether_24 (by decide) (by omega) (fun h24 => ?_) (fun h24 => ?_)
  · skip
    refine lv_iconst (v := (nI 0)) hx hb dX2_comeTogether_31 (by decide) ?_
    refine nq_top (show nI 0 = bI false from rfl) ?_
    exact retS_z hx hb hr hlocks (congrArg bI (by unfold meetS; symm; exact decide_eq_false h24)) dX2_comeTogether_32
  · skip
    refine lv_iconst (v := (nI 1)) hx hb dX2_comeTogether_27 (by decide) ?_
    refine lv_goto (tgt := 32) hx hb dX2_comeTogether_28 (by decide) ?_
    refine nq_top (show nI 1 = bI true from rfl) ?_
    exact retS_z hx hb hr hlocks (congrArg bI (by unfold meetS; symm; exact decide_eq_true h24)) dX2_comeTogether_32

set_option maxHeartbeats 4000000 in
set_option maxRecDepth 100000 in
/-- met(k, shift) -/
theorem c_X2_met (l : Launch) (E : GE) (w : va_W) (b : Nat → Nat) (n lim t : Nat) (F : LR) (nw : Nat) (hv : MV E b n lim t F w) (hO : OkS n nw lim F) (htn9 : t ≤ nw) (k v : Nat) (hk : k < n) (hs9 : v < 20) : Met l yX2_met wsX2_met ({ frames := 2, cells := 0, slots := 0, locals := 47 } : Room) (va_Pc [.ref (b 0), .int (nI k), .int (nI v)] (pcS E (w))) (vp_Si (fun r => r = nI (mtS F k ((v : Nat) : Int) n))) 0 0 (fun _ => False) := by
  refine metS (by decide) rfl (Nat.le_of_ble_eq_true rfl) ?_
  intro p e s m args below meth c ls hx hb hr hml hts hown hlocks hP hK hl
  have hiX2 : ∀ q ∈ wsX20, q ∈ wsX2_met := by decide +kernel
  obtain ⟨QQ, hQ⟩ : ∃ zQ, zQ = MQ below (vp_Si (fun r => r = nI (mtS F k ((v : Nat) : Int) n))) args s 0 0 (fun _ => False) := ⟨_, rfl⟩
  rw [← hQ]
  obtain ⟨th, m0x, m1x, m2x, m3x, m4x, m5x, m6x⟩ := mv_all hv
  obtain ⟨hO1, hO2, hO3, hO4, hO5⟩ := id hO
  have hk9 := hO4 k hk
  refine lv_iconst (v := (nI 0)) hx hb dX2_met_0 (by decide) ?_
  refine lv_istore_n (lv' := [(3, .int (nI 0)), (0, .ref (b 0)), (1, .int (nI k)), (2, .int (nI v))]) hx hb dX2_met_1 rfl hl (by decide) rfl (fun ls hl => ?_)
  refine lv_iconst (v := (nI 0)) hx hb dX2_met_2 (by decide) ?_
  refine lv_istore (lv' := [(4, .int (nI 0)), (3, .int (nI 0)), (0, .ref (b 0)), (1, .int (nI k)), (2, .int (nI v))]) hx hb dX2_met_3 hl (by decide) rfl (fun ls hl => ?_)
  have loop5 : ∀ (tk : Nat) (j : Nat) (ls : Array Slot), (j ≤ n) → (n - j) < tk → lv_has ls 5 [(0, .ref (b 0)), (1, .int (nI k)), (2, .int (nI v)), (3, .int (nI (mtS F k ((v : Nat) : Int) j))), (4, .int (nI j))] → W p l e ({ frames := 2, cells := 0, slots := 0, locals := 47 } : Room) s m args below meth c s.heap [] 0 0 QQ (F0 m 5 ls []) := by
    intro tk
    induction tk with
    | zero => intro j ls hj hk hl; exact absurd hk (Nat.not_lt_zero _)
    | succ tk ih5 =>
      intro j ls hj hk hl
      have hml9 := mtS_le F k ((v : Nat) : Int) j
      refine lv_iload hx hb dX2_met_5 (lv_at hl 4 rfl) ?_
      refine lv_aload_n hx hb dX2_met_7 rfl (lv_at hl 0 rfl) ?_
      refine va_get (D := E.1) (ci := 3) (v := .int (nI n)) (C := RX2) (T := TX2) (N := 10) hx hb hts hiX2 hown hK hP 0 m0x rfl 1 (by decide) (hts (.fieldLink RX2 38 "PulseLoomModel" "lamps" "I") (List.mem_of_getElem? (i := 1) (by rfl))) (fun _ h9 => h9) rfl dX2_met_8 ?_
      refine nq_icmp_ge (tgt := 45) hx hb dX2_met_11 (by decide) (by omega) (by omega) (fun h11 => ?_) (fun h11 => ?_)
      · skip
        refine lv_iload_n hx hb dX2_met_45 rfl (lv_at hl 3 rfl) ?_
        rw [hQ]
        exact retS_i hx hb hr hlocks (congrArg nI (by rw [show j = n by omega])) dX2_met_46
      · skip
        refine lv_iload_n hx hb dX2_met_14 rfl (lv_at hl 3 rfl) ?_
        refine lv_iload hx hb dX2_met_15 (lv_at hl 4 rfl) ?_
        refine lv_iload_n hx hb dX2_met_17 rfl (lv_at hl 1 rfl) ?_
        refine nq_icmp_eq (tgt := 36) hx hb dX2_met_18 (by decide) (by omega) (by omega) (fun h18 => ?_) (fun h18 => ?_)
        · skip
          refine lv_iconst (v := (nI 0)) hx hb dX2_met_36 (by decide) ?_
          refine nq_add hx hb dX2_met_37 ?_
          refine lv_istore_n (lv' := [(3, .int (nI ((mtS F k ((v : Nat) : Int) j) + 0))), (0, .ref (b 0)), (1, .int (nI k)), (2, .int (nI v)), (4, .int (nI j))]) hx hb dX2_met_38 rfl hl (by decide) rfl (fun ls hl => ?_)
          refine nq_inc (lv' := [(4, .int (nI (j + 1))), (3, .int (nI ((mtS F k ((v : Nat) : Int) j) + 0))), (0, .ref (b 0)), (1, .int (nI k)), (2, .int (nI v))]) hx hb dX2_met_39 (d := 1) rfl hl (k := 4) rfl (by decide) rfl (fun ls hl => ?_)
          refine lv_goto (tgt := 5) hx hb dX2_met_42 (by decide) ?_
          have hl : lv_has ls 5 [(4, .int (nI (j + 1))), (3, .int (nI (mtS F k ((v : Nat) : Int) (j + 1)))), (0, .ref (b 0)), (1, .int (nI k)), (2, .int (nI v))] := lv_rep hl 1 rfl (congrArg Value.int (show (nI ((mtS F k ((v : Nat) : Int) j) + 0)) = (nI (mtS F k ((v : Nat) : Int) (j + 1))) from congrArg nI (by rw [mtS_s, if_neg (show ¬ (j ≠ k ∧ meetS F k ((v : Nat) : Int) j = true) from fun q => q.1 h18)])))
          exact ih5 (j + 1) ls (by omega) (by omega) (lv_sub hl [2, 3, 4, 1, 0] rfl)
        · skip
          refine lv_aload_n hx hb dX2_met_21 rfl (lv_at hl 0 rfl) ?_
          refine lv_iload_n hx hb dX2_met_22 rfl (lv_at hl 1 rfl) ?_
          refine lv_iload_n hx hb dX2_met_23 rfl (lv_at hl 2 rfl) ?_
          refine lv_iload hx hb dX2_met_24 (lv_at hl 4 rfl) ?_
          refine csV_i (rest := [.int (nI (mtS F k ((v : Nat) : Int) j))]) (As := [.int (nI k), .int (nI v), .int (nI j)]) ⟨hx, hb, hml, hown, hts⟩ (c_X2_comeTogether l E _ b n lim t F nw hv hO htn9 k v j (by omega) (by omega) (by omega)) (cwV 3 hts gX2_met_X2_comeTogether rfl rfl rfl (by decide +kernel) ⟨Nat.le_of_ble_eq_true rfl, Nat.le_of_ble_eq_true rfl⟩) (va_recv hK hP (ci := 3) (q0 := 0) rfl m0x) hP hK rfl hl.1 rfl (Nat.le_of_ble_eq_true rfl) dX2_met_26 (Nat.le_of_ble_eq_true rfl) (Nat.le_of_ble_eq_true rfl) (fun r26 hr26 => ?_)
          subst hr26
          refine bq_if_eq (tgt := 36) hx hb dX2_met_29 (by decide) (fun h29 => ?_) (fun h29 => ?_)
          · skip
            refine lv_iconst (v := (nI 0)) hx hb dX2_met_36 (by decide) ?_
            refine nq_add hx hb dX2_met_37 ?_
            refine lv_istore_n (lv' := [(3, .int (nI ((mtS F k ((v : Nat) : Int) j) + 0))), (0, .ref (b 0)), (1, .int (nI k)), (2, .int (nI v)), (4, .int (nI j))]) hx hb dX2_met_38 rfl hl (by decide) rfl (fun ls hl => ?_)
            refine nq_inc (lv' := [(4, .int (nI (j + 1))), (3, .int (nI ((mtS F k ((v : Nat) : Int) j) + 0))), (0, .ref (b 0)), (1, .int (nI k)), (2, .int (nI v))]) hx hb dX2_met_39 (d := 1) rfl hl (k := 4) rfl (by decide) rfl (fun ls hl => ?_)
            refine lv_goto (tgt := 5) hx hb dX2_met_42 (by decide) ?_
            have hl : lv_has ls 5 [(4, .int (nI (j + 1))), (3, .int (nI (mtS F k ((v : Nat) : Int) (j + 1)))), (0, .ref (b 0)), (1, .int (nI k)), (2, .int (nI v))] := lv_rep hl 1 rfl (congrArg Value.int (show (nI ((mtS F k ((v : Nat) : Int) j) + 0)) = (nI (mtS F k ((v : Nat) : Int) (j + 1))) from congrArg nI (by rw [mtS_s, if_neg (show ¬ (j ≠ k ∧ meetS F k ((v : Nat) : Int) j = true) from fun q => by rw [h29] at q; exact absurd q.2 (by decide))])))
            exact ih5 (j + 1) ls (by omega) (by omega) (lv_sub hl [2, 3, 4, 1, 0] rfl)
          · skip
            refine lv_iconst (v := (nI 1)) hx hb dX2_met_32 (by decide) ?_
            refine lv_goto (tgt := 37) hx hb dX2_met_33 (by decide) ?_
            refine nq_add hx hb dX2_met_37 ?_
            refine lv_istore_n (lv' := [(3, .int (nI ((mtS F k ((v : Nat) : Int) j) + 1))), (0, .ref (b 0)), (1, .int (nI k)), (2, .int (nI v)), (4, .int (nI j))]) hx hb dX2_met_38 rfl hl (by decide) rfl (fun ls hl => ?_)
            refine nq_inc (lv' := [(4, .int (nI (j + 1))), (3, .int (nI ((mtS F k ((v : Nat) : Int) j) + 1))), (0, .ref (b 0)), (1, .int (nI k)), (2, .int (nI v))]) hx hb dX2_met_39 (d := 1) rfl hl (k := 4) rfl (by decide) rfl (fun ls hl => ?_)
            refine lv_goto (tgt := 5) hx hb dX2_met_42 (by decide) ?_
            have hl : lv_has ls 5 [(4, .int (nI (j + 1))), (3, .int (nI (mtS F k ((v : Nat) : Int) (j + 1)))), (0, .ref (b 0)), (1, .int (nI k)), (2, .int (nI v))] := lv_rep hl 1 rfl (congrArg Value.int (show (nI ((mtS F k ((v : Nat) : Int) j) + 1)) = (nI (mtS F k ((v : Nat) : Int) (j + 1))) from congrArg nI (by rw [mtS_s, if_pos (show j ≠ k ∧ meetS F k ((v : Nat) : Int) j = true from ⟨h18, h29⟩)])))
            exact ih5 (j + 1) ls (by omega) (by omega) (lv_sub hl [2, 3, 4, 1, 0] rfl)
  have hl : lv_has ls 5 [(4, .int (nI 0)), (3, .int (nI (mtS F k ((v : Nat) : Int) 0))), (0, .ref (b 0)), (1, .int (nI k)), (2, .int (nI v))] := lv_rep hl 1 rfl (congrArg Value.int (show (nI 0) = (nI (mtS F k ((v : Nat) : Int) 0)) from rfl))
  exact loop5 ((n - 0) + 1) 0 ls (by omega) (Nat.lt_succ_self _) (lv_sub hl [2, 3, 4, 1, 0] rfl)

set_option maxHeartbeats 4000000 in
set_option maxRecDepth 100000 in
/-- strangers() -/
theorem c_X2_strangers (l : Launch) (E : GE) (w : va_W) (b : Nat → Nat) (n lim t : Nat) (F : LR) (nw : Nat) (hv : MV E b n lim t F w) (hO : OkS n nw lim F) (htn9 : t ≤ nw) : Met l yX2_strangers wsX2_strangers ({ frames := 3, cells := 0, slots := 0, locals := 71 } : Room) (va_Pc [.ref (b 0)] (pcS E (w))) (vp_Si (fun r => r = nI (apS F n n))) 0 0 (fun _ => False) := by
  refine metS (by decide) rfl (Nat.le_of_ble_eq_true rfl) ?_
  intro p e s m args below meth c ls hx hb hr hml hts hown hlocks hP hK hl
  have hiX2 : ∀ q ∈ wsX20, q ∈ wsX2_strangers := by decide +kernel
  obtain ⟨QQ, hQ⟩ : ∃ zQ, zQ = MQ below (vp_Si (fun r => r = nI (apS F n n))) args s 0 0 (fun _ => False) := ⟨_, rfl⟩
  rw [← hQ]
  obtain ⟨th, m0x, m1x, m2x, m3x, m4x, m5x, m6x⟩ := mv_all hv
  obtain ⟨hO1, hO2, hO3, hO4, hO5⟩ := id hO
  refine lv_iconst (v := (nI 0)) hx hb dX2_strangers_0 (by decide) ?_
  refine lv_istore_n (lv' := [(1, .int (nI 0)), (0, .ref (b 0))]) hx hb dX2_strangers_1 rfl hl (by decide) rfl (fun ls hl => ?_)
  refine lv_iconst (v := (nI 0)) hx hb dX2_strangers_2 (by decide) ?_
  refine lv_istore_n (lv' := [(2, .int (nI 0)), (1, .int (nI 0)), (0, .ref (b 0))]) hx hb dX2_strangers_3 rfl hl (by decide) rfl (fun ls hl => ?_)
  have loop4 : ∀ (tk : Nat) (i : Nat) (ls : Array Slot), (i ≤ n) → (n - i) < tk → lv_has ls 3 [(0, .ref (b 0)), (1, .int (nI (strS F n i))), (2, .int (nI i))] → W p l e ({ frames := 3, cells := 0, slots := 0, locals := 71 } : Room) s m args below meth c s.heap [] 0 0 QQ (F0 m 4 ls []) := by
    intro tk
    induction tk with
    | zero => intro i ls hi hk hl; exact absurd hk (Nat.not_lt_zero _)
    | succ tk ih4 =>
      intro i ls hi hk hl
      have hst := strS_le F n i
      have hs8 : i * n ≤ 8 * 8 := Nat.mul_le_mul (by omega) hO1
      refine lv_iload_n hx hb dX2_strangers_4 rfl (lv_at hl 2 rfl) ?_
      refine lv_aload_n hx hb dX2_strangers_5 rfl (lv_at hl 0 rfl) ?_
      refine va_get (D := E.1) (ci := 3) (v := .int (nI n)) (C := RX2) (T := TX2) (N := 10) hx hb hts hiX2 hown hK hP 0 m0x rfl 1 (by decide) (hts (.fieldLink RX2 38 "PulseLoomModel" "lamps" "I") (List.mem_of_getElem? (i := 1) (by rfl))) (fun _ h9 => h9) rfl dX2_strangers_6 ?_
      refine nq_icmp_ge (tgt := 39) hx hb dX2_strangers_9 (by decide) (by omega) (by omega) (fun h9 => ?_) (fun h9 => ?_)
      · skip
        refine lv_iload_n hx hb dX2_strangers_39 rfl (lv_at hl 1 rfl) ?_
        refine lv_iconst (v := (nI 2)) hx hb dX2_strangers_40 (by decide) ?_
        refine nq_div hx hb dX2_strangers_41 (by omega) (by omega) (by omega) ?_
        rw [hQ]
        exact retS_i hx hb hr hlocks (congrArg nI (by rw [show i = n by omega]; exact str_ap F n)) dX2_strangers_42
      · skip
        have hi9 := hO4 i h9
        have hmt := mt_lt (F := F) h9 (F i 3 : Int)
        refine lv_iload_n hx hb dX2_strangers_12 rfl (lv_at hl 1 rfl) ?_
        refine lv_aload_n hx hb dX2_strangers_13 rfl (lv_at hl 0 rfl) ?_
        refine va_get (D := E.1) (ci := 3) (v := .int (nI n)) (C := RX2) (T := TX2) (N := 10) hx hb hts hiX2 hown hK hP 0 m0x rfl 1 (by decide) (hts (.fieldLink RX2 38 "PulseLoomModel" "lamps" "I") (List.mem_of_getElem? (i := 1) (by rfl))) (fun _ h9 => h9) rfl dX2_strangers_14 ?_
        refine lv_iconst (v := (nI 1)) hx hb dX2_strangers_17 (by decide) ?_
        refine nq_sub hx hb dX2_strangers_18 (by omega) ?_
        refine lv_aload_n hx hb dX2_strangers_19 rfl (lv_at hl 0 rfl) ?_
        refine lv_iload_n hx hb dX2_strangers_20 rfl (lv_at hl 2 rfl) ?_
        refine lv_aload_n hx hb dX2_strangers_21 rfl (lv_at hl 0 rfl) ?_
        refine va_get (D := E.1) (ci := 3) (v := .ref (b 3)) (C := RX2) (T := TX2) (N := 10) hx hb hts hiX2 hown hK hP 0 m0x rfl 5 (by decide) (hts (.fieldLink RX2 20 "PulseLoomModel" "shift" "[I") (List.mem_of_getElem? (i := 2) (by rfl))) (fun _ h9 => h9) rfl dX2_strangers_22 ?_
        refine lv_iload_n hx hb dX2_strangers_25 rfl (lv_at hl 2 rfl) ?_
        refine va_iald hx hb hK hP 3 0 m3x rfl (by exact vp_in_nI (by omega) (by omega)) dX2_strangers_26 ?_
        refine nq_top (show (nI (F (((nI i)).toNatClampNeg) 3)) = (nI (F i 3)) from by rw [nI_clamp (by omega)]) ?_
        refine csV_i (rest := [.int (nI (n - 1)), .int (nI (strS F n i))]) (As := [.int (nI i), .int (nI (F i 3))]) ⟨hx, hb, hml, hown, hts⟩ (c_X2_met l E _ b n lim t F nw hv hO htn9 i (F i 3) (by omega) (by omega)) (cwV 2 hts gX2_strangers_X2_met rfl rfl rfl (by decide +kernel) ⟨Nat.le_of_ble_eq_true rfl, Nat.le_of_ble_eq_true rfl⟩) (va_recv hK hP (ci := 3) (q0 := 0) rfl m0x) hP hK rfl hl.1 rfl (Nat.le_of_ble_eq_true rfl) dX2_strangers_27 (Nat.le_of_ble_eq_true rfl) (Nat.le_of_ble_eq_true rfl) (fun r27 hr27 => ?_)
        subst hr27
        refine nq_sub hx hb dX2_strangers_30 (by omega) ?_
        refine nq_add hx hb dX2_strangers_31 ?_
        refine lv_istore_n (lv' := [(1, .int (nI ((strS F n i) + ((n - 1) - (mtS F i (((F i 3) : Nat) : Int) n))))), (0, .ref (b 0)), (2, .int (nI i))]) hx hb dX2_strangers_32 rfl hl (by decide) rfl (fun ls hl => ?_)
        refine nq_inc (lv' := [(2, .int (nI (i + 1))), (1, .int (nI ((strS F n i) + ((n - 1) - (mtS F i (((F i 3) : Nat) : Int) n))))), (0, .ref (b 0))]) hx hb dX2_strangers_33 (d := 1) rfl hl (k := 2) rfl (by decide) rfl (fun ls hl => ?_)
        refine lv_goto (tgt := 4) hx hb dX2_strangers_36 (by decide) ?_
        have hl : lv_has ls 3 [(2, .int (nI (i + 1))), (1, .int (nI (strS F n (i + 1)))), (0, .ref (b 0))] := lv_rep hl 1 rfl (congrArg Value.int (show (nI ((strS F n i) + ((n - 1) - (mtS F i (((F i 3) : Nat) : Int) n)))) = (nI (strS F n (i + 1))) from rfl))
        exact ih4 (i + 1) ls (by omega) (by omega) (lv_sub hl [2, 1, 0] rfl)
  have hl : lv_has ls 3 [(2, .int (nI 0)), (1, .int (nI (strS F n 0))), (0, .ref (b 0))] := lv_rep hl 1 rfl (congrArg Value.int (show (nI 0) = (nI (strS F n 0)) from rfl))
  exact loop4 ((n - 0) + 1) 0 ls (by omega) (Nat.lt_succ_self _) (lv_sub hl [2, 1, 0] rfl)

set_option maxHeartbeats 4000000 in
set_option maxRecDepth 100000 in
/-- shiftFor(k) -/
theorem c_X2_shiftFor (l : Launch) (E : GE) (w : va_W) (b : Nat → Nat) (n lim t : Nat) (F : LR) (nw : Nat) (hv : MV E b n lim t F w) (hO : OkS n nw lim F) (htn9 : t ≤ nw) (k : Nat) (hk : k < n) : Met l yX2_shiftFor wsX2_shiftFor ({ frames := 3, cells := 0, slots := 0, locals := 71 } : Room) (va_Pc [.ref (b 0), .int (nI k)] (pcS E (w))) (vp_Si (fun r => r = nI (bestS F n k (F k 0 - 1)))) 0 0 (fun _ => False) := by
  refine metS (by decide) rfl (Nat.le_of_ble_eq_true rfl) ?_
  intro p e s m args below meth c ls hx hb hr hml hts hown hlocks hP hK hl
  have hiX2 : ∀ q ∈ wsX20, q ∈ wsX2_shiftFor := by decide +kernel
  obtain ⟨QQ, hQ⟩ : ∃ zQ, zQ = MQ below (vp_Si (fun r => r = nI (bestS F n k (F k 0 - 1)))) args s 0 0 (fun _ => False) := ⟨_, rfl⟩
  rw [← hQ]
  obtain ⟨th, m0x, m1x, m2x, m3x, m4x, m5x, m6x⟩ := mv_all hv
  obtain ⟨hO1, hO2, hO3, hO4, hO5⟩ := id hO
  have hk9 := hO4 k hk
  refine lv_iconst (v := (nI 0)) hx hb dX2_shiftFor_0 (by decide) ?_
  refine lv_istore_n (lv' := [(2, .int (nI 0)), (0, .ref (b 0)), (1, .int (nI k))]) hx hb dX2_shiftFor_1 rfl hl (by decide) rfl (fun ls hl => ?_)
  refine lv_iconst (v := (nI 1)) hx hb dX2_shiftFor_2 (by decide) ?_
  refine lv_istore_n (lv' := [(3, .int (nI 1)), (2, .int (nI 0)), (0, .ref (b 0)), (1, .int (nI k))]) hx hb dX2_shiftFor_3 rfl hl (by decide) rfl (fun ls hl => ?_)
  have loop4 : ∀ (tk : Nat) (d9 : Nat) (ls : Array Slot), (d9 + 1 ≤ F k 0) → (F k 0 - d9) < tk → lv_has ls 4 [(0, .ref (b 0)), (1, .int (nI k)), (2, .int (nI (bestS F n k d9))), (3, .int (nI (d9 + 1)))] → W p l e ({ frames := 3, cells := 0, slots := 0, locals := 71 } : Room) s m args below meth c s.heap [] 0 0 QQ (F0 m 4 ls []) := by
    intro tk
    induction tk with
    | zero => intro d9 ls hd9 hk hl; exact absurd hk (Nat.not_lt_zero _)
    | succ tk ih4 =>
      intro d9 ls hd9 hk hl
      have hb9 := bestS_le F n k d9
      have hm8 := mtS_le F k ((bestS F n k d9 : Nat) : Int) n
      have hm9 := mtS_le F k ((d9 + 1 : Nat) : Int) n
      refine lv_iload_n hx hb dX2_shiftFor_4 rfl (lv_at hl 3 rfl) ?_
      refine lv_aload_n hx hb dX2_shiftFor_5 rfl (lv_at hl 0 rfl) ?_
      refine va_get (D := E.1) (ci := 3) (v := .ref (b 2)) (C := RX2) (T := TX2) (N := 10) hx hb hts hiX2 hown hK hP 0 m0x rfl 4 (by decide) (hts (.fieldLink RX2 17 "PulseLoomModel" "period" "[I") (List.mem_of_getElem? (i := 1) (by rfl))) (fun _ h9 => h9) rfl dX2_shiftFor_6 ?_
      refine lv_iload_n hx hb dX2_shiftFor_9 rfl (lv_at hl 1 rfl) ?_
      refine va_iald hx hb hK hP 2 0 m2x rfl (by exact vp_in_nI (by omega) (by omega)) dX2_shiftFor_10 ?_
      refine nq_top (show (nI (F (((nI k)).toNatClampNeg) 0)) = (nI (F k 0)) from by rw [nI_clamp (by omega)]) ?_
      refine nq_icmp_ge (tgt := 37) hx hb dX2_shiftFor_11 (by decide) (by omega) (by omega) (fun h11 => ?_) (fun h11 => ?_)
      · skip
        refine lv_iload_n hx hb dX2_shiftFor_37 rfl (lv_at hl 2 rfl) ?_
        rw [hQ]
        exact retS_i hx hb hr hlocks (congrArg nI (by rw [show F k 0 - 1 = d9 by omega])) dX2_shiftFor_38
      · skip
        refine lv_aload_n hx hb dX2_shiftFor_14 rfl (lv_at hl 0 rfl) ?_
        refine lv_iload_n hx hb dX2_shiftFor_15 rfl (lv_at hl 1 rfl) ?_
        refine lv_iload_n hx hb dX2_shiftFor_16 rfl (lv_at hl 3 rfl) ?_
        refine csV_i (rest := []) (As := [.int (nI k), .int (nI (d9 + 1))]) ⟨hx, hb, hml, hown, hts⟩ (c_X2_met l E _ b n lim t F nw hv hO htn9 k (d9 + 1) (by omega) (by omega)) (cwV 2 hts gX2_shiftFor_X2_met rfl rfl rfl (by decide +kernel) ⟨Nat.le_of_ble_eq_true rfl, Nat.le_of_ble_eq_true rfl⟩) (va_recv hK hP (ci := 3) (q0 := 0) rfl m0x) hP hK rfl hl.1 rfl (Nat.le_of_ble_eq_true rfl) dX2_shiftFor_17 (Nat.le_of_ble_eq_true rfl) (Nat.le_of_ble_eq_true rfl) (fun r17 hr17 => ?_)
        subst hr17
        refine lv_aload_n hx hb dX2_shiftFor_20 rfl (lv_at hl 0 rfl) ?_
        refine lv_iload_n hx hb dX2_shiftFor_21 rfl (lv_at hl 1 rfl) ?_
        refine lv_iload_n hx hb dX2_shiftFor_22 rfl (lv_at hl 2 rfl) ?_
        refine csV_i (rest := [.int (nI (mtS F k (((d9 + 1) : Nat) : Int) n))]) (As := [.int (nI k), .int (nI (bestS F n k d9))]) ⟨hx, hb, hml, hown, hts⟩ (c_X2_met l E _ b n lim t F nw hv hO htn9 k (bestS F n k d9) (by omega) (by omega)) (cwV 2 hts gX2_shiftFor_X2_met rfl rfl rfl (by decide +kernel) ⟨Nat.le_of_ble_eq_true rfl, Nat.le_of_ble_eq_true rfl⟩) (va_recv hK hP (ci := 3) (q0 := 0) rfl m0x) hP hK rfl hl.1 rfl (Nat.le_of_ble_eq_true rfl) dX2_shiftFor_23 (Nat.le_of_ble_eq_true rfl) (Nat.le_of_ble_eq_true rfl) (fun r23 hr23 => ?_)
        subst hr23
        refine nq_icmp_ge (tgt := 31) hx hb dX2_shiftFor_26 (by decide) (by omega) (by omega) (fun h26 => ?_) (fun h26 => ?_)
        · skip
          refine nq_inc (lv' := [(3, .int (nI (d9 + 1 + 1))), (0, .ref (b 0)), (1, .int (nI k)), (2, .int (nI (bestS F n k d9)))]) hx hb dX2_shiftFor_31 (d := 1) rfl hl (k := 3) rfl (by decide) rfl (fun ls hl => ?_)
          refine lv_goto (tgt := 4) hx hb dX2_shiftFor_34 (by decide) ?_
          have hl : lv_has ls 4 [(3, .int (nI (d9 + 1 + 1))), (0, .ref (b 0)), (1, .int (nI k)), (2, .int (nI (bestS F n k (d9 + 1))))] := lv_rep hl 3 rfl (congrArg Value.int (show (nI (bestS F n k d9)) = (nI (bestS F n k (d9 + 1))) from congrArg nI (by rw [bestS_s, if_neg (Nat.not_lt.mpr h26)])))
          have hl : lv_has ls 4 [(3, .int (nI ((d9 + 1) + 1))), (0, .ref (b 0)), (1, .int (nI k)), (2, .int (nI (bestS F n k (d9 + 1))))] := lv_rep hl 0 rfl (congrArg Value.int (show (nI (d9 + 1 + 1)) = (nI ((d9 + 1) + 1)) from by first | rfl | (congr 1; omega)))
          exact ih4 (d9 + 1) ls (by omega) (by omega) (lv_sub hl [1, 2, 3, 0] rfl)
        · skip
          refine lv_iload_n hx hb dX2_shiftFor_29 rfl (lv_at hl 3 rfl) ?_
          refine lv_istore_n (lv' := [(2, .int (nI (d9 + 1))), (0, .ref (b 0)), (1, .int (nI k)), (3, .int (nI (d9 + 1)))]) hx hb dX2_shiftFor_30 rfl hl (by decide) rfl (fun ls hl => ?_)
          refine nq_inc (lv' := [(3, .int (nI (d9 + 1 + 1))), (2, .int (nI (d9 + 1))), (0, .ref (b 0)), (1, .int (nI k))]) hx hb dX2_shiftFor_31 (d := 1) rfl hl (k := 3) rfl (by decide) rfl (fun ls hl => ?_)
          refine lv_goto (tgt := 4) hx hb dX2_shiftFor_34 (by decide) ?_
          have hl : lv_has ls 4 [(3, .int (nI (d9 + 1 + 1))), (2, .int (nI (bestS F n k (d9 + 1)))), (0, .ref (b 0)), (1, .int (nI k))] := lv_rep hl 1 rfl (congrArg Value.int (show (nI (d9 + 1)) = (nI (bestS F n k (d9 + 1))) from congrArg nI (by rw [bestS_s, if_pos h26])))
          have hl : lv_has ls 4 [(3, .int (nI ((d9 + 1) + 1))), (2, .int (nI (bestS F n k (d9 + 1)))), (0, .ref (b 0)), (1, .int (nI k))] := lv_rep hl 0 rfl (congrArg Value.int (show (nI (d9 + 1 + 1)) = (nI ((d9 + 1) + 1)) from by first | rfl | (congr 1; omega)))
          exact ih4 (d9 + 1) ls (by omega) (by omega) (lv_sub hl [2, 3, 1, 0] rfl)
  have hl : lv_has ls 4 [(3, .int (nI 1)), (2, .int (nI (bestS F n k 0))), (0, .ref (b 0)), (1, .int (nI k))] := lv_rep hl 1 rfl (congrArg Value.int (show (nI 0) = (nI (bestS F n k 0)) from rfl))
  have hl : lv_has ls 4 [(3, .int (nI (0 + 1))), (2, .int (nI (bestS F n k 0))), (0, .ref (b 0)), (1, .int (nI k))] := lv_rep hl 0 rfl (congrArg Value.int (show (nI 1) = (nI (0 + 1)) from rfl))
  exact loop4 ((F k 0 - 0) + 1) 0 ls (by omega) (Nat.lt_succ_self _) (lv_sub hl [2, 3, 1, 0] rfl)

set_option maxHeartbeats 4000000 in
set_option maxRecDepth 100000 in
/-- manyDue(k, j) -/
theorem c_X2_manyDue (l : Launch) (E : GE) (w : va_W) (b : Nat → Nat) (n lim t : Nat) (F : LR) (nw : Nat) (hv : MV E b n lim t F w) (hO : OkS n nw lim F) (htn9 : t ≤ nw) (k j : Nat) (hk : k < n) (hj : j ≤ 100000) : Met l yX2_manyDue wsX2_manyDue ({ frames := 1, cells := 0, slots := 0, locals := 22 } : Room) (va_Pc [.ref (b 0), .int (nI k), .int (nI j)] (pcS E (w))) (vp_Si (fun r => r = nI (mdS F k t j))) 0 0 (fun _ => False) := by
  refine metS (by decide) rfl (Nat.le_of_ble_eq_true rfl) ?_
  intro p e s m args below meth c ls hx hb hr hml hts hown hlocks hP hK hl
  have hiX2 : ∀ q ∈ wsX20, q ∈ wsX2_manyDue := by decide +kernel
  obtain ⟨QQ, hQ⟩ : ∃ zQ, zQ = MQ below (vp_Si (fun r => r = nI (mdS F k t j))) args s 0 0 (fun _ => False) := ⟨_, rfl⟩
  rw [← hQ]
  obtain ⟨th, m0x, m1x, m2x, m3x, m4x, m5x, m6x⟩ := mv_all hv
  obtain ⟨hO1, hO2, hO3, hO4, hO5⟩ := id hO
  have hk9 := hO4 k hk
  have hr9 : j % F k 0 < F k 0 := Nat.mod_lt _ (by omega)
  have hq9 := md_le (F := F) (i := k) (k := j) (by omega)
  refine lv_iload_n hx hb dX2_manyDue_0 rfl (lv_at hl 2 rfl) ?_
  refine lv_aload_n hx hb dX2_manyDue_1 rfl (lv_at hl 0 rfl) ?_
  refine va_get (D := E.1) (ci := 3) (v := .ref (b 2)) (C := RX2) (T := TX2) (N := 10) hx hb hts hiX2 hown hK hP 0 m0x rfl 4 (by decide) (hts (.fieldLink RX2 17 "PulseLoomModel" "period" "[I") (List.mem_of_getElem? (i := 1) (by rfl))) (fun _ h9 => h9) rfl dX2_manyDue_2 ?_
  refine lv_iload_n hx hb dX2_manyDue_5 rfl (lv_at hl 1 rfl) ?_
  refine va_iald hx hb hK hP 2 0 m2x rfl (by exact vp_in_nI (by omega) (by omega)) dX2_manyDue_6 ?_
  refine nq_top (show (nI (F (((nI k)).toNatClampNeg) 0)) = (nI (F k 0)) from by rw [nI_clamp (by omega)]) ?_
  refine nq_div hx hb dX2_manyDue_7 (by omega) (by omega) (by omega) ?_
  refine lv_aload_n hx hb dX2_manyDue_8 rfl (lv_at hl 0 rfl) ?_
  refine va_get (D := E.1) (ci := 3) (v := .ref (b 4)) (C := RX2) (T := TX2) (N := 10) hx hb hts hiX2 hown hK hP 0 m0x rfl 6 (by decide) (hts (.fieldLink RX2 23 "PulseLoomModel" "length" "[I") (List.mem_of_getElem? (i := 2) (by rfl))) (fun _ h9 => h9) rfl dX2_manyDue_9 ?_
  refine lv_iload_n hx hb dX2_manyDue_12 rfl (lv_at hl 1 rfl) ?_
  refine va_iald hx hb hK hP 4 0 m4x rfl (by exact vp_in_nI (by omega) (by omega)) dX2_manyDue_13 ?_
  refine nq_top (show (nI (F (((nI k)).toNatClampNeg) 4)) = (nI (F k 4)) from by rw [nI_clamp (by omega)]) ?_
  refine nq_mul hx hb dX2_manyDue_14 ?_
  refine lv_istore_n (lv' := [(3, .int (nI ((j / (F k 0)) * (F k 4)))), (0, .ref (b 0)), (1, .int (nI k)), (2, .int (nI j))]) hx hb dX2_manyDue_15 rfl hl (by decide) rfl (fun ls hl => ?_)
  refine lv_iconst (v := (nI 0)) hx hb dX2_manyDue_16 (by decide) ?_
  refine lv_istore (lv' := [(4, .int (nI 0)), (3, .int (nI ((j / (F k 0)) * (F k 4)))), (0, .ref (b 0)), (1, .int (nI k)), (2, .int (nI j))]) hx hb dX2_manyDue_17 hl (by decide) rfl (fun ls hl => ?_)
  have loop19 : ∀ (tk : Nat) (d9 : Nat) (ls : Array Slot), (d9 ≤ j % F k 0) → (j % F k 0 - d9) < tk → lv_has ls 5 [(0, .ref (b 0)), (1, .int (nI k)), (2, .int (nI j)), (3, .int (nI (j / F k 0 * F k 4 + cntDue F k t d9))), (4, .int (nI d9))] → W p l e ({ frames := 1, cells := 0, slots := 0, locals := 22 } : Room) s m args below meth c s.heap [] 0 0 QQ (F0 m 19 ls []) := by
    intro tk
    induction tk with
    | zero => intro d9 ls hd9 hk hl; exact absurd hk (Nat.not_lt_zero _)
    | succ tk ih19 =>
      intro d9 ls hd9 hk hl
      have hc9 := cntDue_le F k t d9
      have hp9 := ph_lt (F := F) (i := k) (b := t + d9) (by omega)
      refine lv_iload hx hb dX2_manyDue_19 (lv_at hl 4 rfl) ?_
      refine lv_iload_n hx hb dX2_manyDue_21 rfl (lv_at hl 2 rfl) ?_
      refine lv_aload_n hx hb dX2_manyDue_22 rfl (lv_at hl 0 rfl) ?_
      refine va_get (D := E.1) (ci := 3) (v := .ref (b 2)) (C := RX2) (T := TX2) (N := 10) hx hb hts hiX2 hown hK hP 0 m0x rfl 4 (by decide) (hts (.fieldLink RX2 17 "PulseLoomModel" "period" "[I") (List.mem_of_getElem? (i := 1) (by rfl))) (fun _ h9 => h9) rfl dX2_manyDue_23 ?_
      refine lv_iload_n hx hb dX2_manyDue_26 rfl (lv_at hl 1 rfl) ?_
      refine va_iald hx hb hK hP 2 0 m2x rfl (by exact vp_in_nI (by omega) (by omega)) dX2_manyDue_27 ?_
      refine nq_top (show (nI (F (((nI k)).toNatClampNeg) 0)) = (nI (F k 0)) from by rw [nI_clamp (by omega)]) ?_
      refine nq_rem hx hb dX2_manyDue_28 (by omega) (by omega) (by omega) ?_
      refine nq_icmp_ge (tgt := 62) hx hb dX2_manyDue_29 (by decide) (by omega) (by omega) (fun h29 => ?_) (fun h29 => ?_)
      · skip
        refine lv_iload_n hx hb dX2_manyDue_62 rfl (lv_at hl 3 rfl) ?_
        rw [hQ]
        exact retS_i hx hb hr hlocks (congrArg nI (by unfold mdS; rw [show d9 = j % F k 0 by omega])) dX2_manyDue_63
      · skip
        refine lv_iload_n hx hb dX2_manyDue_32 rfl (lv_at hl 3 rfl) ?_
        refine lv_aload_n hx hb dX2_manyDue_33 rfl (lv_at hl 0 rfl) ?_
        refine lv_iload_n hx hb dX2_manyDue_34 rfl (lv_at hl 1 rfl) ?_
        refine lv_iload hx hb dX2_manyDue_35 (lv_at hl 4 rfl) ?_
        refine csV_i (rest := [.int (nI (j / F k 0 * F k 4 + cntDue F k t d9))]) (As := [.int (nI k), .int (nI d9)]) ⟨hx, hb, hml, hown, hts⟩ (c_X2_phaseIn l E _ b n lim t F nw hv hO htn9 k (by omega) d9 (by omega)) (cwV 2 hts gX2_manyDue_X2_phaseIn rfl rfl rfl (by decide +kernel) ⟨Nat.le_of_ble_eq_true rfl, Nat.le_of_ble_eq_true rfl⟩) (va_recv hK hP (ci := 3) (q0 := 0) rfl m0x) hP hK rfl hl.1 rfl (Nat.le_of_ble_eq_true rfl) dX2_manyDue_37 (Nat.le_of_ble_eq_true rfl) (Nat.le_of_ble_eq_true rfl) (fun r37 hr37 => ?_)
        subst hr37
        refine lv_aload_n hx hb dX2_manyDue_40 rfl (lv_at hl 0 rfl) ?_
        refine va_get (D := E.1) (ci := 3) (v := .ref (b 4)) (C := RX2) (T := TX2) (N := 10) hx hb hts hiX2 hown hK hP 0 m0x rfl 6 (by decide) (hts (.fieldLink RX2 23 "PulseLoomModel" "length" "[I") (List.mem_of_getElem? (i := 2) (by rfl))) (fun _ h9 => h9) rfl dX2_manyDue_41 ?_
        refine lv_iload_n hx hb dX2_manyDue_44 rfl (lv_at hl 1 rfl) ?_
        refine va_iald hx hb hK hP 4 0 m4x rfl (by exact vp_in_nI (by omega) (by omega)) dX2_manyDue_45 ?_
        refine nq_top (show (nI (F (((nI k)).toNatClampNeg) 4)) = (nI (F k 4)) from by rw [nI_clamp (by omega)]) ?_
        refine nq_icmp_ge (tgt := 53) hx hb dX2_manyDue_46 (by decide) (by omega) (by omega) (fun h46 => ?_) (fun h46 => ?_)
        · skip
          refine lv_iconst (v := (nI 0)) hx hb dX2_manyDue_53 (by decide) ?_
          refine nq_add hx hb dX2_manyDue_54 ?_
          refine lv_istore_n (lv' := [(3, .int (nI ((j / F k 0 * F k 4 + cntDue F k t d9) + 0))), (0, .ref (b 0)), (1, .int (nI k)), (2, .int (nI j)), (4, .int (nI d9))]) hx hb dX2_manyDue_55 rfl hl (by decide) rfl (fun ls hl => ?_)
          refine nq_inc (lv' := [(4, .int (nI (d9 + 1))), (3, .int (nI ((j / F k 0 * F k 4 + cntDue F k t d9) + 0))), (0, .ref (b 0)), (1, .int (nI k)), (2, .int (nI j))]) hx hb dX2_manyDue_56 (d := 1) rfl hl (k := 4) rfl (by decide) rfl (fun ls hl => ?_)
          refine lv_goto (tgt := 19) hx hb dX2_manyDue_59 (by decide) ?_
          have hl : lv_has ls 5 [(4, .int (nI (d9 + 1))), (3, .int (nI (j / F k 0 * F k 4 + cntDue F k t (d9 + 1)))), (0, .ref (b 0)), (1, .int (nI k)), (2, .int (nI j))] := lv_rep hl 1 rfl (congrArg Value.int (show (nI ((j / F k 0 * F k 4 + cntDue F k t d9) + 0)) = (nI (j / F k 0 * F k 4 + cntDue F k t (d9 + 1))) from congrArg nI (by rw [cntDue_s, show due F k (t + d9) = false from decide_eq_false (Nat.not_lt.mpr h46)]; rfl)))
          exact ih19 (d9 + 1) ls (by omega) (by omega) (lv_sub hl [2, 3, 4, 1, 0] rfl)
        · skip
          refine lv_iconst (v := (nI 1)) hx hb dX2_manyDue_49 (by decide) ?_
          refine lv_goto (tgt := 54) hx hb dX2_manyDue_50 (by decide) ?_
          refine nq_add hx hb dX2_manyDue_54 ?_
          refine lv_istore_n (lv' := [(3, .int (nI ((j / F k 0 * F k 4 + cntDue F k t d9) + 1))), (0, .ref (b 0)), (1, .int (nI k)), (2, .int (nI j)), (4, .int (nI d9))]) hx hb dX2_manyDue_55 rfl hl (by decide) rfl (fun ls hl => ?_)
          refine nq_inc (lv' := [(4, .int (nI (d9 + 1))), (3, .int (nI ((j / F k 0 * F k 4 + cntDue F k t d9) + 1))), (0, .ref (b 0)), (1, .int (nI k)), (2, .int (nI j))]) hx hb dX2_manyDue_56 (d := 1) rfl hl (k := 4) rfl (by decide) rfl (fun ls hl => ?_)
          refine lv_goto (tgt := 19) hx hb dX2_manyDue_59 (by decide) ?_
          have hl : lv_has ls 5 [(4, .int (nI (d9 + 1))), (3, .int (nI (j / F k 0 * F k 4 + cntDue F k t (d9 + 1)))), (0, .ref (b 0)), (1, .int (nI k)), (2, .int (nI j))] := lv_rep hl 1 rfl (congrArg Value.int (show (nI ((j / F k 0 * F k 4 + cntDue F k t d9) + 1)) = (nI (j / F k 0 * F k 4 + cntDue F k t (d9 + 1))) from congrArg nI (by rw [cntDue_s, show due F k (t + d9) = true from decide_eq_true h46]; rfl)))
          exact ih19 (d9 + 1) ls (by omega) (by omega) (lv_sub hl [2, 3, 4, 1, 0] rfl)
  have hl : lv_has ls 5 [(4, .int (nI 0)), (3, .int (nI (j / F k 0 * F k 4 + cntDue F k t 0))), (0, .ref (b 0)), (1, .int (nI k)), (2, .int (nI j))] := lv_rep hl 1 rfl (congrArg Value.int (show (nI ((j / (F k 0)) * (F k 4))) = (nI (j / F k 0 * F k 4 + cntDue F k t 0)) from rfl))
  exact loop19 ((j % F k 0 - 0) + 1) 0 ls (by omega) (Nat.lt_succ_self _) (lv_sub hl [2, 3, 4, 1, 0] rfl)

set_option maxHeartbeats 4000000 in
set_option maxRecDepth 100000 in
/-- until(k, j) -/
theorem c_X2_until (l : Launch) (E : GE) (w : va_W) (b : Nat → Nat) (n lim t : Nat) (F : LR) (nw : Nat) (hv : MV E b n lim t F w) (hO : OkS n nw lim F) (htn9 : t ≤ nw) (k j : Nat) (hk : k < n) (hj : j < n) : Met l yX2_until wsX2_until ({ frames := 2, cells := 0, slots := 0, locals := 47 } : Room) (va_Pc [.ref (b 0), .int (nI k), .int (nI j)] (pcS E (w))) (vp_Si (fun r => r = iI (untilS F t k j))) 0 0 (fun _ => False) := by
  refine metS (by decide) rfl (Nat.le_of_ble_eq_true rfl) ?_
  intro p e s m args below meth c ls hx hb hr hml hts hown hlocks hP hK hl
  have hiX2 : ∀ q ∈ wsX20, q ∈ wsX2_until := by decide +kernel
  obtain ⟨QQ, hQ⟩ : ∃ zQ, zQ = MQ below (vp_Si (fun r => r = iI (untilS F t k j))) args s 0 0 (fun _ => False) := ⟨_, rfl⟩
  rw [← hQ]
  obtain ⟨th, m0x, m1x, m2x, m3x, m4x, m5x, m6x⟩ := mv_all hv
  obtain ⟨hO1, hO2, hO3, hO4, hO5⟩ := id hO
  have hk9 := hO4 k hk
  have hj9 := hO4 j hj
  have hp9 := ph_lt (F := F) (i := k) (b := t + 0) (by omega)
  have hw9 := wait_le (b := t) (i := k) (F := F) (by omega)
  refine lv_aload_n hx hb dX2_until_0 rfl (lv_at hl 0 rfl) ?_
  refine lv_iload_n hx hb dX2_until_1 rfl (lv_at hl 1 rfl) ?_
  refine lv_aload_n hx hb dX2_until_2 rfl (lv_at hl 0 rfl) ?_
  refine va_get (D := E.1) (ci := 3) (v := .ref (b 3)) (C := RX2) (T := TX2) (N := 10) hx hb hts hiX2 hown hK hP 0 m0x rfl 5 (by decide) (hts (.fieldLink RX2 20 "PulseLoomModel" "shift" "[I") (List.mem_of_getElem? (i := 1) (by rfl))) (fun _ h9 => h9) rfl dX2_until_3 ?_
  refine lv_iload_n hx hb dX2_until_6 rfl (lv_at hl 1 rfl) ?_
  refine va_iald hx hb hK hP 3 0 m3x rfl (by exact vp_in_nI (by omega) (by omega)) dX2_until_7 ?_
  refine nq_top (show (nI (F (((nI k)).toNatClampNeg) 3)) = (nI (F k 3)) from by rw [nI_clamp (by omega)]) ?_
  refine lv_iload_n hx hb dX2_until_8 rfl (lv_at hl 2 rfl) ?_
  refine csV_i (rest := []) (As := [.int (nI k), .int (nI (F k 3)), .int (nI j)]) ⟨hx, hb, hml, hown, hts⟩ (c_X2_comeTogether l E _ b n lim t F nw hv hO htn9 k (F k 3) j (by omega) (by omega) (by omega)) (cwV 3 hts gX2_until_X2_comeTogether rfl rfl rfl (by decide +kernel) ⟨Nat.le_of_ble_eq_true rfl, Nat.le_of_ble_eq_true rfl⟩) (va_recv hK hP (ci := 3) (q0 := 0) rfl m0x) hP hK rfl hl.1 rfl (Nat.le_of_ble_eq_true rfl) dX2_until_9 (Nat.le_of_ble_eq_true rfl) (Nat.le_of_ble_eq_true rfl) (fun r9 hr9 => ?_)
  subst hr9
  refine bq_if_ne (tgt := 17) hx hb dX2_until_12 (by decide) (fun h12 => ?_) (fun h12 => ?_)
  · skip
    obtain ⟨g9, hg8, hg9⟩ := meet_until (F := F) (now := t) (i := k) (j := j) (by omega) (by omega) h12
    refine lv_aload_n hx hb dX2_until_17 rfl (lv_at hl 0 rfl) ?_
    refine va_get (D := E.1) (ci := 3) (v := .ref (b 2)) (C := RX2) (T := TX2) (N := 10) hx hb hts hiX2 hown hK hP 0 m0x rfl 4 (by decide) (hts (.fieldLink RX2 17 "PulseLoomModel" "period" "[I") (List.mem_of_getElem? (i := 2) (by rfl))) (fun _ h9 => h9) rfl dX2_until_18 ?_
    refine lv_iload_n hx hb dX2_until_21 rfl (lv_at hl 1 rfl) ?_
    refine va_iald hx hb hK hP 2 0 m2x rfl (by exact vp_in_nI (by omega) (by omega)) dX2_until_22 ?_
    refine nq_top (show (nI (F (((nI k)).toNatClampNeg) 0)) = (nI (F k 0)) from by rw [nI_clamp (by omega)]) ?_
    refine lv_aload_n hx hb dX2_until_23 rfl (lv_at hl 0 rfl) ?_
    refine lv_iload_n hx hb dX2_until_24 rfl (lv_at hl 1 rfl) ?_
    refine lv_iconst (v := (nI 0)) hx hb dX2_until_25 (by decide) ?_
    refine csV_i (rest := [.int (nI (F k 0))]) (As := [.int (nI k), .int (nI 0)]) ⟨hx, hb, hml, hown, hts⟩ (c_X2_phaseIn l E _ b n lim t F nw hv hO htn9 k (by omega) 0 (by omega)) (cwV 2 hts gX2_until_X2_phaseIn rfl rfl rfl (by decide +kernel) ⟨Nat.le_of_ble_eq_true rfl, Nat.le_of_ble_eq_true rfl⟩) (va_recv hK hP (ci := 3) (q0 := 0) rfl m0x) hP hK rfl hl.1 rfl (Nat.le_of_ble_eq_true rfl) dX2_until_26 (Nat.le_of_ble_eq_true rfl) (Nat.le_of_ble_eq_true rfl) (fun r26 hr26 => ?_)
    subst hr26
    refine nq_sub hx hb dX2_until_29 (by omega) ?_
    refine lv_aload_n hx hb dX2_until_30 rfl (lv_at hl 0 rfl) ?_
    refine va_get (D := E.1) (ci := 3) (v := .ref (b 2)) (C := RX2) (T := TX2) (N := 10) hx hb hts hiX2 hown hK hP 0 m0x rfl 4 (by decide) (hts (.fieldLink RX2 17 "PulseLoomModel" "period" "[I") (List.mem_of_getElem? (i := 2) (by rfl))) (fun _ h9 => h9) rfl dX2_until_31 ?_
    refine lv_iload_n hx hb dX2_until_34 rfl (lv_at hl 1 rfl) ?_
    refine va_iald hx hb hK hP 2 0 m2x rfl (by exact vp_in_nI (by omega) (by omega)) dX2_until_35 ?_
    refine nq_top (show (nI (F (((nI k)).toNatClampNeg) 0)) = (nI (F k 0)) from by rw [nI_clamp (by omega)]) ?_
    refine nq_rem hx hb dX2_until_36 (by omega) (by omega) (by omega) ?_
    refine lv_istore_n (lv' := [(3, .int (nI (((F k 0) - (ph F k (t + 0))) % (F k 0)))), (0, .ref (b 0)), (1, .int (nI k)), (2, .int (nI j))]) hx hb dX2_until_37 rfl hl (by decide) rfl (fun ls hl => ?_)
    have loop38 : ∀ (tk : Nat) (d9 : Nat) (ls : Array Slot), (∀ q, q < d9 → ph F j (t + (wait F k t + q * F k 0)) ≠ 0) → (d9 ≤ g9) → (g9 - d9) < tk → lv_has ls 4 [(0, .ref (b 0)), (1, .int (nI k)), (2, .int (nI j)), (3, .int (nI (wait F k t + d9 * F k 0)))] → W p l e ({ frames := 2, cells := 0, slots := 0, locals := 47 } : Room) s m args below meth c s.heap [] 0 0 QQ (F0 m 38 ls []) := by
      intro tk
      induction tk with
      | zero => intro d9 ls hn9 hd9 hk hl; exact absurd hk (Nat.not_lt_zero _)
      | succ tk ih38 =>
        intro d9 ls hn9 hd9 hk hl
        have hm9 : d9 * F k 0 ≤ 20 * 20 := Nat.mul_le_mul (by omega) (by omega)
        have hp8 := ph_lt (F := F) (i := j) (b := t + (wait F k t + d9 * F k 0)) (by omega)
        refine lv_aload_n hx hb dX2_until_38 rfl (lv_at hl 0 rfl) ?_
        refine lv_iload_n hx hb dX2_until_39 rfl (lv_at hl 2 rfl) ?_
        refine lv_iload_n hx hb dX2_until_40 rfl (lv_at hl 3 rfl) ?_
        refine csV_i (rest := []) (As := [.int (nI j), .int (nI (wait F k t + d9 * F k 0))]) ⟨hx, hb, hml, hown, hts⟩ (c_X2_phaseIn l E _ b n lim t F nw hv hO htn9 j (by omega) (wait F k t + d9 * F k 0) (by omega)) (cwV 2 hts gX2_until_X2_phaseIn rfl rfl rfl (by decide +kernel) ⟨Nat.le_of_ble_eq_true rfl, Nat.le_of_ble_eq_true rfl⟩) (va_recv hK hP (ci := 3) (q0 := 0) rfl m0x) hP hK rfl hl.1 rfl (Nat.le_of_ble_eq_true rfl) dX2_until_41 (Nat.le_of_ble_eq_true rfl) (Nat.le_of_ble_eq_true rfl) (fun r41 hr41 => ?_)
        subst hr41
        refine nq_if_eq (tgt := 59) hx hb dX2_until_44 (by decide) (by omega) (fun h44 => ?_) (fun h44 => ?_)
        · skip
          refine lv_iload_n hx hb dX2_until_59 rfl (lv_at hl 3 rfl) ?_
          rw [hQ]
          exact retS_i hx hb hr hlocks (by rw [ufind_at (by omega) (by omega) hn9]; exact (iI_n _).symm) dX2_until_60
        · skip
          refine lv_iload_n hx hb dX2_until_47 rfl (lv_at hl 3 rfl) ?_
          refine lv_aload_n hx hb dX2_until_48 rfl (lv_at hl 0 rfl) ?_
          refine va_get (D := E.1) (ci := 3) (v := .ref (b 2)) (C := RX2) (T := TX2) (N := 10) hx hb hts hiX2 hown hK hP 0 m0x rfl 4 (by decide) (hts (.fieldLink RX2 17 "PulseLoomModel" "period" "[I") (List.mem_of_getElem? (i := 2) (by rfl))) (fun _ h9 => h9) rfl dX2_until_49 ?_
          refine lv_iload_n hx hb dX2_until_52 rfl (lv_at hl 1 rfl) ?_
          refine va_iald hx hb hK hP 2 0 m2x rfl (by exact vp_in_nI (by omega) (by omega)) dX2_until_53 ?_
          refine nq_top (show (nI (F (((nI k)).toNatClampNeg) 0)) = (nI (F k 0)) from by rw [nI_clamp (by omega)]) ?_
          refine nq_add hx hb dX2_until_54 ?_
          refine lv_istore_n (lv' := [(3, .int (nI ((wait F k t + d9 * F k 0) + (F k 0)))), (0, .ref (b 0)), (1, .int (nI k)), (2, .int (nI j))]) hx hb dX2_until_55 rfl hl (by decide) rfl (fun ls hl => ?_)
          refine lv_goto (tgt := 38) hx hb dX2_until_56 (by decide) ?_
          have hl : lv_has ls 4 [(3, .int (nI (wait F k t + (d9 + 1) * F k 0))), (0, .ref (b 0)), (1, .int (nI k)), (2, .int (nI j))] := lv_rep hl 0 rfl (congrArg Value.int (show (nI ((wait F k t + d9 * F k 0) + (F k 0))) = (nI (wait F k t + (d9 + 1) * F k 0)) from congrArg nI (by rw [Nat.succ_mul]; omega)))
          exact ih38 (d9 + 1) ls (by intro q hq; rcases Nat.lt_or_ge q d9 with z | z; exact hn9 q z; rw [show q = d9 by omega]; omega) (by rcases Nat.lt_or_ge d9 g9 with z | z; omega; exact absurd hg9 (by rw [show g9 = d9 by omega]; omega)) (by rcases Nat.lt_or_ge d9 g9 with z | z; omega; exact absurd hg9 (by rw [show g9 = d9 by omega]; omega)) (lv_sub hl [1, 2, 3, 0] rfl)
    have hl : lv_has ls 4 [(3, .int (nI (wait F k t + 0 * F k 0))), (0, .ref (b 0)), (1, .int (nI k)), (2, .int (nI j))] := lv_rep hl 0 rfl (congrArg Value.int (show (nI (((F k 0) - (ph F k (t + 0))) % (F k 0))) = (nI (wait F k t + 0 * F k 0)) from congrArg nI (by rw [Nat.zero_mul]; exact wait_mod (by omega))))
    exact loop38 ((g9 - 0) + 1) 0 ls (fun q hq => absurd hq (by omega)) (by omega) (Nat.lt_succ_self _) (lv_sub hl [1, 2, 3, 0] rfl)
  · skip
    refine lv_iconst (v := (iI (-1))) hx hb dX2_until_15 (by decide) ?_
    rw [hQ]
    exact retS_i hx hb hr hlocks (congrArg iI (by unfold untilS; symm; refine ufind_no _ 0 (fun q hq => ?_); have := until_meet (by omega) hq; rw [h12] at this; exact absurd this (by decide))) dX2_until_16

set_option maxHeartbeats 4000000 in
set_option maxRecDepth 100000 in
/-- whole() -/
theorem c_X2_whole (l : Launch) (E : GE) (w : va_W) (b : Nat → Nat) (n lim t : Nat) (F : LR) (nw : Nat) (hv : MV E b n lim t F w) (hO : OkS n nw lim F) (htn9 : t ≤ nw) : Met l yX2_whole wsX2_whole ({ frames := 1, cells := 0, slots := 0, locals := 24 } : Room) (va_Pc [.ref (b 0)] (pcS E (w))) (vp_Sl (fun r => r = lN (lcmS F n))) 0 0 (fun _ => False) := by
  refine metS (by decide) rfl (Nat.le_of_ble_eq_true rfl) ?_
  intro p e s m args below meth c ls hx hb hr hml hts hown hlocks hP hK hl
  have hiX2 : ∀ q ∈ wsX20, q ∈ wsX2_whole := by decide +kernel
  obtain ⟨QQ, hQ⟩ : ∃ zQ, zQ = MQ below (vp_Sl (fun r => r = lN (lcmS F n))) args s 0 0 (fun _ => False) := ⟨_, rfl⟩
  rw [← hQ]
  obtain ⟨th, m0x, m1x, m2x, m3x, m4x, m5x, m6x⟩ := mv_all hv
  obtain ⟨hO1, hO2, hO3, hO4, hO5⟩ := id hO
  have hpb : ∀ i, i < n → 2 ≤ F i 0 ∧ F i 0 ≤ 20 := fun i hi => ⟨(hO4 i hi).1, (hO4 i hi).2.1⟩
  refine lv_lconst (v := 1) hx hb dX2_whole_0 (by decide) ?_
  refine lv_lstore_n (lv' := [(1, .long 1), (0, .ref (b 0))]) hx hb dX2_whole_1 rfl hl (by decide) rfl (fun ls hl => ?_)
  refine lv_iconst (v := (nI 0)) hx hb dX2_whole_2 (by decide) ?_
  refine lv_istore_n (lv' := [(3, .int (nI 0)), (1, .long 1), (0, .ref (b 0))]) hx hb dX2_whole_3 rfl hl (by decide) rfl (fun ls hl => ?_)
  have loop4 : ∀ (tk : Nat) (i : Nat) (ls : Array Slot), (i ≤ n) → (n - i) < tk → lv_has ls 4 [(0, .ref (b 0)), (1, .long (lN (lcmS F i))), (3, .int (nI i))] → W p l e ({ frames := 1, cells := 0, slots := 0, locals := 24 } : Room) s m args below meth c s.heap [] 0 0 QQ (F0 m 4 ls []) := by
    intro tk
    induction tk with
    | zero => intro i ls hi hk hl; exact absurd hk (Nat.not_lt_zero _)
    | succ tk ih4 =>
      intro i ls hi hk hl
      refine lv_iload_n hx hb dX2_whole_4 rfl (lv_at hl 2 rfl) ?_
      refine lv_aload_n hx hb dX2_whole_5 rfl (lv_at hl 0 rfl) ?_
      refine va_get (D := E.1) (ci := 3) (v := .int (nI n)) (C := RX2) (T := TX2) (N := 10) hx hb hts hiX2 hown hK hP 0 m0x rfl 1 (by decide) (hts (.fieldLink RX2 38 "PulseLoomModel" "lamps" "I") (List.mem_of_getElem? (i := 1) (by rfl))) (fun _ h9 => h9) rfl dX2_whole_6 ?_
      refine nq_icmp_ge (tgt := 49) hx hb dX2_whole_9 (by decide) (by omega) (by omega) (fun h9 => ?_) (fun h9 => ?_)
      · skip
        refine lv_lload_n hx hb dX2_whole_49 rfl (lv_at hl 1 rfl) ?_
        rw [hQ]
        exact retS_l hx hb hr hlocks (congrArg lN (by rw [show i = n by omega])) dX2_whole_50
      · skip
        have hi9 := hO4 i h9
        have hlb := lcmS_bd hpb hi
        have hmz : lcmS F i % F i 0 < F i 0 := Nat.mod_lt _ (by omega)
        have hgb : 0 < Nat.gcd (lcmS F i % F i 0) (F i 0) ∧ Nat.gcd (lcmS F i % F i 0) (F i 0) ≤ F i 0 := ⟨Nat.gcd_pos_of_pos_right _ (by omega), Nat.le_of_dvd (by omega) (Nat.gcd_dvd_right _ _)⟩
        have hdl : lcmS F i / Nat.gcd (lcmS F i % F i 0) (F i 0) ≤ lcmS F i := Nat.div_le_self _ _
        refine lv_lload_n hx hb dX2_whole_12 rfl (lv_at hl 1 rfl) ?_
        refine lv_lload_n hx hb dX2_whole_13 rfl (lv_at hl 1 rfl) ?_
        refine lv_aload_n hx hb dX2_whole_14 rfl (lv_at hl 0 rfl) ?_
        refine va_get (D := E.1) (ci := 3) (v := .ref (b 2)) (C := RX2) (T := TX2) (N := 10) hx hb hts hiX2 hown hK hP 0 m0x rfl 4 (by decide) (hts (.fieldLink RX2 17 "PulseLoomModel" "period" "[I") (List.mem_of_getElem? (i := 2) (by rfl))) (fun _ h9 => h9) rfl dX2_whole_15 ?_
        refine lv_iload_n hx hb dX2_whole_18 rfl (lv_at hl 2 rfl) ?_
        refine va_iald hx hb hK hP 2 0 m2x rfl (by exact vp_in_nI (by omega) (by omega)) dX2_whole_19 ?_
        refine nq_top (show (nI (F (((nI i)).toNatClampNeg) 0)) = (nI (F i 0)) from by rw [nI_clamp (by omega)]) ?_
        refine lv_i2l (v := lN (F i 0)) hx hb dX2_whole_20 (nI_l (by omega)) ?_
        refine lv_lrem hx hb dX2_whole_21 (fun q => absurd ((lN_inj0 (by omega)).mp q) (by omega)) ?_
        refine nq_topl (show (lN (lcmS F i)) - (lN (lcmS F i)) / (lN (F i 0)) * (lN (F i 0)) = lN (lcmS F i % F i 0) from pk_lRem (by omega) (by omega) (by omega)) ?_
        refine lv_l2i (v := (nI (lcmS F i % F i 0))) hx hb dX2_whole_22 (lN_i _) ?_
        refine lv_aload_n hx hb dX2_whole_23 rfl (lv_at hl 0 rfl) ?_
        refine va_get (D := E.1) (ci := 3) (v := .ref (b 2)) (C := RX2) (T := TX2) (N := 10) hx hb hts hiX2 hown hK hP 0 m0x rfl 4 (by decide) (hts (.fieldLink RX2 17 "PulseLoomModel" "period" "[I") (List.mem_of_getElem? (i := 2) (by rfl))) (fun _ h9 => h9) rfl dX2_whole_24 ?_
        refine lv_iload_n hx hb dX2_whole_27 rfl (lv_at hl 2 rfl) ?_
        refine va_iald hx hb hK hP 2 0 m2x rfl (by exact vp_in_nI (by omega) (by omega)) dX2_whole_28 ?_
        refine nq_top (show (nI (F (((nI i)).toNatClampNeg) 0)) = (nI (F i 0)) from by rw [nI_clamp (by omega)]) ?_
        refine csS_i (rest := [.long (lN (lcmS F i))]) (As := [.int (nI (lcmS F i % F i 0)), .int (nI (F i 0))]) ⟨hx, hb, hml, hown, hts⟩ (c_X2_common l E _ (lcmS F i % F i 0) (F i 0) (by omega) (by omega)) (va_cwS 2 hts gX2_whole_X2_common rfl rfl rfl (by decide +kernel) ⟨Nat.le_of_ble_eq_true rfl, Nat.le_of_ble_eq_true rfl⟩) hP hK rfl hl.1 rfl (Nat.le_of_ble_eq_true rfl) dX2_whole_29 (Nat.le_of_ble_eq_true rfl) (Nat.le_of_ble_eq_true rfl) (fun r29 hr29 => ?_)
        subst hr29
        refine lv_i2l (v := lN (Nat.gcd (lcmS F i % F i 0) (F i 0))) hx hb dX2_whole_32 (nI_l (by omega)) ?_
        refine lv_ldiv hx hb dX2_whole_33 (fun q => absurd ((lN_inj0 (by omega)).mp q) (by omega)) ?_
        refine nq_topl (show (lN (lcmS F i)) / (lN (Nat.gcd (lcmS F i % F i 0) (F i 0))) = lN (lcmS F i / Nat.gcd (lcmS F i % F i 0) (F i 0)) from pk_lDiv (by omega) (by omega) (by omega)) ?_
        refine lv_aload_n hx hb dX2_whole_34 rfl (lv_at hl 0 rfl) ?_
        refine va_get (D := E.1) (ci := 3) (v := .ref (b 2)) (C := RX2) (T := TX2) (N := 10) hx hb hts hiX2 hown hK hP 0 m0x rfl 4 (by decide) (hts (.fieldLink RX2 17 "PulseLoomModel" "period" "[I") (List.mem_of_getElem? (i := 2) (by rfl))) (fun _ h9 => h9) rfl dX2_whole_35 ?_
        refine lv_iload_n hx hb dX2_whole_38 rfl (lv_at hl 2 rfl) ?_
        refine va_iald hx hb hK hP 2 0 m2x rfl (by exact vp_in_nI (by omega) (by omega)) dX2_whole_39 ?_
        refine nq_top (show (nI (F (((nI i)).toNatClampNeg) 0)) = (nI (F i 0)) from by rw [nI_clamp (by omega)]) ?_
        refine lv_i2l (v := lN (F i 0)) hx hb dX2_whole_40 (nI_l (by omega)) ?_
        refine lv_lmul hx hb dX2_whole_41 ?_
        refine nq_topl (show (lN (lcmS F i / Nat.gcd (lcmS F i % F i 0) (F i 0))) * (lN (F i 0)) = lN (lcmS F i / Nat.gcd (lcmS F i % F i 0) (F i 0) * F i 0) from lN_mul _ _) ?_
        refine lv_lstore_n (lv' := [(1, .long (lN (lcmS F i / Nat.gcd (lcmS F i % F i 0) (F i 0) * F i 0))), (0, .ref (b 0)), (3, .int (nI i))]) hx hb dX2_whole_42 rfl hl (by decide) rfl (fun ls hl => ?_)
        refine nq_inc (lv' := [(3, .int (nI (i + 1))), (1, .long (lN (lcmS F i / Nat.gcd (lcmS F i % F i 0) (F i 0) * F i 0))), (0, .ref (b 0))]) hx hb dX2_whole_43 (d := 1) rfl hl (k := 2) rfl (by decide) rfl (fun ls hl => ?_)
        refine lv_goto (tgt := 4) hx hb dX2_whole_46 (by decide) ?_
        have hl : lv_has ls 4 [(3, .int (nI (i + 1))), (1, .long (lN (lcmS F (i + 1)))), (0, .ref (b 0))] := lv_rep hl 1 rfl (congrArg Value.long (show (lN (lcmS F i / Nat.gcd (lcmS F i % F i 0) (F i 0) * F i 0)) = (lN (lcmS F (i + 1))) from congrArg lN (lcm_div (by omega) (by omega))))
        exact ih4 (i + 1) ls (by omega) (by omega) (lv_sub hl [2, 1, 0] rfl)
  have hl : lv_has ls 4 [(3, .int (nI 0)), (1, .long (lN (lcmS F 0))), (0, .ref (b 0))] := lv_rep hl 1 rfl (congrArg Value.long (show 1 = (lN (lcmS F 0)) from rfl))
  exact loop4 ((n - 0) + 1) 0 ls (by omega) (Nat.lt_succ_self _) (lv_sub hl [2, 1, 0] rfl)

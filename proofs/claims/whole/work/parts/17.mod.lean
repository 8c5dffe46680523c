/-! the reference's cells in any world that holds them; its methods that only read -/
def MV (E : GE) (b : Nat → Nat) (n lim t : Nat) (F : LR) (w : va_W) : Prop := ∃ (th : Int32) (kp : Nat → Int32) (wr : va_W), w = wM E b th n lim F (NW t F) kp ++ wr
theorem MV_self {E : GE} {b : Nat → Nat} {th : Int32} {n lim t : Nat} {F : LR} {kp : Nat → Int32} : MV E b n lim t F (wM E b th n lim F (NW t F) kp) := ⟨th, kp, [], (List.append_nil _).symm⟩
theorem MV_app {E : GE} {b : Nat → Nat} {th : Int32} {n lim t : Nat} {F : LR} {kp : Nat → Int32} {wr : va_W} : MV E b n lim t F (wM E b th n lim F (NW t F) kp ++ wr) := ⟨th, kp, wr, rfl⟩
theorem mv_all {E : GE} {b : Nat → Nat} {n lim t : Nat} {F : LR} {w : va_W} (h : MV E b n lim t F w) : ∃ th : Int32, w[0]? = some (b 0, .inr (3, [.int th, .int (nI n), .int (nI lim), .ref (b 1), .ref (b 2), .ref (b 3), .ref (b 4), .ref (b 5), .ref (b 6), .ref (b 7)])) ∧ w[1]? = some (b 1, .inl (E.2.1, 8, .inl (fun j => nI (F j 2)))) ∧ w[2]? = some (b 2, .inl (E.2.1, 8, .inl (fun j => nI (F j 0)))) ∧ w[3]? = some (b 3, .inl (E.2.1, 8, .inl (fun j => nI (F j 3)))) ∧ w[4]? = some (b 4, .inl (E.2.1, 8, .inl (fun j => nI (F j 4)))) ∧ w[5]? = some (b 5, .inl (E.2.1, 8, .inl (fun j => nI (F j 1)))) ∧ w[6]? = some (b 6, .inl (E.2.1, 17, .inl (NW t F))) := by
  obtain ⟨th, kp, wr, rfl⟩ := h
  exact ⟨th, rfl, rfl, rfl, rfl, rfl, rfl, rfl⟩
theorem NW_0 (t : Nat) (F : LR) : NW t F 0 = nI t := rfl
theorem NW_s (t : Nat) (F : LR) {l : Nat} (h : l < 8) : NW t F (1 + l) = nI (F l 5) := by
  unfold NW
  rw [if_neg (by omega), if_pos (by omega), show 1 + l - 1 = l by omega]
theorem NW_d (t : Nat) (F : LR) (l : Nat) : NW t F (9 + l) = nI (F l 6) := by
  unfold NW
  rw [if_neg (by omega), if_neg (by omega), show 9 + l - 9 = l by omega]
/-- who shines, as bits: of the first k lamps -/
def shN (F : LR) (lim b : Nat) : Nat → Nat | 0 => 0 | k + 1 => if litS F lim b k = true then shN F lim b k + 2 ^ k else shN F lim b k
theorem shN_s (F : LR) (lim b k : Nat) : shN F lim b (k + 1) = if litS F lim b k = true then shN F lim b k + 2 ^ k else shN F lim b k := rfl
theorem shN_lt (F : LR) (lim b : Nat) : ∀ k, shN F lim b k < 2 ^ k
  | 0 => (show 0 < 2 ^ 0 by decide)
  | k + 1 => by
    have h := shN_lt F lim b k
    rw [shN_s, Nat.pow_succ]
    split <;> omega
theorem shN_bit (F : LR) (lim b : Nat) : ∀ k l, l < k → shN F lim b k / 2 ^ l % 2 = (litS F lim b l).toNat
  | 0, l, h => absurd h (by omega)
  | k + 1, l, h => by
    rw [shN_s]
    have h0 := shN_lt F lim b k
    rcases Nat.lt_or_ge l k with z | z
    · have ih := shN_bit F lim b k l z
      split
      · obtain ⟨d, hd⟩ : ∃ d, k = l + (d + 1) := ⟨k - l - 1, by omega⟩
        have e : 2 ^ k = 2 ^ l * (2 * 2 ^ d) := by rw [hd, Nat.pow_add, Nat.pow_succ, Nat.mul_comm (2 ^ d) 2]
        rw [e, Nat.add_mul_div_left _ _ (Nat.two_pow_pos l), Nat.add_mul_mod_self_left]
        exact ih
      · exact ih
    · have e : l = k := by omega
      subst e
      split
      · rename_i hl
        rw [Nat.add_div_right _ (Nat.two_pow_pos l), Nat.div_eq_of_lt h0, hl]
        rfl
      · rename_i hl
        rw [Nat.div_eq_of_lt h0]
        cases hq : litS F lim b l
        · rfl
        · exact absurd hq hl
theorem or_bit : ∀ k, k < 8 → ∀ a, a < 2 ^ k → nI a ||| (nI 1 <<< (nI k &&& 31)) = nI (a + 2 ^ k) := by decide +kernel
theorem and_bit : ∀ k, k < 8 → ∀ a, a < 256 → (nI a >>> (nI k &&& 31)) &&& nI 1 = nI (a / 2 ^ k % 2) := by decide +kernel
theorem sh_256 {F : LR} {lim b n : Nat} (h : n ≤ 8) : shN F lim b n < 256 := Nat.lt_of_lt_of_le (shN_lt F lim b n) (Nat.pow_le_pow_right (by decide) h)
theorem sh_bit {F : LR} {lim b n l : Nat} (h : n ≤ 8) (hl : l < n) : (nI (shN F lim b n) >>> (nI l &&& 31)) &&& nI 1 = nI ((litS F lim b l).toNat) := by
  rw [and_bit l (by omega) _ (sh_256 h), shN_bit F lim b n l hl]
theorem toNat_1 (c : Bool) : c.toNat = 1 ↔ c = true := by cases c <;> decide
/-- a number is in a stretch -/
def inB (x lo hi : Int32) : Bool := decide (lo ≤ x ∧ x ≤ hi)
/-- a number is a lamp's, of n -/
def lpB (n : Nat) (x : Int32) : Bool := decide (0 ≤ x.toInt ∧ x.toInt < n)
theorem lpB_t {n k : Nat} (h : k < n) (hn : n ≤ 8) : lpB n (nI k) = true := by
  refine decide_eq_true ?_
  rw [nI_toInt (by omega)]
  omega
theorem lpB_in {n : Nat} {x : Int32} (hn : n ≤ 8) : inB x (nI 0) (iI ((n : Int) - 1)) = lpB n x := by
  unfold inB lpB
  congr 1
  rw [Int32.le_iff_toInt_le, Int32.le_iff_toInt_le, nI_toInt (by decide), iI_toInt (by omega)]
  refine propext ⟨fun q => ⟨q.1, by omega⟩, fun q => ⟨q.1, by omega⟩⟩
theorem inB_t {k lo hi : Nat} (h : lo ≤ k ∧ k ≤ hi) (hh : hi < 2147483648) : inB (nI k) (nI lo) (nI hi) = true := decide_eq_true ⟨nI_le h.1 (by omega), nI_le h.2 (by omega)⟩

set_option maxHeartbeats 4000000 in
set_option maxRecDepth 100000 in
/-- isIn(x, lo, hi) -/
theorem c_X2_isIn (l : Launch) (E : GE) (w : va_W) (x lo hi : Int32) : Met l yX2_isIn wsX2_isIn ({ frames := 0, cells := 0, slots := 0, locals := 0 } : Room) (va_Pc [.int x, .int lo, .int hi] (pcS E (w))) (vp_Si (fun r => r = bI (inB x lo hi))) 0 0 (fun _ => False) := by
  refine metS (by decide) rfl (Nat.le_of_ble_eq_true rfl) ?_
  intro p e s m args below meth c ls hx hb hr hml hts hown hlocks hP hK hl
  refine lv_iload_n hx hb dX2_isIn_0 rfl (lv_at hl 0 rfl) ?_
  refine lv_iload_n hx hb dX2_isIn_1 rfl (lv_at hl 1 rfl) ?_
  refine lv_icmp_lt (tgt := 14) hx hb dX2_isIn_2 (by decide) (fun h2 => ?_) (fun h2 => ?_)
  · skip
    refine lv_iconst (v := (nI 0)) hx hb dX2_isIn_14 (by decide) ?_
    refine nq_top (show nI 0 = bI false from rfl) ?_
    exact retS_z hx hb hr hlocks (congrArg bI (decide_eq_false (fun q => absurd (Int32.lt_of_lt_of_le h2 q.1) Int32.lt_irrefl)).symm) dX2_isIn_15
  · skip
    refine lv_iload_n hx hb dX2_isIn_5 rfl (lv_at hl 0 rfl) ?_
    refine lv_iload_n hx hb dX2_isIn_6 rfl (lv_at hl 2 rfl) ?_
    refine lv_icmp_gt (tgt := 14) hx hb dX2_isIn_7 (by decide) (fun h7 => ?_) (fun h7 => ?_)
    · skip
      refine lv_iconst (v := (nI 0)) hx hb dX2_isIn_14 (by decide) ?_
      refine nq_top (show nI 0 = bI false from rfl) ?_
      exact retS_z hx hb hr hlocks (congrArg bI (decide_eq_false (fun q => absurd (Int32.lt_of_lt_of_le h7 q.2) Int32.lt_irrefl)).symm) dX2_isIn_15
    · skip
      refine lv_iconst (v := (nI 1)) hx hb dX2_isIn_10 (by decide) ?_
      refine lv_goto (tgt := 15) hx hb dX2_isIn_11 (by decide) ?_
      refine nq_top (show nI 1 = bI true from rfl) ?_
      exact retS_z hx hb hr hlocks (congrArg bI (decide_eq_true ⟨Int32.not_lt.mp h2, Int32.not_lt.mp h7⟩).symm) dX2_isIn_15

set_option maxHeartbeats 4000000 in
set_option maxRecDepth 100000 in
/-- isLamp(x) -/
theorem c_X2_isLamp (l : Launch) (E : GE) (w : va_W) (b : Nat → Nat) (n lim t : Nat) (F : LR) (nw : Nat) (hv : MV E b n lim t F w) (hO : OkS n nw lim F) (htn9 : t ≤ nw) (x : Int32) : Met l yX2_isLamp wsX2_isLamp ({ frames := 1, cells := 0, slots := 0, locals := 22 } : Room) (va_Pc [.ref (b 0), .int x] (pcS E (w))) (vp_Si (fun r => r = bI (lpB n x))) 0 0 (fun _ => False) := by
  refine metS (by decide) rfl (Nat.le_of_ble_eq_true rfl) ?_
  intro p e s m args below meth c ls hx hb hr hml hts hown hlocks hP hK hl
  have hiX2 : ∀ q ∈ wsX20, q ∈ wsX2_isLamp := by decide +kernel
  obtain ⟨th, m0x, m1x, m2x, m3x, m4x, m5x, m6x⟩ := mv_all hv
  obtain ⟨hO1, hO2, hO3, hO4, hO5⟩ := id hO
  refine lv_iload_n hx hb dX2_isLamp_0 rfl (lv_at hl 1 rfl) ?_
  refine lv_iconst (v := (nI 0)) hx hb dX2_isLamp_1 (by decide) ?_
  refine lv_aload_n hx hb dX2_isLamp_2 rfl (lv_at hl 0 rfl) ?_
  refine va_get (D := E.1) (ci := 3) (v := .int (nI n)) (C := RX2) (T := TX2) (N := 10) hx hb hts hiX2 hown hK hP 0 m0x rfl 1 (by decide) (hts (.fieldLink RX2 38 "PulseLoomModel" "lamps" "I") (List.mem_of_getElem? (i := 1) (by rfl))) (fun _ h9 => h9) rfl dX2_isLamp_3 ?_
  refine lv_iconst (v := (nI 1)) hx hb dX2_isLamp_6 (by decide) ?_
  refine nq_subi hx hb dX2_isLamp_7 ?_
  refine csS_i (rest := []) (As := [.int x, .int (nI 0), .int (iI ((n : Int) - (1 : Int)))]) ⟨hx, hb, hml, hown, hts⟩ (c_X2_isIn l E _ x (nI 0) (iI ((n : Int) - (1 : Int)))) (va_cwS 3 hts gX2_isLamp_X2_isIn rfl rfl rfl (by decide +kernel) ⟨Nat.le_of_ble_eq_true rfl, Nat.le_of_ble_eq_true rfl⟩) hP hK rfl hl.1 rfl (Nat.le_of_ble_eq_true rfl) dX2_isLamp_8 (Nat.le_of_ble_eq_true rfl) (Nat.le_of_ble_eq_true rfl) (fun r8 hr8 => ?_)
  subst hr8
  refine nq_top (show (bI (inB x (nI 0) (iI ((n : Int) - (1 : Int))))) = (bI (lpB n x)) from congrArg bI (lpB_in hO1)) ?_
  exact retS_z hx hb hr hlocks (rfl) dX2_isLamp_11

set_option maxHeartbeats 4000000 in
set_option maxRecDepth 100000 in
/-- areLamps(x, y) -/
theorem c_X2_areLamps (l : Launch) (E : GE) (w : va_W) (b : Nat → Nat) (n lim t : Nat) (F : LR) (nw : Nat) (hv : MV E b n lim t F w) (hO : OkS n nw lim F) (htn9 : t ≤ nw) (x z : Int32) : Met l yX2_areLamps wsX2_areLamps ({ frames := 2, cells := 0, slots := 0, locals := 43 } : Room) (va_Pc [.ref (b 0), .int x, .int z] (pcS E (w))) (vp_Si (fun r => r = bI (lpB n x && lpB n z))) 0 0 (fun _ => False) := by
  refine metS (by decide) rfl (Nat.le_of_ble_eq_true rfl) ?_
  intro p e s m args below meth c ls hx hb hr hml hts hown hlocks hP hK hl
  obtain ⟨th, m0x, m1x, m2x, m3x, m4x, m5x, m6x⟩ := mv_all hv
  obtain ⟨hO1, hO2, hO3, hO4, hO5⟩ := id hO
  refine lv_aload_n hx hb dX2_areLamps_0 rfl (lv_at hl 0 rfl) ?_
  refine lv_iload_n hx hb dX2_areLamps_1 rfl (lv_at hl 1 rfl) ?_
  refine csV_i (rest := []) (As := [.int x]) ⟨hx, hb, hml, hown, hts⟩ (c_X2_isLamp l E _ b n lim t F nw hv hO htn9 x) (cwV 1 hts gX2_areLamps_X2_isLamp rfl rfl rfl (by decide +kernel) ⟨Nat.le_of_ble_eq_true rfl, Nat.le_of_ble_eq_true rfl⟩) (va_recv hK hP (ci := 3) (q0 := 0) rfl m0x) hP hK rfl hl.1 rfl (Nat.le_of_ble_eq_true rfl) dX2_areLamps_2 (Nat.le_of_ble_eq_true rfl) (Nat.le_of_ble_eq_true rfl) (fun r2 hr2 => ?_)
  subst hr2
  refine bq_if_eq (tgt := 20) hx hb dX2_areLamps_5 (by decide) (fun h5 => ?_) (fun h5 => ?_)
  · skip
    refine lv_iconst (v := (nI 0)) hx hb dX2_areLamps_20 (by decide) ?_
    refine nq_top (show nI 0 = bI false from rfl) ?_
    exact retS_z hx hb hr hlocks (congrArg bI (by rw [h5]; rfl)) dX2_areLamps_21
  · skip
    refine lv_aload_n hx hb dX2_areLamps_8 rfl (lv_at hl 0 rfl) ?_
    refine lv_iload_n hx hb dX2_areLamps_9 rfl (lv_at hl 2 rfl) ?_
    refine csV_i (rest := []) (As := [.int z]) ⟨hx, hb, hml, hown, hts⟩ (c_X2_isLamp l E _ b n lim t F nw hv hO htn9 z) (cwV 1 hts gX2_areLamps_X2_isLamp rfl rfl rfl (by decide +kernel) ⟨Nat.le_of_ble_eq_true rfl, Nat.le_of_ble_eq_true rfl⟩) (va_recv hK hP (ci := 3) (q0 := 0) rfl m0x) hP hK rfl hl.1 rfl (Nat.le_of_ble_eq_true rfl) dX2_areLamps_10 (Nat.le_of_ble_eq_true rfl) (Nat.le_of_ble_eq_true rfl) (fun r10 hr10 => ?_)
    subst hr10
    refine bq_if_eq (tgt := 20) hx hb dX2_areLamps_13 (by decide) (fun h13 => ?_) (fun h13 => ?_)
    · skip
      refine lv_iconst (v := (nI 0)) hx hb dX2_areLamps_20 (by decide) ?_
      refine nq_top (show nI 0 = bI false from rfl) ?_
      exact retS_z hx hb hr hlocks (congrArg bI (by rw [h5, h13]; rfl)) dX2_areLamps_21
    · skip
      refine lv_iconst (v := (nI 1)) hx hb dX2_areLamps_16 (by decide) ?_
      refine lv_goto (tgt := 21) hx hb dX2_areLamps_17 (by decide) ?_
      refine nq_top (show nI 1 = bI true from rfl) ?_
      exact retS_z hx hb hr hlocks (congrArg bI (by rw [h5, h13]; rfl)) dX2_areLamps_21

set_option maxHeartbeats 4000000 in
set_option maxRecDepth 100000 in
/-- isColour(x) -/
theorem c_X2_isColour (l : Launch) (E : GE) (w : va_W) (x : Int32) : Met l yX2_isColour wsX2_isColour ({ frames := 1, cells := 0, slots := 0, locals := 22 } : Room) (va_Pc [.int x] (pcS E (w))) (vp_Si (fun r => r = bI (inB x (nI 0) (nI 5)))) 0 0 (fun _ => False) := by
  refine metS (by decide) rfl (Nat.le_of_ble_eq_true rfl) ?_
  intro p e s m args below meth c ls hx hb hr hml hts hown hlocks hP hK hl
  refine lv_iload_n hx hb dX2_isColour_0 rfl (lv_at hl 0 rfl) ?_
  refine lv_iconst (v := (nI 0)) hx hb dX2_isColour_1 (by decide) ?_
  refine lv_iconst (v := (nI 5)) hx hb dX2_isColour_2 (by decide) ?_
  refine csS_i (rest := []) (As := [.int x, .int (nI 0), .int (nI 5)]) ⟨hx, hb, hml, hown, hts⟩ (c_X2_isIn l E _ x (nI 0) (nI 5)) (va_cwS 3 hts gX2_isColour_X2_isIn rfl rfl rfl (by decide +kernel) ⟨Nat.le_of_ble_eq_true rfl, Nat.le_of_ble_eq_true rfl⟩) hP hK rfl hl.1 rfl (Nat.le_of_ble_eq_true rfl) dX2_isColour_3 (Nat.le_of_ble_eq_true rfl) (Nat.le_of_ble_eq_true rfl) (fun r3 hr3 => ?_)
  subst hr3
  exact retS_z hx hb hr hlocks (rfl) dX2_isColour_6

set_option maxHeartbeats 4000000 in
set_option maxRecDepth 100000 in
/-- phaseIn(k, d) -/
theorem c_X2_phaseIn (l : Launch) (E : GE) (w : va_W) (b : Nat → Nat) (n lim t : Nat) (F : LR) (nw : Nat) (hv : MV E b n lim t F w) (hO : OkS n nw lim F) (htn9 : t ≤ nw) (k : Nat) (hk : k < n) (d : Nat) (hd : d ≤ 1000000) : Met l yX2_phaseIn wsX2_phaseIn ({ frames := 0, cells := 0, slots := 0, locals := 0 } : Room) (va_Pc [.ref (b 0), .int (nI k), .int (nI d)] (pcS E (w))) (vp_Si (fun r => r = nI (ph F k (t + d)))) 0 0 (fun _ => False) := by
  refine metS (by decide) rfl (Nat.le_of_ble_eq_true rfl) ?_
  intro p e s m args below meth c ls hx hb hr hml hts hown hlocks hP hK hl
  have hiX2 : ∀ q ∈ wsX20, q ∈ wsX2_phaseIn := by decide +kernel
  obtain ⟨th, m0x, m1x, m2x, m3x, m4x, m5x, m6x⟩ := mv_all hv
  obtain ⟨hO1, hO2, hO3, hO4, hO5⟩ := id hO
  have hk9 := hO4 k hk
  refine lv_aload_n hx hb dX2_phaseIn_0 rfl (lv_at hl 0 rfl) ?_
  refine va_get (D := E.1) (ci := 3) (v := .ref (b 6)) (C := RX2) (T := TX2) (N := 10) hx hb hts hiX2 hown hK hP 0 m0x rfl 8 (by decide) (hts (.fieldLink RX2 29 "PulseLoomModel" "now" "[I") (List.mem_of_getElem? (i := 1) (by rfl))) (fun _ h9 => h9) rfl dX2_phaseIn_1 ?_
  refine lv_iconst (v := (nI 0)) hx hb dX2_phaseIn_4 (by decide) ?_
  refine va_iald hx hb hK hP 6 0 m6x rfl (by exact vp_in_nI (by omega) (by omega)) dX2_phaseIn_5 ?_
  refine nq_top (show (NW t F (((nI 0)).toNatClampNeg)) = (nI t) from by rw [nI_clamp (by omega)]; rfl) ?_
  refine lv_iload_n hx hb dX2_phaseIn_6 rfl (lv_at hl 2 rfl) ?_
  refine nq_add hx hb dX2_phaseIn_7 ?_
  refine lv_aload_n hx hb dX2_phaseIn_8 rfl (lv_at hl 0 rfl) ?_
  refine va_get (D := E.1) (ci := 3) (v := .ref (b 3)) (C := RX2) (T := TX2) (N := 10) hx hb hts hiX2 hown hK hP 0 m0x rfl 5 (by decide) (hts (.fieldLink RX2 20 "PulseLoomModel" "shift" "[I") (List.mem_of_getElem? (i := 2) (by rfl))) (fun _ h9 => h9) rfl dX2_phaseIn_9 ?_
  refine lv_iload_n hx hb dX2_phaseIn_12 rfl (lv_at hl 1 rfl) ?_
  refine va_iald hx hb hK hP 3 0 m3x rfl (by exact vp_in_nI (by omega) (by omega)) dX2_phaseIn_13 ?_
  refine nq_top (show (nI (F (((nI k)).toNatClampNeg) 3)) = (nI (F k 3)) from by rw [nI_clamp (by omega)]) ?_
  refine nq_add hx hb dX2_phaseIn_14 ?_
  refine lv_aload_n hx hb dX2_phaseIn_15 rfl (lv_at hl 0 rfl) ?_
  refine va_get (D := E.1) (ci := 3) (v := .ref (b 2)) (C := RX2) (T := TX2) (N := 10) hx hb hts hiX2 hown hK hP 0 m0x rfl 4 (by decide) (hts (.fieldLink RX2 17 "PulseLoomModel" "period" "[I") (List.mem_of_getElem? (i := 3) (by rfl))) (fun _ h9 => h9) rfl dX2_phaseIn_16 ?_
  refine lv_iload_n hx hb dX2_phaseIn_19 rfl (lv_at hl 1 rfl) ?_
  refine va_iald hx hb hK hP 2 0 m2x rfl (by exact vp_in_nI (by omega) (by omega)) dX2_phaseIn_20 ?_
  refine nq_top (show (nI (F (((nI k)).toNatClampNeg) 0)) = (nI (F k 0)) from by rw [nI_clamp (by omega)]) ?_
  refine nq_rem hx hb dX2_phaseIn_21 (by omega) (by omega) (by omega) ?_
  exact retS_i hx hb hr hlocks (rfl) dX2_phaseIn_22

set_option maxHeartbeats 4000000 in
set_option maxRecDepth 100000 in
/-- dueIn(k) -/
theorem c_X2_dueIn (l : Launch) (E : GE) (w : va_W) (b : Nat → Nat) (n lim t : Nat) (F : LR) (nw : Nat) (hv : MV E b n lim t F w) (hO : OkS n nw lim F) (htn9 : t ≤ nw) (k : Nat) (hk : k < n) : Met l yX2_dueIn wsX2_dueIn ({ frames := 1, cells := 0, slots := 0, locals := 22 } : Room) (va_Pc [.ref (b 0), .int (nI k)] (pcS E (w))) (vp_Si (fun r => r = bI (due F k t))) 0 0 (fun _ => False) := by
  refine metS (by decide) rfl (Nat.le_of_ble_eq_true rfl) ?_
  intro p e s m args below meth c ls hx hb hr hml hts hown hlocks hP hK hl
  have hiX2 : ∀ q ∈ wsX20, q ∈ wsX2_dueIn := by decide +kernel
  obtain ⟨th, m0x, m1x, m2x, m3x, m4x, m5x, m6x⟩ := mv_all hv
  obtain ⟨hO1, hO2, hO3, hO4, hO5⟩ := id hO
  have hk9 := hO4 k hk
  have hp9 := ph_lt (F := F) (i := k) (b := t + 0) (by omega)
  refine lv_aload_n hx hb dX2_dueIn_0 rfl (lv_at hl 0 rfl) ?_
  refine lv_iload_n hx hb dX2_dueIn_1 rfl (lv_at hl 1 rfl) ?_
  refine lv_iconst (v := (nI 0)) hx hb dX2_dueIn_2 (by decide) ?_
  refine csV_i (rest := []) (As := [.int (nI k), .int (nI 0)]) ⟨hx, hb, hml, hown, hts⟩ (c_X2_phaseIn l E _ b n lim t F nw hv hO htn9 k (by omega) 0 (by omega)) (cwV 2 hts gX2_dueIn_X2_phaseIn rfl rfl rfl (by decide +kernel) ⟨Nat.le_of_ble_eq_true rfl, Nat.le_of_ble_eq_true rfl⟩) (va_recv hK hP (ci := 3) (q0 := 0) rfl m0x) hP hK rfl hl.1 rfl (Nat.le_of_ble_eq_true rfl) dX2_dueIn_3 (Nat.le_of_ble_eq_true rfl) (Nat.le_of_ble_eq_true rfl) (fun r3 hr3 => ?_)
  subst hr3
  refine lv_aload_n hx hb dX2_dueIn_6 rfl (lv_at hl 0 rfl) ?_
  refine va_get (D := E.1) (ci := 3) (v := .ref (b 4)) (C := RX2) (T := TX2) (N := 10) hx hb hts hiX2 hown hK hP 0 m0x rfl 6 (by decide) (hts (.fieldLink RX2 23 "PulseLoomModel" "length" "[I") (List.mem_of_getElem? (i := 1) (by rfl))) (fun _ h9 => h9) rfl dX2_dueIn_7 ?_
  refine lv_iload_n hx hb dX2_dueIn_10 rfl (lv_at hl 1 rfl) ?_
  refine va_iald hx hb hK hP 4 0 m4x rfl (by exact vp_in_nI (by omega) (by omega)) dX2_dueIn_11 ?_
  refine nq_top (show (nI (F (((nI k)).toNatClampNeg) 4)) = (nI (F k 4)) from by rw [nI_clamp (by omega)]) ?_
  refine nq_icmp_ge (tgt := 19) hx hb dX2_dueIn_12 (by decide) (by omega) (by omega) (fun h12 => ?_) (fun h12 => ?_)
  · skip
    refine lv_iconst (v := (nI 0)) hx hb dX2_dueIn_19 (by decide) ?_
    refine nq_top (show nI 0 = bI false from rfl) ?_
    exact retS_z hx hb hr hlocks (congrArg bI (by unfold due; symm; first | exact decide_eq_true h12 | exact decide_eq_false (Nat.not_lt.mpr h12))) dX2_dueIn_20
  · skip
    refine lv_iconst (v := (nI 1)) hx hb dX2_dueIn_15 (by decide) ?_
    refine lv_goto (tgt := 20) hx hb dX2_dueIn_16 (by decide) ?_
    refine nq_top (show nI 1 = bI true from rfl) ?_
    exact retS_z hx hb hr hlocks (congrArg bI (by unfold due; symm; first | exact decide_eq_true h12 | exact decide_eq_false (Nat.not_lt.mpr h12))) dX2_dueIn_20

set_option maxHeartbeats 4000000 in
set_option maxRecDepth 100000 in
/-- shining() -/
theorem c_X2_shining (l : Launch) (E : GE) (w : va_W) (b : Nat → Nat) (n lim t : Nat) (F : LR) (nw : Nat) (hv : MV E b n lim t F w) (hO : OkS n nw lim F) (htn9 : t ≤ nw) : Met l yX2_shining wsX2_shining ({ frames := 2, cells := 0, slots := 0, locals := 43 } : Room) (va_Pc [.ref (b 0)] (pcS E (w))) (vp_Si (fun r => r = nI (shN F lim t n))) 0 0 (fun _ => False) := by
  refine metS (by decide) rfl (Nat.le_of_ble_eq_true rfl) ?_
  intro p e s m args below meth c ls hx hb hr hml hts hown hlocks hP hK hl
  have hiX2 : ∀ q ∈ wsX20, q ∈ wsX2_shining := by decide +kernel
  obtain ⟨QQ, hQ⟩ : ∃ zQ, zQ = MQ below (vp_Si (fun r => r = nI (shN F lim t n))) args s 0 0 (fun _ => False) := ⟨_, rfl⟩
  rw [← hQ]
  obtain ⟨th, m0x, m1x, m2x, m3x, m4x, m5x, m6x⟩ := mv_all hv
  obtain ⟨hO1, hO2, hO3, hO4, hO5⟩ := id hO
  refine lv_iconst (v := (nI 0)) hx hb dX2_shining_0 (by decide) ?_
  refine lv_istore_n (lv' := [(1, .int (nI 0)), (0, .ref (b 0))]) hx hb dX2_shining_1 rfl hl (by decide) rfl (fun ls hl => ?_)
  refine lv_iconst (v := (nI 0)) hx hb dX2_shining_2 (by decide) ?_
  refine lv_istore_n (lv' := [(2, .int (nI 0)), (1, .int (nI 0)), (0, .ref (b 0))]) hx hb dX2_shining_3 rfl hl (by decide) rfl (fun ls hl => ?_)
  refine lv_iconst (v := (nI 0)) hx hb dX2_shining_4 (by decide) ?_
  refine lv_istore_n (lv' := [(3, .int (nI 0)), (2, .int (nI 0)), (1, .int (nI 0)), (0, .ref (b 0))]) hx hb dX2_shining_5 rfl hl (by decide) rfl (fun ls hl => ?_)
  have loop6 : ∀ (tk : Nat) (i : Nat) (ls : Array Slot), (i ≤ n) → (n - i) < tk → lv_has ls 4 [(0, .ref (b 0)), (1, .int (nI (shN F lim t i))), (2, .int (nI (acS F lim t i))), (3, .int (nI i))] → W p l e ({ frames := 2, cells := 0, slots := 0, locals := 43 } : Room) s m args below meth c s.heap [] 0 0 QQ (F0 m 6 ls []) := by
    intro tk
    induction tk with
    | zero => intro i ls hi hk hl; exact absurd hk (Nat.not_lt_zero _)
    | succ tk ih6 =>
      intro i ls hi hk hl
      have hac := acS_le hO lim t i hi
      have hsh := shN_lt F lim t i
      refine lv_iload_n hx hb dX2_shining_6 rfl (lv_at hl 3 rfl) ?_
      refine lv_aload_n hx hb dX2_shining_7 rfl (lv_at hl 0 rfl) ?_
      refine va_get (D := E.1) (ci := 3) (v := .int (nI n)) (C := RX2) (T := TX2) (N := 10) hx hb hts hiX2 hown hK hP 0 m0x rfl 1 (by decide) (hts (.fieldLink RX2 38 "PulseLoomModel" "lamps" "I") (List.mem_of_getElem? (i := 1) (by rfl))) (fun _ h9 => h9) rfl dX2_shining_8 ?_
      refine nq_icmp_ge (tgt := 61) hx hb dX2_shining_11 (by decide) (by omega) (by omega) (fun h11 => ?_) (fun h11 => ?_)
      · skip
        refine lv_iload_n hx hb dX2_shining_61 rfl (lv_at hl 1 rfl) ?_
        rw [hQ]
        exact retS_i hx hb hr hlocks (congrArg nI (by rw [show i = n by omega])) dX2_shining_62
      · skip
        have hi9 := hO4 i h11
        refine lv_aload_n hx hb dX2_shining_14 rfl (lv_at hl 0 rfl) ?_
        refine lv_iload_n hx hb dX2_shining_15 rfl (lv_at hl 3 rfl) ?_
        refine csV_i (rest := []) (As := [.int (nI i)]) ⟨hx, hb, hml, hown, hts⟩ (c_X2_dueIn l E _ b n lim t F nw hv hO htn9 i (by omega)) (cwV 1 hts gX2_shining_X2_dueIn rfl rfl rfl (by decide +kernel) ⟨Nat.le_of_ble_eq_true rfl, Nat.le_of_ble_eq_true rfl⟩) (va_recv hK hP (ci := 3) (q0 := 0) rfl m0x) hP hK rfl hl.1 rfl (Nat.le_of_ble_eq_true rfl) dX2_shining_16 (Nat.le_of_ble_eq_true rfl) (Nat.le_of_ble_eq_true rfl) (fun r16 hr16 => ?_)
        subst hr16
        refine bq_if_eq (tgt := 55) hx hb dX2_shining_19 (by decide) (fun h19 => ?_) (fun h19 => ?_)
        · skip
          refine nq_inc (lv' := [(3, .int (nI (i + 1))), (0, .ref (b 0)), (1, .int (nI (shN F lim t i))), (2, .int (nI (acS F lim t i)))]) hx hb dX2_shining_55 (d := 1) rfl hl (k := 3) rfl (by decide) rfl (fun ls hl => ?_)
          refine lv_goto (tgt := 6) hx hb dX2_shining_58 (by decide) ?_
          have hl : lv_has ls 4 [(3, .int (nI (i + 1))), (0, .ref (b 0)), (1, .int (nI (shN F lim t (i + 1)))), (2, .int (nI (acS F lim t i)))] := lv_rep hl 2 rfl (congrArg Value.int (show (nI (shN F lim t i)) = (nI (shN F lim t (i + 1))) from congrArg nI (by rw [shN_s, show litS F lim t i = false from by simp [litS, h19]]; rfl)))
          have hl : lv_has ls 4 [(3, .int (nI (i + 1))), (0, .ref (b 0)), (1, .int (nI (shN F lim t (i + 1)))), (2, .int (nI (acS F lim t (i + 1))))] := lv_rep hl 3 rfl (congrArg Value.int (show (nI (acS F lim t i)) = (nI (acS F lim t (i + 1))) from congrArg nI (by rw [acS_s, show litS F lim t i = false from by simp [litS, h19]]; rfl)))
          exact ih6 (i + 1) ls (by omega) (by omega) (lv_sub hl [1, 2, 3, 0] rfl)
        · skip
          refine lv_iload_n hx hb dX2_shining_22 rfl (lv_at hl 2 rfl) ?_
          refine lv_aload_n hx hb dX2_shining_23 rfl (lv_at hl 0 rfl) ?_
          refine va_get (D := E.1) (ci := 3) (v := .ref (b 5)) (C := RX2) (T := TX2) (N := 10) hx hb hts hiX2 hown hK hP 0 m0x rfl 7 (by decide) (hts (.fieldLink RX2 26 "PulseLoomModel" "power" "[I") (List.mem_of_getElem? (i := 2) (by rfl))) (fun _ h9 => h9) rfl dX2_shining_24 ?_
          refine lv_iload_n hx hb dX2_shining_27 rfl (lv_at hl 3 rfl) ?_
          refine va_iald hx hb hK hP 5 0 m5x rfl (by exact vp_in_nI (by omega) (by omega)) dX2_shining_28 ?_
          refine nq_top (show (nI (F (((nI i)).toNatClampNeg) 1)) = (nI (F i 1)) from by rw [nI_clamp (by omega)]) ?_
          refine nq_add hx hb dX2_shining_29 ?_
          refine lv_aload_n hx hb dX2_shining_30 rfl (lv_at hl 0 rfl) ?_
          refine va_get (D := E.1) (ci := 3) (v := .int (nI lim)) (C := RX2) (T := TX2) (N := 10) hx hb hts hiX2 hown hK hP 0 m0x rfl 2 (by decide) (hts (.fieldLink RX2 9 "PulseLoomModel" "limit" "I") (List.mem_of_getElem? (i := 3) (by rfl))) (fun _ h9 => h9) rfl dX2_shining_31 ?_
          refine nq_icmp_le (tgt := 40) hx hb dX2_shining_34 (by decide) (by omega) (by omega) (fun h34 => ?_) (fun h34 => ?_)
          · skip
            refine lv_iload_n hx hb dX2_shining_40 rfl (lv_at hl 1 rfl) ?_
            refine lv_iconst (v := (nI 1)) hx hb dX2_shining_41 (by decide) ?_
            refine lv_iload_n hx hb dX2_shining_42 rfl (lv_at hl 3 rfl) ?_
            refine lv_ishl hx hb dX2_shining_43 ?_
            refine lv_ior hx hb dX2_shining_44 ?_
            refine nq_top (show ((nI (shN F lim t i)) ||| ((nI 1) <<< ((nI i) &&& 31))) = (nI (shN F lim t i + 2 ^ i)) from or_bit i (by omega) _ hsh) ?_
            refine lv_istore_n (lv' := [(1, .int (nI (shN F lim t i + 2 ^ i))), (0, .ref (b 0)), (2, .int (nI (acS F lim t i))), (3, .int (nI i))]) hx hb dX2_shining_45 rfl hl (by decide) rfl (fun ls hl => ?_)
            refine lv_iload_n hx hb dX2_shining_46 rfl (lv_at hl 2 rfl) ?_
            refine lv_aload_n hx hb dX2_shining_47 rfl (lv_at hl 1 rfl) ?_
            refine va_get (D := E.1) (ci := 3) (v := .ref (b 5)) (C := RX2) (T := TX2) (N := 10) hx hb hts hiX2 hown hK hP 0 m0x rfl 7 (by decide) (hts (.fieldLink RX2 26 "PulseLoomModel" "power" "[I") (List.mem_of_getElem? (i := 2) (by rfl))) (fun _ h9 => h9) rfl dX2_shining_48 ?_
            refine lv_iload_n hx hb dX2_shining_51 rfl (lv_at hl 3 rfl) ?_
            refine va_iald hx hb hK hP 5 0 m5x rfl (by exact vp_in_nI (by omega) (by omega)) dX2_shining_52 ?_
            refine nq_top (show (nI (F (((nI i)).toNatClampNeg) 1)) = (nI (F i 1)) from by rw [nI_clamp (by omega)]) ?_
            refine nq_add hx hb dX2_shining_53 ?_
            refine lv_istore_n (lv' := [(2, .int (nI ((acS F lim t i) + (F i 1)))), (1, .int (nI (shN F lim t i + 2 ^ i))), (0, .ref (b 0)), (3, .int (nI i))]) hx hb dX2_shining_54 rfl hl (by decide) rfl (fun ls hl => ?_)
            refine nq_inc (lv' := [(3, .int (nI (i + 1))), (2, .int (nI ((acS F lim t i) + (F i 1)))), (1, .int (nI (shN F lim t i + 2 ^ i))), (0, .ref (b 0))]) hx hb dX2_shining_55 (d := 1) rfl hl (k := 3) rfl (by decide) rfl (fun ls hl => ?_)
            refine lv_goto (tgt := 6) hx hb dX2_shining_58 (by decide) ?_
            have hl : lv_has ls 4 [(3, .int (nI (i + 1))), (2, .int (nI ((acS F lim t i) + (F i 1)))), (1, .int (nI (shN F lim t (i + 1)))), (0, .ref (b 0))] := lv_rep hl 2 rfl (congrArg Value.int (show (nI (shN F lim t i + 2 ^ i)) = (nI (shN F lim t (i + 1))) from congrArg nI (by rw [shN_s, show litS F lim t i = true from by simp [litS, h19]; omega]; rfl)))
            have hl : lv_has ls 4 [(3, .int (nI (i + 1))), (2, .int (nI (acS F lim t (i + 1)))), (1, .int (nI (shN F lim t (i + 1)))), (0, .ref (b 0))] := lv_rep hl 1 rfl (congrArg Value.int (show (nI ((acS F lim t i) + (F i 1))) = (nI (acS F lim t (i + 1))) from congrArg nI (by rw [acS_s, show litS F lim t i = true from by simp [litS, h19]; omega]; rfl)))
            exact ih6 (i + 1) ls (by omega) (by omega) (lv_sub hl [3, 2, 1, 0] rfl)
          · skip
            refine lv_goto (tgt := 55) hx hb dX2_shining_37 (by decide) ?_
            refine nq_inc (lv' := [(3, .int (nI (i + 1))), (0, .ref (b 0)), (1, .int (nI (shN F lim t i))), (2, .int (nI (acS F lim t i)))]) hx hb dX2_shining_55 (d := 1) rfl hl (k := 3) rfl (by decide) rfl (fun ls hl => ?_)
            refine lv_goto (tgt := 6) hx hb dX2_shining_58 (by decide) ?_
            have hl : lv_has ls 4 [(3, .int (nI (i + 1))), (0, .ref (b 0)), (1, .int (nI (shN F lim t (i + 1)))), (2, .int (nI (acS F lim t i)))] := lv_rep hl 2 rfl (congrArg Value.int (show (nI (shN F lim t i)) = (nI (shN F lim t (i + 1))) from congrArg nI (by rw [shN_s, show litS F lim t i = false from by simp [litS, h19]; omega]; rfl)))
            have hl : lv_has ls 4 [(3, .int (nI (i + 1))), (0, .ref (b 0)), (1, .int (nI (shN F lim t (i + 1)))), (2, .int (nI (acS F lim t (i + 1))))] := lv_rep hl 3 rfl (congrArg Value.int (show (nI (acS F lim t i)) = (nI (acS F lim t (i + 1))) from congrArg nI (by rw [acS_s, show litS F lim t i = false from by simp [litS, h19]; omega]; rfl)))
            exact ih6 (i + 1) ls (by omega) (by omega) (lv_sub hl [1, 2, 3, 0] rfl)
  have hl : lv_has ls 4 [(3, .int (nI 0)), (2, .int (nI 0)), (1, .int (nI (shN F lim t 0))), (0, .ref (b 0))] := lv_rep hl 2 rfl (congrArg Value.int (show (nI 0) = (nI (shN F lim t 0)) from rfl))
  have hl : lv_has ls 4 [(3, .int (nI 0)), (2, .int (nI (acS F lim t 0))), (1, .int (nI (shN F lim t 0))), (0, .ref (b 0))] := lv_rep hl 1 rfl (congrArg Value.int (show (nI 0) = (nI (acS F lim t 0)) from rfl))
  exact loop6 ((n - 0) + 1) 0 ls (by omega) (Nat.lt_succ_self _) (lv_sub hl [3, 2, 1, 0] rfl)

set_option maxHeartbeats 4000000 in
set_option maxRecDepth 100000 in
/-- powerOf(the bits of those that shine) -/
theorem c_X2_powerOf (l : Launch) (E : GE) (w : va_W) (b : Nat → Nat) (n lim t : Nat) (F : LR) (nw : Nat) (hv : MV E b n lim t F w) (hO : OkS n nw lim F) (htn9 : t ≤ nw) : Met l yX2_powerOf wsX2_powerOf ({ frames := 0, cells := 0, slots := 0, locals := 0 } : Room) (va_Pc [.ref (b 0), .int (nI (shN F lim t n))] (pcS E (w))) (vp_Si (fun r => r = nI (acS F lim t n))) 0 0 (fun _ => False) := by
  refine metS (by decide) rfl (Nat.le_of_ble_eq_true rfl) ?_
  intro p e s m args below meth c ls hx hb hr hml hts hown hlocks hP hK hl
  have hiX2 : ∀ q ∈ wsX20, q ∈ wsX2_powerOf := by decide +kernel
  obtain ⟨QQ, hQ⟩ : ∃ zQ, zQ = MQ below (vp_Si (fun r => r = nI (acS F lim t n))) args s 0 0 (fun _ => False) := ⟨_, rfl⟩
  rw [← hQ]
  obtain ⟨th, m0x, m1x, m2x, m3x, m4x, m5x, m6x⟩ := mv_all hv
  obtain ⟨hO1, hO2, hO3, hO4, hO5⟩ := id hO
  refine lv_iconst (v := (nI 0)) hx hb dX2_powerOf_0 (by decide) ?_
  refine lv_istore_n (lv' := [(2, .int (nI 0)), (0, .ref (b 0)), (1, .int (nI (shN F lim t n)))]) hx hb dX2_powerOf_1 rfl hl (by decide) rfl (fun ls hl => ?_)
  refine lv_iconst (v := (nI 0)) hx hb dX2_powerOf_2 (by decide) ?_
  refine lv_istore_n (lv' := [(3, .int (nI 0)), (2, .int (nI 0)), (0, .ref (b 0)), (1, .int (nI (shN F lim t n)))]) hx hb dX2_powerOf_3 rfl hl (by decide) rfl (fun ls hl => ?_)
  have loop4 : ∀ (tk : Nat) (i : Nat) (ls : Array Slot), (i ≤ n) → (n - i) < tk → lv_has ls 4 [(0, .ref (b 0)), (1, .int (nI (shN F lim t n))), (2, .int (nI (acS F lim t i))), (3, .int (nI i))] → W p l e ({ frames := 0, cells := 0, slots := 0, locals := 0 } : Room) s m args below meth c s.heap [] 0 0 QQ (F0 m 4 ls []) := by
    intro tk
    induction tk with
    | zero => intro i ls hi hk hl; exact absurd hk (Nat.not_lt_zero _)
    | succ tk ih4 =>
      intro i ls hi hk hl
      have hac := acS_le hO lim t i hi
      have htn : (litS F lim t i).toNat ≤ 1 := Bool.toNat_le _
      refine lv_iload_n hx hb dX2_powerOf_4 rfl (lv_at hl 3 rfl) ?_
      refine lv_aload_n hx hb dX2_powerOf_5 rfl (lv_at hl 0 rfl) ?_
      refine va_get (D := E.1) (ci := 3) (v := .int (nI n)) (C := RX2) (T := TX2) (N := 10) hx hb hts hiX2 hown hK hP 0 m0x rfl 1 (by decide) (hts (.fieldLink RX2 38 "PulseLoomModel" "lamps" "I") (List.mem_of_getElem? (i := 1) (by rfl))) (fun _ h9 => h9) rfl dX2_powerOf_6 ?_
      refine nq_icmp_ge (tgt := 40) hx hb dX2_powerOf_9 (by decide) (by omega) (by omega) (fun h9 => ?_) (fun h9 => ?_)
      · skip
        refine lv_iload_n hx hb dX2_powerOf_40 rfl (lv_at hl 2 rfl) ?_
        rw [hQ]
        exact retS_i hx hb hr hlocks (congrArg nI (by rw [show i = n by omega])) dX2_powerOf_41
      · skip
        have hi9 := hO4 i h9
        refine lv_iload_n hx hb dX2_powerOf_12 rfl (lv_at hl 2 rfl) ?_
        refine lv_iload_n hx hb dX2_powerOf_13 rfl (lv_at hl 1 rfl) ?_
        refine lv_iload_n hx hb dX2_powerOf_14 rfl (lv_at hl 3 rfl) ?_
        refine lv_ishr hx hb dX2_powerOf_15 ?_
        refine lv_iconst (v := (nI 1)) hx hb dX2_powerOf_16 (by decide) ?_
        refine lv_iand hx hb dX2_powerOf_17 ?_
        refine nq_top (show (((nI (shN F lim t n)) >>> ((nI i) &&& 31)) &&& (nI 1)) = (nI ((litS F lim t i).toNat)) from sh_bit hO1 (by omega)) ?_
        refine lv_iconst (v := (nI 1)) hx hb dX2_powerOf_18 (by decide) ?_
        refine nq_icmp_ne (tgt := 31) hx hb dX2_powerOf_19 (by decide) (by omega) (by omega) (fun h19 => ?_) (fun h19 => ?_)
        · skip
          refine lv_iconst (v := (nI 0)) hx hb dX2_powerOf_31 (by decide) ?_
          refine nq_add hx hb dX2_powerOf_32 ?_
          refine lv_istore_n (lv' := [(2, .int (nI ((acS F lim t i) + 0))), (0, .ref (b 0)), (1, .int (nI (shN F lim t n))), (3, .int (nI i))]) hx hb dX2_powerOf_33 rfl hl (by decide) rfl (fun ls hl => ?_)
          refine nq_inc (lv' := [(3, .int (nI (i + 1))), (2, .int (nI ((acS F lim t i) + 0))), (0, .ref (b 0)), (1, .int (nI (shN F lim t n)))]) hx hb dX2_powerOf_34 (d := 1) rfl hl (k := 3) rfl (by decide) rfl (fun ls hl => ?_)
          refine lv_goto (tgt := 4) hx hb dX2_powerOf_37 (by decide) ?_
          have hl : lv_has ls 4 [(3, .int (nI (i + 1))), (2, .int (nI (acS F lim t (i + 1)))), (0, .ref (b 0)), (1, .int (nI (shN F lim t n)))] := lv_rep hl 1 rfl (congrArg Value.int (show (nI ((acS F lim t i) + 0)) = (nI (acS F lim t (i + 1))) from congrArg nI (by rw [acS_s, if_neg (fun q => h19 ((toNat_1 _).mpr q))]; rfl)))
          exact ih4 (i + 1) ls (by omega) (by omega) (lv_sub hl [2, 3, 1, 0] rfl)
        · skip
          refine lv_aload_n hx hb dX2_powerOf_22 rfl (lv_at hl 0 rfl) ?_
          refine va_get (D := E.1) (ci := 3) (v := .ref (b 5)) (C := RX2) (T := TX2) (N := 10) hx hb hts hiX2 hown hK hP 0 m0x rfl 7 (by decide) (hts (.fieldLink RX2 26 "PulseLoomModel" "power" "[I") (List.mem_of_getElem? (i := 2) (by rfl))) (fun _ h9 => h9) rfl dX2_powerOf_23 ?_
          refine lv_iload_n hx hb dX2_powerOf_26 rfl (lv_at hl 3 rfl) ?_
          refine va_iald hx hb hK hP 5 0 m5x rfl (by exact vp_in_nI (by omega) (by omega)) dX2_powerOf_27 ?_
          refine nq_top (show (nI (F (((nI i)).toNatClampNeg) 1)) = (nI (F i 1)) from by rw [nI_clamp (by omega)]) ?_
          refine lv_goto (tgt := 32) hx hb dX2_powerOf_28 (by decide) ?_
          refine nq_add hx hb dX2_powerOf_32 ?_
          refine lv_istore_n (lv' := [(2, .int (nI ((acS F lim t i) + (F i 1)))), (0, .ref (b 0)), (1, .int (nI (shN F lim t n))), (3, .int (nI i))]) hx hb dX2_powerOf_33 rfl hl (by decide) rfl (fun ls hl => ?_)
          refine nq_inc (lv' := [(3, .int (nI (i + 1))), (2, .int (nI ((acS F lim t i) + (F i 1)))), (0, .ref (b 0)), (1, .int (nI (shN F lim t n)))]) hx hb dX2_powerOf_34 (d := 1) rfl hl (k := 3) rfl (by decide) rfl (fun ls hl => ?_)
          refine lv_goto (tgt := 4) hx hb dX2_powerOf_37 (by decide) ?_
          have hl : lv_has ls 4 [(3, .int (nI (i + 1))), (2, .int (nI (acS F lim t (i + 1)))), (0, .ref (b 0)), (1, .int (nI (shN F lim t n)))] := lv_rep hl 1 rfl (congrArg Value.int (show (nI ((acS F lim t i) + (F i 1))) = (nI (acS F lim t (i + 1))) from congrArg nI (by rw [acS_s, if_pos ((toNat_1 _).mp h19)])))
          exact ih4 (i + 1) ls (by omega) (by omega) (lv_sub hl [2, 3, 1, 0] rfl)
  have hl : lv_has ls 4 [(3, .int (nI 0)), (2, .int (nI (acS F lim t 0))), (0, .ref (b 0)), (1, .int (nI (shN F lim t n)))] := lv_rep hl 1 rfl (congrArg Value.int (show (nI 0) = (nI (acS F lim t 0)) from rfl))
  exact loop4 ((n - 0) + 1) 0 ls (by omega) (Nat.lt_succ_self _) (lv_sub hl [2, 3, 1, 0] rfl)

set_option maxHeartbeats 4000000 in
set_option maxRecDepth 100000 in
/-- isShining(k) -/
theorem c_X2_isShining (l : Launch) (E : GE) (w : va_W) (b : Nat → Nat) (n lim t : Nat) (F : LR) (nw : Nat) (hv : MV E b n lim t F w) (hO : OkS n nw lim F) (htn9 : t ≤ nw) (k : Nat) (hk : k < n) : Met l yX2_isShining wsX2_isShining ({ frames := 3, cells := 0, slots := 0, locals := 66 } : Room) (va_Pc [.ref (b 0), .int (nI k)] (pcS E (w))) (vp_Si (fun r => r = bI (litS F lim t k))) 0 0 (fun _ => False) := by
  refine metS (by decide) rfl (Nat.le_of_ble_eq_true rfl) ?_
  intro p e s m args below meth c ls hx hb hr hml hts hown hlocks hP hK hl
  obtain ⟨th, m0x, m1x, m2x, m3x, m4x, m5x, m6x⟩ := mv_all hv
  obtain ⟨hO1, hO2, hO3, hO4, hO5⟩ := id hO
  have htn : (litS F lim t k).toNat ≤ 1 := Bool.toNat_le _
  refine lv_aload_n hx hb dX2_isShining_0 rfl (lv_at hl 0 rfl) ?_
  refine csV_i (rest := []) (As := []) ⟨hx, hb, hml, hown, hts⟩ (c_X2_shining l E _ b n lim t F nw hv hO htn9) (cwV 0 hts gX2_isShining_X2_shining rfl rfl rfl (by decide +kernel) ⟨Nat.le_of_ble_eq_true rfl, Nat.le_of_ble_eq_true rfl⟩) (va_recv hK hP (ci := 3) (q0 := 0) rfl m0x) hP hK rfl hl.1 rfl (Nat.le_of_ble_eq_true rfl) dX2_isShining_1 (Nat.le_of_ble_eq_true rfl) (Nat.le_of_ble_eq_true rfl) (fun r1 hr1 => ?_)
  subst hr1
  refine lv_iload_n hx hb dX2_isShining_4 rfl (lv_at hl 1 rfl) ?_
  refine lv_ishr hx hb dX2_isShining_5 ?_
  refine lv_iconst (v := (nI 1)) hx hb dX2_isShining_6 (by decide) ?_
  refine lv_iand hx hb dX2_isShining_7 ?_
  refine nq_top (show (((nI (shN F lim t n)) >>> ((nI k) &&& 31)) &&& (nI 1)) = (nI ((litS F lim t k).toNat)) from sh_bit hO1 (by omega)) ?_
  refine lv_iconst (v := (nI 1)) hx hb dX2_isShining_8 (by decide) ?_
  refine nq_icmp_ne (tgt := 16) hx hb dX2_isShining_9 (by decide) (by omega) (by omega) (fun h9 => ?_) (fun h9 => ?_)
  · skip
    refine lv_iconst (v := (nI 0)) hx hb dX2_isShining_16 (by decide) ?_
    refine nq_top (show nI 0 = bI false from rfl) ?_
    exact retS_z hx hb hr hlocks (congrArg bI (by cases hq : litS F lim t k; rfl; exact absurd ((toNat_1 _).mpr hq) h9)) dX2_isShining_17
  · skip
    refine lv_iconst (v := (nI 1)) hx hb dX2_isShining_12 (by decide) ?_
    refine lv_goto (tgt := 17) hx hb dX2_isShining_13 (by decide) ?_
    refine nq_top (show nI 1 = bI true from rfl) ?_
    exact retS_z hx hb hr hlocks (congrArg bI ((toNat_1 _).mp h9).symm) dX2_isShining_17

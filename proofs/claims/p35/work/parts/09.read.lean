/-! the class's cells in any world that holds them; its methods that only read -/
theorem mtS_s (F : LR) (i : Nat) (z : Int) (k : Nat) : mtS F i z (k + 1) = mtS F i z k + (if k ≠ i ∧ meetS F i z k = true then 1 else 0) := rfl
theorem lv_rep {ls : Array Slot} {nL : Nat} {lv : List (Nat × Value)} (h : lv_has ls nL lv) (k : Nat) {i : Nat} {v v' : Value} (hk : lv[k]? = some (i, v)) (e : v = v') : lv_has ls nL (lv.set k (i, v')) := by
  subst e
  have h2 : lv.set k (i, v) = lv := by
    apply List.ext_getElem?
    intro j
    rw [List.getElem?_set]
    by_cases hj : k = j
    · subst hj
      rw [if_pos rfl, if_pos (List.getElem?_eq_some_iff.mp hk).1, hk]
    · rw [if_neg hj]
  rw [h2]
  exact h
theorem up_s {α : Type} (f : Nat → α) (k : Nat) (v : α) : va_up f k v k = v := by simp [va_up]
theorem up_n {α : Type} (f : Nat → α) {k j : Nat} (v : α) (h : j ≠ k) : va_up f k v j = f j := by simp [va_up, h]
theorem nI_dec {d : Nat} (h : 1 ≤ d) : nI d + Int32.ofInt (-1) = nI (d - 1) := by
  have e : nI d = nI ((d - 1) + 1) := congrArg nI (by omega)
  rw [e]
  exact pk_m1 (d - 1)
theorem list_app {α : Type} {l r : List α} {i : Nat} {x : α} (h : l[i]? = some x) : (l ++ r)[i]? = some x := by
  rw [List.getElem?_append_left (List.getElem?_eq_some_iff.mp h).1]
  exact h
def CV (E : GE) (a : Nat → Nat) (n now lim : Nat) (G : Nat → List Value) (w : va_W) : Prop := ∃ (mc : Int32) (wr : va_W), w = wC E a mc n now lim G ++ wr
theorem CV_self {E : GE} {a : Nat → Nat} {mc : Int32} {n now lim : Nat} {G : Nat → List Value} : CV E a n now lim G (wC E a mc n now lim G) := ⟨mc, [], (List.append_nil _).symm⟩
theorem CV_app {E : GE} {a : Nat → Nat} {mc : Int32} {n now lim : Nat} {G : Nat → List Value} {wr : va_W} : CV E a n now lim G (wC E a mc n now lim G ++ wr) := ⟨mc, wr, rfl⟩
def arF (a : Nat → Nat) (n : Nat) : Nat → Option Nat := fun j => if j < n then some (a (3 + j)) else none
theorem arF_at {a : Nat → Nat} {n i : Nat} (h : i < n) : arF a n i = some (a (3 + i)) := if_pos h
theorem cv_all {E : GE} {a : Nat → Nat} {n now lim : Nat} {G : Nat → List Value} {w : va_W} (h : CV E a n now lim G w) : ∃ mc : Int32, w[0]? = some (a 0, .inr (2, [.ref (a 1), .int (nI now), .int (nI lim)])) ∧ w[1]? = some (a 1, .inr (0, [.int mc, .ref (a 2), .int (nI n)])) ∧ (0 < n → w[2]? = some (a 2, .inl (E.2.2.1, 10, .inr (.inr (.inr (.inr (arF a n))))))) ∧ ∀ i, i < n → w[3 + i]? = some (a (3 + i), .inr (1, G i)) := by
  obtain ⟨mc, wr, rfl⟩ := h
  exact ⟨mc, list_app wC_x, list_app wC_row, fun h => list_app (wC_arr h), fun i hi => list_app (wC_lamp hi)⟩
theorem okp {n now lim : Nat} {F : LR} (h : OkS n now lim F) {i : Nat} (hi : i < n) : 2 ≤ F i 0 ∧ F i 0 ≤ 20 ∧ F i 3 < F i 0 := by
  have := h.2.2.2.1 i hi
  omega
theorem okl {n now lim : Nat} {F : LR} (h : OkS n now lim F) {i : Nat} (hi : i < n) : F i 4 < F i 0 := by
  have := h.2.2.2.1 i hi
  omega

set_option maxHeartbeats 4000000 in
set_option maxRecDepth 100000 in
/-- divides(d, z) -/
theorem c_X1_divides (l : Launch) (E : GE) (w : va_W) (d : Nat) (z : Int) (hd : d ≤ 1000) (hz : -1000000000000 ≤ z ∧ z ≤ 1000000000000) : Met l yX1_divides wsX1_divides ({ frames := 0, cells := 0, slots := 0, locals := 0 } : Room) (va_Pc [.int (nI d), .long (lI z)] (pcS E (w))) (vp_Si (fun r => r = bI (divB d z))) 0 0 (fun _ => False) := by
  refine metS (by decide) rfl (Nat.le_of_ble_eq_true rfl) ?_
  intro p e s m args below meth c ls hx hb hr hml hts hown hlocks hP hK hl
  refine lv_iload_n hx hb dX1_divides_0 rfl (lv_at hl 0 rfl) ?_
  refine nq_if_le (tgt := 17) hx hb dX1_divides_1 (by decide) (by omega) (fun h1 => ?_) (fun h1 => ?_)
  · skip
    refine lv_iconst (v := (nI 0)) hx hb dX1_divides_17 (by decide) ?_
    refine nq_top (show nI 0 = bI false from rfl) ?_
    exact retS_z hx hb hr hlocks (congrArg bI (by unfold divB; symm; first | exact decide_eq_false (by omega) | exact decide_eq_true ⟨by omega, (lI_eq0 (by have := tmod_bd (z := z) (d := (d : Int)) (by omega); omega)).mp ((lg_cmp0 _ _).mp h10)⟩ | exact decide_eq_false (fun q => h10 ((lg_cmp0 _ _).mpr ((lI_eq0 (by have := tmod_bd (z := z) (d := (d : Int)) (by omega); omega)).mpr q.2))))) dX1_divides_18
  · skip
    refine lv_lload_n hx hb dX1_divides_4 rfl (lv_at hl 1 rfl) ?_
    refine lv_iload_n hx hb dX1_divides_5 rfl (lv_at hl 0 rfl) ?_
    refine lv_i2l (v := lI (d : Int)) hx hb dX1_divides_6 (nI_lI (by omega)) ?_
    refine lv_lrem hx hb dX1_divides_7 (fun q => absurd ((lI_eq0 (by omega)).mp q) (by omega)) ?_
    refine nq_topl (show (lI z) - (lI z) / (lI (d : Int)) * (lI (d : Int)) = lI (z.tmod (d : Int)) from lI_rem (by omega) (by omega)) ?_
    refine lv_lconst (v := 0) hx hb dX1_divides_8 (by decide) ?_
    refine W.lcmp hx hb dX1_divides_9 ?_
    refine lv_if_ne (tgt := 17) hx hb dX1_divides_10 (by decide) (fun h10 => ?_) (fun h10 => ?_)
    · skip
      refine lv_iconst (v := (nI 0)) hx hb dX1_divides_17 (by decide) ?_
      refine nq_top (show nI 0 = bI false from rfl) ?_
      exact retS_z hx hb hr hlocks (congrArg bI (by unfold divB; symm; first | exact decide_eq_false (by omega) | exact decide_eq_true ⟨by omega, (lI_eq0 (by have := tmod_bd (z := z) (d := (d : Int)) (by omega); omega)).mp ((lg_cmp0 _ _).mp h10)⟩ | exact decide_eq_false (fun q => h10 ((lg_cmp0 _ _).mpr ((lI_eq0 (by have := tmod_bd (z := z) (d := (d : Int)) (by omega); omega)).mpr q.2))))) dX1_divides_18
    · skip
      refine lv_iconst (v := (nI 1)) hx hb dX1_divides_13 (by decide) ?_
      refine lv_goto (tgt := 18) hx hb dX1_divides_14 (by decide) ?_
      refine nq_top (show nI 1 = bI true from rfl) ?_
      exact retS_z hx hb hr hlocks (congrArg bI (by unfold divB; symm; first | exact decide_eq_false (by omega) | exact decide_eq_true ⟨by omega, (lI_eq0 (by have := tmod_bd (z := z) (d := (d : Int)) (by omega); omega)).mp ((lg_cmp0 _ _).mp h10)⟩ | exact decide_eq_false (fun q => h10 ((lg_cmp0 _ _).mpr ((lI_eq0 (by have := tmod_bd (z := z) (d := (d : Int)) (by omega); omega)).mpr q.2))))) dX1_divides_18

set_option maxHeartbeats 4000000 in
set_option maxRecDepth 100000 in
/-- greatestDivisor(pp, qq) -/
theorem c_X1_greatestDivisor (l : Launch) (E : GE) (w : va_W) (pp qq : Nat) (hp : 1 ≤ pp ∧ pp ≤ 20) (hq : 1 ≤ qq ∧ qq ≤ 20) : Met l yX1_greatestDivisor wsX1_greatestDivisor ({ frames := 1, cells := 0, slots := 0, locals := 22 } : Room) (va_Pc [.int (nI pp), .int (nI qq)] (pcS E (w))) (vp_Si (fun r => r = nI (Nat.gcd pp qq))) 0 0 (fun _ => False) := by
  refine metS (by decide) rfl (Nat.le_of_ble_eq_true rfl) ?_
  intro p e s m args below meth c ls hx hb hr hml hts hown hlocks hP hK hl
  obtain ⟨QQ, hQ⟩ : ∃ zQ, zQ = MQ below (vp_Si (fun r => r = nI (Nat.gcd pp qq))) args s 0 0 (fun _ => False) := ⟨_, rfl⟩
  rw [← hQ]
  refine lv_iload_n hx hb dX1_greatestDivisor_0 rfl (lv_at hl 0 rfl) ?_
  refine lv_istore_n (lv' := [(2, .int (nI pp)), (0, .int (nI pp)), (1, .int (nI qq))]) hx hb dX1_greatestDivisor_1 rfl hl (by decide) rfl (fun ls hl => ?_)
  have loop2 : ∀ (tk : Nat) (d : Nat) (ls : Array Slot), (1 ≤ d ∧ d ≤ pp) → (∀ k, d < k → k ≤ pp → ¬ (k ∣ pp ∧ k ∣ qq)) → (d) < tk → lv_has ls 3 [(0, .int (nI pp)), (1, .int (nI qq)), (2, .int (nI d))] → W p l e ({ frames := 1, cells := 0, slots := 0, locals := 22 } : Room) s m args below meth c s.heap [] 0 0 QQ (F0 m 2 ls []) := by
    intro tk
    induction tk with
    | zero => intro d ls hd hg hk hl; exact absurd hk (Nat.not_lt_zero _)
    | succ tk ih2 =>
      intro d ls hd hg hk hl
      refine lv_iload_n hx hb dX1_greatestDivisor_2 rfl (lv_at hl 2 rfl) ?_
      refine lv_iconst (v := (nI 1)) hx hb dX1_greatestDivisor_3 (by decide) ?_
      refine nq_icmp_le (tgt := 33) hx hb dX1_greatestDivisor_4 (by decide) (by omega) (by omega) (fun h4 => ?_) (fun h4 => ?_)
      · skip
        refine lv_iconst (v := (nI 1)) hx hb dX1_greatestDivisor_33 (by decide) ?_
        rw [hQ]
        exact retS_i hx hb hr hlocks (congrArg nI (gcd_found (by omega) Nat.one_pos (Nat.one_dvd _) (Nat.one_dvd _) (fun k h1 h2 => hg k (by omega) h2))) dX1_greatestDivisor_34
      · skip
        refine lv_iload_n hx hb dX1_greatestDivisor_7 rfl (lv_at hl 2 rfl) ?_
        refine lv_iload_n hx hb dX1_greatestDivisor_8 rfl (lv_at hl 0 rfl) ?_
        refine lv_i2l (v := lI (pp : Int)) hx hb dX1_greatestDivisor_9 (nI_lI (by omega)) ?_
        refine csS_i (rest := []) (As := [.int (nI d), .long (lI (pp : Int))]) ⟨hx, hb, hml, hown, hts⟩ (c_X1_divides l E _ d (pp : Int) (by omega) (by omega)) (va_cwS 2 hts gX1_greatestDivisor_X1_divides rfl rfl rfl (by decide +kernel) ⟨Nat.le_of_ble_eq_true rfl, Nat.le_of_ble_eq_true rfl⟩) hP hK rfl hl.1 rfl (Nat.le_of_ble_eq_true rfl) dX1_greatestDivisor_10 (Nat.le_of_ble_eq_true rfl) (Nat.le_of_ble_eq_true rfl) (fun r10 hr10 => ?_)
        subst hr10
        refine bq_if_eq (tgt := 27) hx hb dX1_greatestDivisor_13 (by decide) (fun h13 => ?_) (fun h13 => ?_)
        · skip
          refine lv_iinc (v := (nI (d - 1))) (lv' := [(2, .int (nI (d - 1))), (0, .int (nI pp)), (1, .int (nI qq))]) hx hb dX1_greatestDivisor_27 hl (k := 2) rfl (nI_dec (by omega)) (by decide) rfl (fun ls hl => ?_)
          refine lv_goto (tgt := 2) hx hb dX1_greatestDivisor_30 (by decide) ?_
          exact ih2 (d - 1) ls (by omega) (by intro k h1 h2 h3; rcases Nat.lt_or_ge d k with z | z; exact hg k z h2 h3; have e9 : k = d := (by omega); subst e9; first | exact absurd h3.1 ((divB_natF (by omega) _).mp h13) | exact absurd h3.2 ((divB_natF (by omega) _).mp h22)) (by omega) (lv_sub hl [1, 2, 0] rfl)
        · skip
          refine lv_iload_n hx hb dX1_greatestDivisor_16 rfl (lv_at hl 2 rfl) ?_
          refine lv_iload_n hx hb dX1_greatestDivisor_17 rfl (lv_at hl 1 rfl) ?_
          refine lv_i2l (v := lI (qq : Int)) hx hb dX1_greatestDivisor_18 (nI_lI (by omega)) ?_
          refine csS_i (rest := []) (As := [.int (nI d), .long (lI (qq : Int))]) ⟨hx, hb, hml, hown, hts⟩ (c_X1_divides l E _ d (qq : Int) (by omega) (by omega)) (va_cwS 2 hts gX1_greatestDivisor_X1_divides rfl rfl rfl (by decide +kernel) ⟨Nat.le_of_ble_eq_true rfl, Nat.le_of_ble_eq_true rfl⟩) hP hK rfl hl.1 rfl (Nat.le_of_ble_eq_true rfl) dX1_greatestDivisor_19 (Nat.le_of_ble_eq_true rfl) (Nat.le_of_ble_eq_true rfl) (fun r19 hr19 => ?_)
          subst hr19
          refine bq_if_eq (tgt := 27) hx hb dX1_greatestDivisor_22 (by decide) (fun h22 => ?_) (fun h22 => ?_)
          · skip
            refine lv_iinc (v := (nI (d - 1))) (lv' := [(2, .int (nI (d - 1))), (0, .int (nI pp)), (1, .int (nI qq))]) hx hb dX1_greatestDivisor_27 hl (k := 2) rfl (nI_dec (by omega)) (by decide) rfl (fun ls hl => ?_)
            refine lv_goto (tgt := 2) hx hb dX1_greatestDivisor_30 (by decide) ?_
            exact ih2 (d - 1) ls (by omega) (by intro k h1 h2 h3; rcases Nat.lt_or_ge d k with z | z; exact hg k z h2 h3; have e9 : k = d := (by omega); subst e9; first | exact absurd h3.1 ((divB_natF (by omega) _).mp h13) | exact absurd h3.2 ((divB_natF (by omega) _).mp h22)) (by omega) (lv_sub hl [1, 2, 0] rfl)
          · skip
            refine lv_iload_n hx hb dX1_greatestDivisor_25 rfl (lv_at hl 2 rfl) ?_
            rw [hQ]
            exact retS_i hx hb hr hlocks (congrArg nI (gcd_found (by omega) (by omega) ((divB_nat (by omega) _).mp h13) ((divB_nat (by omega) _).mp h22) hg)) dX1_greatestDivisor_26
  exact loop2 ((pp) + 1) pp ls (by omega) (fun k h1 h2 => absurd h1 (by omega)) (Nat.lt_succ_self _) (lv_sub hl [1, 2, 0] rfl)

set_option maxHeartbeats 4000000 in
set_option maxRecDepth 100000 in
/-- smallestMultiple(mm, pp) -/
theorem c_X1_smallestMultiple (l : Launch) (E : GE) (w : va_W) (mm pp : Nat) (hm : 1 ≤ mm ∧ mm ≤ 1000000000) (hp : 2 ≤ pp ∧ pp ≤ 20) : Met l yX1_smallestMultiple wsX1_smallestMultiple ({ frames := 1, cells := 0, slots := 0, locals := 22 } : Room) (va_Pc [.long (lN mm), .int (nI pp)] (pcS E (w))) (vp_Sl (fun r => r = lN (Nat.lcm mm pp))) 0 0 (fun _ => False) := by
  refine metS (by decide) rfl (Nat.le_of_ble_eq_true rfl) ?_
  intro p e s m args below meth c ls hx hb hr hml hts hown hlocks hP hK hl
  obtain ⟨QQ, hQ⟩ : ∃ zQ, zQ = MQ below (vp_Sl (fun r => r = lN (Nat.lcm mm pp))) args s 0 0 (fun _ => False) := ⟨_, rfl⟩
  rw [← hQ]
  refine lv_iconst (v := (nI 1)) hx hb dX1_smallestMultiple_0 (by decide) ?_
  refine lv_istore_n (lv' := [(3, .int (nI 1)), (0, .long (lN mm)), (2, .int (nI pp))]) hx hb dX1_smallestMultiple_1 rfl hl (by decide) rfl (fun ls hl => ?_)
  have loop2 : ∀ (tk : Nat) (t : Nat) (ls : Array Slot), (1 ≤ t ∧ t ≤ pp) → (∀ k, 0 < k → k < t → ¬ pp ∣ mm * k) → (pp - t) < tk → lv_has ls 4 [(0, .long (lN mm)), (2, .int (nI pp)), (3, .int (nI t))] → W p l e ({ frames := 1, cells := 0, slots := 0, locals := 22 } : Room) s m args below meth c s.heap [] 0 0 QQ (F0 m 2 ls []) := by
    intro tk
    induction tk with
    | zero => intro t ls ht hg hk hl; exact absurd hk (Nat.not_lt_zero _)
    | succ tk ih2 =>
      intro t ls ht hg hk hl
      refine lv_iload_n hx hb dX1_smallestMultiple_2 rfl (lv_at hl 2 rfl) ?_
      refine lv_iload_n hx hb dX1_smallestMultiple_3 rfl (lv_at hl 1 rfl) ?_
      refine nq_icmp_ge (tgt := 29) hx hb dX1_smallestMultiple_4 (by decide) (by omega) (by omega) (fun h4 => ?_) (fun h4 => ?_)
      · skip
        refine lv_lload_n hx hb dX1_smallestMultiple_29 rfl (lv_at hl 0 rfl) ?_
        refine lv_iload_n hx hb dX1_smallestMultiple_30 rfl (lv_at hl 1 rfl) ?_
        refine lv_i2l (v := lN pp) hx hb dX1_smallestMultiple_31 (nI_l (by omega)) ?_
        refine lv_lmul hx hb dX1_smallestMultiple_32 ?_
        refine nq_topl (show (lN mm) * (lN pp) = lN (mm * pp) from lN_mul _ _) ?_
        rw [hQ]
        exact retS_l hx hb hr hlocks (congrArg lN (lcm_found (by omega) (by omega) (by omega) (Nat.dvd_mul_left pp mm) (fun k h1 h2 => hg k h1 (by omega)))) dX1_smallestMultiple_33
      · skip
        have hmt : mm * t ≤ 1000000000 * 20 := Nat.mul_le_mul (by omega) (by omega)
        refine lv_iload_n hx hb dX1_smallestMultiple_7 rfl (lv_at hl 1 rfl) ?_
        refine lv_lload_n hx hb dX1_smallestMultiple_8 rfl (lv_at hl 0 rfl) ?_
        refine lv_iload_n hx hb dX1_smallestMultiple_9 rfl (lv_at hl 2 rfl) ?_
        refine lv_i2l (v := lN t) hx hb dX1_smallestMultiple_10 (nI_l (by omega)) ?_
        refine lv_lmul hx hb dX1_smallestMultiple_11 ?_
        refine nq_topl (show (lN mm) * (lN t) = lI ((mm * t : Nat) : Int) from by rw [lN_mul, lI_n]) ?_
        refine csS_i (rest := []) (As := [.int (nI pp), .long (lI ((mm * t : Nat) : Int))]) ⟨hx, hb, hml, hown, hts⟩ (c_X1_divides l E _ pp ((mm * t : Nat) : Int) (by omega) (by omega)) (va_cwS 2 hts gX1_smallestMultiple_X1_divides rfl rfl rfl (by decide +kernel) ⟨Nat.le_of_ble_eq_true rfl, Nat.le_of_ble_eq_true rfl⟩) hP hK rfl hl.1 rfl (Nat.le_of_ble_eq_true rfl) dX1_smallestMultiple_12 (Nat.le_of_ble_eq_true rfl) (Nat.le_of_ble_eq_true rfl) (fun r12 hr12 => ?_)
        subst hr12
        refine bq_if_eq (tgt := 23) hx hb dX1_smallestMultiple_15 (by decide) (fun h15 => ?_) (fun h15 => ?_)
        · skip
          refine nq_inc (lv' := [(3, .int (nI (t + 1))), (0, .long (lN mm)), (2, .int (nI pp))]) hx hb dX1_smallestMultiple_23 (d := 1) rfl hl (k := 2) rfl (by decide) rfl (fun ls hl => ?_)
          refine lv_goto (tgt := 2) hx hb dX1_smallestMultiple_26 (by decide) ?_
          exact ih2 (t + 1) ls (by omega) (by intro k h1 h2; rcases Nat.lt_or_ge k t with z | z; exact hg k h1 z; have e9 : k = t := (by omega); subst e9; exact (divB_natF (by omega) _).mp h15) (by omega) (lv_sub hl [1, 2, 0] rfl)
        · skip
          refine lv_lload_n hx hb dX1_smallestMultiple_18 rfl (lv_at hl 0 rfl) ?_
          refine lv_iload_n hx hb dX1_smallestMultiple_19 rfl (lv_at hl 2 rfl) ?_
          refine lv_i2l (v := lN t) hx hb dX1_smallestMultiple_20 (nI_l (by omega)) ?_
          refine lv_lmul hx hb dX1_smallestMultiple_21 ?_
          refine nq_topl (show (lN mm) * (lN t) = lN (mm * t) from lN_mul _ _) ?_
          rw [hQ]
          exact retS_l hx hb hr hlocks (congrArg lN (lcm_found (by omega) (by omega) (by omega) ((divB_nat (by omega) _).mp h15) hg)) dX1_smallestMultiple_22
  exact loop2 ((pp - 1) + 1) 1 ls (by omega) (fun k h1 h2 => absurd h1 (by omega)) (Nat.lt_succ_self _) (lv_sub hl [1, 2, 0] rfl)

set_option maxHeartbeats 4000000 in
set_option maxRecDepth 100000 in
/-- wouldMeet(lamp i, shift, lamp j) -/
theorem c_X1_wouldMeet (l : Launch) (E : GE) (w : va_W) (q0 h0 q2 h2 : Nat) (F : LR) (lit : Nat → Bool) (fo : Nat → Nat) (i j sh : Nat) (hq : w[q0]? = some (h0, .inr (1, LF F lit fo i))) (hr2 : w[q2]? = some (h2, .inr (1, LF F lit fo j))) (hp : 2 ≤ F i 0 ∧ F i 0 ≤ 20 ∧ F i 3 < F i 0) (hp2 : 2 ≤ F j 0 ∧ F j 0 ≤ 20 ∧ F j 3 < F j 0) (hs : sh < 20) : Met l yX1_wouldMeet wsX1_wouldMeet ({ frames := 2, cells := 0, slots := 0, locals := 44 } : Room) (va_Pc [.ref h0, .int (nI sh), .ref h2] (pcS E (w))) (vp_Si (fun r => r = bI (meetS F i ((sh : Nat) : Int) j))) 0 0 (fun _ => False) := by
  refine metS (by decide) rfl (Nat.le_of_ble_eq_true rfl) ?_
  intro p e s m args below meth c ls hx hb hr hml hts hown hlocks hP hK hl
  have hiX0 : ∀ q ∈ wsX00, q ∈ wsX1_wouldMeet := by decide +kernel
  have hg := gcd_bd (p := F i 0) (q := F j 0) (by omega)
  refine lv_aload_n hx hb dX1_wouldMeet_0 rfl (lv_at hl 0 rfl) ?_
  refine va_get (D := E.1) (ci := 1) (v := .int (nI (F i 0))) (C := RX0) (T := TX0) (N := 9) hx hb hts hiX0 hown hK hP q0 hq rfl 0 (by decide) (hts (.fieldLink RX1 51 "PulseLoom$Lamp" "period" "I") (List.mem_of_getElem? (i := 1) (by rfl))) (fun _ h9 => h9) rfl dX1_wouldMeet_1 ?_
  refine lv_aload_n hx hb dX1_wouldMeet_4 rfl (lv_at hl 2 rfl) ?_
  refine va_get (D := E.1) (ci := 1) (v := .int (nI (F j 0))) (C := RX0) (T := TX0) (N := 9) hx hb hts hiX0 hown hK hP q2 hr2 rfl 0 (by decide) (hts (.fieldLink RX1 51 "PulseLoom$Lamp" "period" "I") (List.mem_of_getElem? (i := 1) (by rfl))) (fun _ h9 => h9) rfl dX1_wouldMeet_5 ?_
  refine csS_i (rest := []) (As := [.int (nI (F i 0)), .int (nI (F j 0))]) ⟨hx, hb, hml, hown, hts⟩ (c_X1_greatestDivisor l E _ (F i 0) (F j 0) (by omega) (by omega)) (va_cwS 2 hts gX1_wouldMeet_X1_greatestDivisor rfl rfl rfl (by decide +kernel) ⟨Nat.le_of_ble_eq_true rfl, Nat.le_of_ble_eq_true rfl⟩) hP hK rfl hl.1 rfl (Nat.le_of_ble_eq_true rfl) dX1_wouldMeet_8 (Nat.le_of_ble_eq_true rfl) (Nat.le_of_ble_eq_true rfl) (fun r8 hr8 => ?_)
  subst hr8
  refine lv_iload_n hx hb dX1_wouldMeet_11 rfl (lv_at hl 1 rfl) ?_
  refine lv_aload_n hx hb dX1_wouldMeet_12 rfl (lv_at hl 2 rfl) ?_
  refine va_get (D := E.1) (ci := 1) (v := .int (nI (F j 3))) (C := RX0) (T := TX0) (N := 9) hx hb hts hiX0 hown hK hP q2 hr2 rfl 3 (by decide) (hts (.fieldLink RX1 54 "PulseLoom$Lamp" "shift" "I") (List.mem_of_getElem? (i := 2) (by rfl))) (fun _ h9 => h9) rfl dX1_wouldMeet_13 ?_
  refine nq_subi hx hb dX1_wouldMeet_16 ?_
  refine lv_i2l (v := lI ((sh : Int) - (F j 3 : Int))) hx hb dX1_wouldMeet_17 (iI_lI (by omega)) ?_
  refine csS_i (rest := []) (As := [.int (nI (Nat.gcd (F i 0) (F j 0))), .long (lI ((sh : Int) - (F j 3 : Int)))]) ⟨hx, hb, hml, hown, hts⟩ (c_X1_divides l E _ (Nat.gcd (F i 0) (F j 0)) ((sh : Int) - (F j 3 : Int)) (by omega) (by omega)) (va_cwS 2 hts gX1_wouldMeet_X1_divides rfl rfl rfl (by decide +kernel) ⟨Nat.le_of_ble_eq_true rfl, Nat.le_of_ble_eq_true rfl⟩) hP hK rfl hl.1 rfl (Nat.le_of_ble_eq_true rfl) dX1_wouldMeet_18 (Nat.le_of_ble_eq_true rfl) (Nat.le_of_ble_eq_true rfl) (fun r18 hr18 => ?_)
  subst hr18
  exact retS_z hx hb hr hlocks (congrArg bI (by unfold divB meetS; congr 1; exact propext ⟨fun q => q.2, fun q => ⟨by omega, q⟩⟩)) dX1_wouldMeet_21

set_option maxHeartbeats 4000000 in
set_option maxRecDepth 100000 in
/-- countMet(lamp i, shift) -/
theorem c_X1_countMet (l : Launch) (E : GE) (w : va_W) (a : Nat → Nat) (n now lim : Nat) (F : LR) (lit : Nat → Bool) (fo : Nat → Nat) (hv : CV E a n now lim (LF F lit fo) w) (hO : OkS n now lim F) (hinj : ∀ i j : Nat, i < n → j < n → a (3 + i) = a (3 + j) → i = j) (i sh : Nat) (hi : i < n) (hs : sh < 20) : Met l yX1_countMet wsX1_countMet ({ frames := 3, cells := 0, slots := 0, locals := 66 } : Room) (va_Pc [.ref (a 0), .ref (a (3 + i)), .int (nI sh)] (pcS E (w))) (vp_Si (fun r => r = nI (mtS F i ((sh : Nat) : Int) n))) 0 0 (fun _ => False) := by
  refine metS (by decide) rfl (Nat.le_of_ble_eq_true rfl) ?_
  intro p e s m args below meth c ls hx hb hr hml hts hown hlocks hP hK hl
  have hiX1 : ∀ q ∈ wsX10, q ∈ wsX1_countMet := by decide +kernel
  obtain ⟨QQ, hQ⟩ : ∃ zQ, zQ = MQ below (vp_Si (fun r => r = nI (mtS F i ((sh : Nat) : Int) n))) args s 0 0 (fun _ => False) := ⟨_, rfl⟩
  rw [← hQ]
  obtain ⟨mc, h0x, h1x, h2x, h3x⟩ := cv_all hv
  obtain ⟨hO1, hO2, hO3, hO4, hO5⟩ := id hO
  refine lv_iconst (v := (nI 0)) hx hb dX1_countMet_0 (by decide) ?_
  refine lv_istore_n (lv' := [(3, .int (nI 0)), (0, .ref (a 0)), (1, .ref (a (3 + i))), (2, .int (nI sh))]) hx hb dX1_countMet_1 rfl hl (by decide) rfl (fun ls hl => ?_)
  refine lv_iconst (v := (nI 0)) hx hb dX1_countMet_2 (by decide) ?_
  refine lv_istore (lv' := [(4, .int (nI 0)), (3, .int (nI 0)), (0, .ref (a 0)), (1, .ref (a (3 + i))), (2, .int (nI sh))]) hx hb dX1_countMet_3 hl (by decide) rfl (fun ls hl => ?_)
  have loop5 : ∀ (tk : Nat) (j : Nat) (ls : Array Slot), (j ≤ n) → (n - j) < tk → lv_has ls 6 [(0, .ref (a 0)), (1, .ref (a (3 + i))), (2, .int (nI sh)), (3, .int (nI (mtS F i ((sh : Nat) : Int) j))), (4, .int (nI j))] → W p l e ({ frames := 3, cells := 0, slots := 0, locals := 66 } : Room) s m args below meth c s.heap [] 0 0 QQ (F0 m 5 ls []) := by
    intro tk
    induction tk with
    | zero => intro j ls hj hk hl; exact absurd hk (Nat.not_lt_zero _)
    | succ tk ih5 =>
      intro j ls hj hk hl
      have hml9 := mtS_le F i ((sh : Nat) : Int) j
      refine lv_iload hx hb dX1_countMet_5 (lv_at hl 4 rfl) ?_
      refine lv_aload_n hx hb dX1_countMet_7 rfl (lv_at hl 0 rfl) ?_
      refine va_get (D := E.1) (ci := 2) (v := .ref (a 1)) (C := RX1) (T := TX1) (N := 3) hx hb hts hiX1 hown hK hP 0 h0x rfl 0 (by decide) (hts (.fieldLink RX1 10 "PulseLoom" "row" "Ljava/util/ArrayList;") (List.mem_of_getElem? (i := 1) (by rfl))) (fun _ h9 => h9) rfl dX1_countMet_8 ?_
      refine csV_i (rest := [.int (nI j)]) (As := []) ⟨hx, hb, hml, hown, hts⟩ (c_Jx4a65c_size_8abf5 l E _ 1 _ _ _ n h1x) (cwV 0 hts gX1_countMet_Jx4a65c_size_8abf5 rfl rfl rfl (by decide +kernel) ⟨Nat.le_of_ble_eq_true rfl, Nat.le_of_ble_eq_true rfl⟩) (va_recv hK hP (ci := 0) (q0 := 1) rfl h1x) hP hK rfl hl.1 rfl (Nat.le_of_ble_eq_true rfl) dX1_countMet_11 (Nat.le_of_ble_eq_true rfl) (Nat.le_of_ble_eq_true rfl) (fun r11 hr11 => ?_)
      subst hr11
      refine nq_icmp_ge (tgt := 56) hx hb dX1_countMet_14 (by decide) (by omega) (by omega) (fun h14 => ?_) (fun h14 => ?_)
      · skip
        refine lv_iload_n hx hb dX1_countMet_56 rfl (lv_at hl 3 rfl) ?_
        rw [hQ]
        exact retS_i hx hb hr hlocks (congrArg nI (by rw [show j = n by omega])) dX1_countMet_57
      · skip
        refine lv_aload_n hx hb dX1_countMet_17 rfl (lv_at hl 0 rfl) ?_
        refine va_get (D := E.1) (ci := 2) (v := .ref (a 1)) (C := RX1) (T := TX1) (N := 3) hx hb hts hiX1 hown hK hP 0 h0x rfl 0 (by decide) (hts (.fieldLink RX1 10 "PulseLoom" "row" "Ljava/util/ArrayList;") (List.mem_of_getElem? (i := 1) (by rfl))) (fun _ h9 => h9) rfl dX1_countMet_18 ?_
        refine lv_iload hx hb dX1_countMet_21 (lv_at hl 4 rfl) ?_
        refine csV_r (rest := []) (As := [.int (nI j)]) ⟨hx, hb, hml, hown, hts⟩ (c_Jx4a65c_get_915e3 l E _ 1 _ _ _ n h1x 2 (arF a n) (h2x (by omega)) j (a (3 + j)) (by omega) (by omega) (arF_at (by omega))) (cwV 1 hts gX1_countMet_Jx4a65c_get_915e3 rfl rfl rfl (by decide +kernel) ⟨Nat.le_of_ble_eq_true rfl, Nat.le_of_ble_eq_true rfl⟩) (va_recv hK hP (ci := 0) (q0 := 1) rfl h1x) hP hK rfl hl.1 rfl (Nat.le_of_ble_eq_true rfl) dX1_countMet_23 (Nat.le_of_ble_eq_true rfl) (Nat.le_of_ble_eq_true rfl) (fun r23 hr23 => ?_)
        subst hr23
        refine va_castS hx hb hown (hts (.classLink RX1 38 "PulseLoom$Lamp") (List.mem_of_getElem? (i := 2) (by rfl))) (hK.1 1 _ rfl).2 (va_recv hK hP (ci := 1) (q0 := (3 + j)) rfl (h3x j (by omega))) dX1_countMet_26 ?_
        refine lv_astore (lv' := [(5, .ref (a (3 + j))), (0, .ref (a 0)), (1, .ref (a (3 + i))), (2, .int (nI sh)), (3, .int (nI (mtS F i ((sh : Nat) : Int) j))), (4, .int (nI j))]) hx hb dX1_countMet_29 hl (by decide) rfl (fun ls hl => ?_)
        refine lv_aload hx hb dX1_countMet_31 (lv_at hl 0 rfl) ?_
        refine lv_aload_n hx hb dX1_countMet_33 rfl (lv_at hl 2 rfl) ?_
        refine lv_acmp_eq (rx := (some (a (3 + j)))) (ry := (some (a (3 + i)))) (tgt := 50) hx hb dX1_countMet_34 (by decide) (fun h34 => ?_) (fun h34 => ?_)
        · skip
          refine nq_inc (lv' := [(4, .int (nI (j + 1))), (5, .ref (a (3 + j))), (0, .ref (a 0)), (1, .ref (a (3 + i))), (2, .int (nI sh)), (3, .int (nI (mtS F i ((sh : Nat) : Int) j)))]) hx hb dX1_countMet_50 (d := 1) rfl hl (k := 5) rfl (by decide) rfl (fun ls hl => ?_)
          refine lv_goto (tgt := 5) hx hb dX1_countMet_53 (by decide) ?_
          have hl : lv_has ls 6 [(4, .int (nI (j + 1))), (5, .ref (a (3 + j))), (0, .ref (a 0)), (1, .ref (a (3 + i))), (2, .int (nI sh)), (3, .int (nI (mtS F i ((sh : Nat) : Int) (j + 1))))] := lv_rep hl 5 rfl (congrArg Value.int (show (nI (mtS F i ((sh : Nat) : Int) j)) = (nI (mtS F i ((sh : Nat) : Int) (j + 1))) from congrArg nI (by rw [mtS_s, if_neg (show ¬ (j ≠ i ∧ meetS F i ((sh : Nat) : Int) j = true) from fun q => q.1 (hinj _ _ (by omega) hi (Option.some.inj h34)))]; rfl)))
          exact ih5 (j + 1) ls (by omega) (by omega) (lv_sub hl [2, 3, 4, 5, 0] rfl)
        · skip
          refine lv_aload_n hx hb dX1_countMet_37 rfl (lv_at hl 2 rfl) ?_
          refine lv_iload_n hx hb dX1_countMet_38 rfl (lv_at hl 3 rfl) ?_
          refine lv_aload hx hb dX1_countMet_39 (lv_at hl 0 rfl) ?_
          refine csS_i (rest := []) (As := [.ref (a (3 + i)), .int (nI sh), .ref (a (3 + j))]) ⟨hx, hb, hml, hown, hts⟩ (c_X1_wouldMeet l E _ (3 + i) (a (3 + i)) (3 + j) (a (3 + j)) F _ _ i j sh (h3x i (by omega)) (h3x j (by omega)) (okp hO (i := i) (by omega)) (okp hO (i := j) (by omega)) (by omega)) (va_cwS 3 hts gX1_countMet_X1_wouldMeet rfl rfl rfl (by decide +kernel) ⟨Nat.le_of_ble_eq_true rfl, Nat.le_of_ble_eq_true rfl⟩) hP hK rfl hl.1 rfl (Nat.le_of_ble_eq_true rfl) dX1_countMet_41 (Nat.le_of_ble_eq_true rfl) (Nat.le_of_ble_eq_true rfl) (fun r41 hr41 => ?_)
          subst hr41
          refine bq_if_eq (tgt := 50) hx hb dX1_countMet_44 (by decide) (fun h44 => ?_) (fun h44 => ?_)
          · skip
            refine nq_inc (lv' := [(4, .int (nI (j + 1))), (5, .ref (a (3 + j))), (0, .ref (a 0)), (1, .ref (a (3 + i))), (2, .int (nI sh)), (3, .int (nI (mtS F i ((sh : Nat) : Int) j)))]) hx hb dX1_countMet_50 (d := 1) rfl hl (k := 5) rfl (by decide) rfl (fun ls hl => ?_)
            refine lv_goto (tgt := 5) hx hb dX1_countMet_53 (by decide) ?_
            have hl : lv_has ls 6 [(4, .int (nI (j + 1))), (5, .ref (a (3 + j))), (0, .ref (a 0)), (1, .ref (a (3 + i))), (2, .int (nI sh)), (3, .int (nI (mtS F i ((sh : Nat) : Int) (j + 1))))] := lv_rep hl 5 rfl (congrArg Value.int (show (nI (mtS F i ((sh : Nat) : Int) j)) = (nI (mtS F i ((sh : Nat) : Int) (j + 1))) from congrArg nI (by rw [mtS_s, if_neg (show ¬ (j ≠ i ∧ meetS F i ((sh : Nat) : Int) j = true) from fun q => by rw [h44] at q; exact absurd q.2 (by decide))]; rfl)))
            exact ih5 (j + 1) ls (by omega) (by omega) (lv_sub hl [2, 3, 4, 5, 0] rfl)
          · skip
            refine nq_inc (lv' := [(3, .int (nI (mtS F i ((sh : Nat) : Int) j + 1))), (5, .ref (a (3 + j))), (0, .ref (a 0)), (1, .ref (a (3 + i))), (2, .int (nI sh)), (4, .int (nI j))]) hx hb dX1_countMet_47 (d := 1) rfl hl (k := 4) rfl (by decide) rfl (fun ls hl => ?_)
            refine nq_inc (lv' := [(4, .int (nI (j + 1))), (3, .int (nI (mtS F i ((sh : Nat) : Int) j + 1))), (5, .ref (a (3 + j))), (0, .ref (a 0)), (1, .ref (a (3 + i))), (2, .int (nI sh))]) hx hb dX1_countMet_50 (d := 1) rfl hl (k := 5) rfl (by decide) rfl (fun ls hl => ?_)
            refine lv_goto (tgt := 5) hx hb dX1_countMet_53 (by decide) ?_
            have hl : lv_has ls 6 [(4, .int (nI (j + 1))), (3, .int (nI (mtS F i ((sh : Nat) : Int) (j + 1)))), (5, .ref (a (3 + j))), (0, .ref (a 0)), (1, .ref (a (3 + i))), (2, .int (nI sh))] := lv_rep hl 1 rfl (congrArg Value.int (show (nI (mtS F i ((sh : Nat) : Int) j + 1)) = (nI (mtS F i ((sh : Nat) : Int) (j + 1))) from congrArg nI (by rw [mtS_s, if_pos (show j ≠ i ∧ meetS F i ((sh : Nat) : Int) j = true from ⟨fun q => h34 (by rw [q]), h44⟩)])))
            exact ih5 (j + 1) ls (by omega) (by omega) (lv_sub hl [3, 4, 5, 1, 0] rfl)
  have hl : lv_has ls 6 [(4, .int (nI 0)), (3, .int (nI (mtS F i ((sh : Nat) : Int) 0))), (0, .ref (a 0)), (1, .ref (a (3 + i))), (2, .int (nI sh))] := lv_rep hl 1 rfl (congrArg Value.int (show (nI 0) = (nI (mtS F i ((sh : Nat) : Int) 0)) from rfl))
  exact loop5 ((n - 0) + 1) 0 ls (by omega) (Nat.lt_succ_self _) (lv_sub hl [2, 3, 4, 1, 0] rfl)

/-- the power of all that are due in the beat b, of the first k -/
def dpS (F : LR) (b : Nat) : Nat → Nat | 0 => 0 | k + 1 => dpS F b k + (if due F k b = true then F k 1 else 0)
theorem dpS_s (F : LR) (b k : Nat) : dpS F b (k + 1) = dpS F b k + (if due F k b = true then F k 1 else 0) := rfl
theorem dpS_le {n now lim : Nat} {F : LR} (h : OkS n now lim F) (b : Nat) : ∀ k, k ≤ n → dpS F b k ≤ 9 * k
  | 0, _ => Nat.le_refl _
  | k + 1, hk => by
    have h1 := dpS_le h b k (by omega)
    have h2 := h.2.2.2.1 k (by omega)
    unfold dpS
    split <;> omega

set_option maxHeartbeats 4000000 in
set_option maxRecDepth 100000 in
/-- duePower(b) -/
theorem c_X1_duePower (l : Launch) (E : GE) (w : va_W) (a : Nat → Nat) (n now lim : Nat) (F : LR) (lit : Nat → Bool) (fo : Nat → Nat) (hv : CV E a n now lim (LF F lit fo) w) (hO : OkS n now lim F) (b : Nat) (hb0 : b ≤ 1000000000) : Met l yX1_duePower wsX1_duePower ({ frames := 3, cells := 0, slots := 0, locals := 64 } : Room) (va_Pc [.ref (a 0), .int (nI b)] (pcS E (w))) (vp_Si (fun r => r = nI (dpS F b n))) 0 0 (fun _ => False) := by
  refine metS (by decide) rfl (Nat.le_of_ble_eq_true rfl) ?_
  intro p e s m args below meth c ls hx hb hr hml hts hown hlocks hP hK hl
  have hiX1 : ∀ q ∈ wsX10, q ∈ wsX1_duePower := by decide +kernel
  have hiX0 : ∀ q ∈ wsX00, q ∈ wsX1_duePower := by decide +kernel
  obtain ⟨QQ, hQ⟩ : ∃ zQ, zQ = MQ below (vp_Si (fun r => r = nI (dpS F b n))) args s 0 0 (fun _ => False) := ⟨_, rfl⟩
  rw [← hQ]
  obtain ⟨mc, h0x, h1x, h2x, h3x⟩ := cv_all hv
  obtain ⟨hO1, hO2, hO3, hO4, hO5⟩ := id hO
  refine lv_iconst (v := (nI 0)) hx hb dX1_duePower_0 (by decide) ?_
  refine lv_istore_n (lv' := [(2, .int (nI 0)), (0, .ref (a 0)), (1, .int (nI b))]) hx hb dX1_duePower_1 rfl hl (by decide) rfl (fun ls hl => ?_)
  refine lv_iconst (v := (nI 0)) hx hb dX1_duePower_2 (by decide) ?_
  refine lv_istore_n (lv' := [(3, .int (nI 0)), (2, .int (nI 0)), (0, .ref (a 0)), (1, .int (nI b))]) hx hb dX1_duePower_3 rfl hl (by decide) rfl (fun ls hl => ?_)
  have loop4 : ∀ (tk : Nat) (i : Nat) (ls : Array Slot), (i ≤ n) → (n - i) < tk → lv_has ls 5 [(0, .ref (a 0)), (1, .int (nI b)), (2, .int (nI (dpS F b i))), (3, .int (nI i))] → W p l e ({ frames := 3, cells := 0, slots := 0, locals := 64 } : Room) s m args below meth c s.heap [] 0 0 QQ (F0 m 4 ls []) := by
    intro tk
    induction tk with
    | zero => intro i ls hi hk hl; exact absurd hk (Nat.not_lt_zero _)
    | succ tk ih4 =>
      intro i ls hi hk hl
      have hdp := dpS_le hO b i hi
      refine lv_iload_n hx hb dX1_duePower_4 rfl (lv_at hl 3 rfl) ?_
      refine lv_aload_n hx hb dX1_duePower_5 rfl (lv_at hl 0 rfl) ?_
      refine va_get (D := E.1) (ci := 2) (v := .ref (a 1)) (C := RX1) (T := TX1) (N := 3) hx hb hts hiX1 hown hK hP 0 h0x rfl 0 (by decide) (hts (.fieldLink RX1 10 "PulseLoom" "row" "Ljava/util/ArrayList;") (List.mem_of_getElem? (i := 1) (by rfl))) (fun _ h9 => h9) rfl dX1_duePower_6 ?_
      refine csV_i (rest := [.int (nI i)]) (As := []) ⟨hx, hb, hml, hown, hts⟩ (c_Jx4a65c_size_8abf5 l E _ 1 _ _ _ n h1x) (cwV 0 hts gX1_duePower_Jx4a65c_size_8abf5 rfl rfl rfl (by decide +kernel) ⟨Nat.le_of_ble_eq_true rfl, Nat.le_of_ble_eq_true rfl⟩) (va_recv hK hP (ci := 0) (q0 := 1) rfl h1x) hP hK rfl hl.1 rfl (Nat.le_of_ble_eq_true rfl) dX1_duePower_9 (Nat.le_of_ble_eq_true rfl) (Nat.le_of_ble_eq_true rfl) (fun r9 hr9 => ?_)
      subst hr9
      refine nq_icmp_ge (tgt := 51) hx hb dX1_duePower_12 (by decide) (by omega) (by omega) (fun h12 => ?_) (fun h12 => ?_)
      · skip
        refine lv_iload_n hx hb dX1_duePower_51 rfl (lv_at hl 2 rfl) ?_
        rw [hQ]
        exact retS_i hx hb hr hlocks (congrArg nI (by rw [show i = n by omega])) dX1_duePower_52
      · skip
        have hi9 := hO4 i h12
        refine lv_aload_n hx hb dX1_duePower_15 rfl (lv_at hl 0 rfl) ?_
        refine va_get (D := E.1) (ci := 2) (v := .ref (a 1)) (C := RX1) (T := TX1) (N := 3) hx hb hts hiX1 hown hK hP 0 h0x rfl 0 (by decide) (hts (.fieldLink RX1 10 "PulseLoom" "row" "Ljava/util/ArrayList;") (List.mem_of_getElem? (i := 1) (by rfl))) (fun _ h9 => h9) rfl dX1_duePower_16 ?_
        refine lv_iload_n hx hb dX1_duePower_19 rfl (lv_at hl 3 rfl) ?_
        refine csV_r (rest := []) (As := [.int (nI i)]) ⟨hx, hb, hml, hown, hts⟩ (c_Jx4a65c_get_915e3 l E _ 1 _ _ _ n h1x 2 (arF a n) (h2x (by omega)) i (a (3 + i)) (by omega) (by omega) (arF_at (by omega))) (cwV 1 hts gX1_duePower_Jx4a65c_get_915e3 rfl rfl rfl (by decide +kernel) ⟨Nat.le_of_ble_eq_true rfl, Nat.le_of_ble_eq_true rfl⟩) (va_recv hK hP (ci := 0) (q0 := 1) rfl h1x) hP hK rfl hl.1 rfl (Nat.le_of_ble_eq_true rfl) dX1_duePower_20 (Nat.le_of_ble_eq_true rfl) (Nat.le_of_ble_eq_true rfl) (fun r20 hr20 => ?_)
        subst hr20
        refine va_castS hx hb hown (hts (.classLink RX1 38 "PulseLoom$Lamp") (List.mem_of_getElem? (i := 2) (by rfl))) (hK.1 1 _ rfl).2 (va_recv hK hP (ci := 1) (q0 := (3 + i)) rfl (h3x i (by omega))) dX1_duePower_23 ?_
        refine lv_astore (lv' := [(4, .ref (a (3 + i))), (0, .ref (a 0)), (1, .int (nI b)), (2, .int (nI (dpS F b i))), (3, .int (nI i))]) hx hb dX1_duePower_26 hl (by decide) rfl (fun ls hl => ?_)
        refine lv_aload hx hb dX1_duePower_28 (lv_at hl 0 rfl) ?_
        refine lv_iload_n hx hb dX1_duePower_30 rfl (lv_at hl 2 rfl) ?_
        refine csV_i (rest := []) (As := [.int (nI b)]) ⟨hx, hb, hml, hown, hts⟩ (c_X0_dueAt l E _ (3 + i) (a (3 + i)) F _ _ i b (h3x i (by omega)) ((okp hO (i := i) (by omega))) (by omega) ((okl hO (i := i) (by omega)))) (cwV 1 hts gX1_duePower_X0_dueAt rfl rfl rfl (by decide +kernel) ⟨Nat.le_of_ble_eq_true rfl, Nat.le_of_ble_eq_true rfl⟩) (va_recv hK hP (ci := 1) (q0 := (3 + i)) rfl (h3x i (by omega))) hP hK rfl hl.1 rfl (Nat.le_of_ble_eq_true rfl) dX1_duePower_31 (Nat.le_of_ble_eq_true rfl) (Nat.le_of_ble_eq_true rfl) (fun r31 hr31 => ?_)
        subst hr31
        refine bq_if_eq (tgt := 45) hx hb dX1_duePower_34 (by decide) (fun h34 => ?_) (fun h34 => ?_)
        · skip
          refine nq_inc (lv' := [(3, .int (nI (i + 1))), (4, .ref (a (3 + i))), (0, .ref (a 0)), (1, .int (nI b)), (2, .int (nI (dpS F b i)))]) hx hb dX1_duePower_45 (d := 1) rfl hl (k := 4) rfl (by decide) rfl (fun ls hl => ?_)
          refine lv_goto (tgt := 4) hx hb dX1_duePower_48 (by decide) ?_
          have hl : lv_has ls 5 [(3, .int (nI (i + 1))), (4, .ref (a (3 + i))), (0, .ref (a 0)), (1, .int (nI b)), (2, .int (nI (dpS F b (i + 1))))] := lv_rep hl 4 rfl (congrArg Value.int (show (nI (dpS F b i)) = (nI (dpS F b (i + 1))) from congrArg nI (by rw [dpS_s, h34]; rfl)))
          exact ih4 (i + 1) ls (by omega) (by omega) (lv_sub hl [2, 3, 4, 0] rfl)
        · skip
          refine lv_iload_n hx hb dX1_duePower_37 rfl (lv_at hl 3 rfl) ?_
          refine lv_aload hx hb dX1_duePower_38 (lv_at hl 0 rfl) ?_
          refine va_get (D := E.1) (ci := 1) (v := .int (nI (F i 1))) (C := RX0) (T := TX0) (N := 9) hx hb hts hiX0 hown hK hP (3 + i) (h3x i (by omega)) rfl 1 (by decide) (hts (.fieldLink RX1 184 "PulseLoom$Lamp" "power" "I") (List.mem_of_getElem? (i := 3) (by rfl))) (fun _ h9 => h9) rfl dX1_duePower_40 ?_
          refine nq_add hx hb dX1_duePower_43 ?_
          refine lv_istore_n (lv' := [(2, .int (nI ((dpS F b i) + (F i 1)))), (4, .ref (a (3 + i))), (0, .ref (a 0)), (1, .int (nI b)), (3, .int (nI i))]) hx hb dX1_duePower_44 rfl hl (by decide) rfl (fun ls hl => ?_)
          refine nq_inc (lv' := [(3, .int (nI (i + 1))), (2, .int (nI ((dpS F b i) + (F i 1)))), (4, .ref (a (3 + i))), (0, .ref (a 0)), (1, .int (nI b))]) hx hb dX1_duePower_45 (d := 1) rfl hl (k := 4) rfl (by decide) rfl (fun ls hl => ?_)
          refine lv_goto (tgt := 4) hx hb dX1_duePower_48 (by decide) ?_
          have hl : lv_has ls 5 [(3, .int (nI (i + 1))), (2, .int (nI (dpS F b (i + 1)))), (4, .ref (a (3 + i))), (0, .ref (a 0)), (1, .int (nI b))] := lv_rep hl 1 rfl (congrArg Value.int (show (nI ((dpS F b i) + (F i 1))) = (nI (dpS F b (i + 1))) from congrArg nI (by rw [dpS_s, h34]; rfl)))
          exact ih4 (i + 1) ls (by omega) (by omega) (lv_sub hl [3, 4, 1, 0] rfl)
  have hl : lv_has ls 5 [(3, .int (nI 0)), (2, .int (nI (dpS F b 0))), (0, .ref (a 0)), (1, .int (nI b))] := lv_rep hl 1 rfl (congrArg Value.int (show (nI 0) = (nI (dpS F b 0)) from rfl))
  exact loop4 ((n - 0) + 1) 0 ls (by omega) (Nat.lt_succ_self _) (lv_sub hl [2, 3, 1, 0] rfl)

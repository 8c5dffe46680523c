/-! refusals that don't refuse; how fair it is to colours -/
theorem ref_nI {k lo hi : Nat} (h : lo ≤ k ∧ k ≤ hi) (hh : hi < 2147483648) : ¬ nI k < nI lo ∧ nI k ≤ nI hi := ⟨nI_nlt h.1 (by omega), nI_le h.2 (by omega)⟩
theorem imax {a b : Int} (ha : -2147483648 ≤ a ∧ a < 2147483648) (hb : -2147483648 ≤ b ∧ b < 2147483648) : (if iI a < iI b then iI b else iI a) = iI (max a b) := by
  by_cases h : a < b
  · rw [if_pos ((iI_lt ha hb).mpr h), Int.max_eq_right (by omega)]
  · rw [if_neg (fun q => h ((iI_lt ha hb).mp q)), Int.max_eq_left (by omega)]
theorem imin {a b : Int} (ha : -2147483648 ≤ a ∧ a < 2147483648) (hb : -2147483648 ≤ b ∧ b < 2147483648) : (if iI b < iI a then iI b else iI a) = iI (min a b) := by
  by_cases h : b < a
  · rw [if_pos ((iI_lt hb ha).mpr h), Int.min_eq_right (by omega)]
  · rw [if_neg (fun q => h ((iI_lt hb ha).mp q)), Int.min_eq_left (by omega)]
theorem nmax {a b : Nat} (ha : a < 2147483648) (hb : b < 2147483648) : (if nI a < nI b then nI b else nI a) = nI (max a b) := by
  by_cases h : a < b
  · rw [if_pos ((nI_ltI ha hb).mpr h), Nat.max_eq_right (by omega)]
  · rw [if_neg (fun q => h ((nI_ltI ha hb).mp q)), Nat.max_eq_left (by omega)]
theorem nmin {a b : Nat} (ha : a < 2147483648) (hb : b < 2147483648) : (if nI b < nI a then nI b else nI a) = nI (min a b) := by
  by_cases h : b < a
  · rw [if_pos ((nI_ltI hb ha).mpr h), Nat.min_eq_right (by omega)]
  · rw [if_neg (fun q => h ((nI_ltI hb ha).mp q)), Nat.min_eq_left (by omega)]
/-- what lamps of a colour shone, added, of the first k -/
def seenS (F : LR) (c : Nat) : Nat → Nat | 0 => 0 | k + 1 => seenS F c k + (if F k 2 = c then F k 5 else 0)
set_option maxRecDepth 100000 in
theorem seenS_le {n now lim : Nat} {F : LR} (h : OkS n now lim F) (c : Nat) : ∀ k, k ≤ n → seenS F c k ≤ k * 100000000
  | 0, _ => Nat.zero_le _
  | k + 1, hk => by
    have h1 := seenS_le h c k (by omega)
    have h2 := h.2.2.2.1 k (by omega)
    have h3 := h.2.1
    have h4 : seenS F c (k + 1) = seenS F c k + (if F k 2 = c then F k 5 else 0) := rfl
    rw [h4]
    by_cases hc : F k 2 = c
    · rw [if_pos hc]; omega
    · rw [if_neg hc, Nat.add_zero, Nat.succ_mul]; exact Nat.le_trans h1 (Nat.le_add_right _ _)
/-- the class's way: -1 where no lamp has the colour -/
def foOf (F : LR) (fo : Nat → Nat) (c : Nat) : Nat → Int | 0 => -1 | k + 1 => if F k 2 = c then max (foOf F fo c k) 0 + (fo k : Int) else foOf F fo c k
theorem foOf_s (F : LR) (fo : Nat → Nat) (c k : Nat) : foOf F fo c (k + 1) = if F k 2 = c then max (foOf F fo c k) 0 + (fo k : Int) else foOf F fo c k := rfl
set_option maxRecDepth 100000 in
theorem foOf_bd {F : LR} {fo : Nat → Nat} {n : Nat} (h : ∀ j, j < n → fo j ≤ 100000000) (c : Nat) : ∀ k, k ≤ n → -1 ≤ foOf F fo c k ∧ foOf F fo c k ≤ k * 100000000
  | 0, _ => by simp [foOf]
  | k + 1, hk => by
    have h1 := foOf_bd (F := F) h c k (by omega)
    have h2 := h k (by omega)
    rw [foOf_s]
    by_cases hc : F k 2 = c
    · rw [if_pos hc]; omega
    · rw [if_neg hc]; omega
def mstS (F : LR) (fo : Nat → Nat) (n : Nat) : Nat → Int | 0 => -1 | c + 1 => if 0 ≤ foOf F fo c n then max (mstS F fo n c) (foOf F fo c n) else mstS F fo n c
def lstS (F : LR) (fo : Nat → Nat) (n : Nat) : Nat → Int | 0 => -1 | c + 1 => if 0 ≤ foOf F fo c n then (if lstS F fo n c < 0 then foOf F fo c n else min (lstS F fo n c) (foOf F fo c n)) else lstS F fo n c
theorem mstS_s (F : LR) (fo : Nat → Nat) (n c : Nat) : mstS F fo n (c + 1) = if 0 ≤ foOf F fo c n then max (mstS F fo n c) (foOf F fo c n) else mstS F fo n c := rfl
theorem lstS_s (F : LR) (fo : Nat → Nat) (n c : Nat) : lstS F fo n (c + 1) = if 0 ≤ foOf F fo c n then (if lstS F fo n c < 0 then foOf F fo c n else min (lstS F fo n c) (foOf F fo c n)) else lstS F fo n c := rfl
set_option maxRecDepth 100000 in
theorem mst_bd {F : LR} {fo : Nat → Nat} {n : Nat} (hn : n ≤ 8) (h : ∀ j, j < n → fo j ≤ 100000000) : ∀ c, -1 ≤ mstS F fo n c ∧ mstS F fo n c ≤ 800000000 ∧ -1 ≤ lstS F fo n c ∧ lstS F fo n c ≤ 800000000
  | 0 => by simp [mstS, lstS]
  | c + 1 => by
    have h1 := mst_bd (F := F) hn h c
    have h2 := foOf_bd (F := F) h c n (Nat.le_refl _)
    rw [mstS_s, lstS_s]
    by_cases hc : 0 ≤ foOf F fo c n
    · rw [if_pos hc, if_pos hc]
      by_cases hl : lstS F fo n c < 0
      · rw [if_pos hl]; omega
      · rw [if_neg hl]; omega
    · rw [if_neg hc, if_neg hc]; omega

set_option maxHeartbeats 4000000 in
set_option maxRecDepth 100000 in
/-- refuseOutside(x, lo, hi), where x is in -/
theorem c_X1_refuseOutside (l : Launch) (E : GE) (w : va_W) (x lo hi : Int32) (hx1 : ¬ x < lo) (hx2 : x ≤ hi) : Met l yX1_refuseOutside wsX1_refuseOutside ({ frames := 0, cells := 0, slots := 0, locals := 0 } : Room) (va_Pc [.int x, .int lo, .int hi] (pcS E (w))) (va_Sv (fun _ => True)) 0 0 (fun _ => False) := by
  refine metS (by decide) rfl (Nat.le_of_ble_eq_true rfl) ?_
  intro p e s m args below meth c ls hx hb hr hml hts hown hlocks hP hK hl
  refine lv_iload_n hx hb dX1_refuseOutside_0 rfl (lv_at hl 0 rfl) ?_
  refine lv_iload_n hx hb dX1_refuseOutside_1 rfl (lv_at hl 1 rfl) ?_
  refine lv_icmp_lt (tgt := 10) hx hb dX1_refuseOutside_2 (by decide) (fun h2 => ?_) (fun h2 => ?_)
  · skip
    exact absurd h2 hx1
  · skip
    refine lv_iload_n hx hb dX1_refuseOutside_5 rfl (lv_at hl 0 rfl) ?_
    refine lv_iload_n hx hb dX1_refuseOutside_6 rfl (lv_at hl 2 rfl) ?_
    refine lv_icmp_le (tgt := 20) hx hb dX1_refuseOutside_7 (by decide) (fun h7 => ?_) (fun h7 => ?_)
    · skip
      exact retS_v hx hb hr hlocks (trivial) dX1_refuseOutside_20
    · skip
      exact absurd hx2 h7

set_option maxHeartbeats 4000000 in
set_option maxRecDepth 100000 in
/-- foreseenOf(c) -/
theorem c_X1_foreseenOf (l : Launch) (E : GE) (w : va_W) (a : Nat → Nat) (n now lim : Nat) (F : LR) (lit : Nat → Bool) (fo : Nat → Nat) (hv : CV E a n now lim (LF F lit fo) w) (hO : OkS n now lim F) (hfo : ∀ j, j < n → fo j ≤ 100000000) (k : Nat) (hk : k ≤ 6) : Met l yX1_foreseenOf wsX1_foreseenOf ({ frames := 3, cells := 0, slots := 0, locals := 64 } : Room) (va_Pc [.ref (a 0), .int (nI k)] (pcS E (w))) (vp_Si (fun r => r = iI (foOf F fo k n))) 0 0 (fun _ => False) := by
  refine metS (by decide) rfl (Nat.le_of_ble_eq_true rfl) ?_
  intro p e s m args below meth c ls hx hb hr hml hts hown hlocks hP hK hl
  have hiX1 : ∀ q ∈ wsX10, q ∈ wsX1_foreseenOf := by decide +kernel
  have hiX0 : ∀ q ∈ wsX00, q ∈ wsX1_foreseenOf := by decide +kernel
  obtain ⟨QQ, hQ⟩ : ∃ zQ, zQ = MQ below (vp_Si (fun r => r = iI (foOf F fo k n))) args s 0 0 (fun _ => False) := ⟨_, rfl⟩
  rw [← hQ]
  obtain ⟨mc, h0x, h1x, h2x, h3x⟩ := cv_all hv
  obtain ⟨hO1, hO2, hO3, hO4, hO5⟩ := id hO
  refine lv_iconst (v := (iI (-1))) hx hb dX1_foreseenOf_0 (by decide) ?_
  refine lv_istore_n (lv' := [(2, .int (iI (-1))), (0, .ref (a 0)), (1, .int (nI k))]) hx hb dX1_foreseenOf_1 rfl hl (by decide) rfl (fun ls hl => ?_)
  refine lv_iconst (v := (nI 0)) hx hb dX1_foreseenOf_2 (by decide) ?_
  refine lv_istore_n (lv' := [(3, .int (nI 0)), (2, .int (iI (-1))), (0, .ref (a 0)), (1, .int (nI k))]) hx hb dX1_foreseenOf_3 rfl hl (by decide) rfl (fun ls hl => ?_)
  have loop4 : ∀ (tk : Nat) (i : Nat) (ls : Array Slot), (i ≤ n) → (n - i) < tk → lv_has ls 5 [(0, .ref (a 0)), (1, .int (nI k)), (2, .int (iI (foOf F fo k i))), (3, .int (nI i))] → W p l e ({ frames := 3, cells := 0, slots := 0, locals := 64 } : Room) s m args below meth c s.heap [] 0 0 QQ (F0 m 4 ls []) := by
    intro tk
    induction tk with
    | zero => intro i ls hi hk hl; exact absurd hk (Nat.not_lt_zero _)
    | succ tk ih4 =>
      intro i ls hi hk hl
      have hbd := foOf_bd (F := F) hfo k i hi
      refine lv_iload_n hx hb dX1_foreseenOf_4 rfl (lv_at hl 3 rfl) ?_
      refine lv_aload_n hx hb dX1_foreseenOf_5 rfl (lv_at hl 0 rfl) ?_
      refine va_get (D := E.1) (ci := 2) (v := .ref (a 1)) (C := RX1) (T := TX1) (N := 3) hx hb hts hiX1 hown hK hP 0 h0x rfl 0 (by decide) (hts (.fieldLink RX1 10 "PulseLoom" "row" "Ljava/util/ArrayList;") (List.mem_of_getElem? (i := 1) (by rfl))) (fun _ h9 => h9) rfl dX1_foreseenOf_6 ?_
      refine csV_i (rest := [.int (nI i)]) (As := []) ⟨hx, hb, hml, hown, hts⟩ (c_Jx4a65c_size_8abf5 l E _ 1 _ _ _ n h1x) (cwV 0 hts gX1_foreseenOf_Jx4a65c_size_8abf5 rfl rfl rfl (by decide +kernel) ⟨Nat.le_of_ble_eq_true rfl, Nat.le_of_ble_eq_true rfl⟩) (va_recv hK hP (ci := 0) (q0 := 1) rfl h1x) hP hK rfl hl.1 rfl (Nat.le_of_ble_eq_true rfl) dX1_foreseenOf_9 (Nat.le_of_ble_eq_true rfl) (Nat.le_of_ble_eq_true rfl) (fun r9 hr9 => ?_)
      subst hr9
      refine nq_icmp_ge (tgt := 55) hx hb dX1_foreseenOf_12 (by decide) (by omega) (by omega) (fun h12 => ?_) (fun h12 => ?_)
      · skip
        refine lv_iload_n hx hb dX1_foreseenOf_55 rfl (lv_at hl 2 rfl) ?_
        rw [hQ]
        exact retS_i hx hb hr hlocks (congrArg iI (by rw [show i = n by omega])) dX1_foreseenOf_56
      · skip
        have hi9 := hO4 i h12
        have hf9 := hfo i h12
        refine lv_aload_n hx hb dX1_foreseenOf_15 rfl (lv_at hl 0 rfl) ?_
        refine va_get (D := E.1) (ci := 2) (v := .ref (a 1)) (C := RX1) (T := TX1) (N := 3) hx hb hts hiX1 hown hK hP 0 h0x rfl 0 (by decide) (hts (.fieldLink RX1 10 "PulseLoom" "row" "Ljava/util/ArrayList;") (List.mem_of_getElem? (i := 1) (by rfl))) (fun _ h9 => h9) rfl dX1_foreseenOf_16 ?_
        refine lv_iload_n hx hb dX1_foreseenOf_19 rfl (lv_at hl 3 rfl) ?_
        refine csV_r (rest := []) (As := [.int (nI i)]) ⟨hx, hb, hml, hown, hts⟩ (c_Jx4a65c_get_915e3 l E _ 1 _ _ _ n h1x 2 (arF a n) (h2x (by omega)) i (a (3 + i)) (by omega) (by omega) (arF_at (by omega))) (cwV 1 hts gX1_foreseenOf_Jx4a65c_get_915e3 rfl rfl rfl (by decide +kernel) ⟨Nat.le_of_ble_eq_true rfl, Nat.le_of_ble_eq_true rfl⟩) (va_recv hK hP (ci := 0) (q0 := 1) rfl h1x) hP hK rfl hl.1 rfl (Nat.le_of_ble_eq_true rfl) dX1_foreseenOf_20 (Nat.le_of_ble_eq_true rfl) (Nat.le_of_ble_eq_true rfl) (fun r20 hr20 => ?_)
        subst hr20
        refine va_castS hx hb hown (hts (.classLink RX1 38 "PulseLoom$Lamp") (List.mem_of_getElem? (i := 2) (by rfl))) (hK.1 1 _ rfl).2 (va_recv hK hP (ci := 1) (q0 := (3 + i)) rfl (h3x i (by omega))) dX1_foreseenOf_23 ?_
        refine lv_astore (lv' := [(4, .ref (a (3 + i))), (0, .ref (a 0)), (1, .int (nI k)), (2, .int (iI (foOf F fo k i))), (3, .int (nI i))]) hx hb dX1_foreseenOf_26 hl (by decide) rfl (fun ls hl => ?_)
        refine lv_aload hx hb dX1_foreseenOf_28 (lv_at hl 0 rfl) ?_
        refine va_get (D := E.1) (ci := 1) (v := .int (nI (F i 2))) (C := RX0) (T := TX0) (N := 9) hx hb hts hiX0 hown hK hP (3 + i) (h3x i (by omega)) rfl 2 (by decide) (hts (.fieldLink RX1 65 "PulseLoom$Lamp" "colour" "I") (List.mem_of_getElem? (i := 3) (by rfl))) (fun _ h9 => h9) rfl dX1_foreseenOf_30 ?_
        refine lv_iload_n hx hb dX1_foreseenOf_33 rfl (lv_at hl 2 rfl) ?_
        refine nq_icmp_ne (tgt := 49) hx hb dX1_foreseenOf_34 (by decide) (by omega) (by omega) (fun h34 => ?_) (fun h34 => ?_)
        · skip
          refine nq_inc (lv' := [(3, .int (nI (i + 1))), (4, .ref (a (3 + i))), (0, .ref (a 0)), (1, .int (nI k)), (2, .int (iI (foOf F fo k i)))]) hx hb dX1_foreseenOf_49 (d := 1) rfl hl (k := 4) rfl (by decide) rfl (fun ls hl => ?_)
          refine lv_goto (tgt := 4) hx hb dX1_foreseenOf_52 (by decide) ?_
          have hl : lv_has ls 5 [(3, .int (nI (i + 1))), (4, .ref (a (3 + i))), (0, .ref (a 0)), (1, .int (nI k)), (2, .int (iI (foOf F fo k (i + 1))))] := lv_rep hl 4 rfl (congrArg Value.int (show (iI (foOf F fo k i)) = (iI (foOf F fo k (i + 1))) from congrArg iI (by rw [foOf_s]; first | rw [if_pos h34] | rw [if_neg h34])))
          exact ih4 (i + 1) ls (by omega) (by omega) (lv_sub hl [2, 3, 4, 0] rfl)
        · skip
          refine lv_iload_n hx hb dX1_foreseenOf_37 rfl (lv_at hl 3 rfl) ?_
          refine lv_iconst (v := (nI 0)) hx hb dX1_foreseenOf_38 (by decide) ?_
          refine va_mmax hx hb (hml.trans hl.1.symm) hown (hts (.methodLink RX1 126 Lib.Math.max.name) (List.mem_of_getElem? (i := 4) (by rfl))) (hts (.static Lib.Math.max.name) (List.mem_of_getElem? (i := 5) (by rfl))) (hts (.initialized "java/lang/Math") (List.mem_of_getElem? (i := 6) (by rfl))) (hts (.code Lib.Math.max.name Lib.Math.max.code 2 (some .int)) (List.mem_of_getElem? (i := 7) (by rfl))) (Nat.le_of_ble_eq_true rfl) (Nat.le_of_ble_eq_true rfl) (Nat.le_of_ble_eq_true rfl) (Nat.le_of_ble_eq_true rfl) dX1_foreseenOf_39 ?_
          refine nq_top (show (if (iI (foOf F fo k i)) < (nI 0) then (nI 0) else (iI (foOf F fo k i))) = (iI (max (foOf F fo k i) 0)) from imax (b := 0) (by omega) (by omega)) ?_
          refine lv_aload hx hb dX1_foreseenOf_42 (lv_at hl 0 rfl) ?_
          refine va_get (D := E.1) (ci := 1) (v := .int (nI (fo i))) (C := RX0) (T := TX0) (N := 9) hx hb hts hiX0 hown hK hP (3 + i) (h3x i (by omega)) rfl 8 (by decide) (hts (.fieldLink RX1 186 "PulseLoom$Lamp" "foreseen" "I") (List.mem_of_getElem? (i := 8) (by rfl))) (fun _ h9 => h9) rfl dX1_foreseenOf_44 ?_
          refine nq_top (show (nI (fo i)) = iI (fo i : Int) from (iI_n _).symm) ?_
          refine lv_iadd hx hb dX1_foreseenOf_47 ?_
          refine nq_top (iI_add _ _) ?_
          refine lv_istore_n (lv' := [(2, .int (iI ((max (foOf F fo k i) 0) + (fo i : Int)))), (4, .ref (a (3 + i))), (0, .ref (a 0)), (1, .int (nI k)), (3, .int (nI i))]) hx hb dX1_foreseenOf_48 rfl hl (by decide) rfl (fun ls hl => ?_)
          refine nq_inc (lv' := [(3, .int (nI (i + 1))), (2, .int (iI ((max (foOf F fo k i) 0) + (fo i : Int)))), (4, .ref (a (3 + i))), (0, .ref (a 0)), (1, .int (nI k))]) hx hb dX1_foreseenOf_49 (d := 1) rfl hl (k := 4) rfl (by decide) rfl (fun ls hl => ?_)
          refine lv_goto (tgt := 4) hx hb dX1_foreseenOf_52 (by decide) ?_
          have hl : lv_has ls 5 [(3, .int (nI (i + 1))), (2, .int (iI (foOf F fo k (i + 1)))), (4, .ref (a (3 + i))), (0, .ref (a 0)), (1, .int (nI k))] := lv_rep hl 1 rfl (congrArg Value.int (show (iI ((max (foOf F fo k i) 0) + (fo i : Int))) = (iI (foOf F fo k (i + 1))) from congrArg iI (by rw [foOf_s]; first | rw [if_pos h34] | rw [if_neg h34])))
          exact ih4 (i + 1) ls (by omega) (by omega) (lv_sub hl [3, 4, 1, 0] rfl)
  have hl : lv_has ls 5 [(3, .int (nI 0)), (2, .int (iI (foOf F fo k 0))), (0, .ref (a 0)), (1, .int (nI k))] := lv_rep hl 1 rfl (congrArg Value.int (show (iI (-1)) = (iI (foOf F fo k 0)) from rfl))
  exact loop4 ((n - 0) + 1) 0 ls (by omega) (Nat.lt_succ_self _) (lv_sub hl [2, 3, 1, 0] rfl)

set_option maxHeartbeats 4000000 in
set_option maxRecDepth 100000 in
/-- foreseenSpread() -/
theorem c_X1_foreseenSpread (l : Launch) (E : GE) (w : va_W) (a : Nat → Nat) (n now lim : Nat) (F : LR) (lit : Nat → Bool) (fo : Nat → Nat) (hv : CV E a n now lim (LF F lit fo) w) (hO : OkS n now lim F) (hfo : ∀ j, j < n → fo j ≤ 100000000) : Met l yX1_foreseenSpread wsX1_foreseenSpread ({ frames := 4, cells := 0, slots := 0, locals := 88 } : Room) (va_Pc [.ref (a 0)] (pcS E (w))) (vp_Si (fun r => r = iI (mstS F fo n 6 - lstS F fo n 6))) 0 0 (fun _ => False) := by
  refine metS (by decide) rfl (Nat.le_of_ble_eq_true rfl) ?_
  intro p e s m args below meth c ls hx hb hr hml hts hown hlocks hP hK hl
  obtain ⟨QQ, hQ⟩ : ∃ zQ, zQ = MQ below (vp_Si (fun r => r = iI (mstS F fo n 6 - lstS F fo n 6))) args s 0 0 (fun _ => False) := ⟨_, rfl⟩
  rw [← hQ]
  obtain ⟨mc, h0x, h1x, h2x, h3x⟩ := cv_all hv
  obtain ⟨hO1, hO2, hO3, hO4, hO5⟩ := id hO
  refine lv_iconst (v := (iI (-1))) hx hb dX1_foreseenSpread_0 (by decide) ?_
  refine lv_istore_n (lv' := [(1, .int (iI (-1))), (0, .ref (a 0))]) hx hb dX1_foreseenSpread_1 rfl hl (by decide) rfl (fun ls hl => ?_)
  refine lv_iconst (v := (iI (-1))) hx hb dX1_foreseenSpread_2 (by decide) ?_
  refine lv_istore_n (lv' := [(2, .int (iI (-1))), (1, .int (iI (-1))), (0, .ref (a 0))]) hx hb dX1_foreseenSpread_3 rfl hl (by decide) rfl (fun ls hl => ?_)
  refine lv_iconst (v := (nI 0)) hx hb dX1_foreseenSpread_4 (by decide) ?_
  refine lv_istore_n (lv' := [(3, .int (nI 0)), (2, .int (iI (-1))), (1, .int (iI (-1))), (0, .ref (a 0))]) hx hb dX1_foreseenSpread_5 rfl hl (by decide) rfl (fun ls hl => ?_)
  have loop6 : ∀ (tk : Nat) (k : Nat) (ls : Array Slot), (k ≤ 6) → (6 - k) < tk → lv_has ls 5 [(0, .ref (a 0)), (1, .int (iI (mstS F fo n k))), (2, .int (iI (lstS F fo n k))), (3, .int (nI k))] → W p l e ({ frames := 4, cells := 0, slots := 0, locals := 88 } : Room) s m args below meth c s.heap [] 0 0 QQ (F0 m 6 ls []) := by
    intro tk
    induction tk with
    | zero => intro k ls hk6 hk hl; exact absurd hk (Nat.not_lt_zero _)
    | succ tk ih6 =>
      intro k ls hk6 hk hl
      have hbd := mst_bd (F := F) hO1 hfo k
      have hb2 := foOf_bd (F := F) hfo k n (Nat.le_refl _)
      refine lv_iload_n hx hb dX1_foreseenSpread_6 rfl (lv_at hl 3 rfl) ?_
      refine lv_bipush (v := (nI 6)) hx hb dX1_foreseenSpread_7 (by decide) ?_
      refine nq_icmp_ge (tgt := 53) hx hb dX1_foreseenSpread_9 (by decide) (by omega) (by omega) (fun h9 => ?_) (fun h9 => ?_)
      · skip
        refine lv_iload_n hx hb dX1_foreseenSpread_53 rfl (lv_at hl 1 rfl) ?_
        refine lv_iload_n hx hb dX1_foreseenSpread_54 rfl (lv_at hl 2 rfl) ?_
        refine lv_isub hx hb dX1_foreseenSpread_55 ?_
        refine nq_top (iI_sub _ _) ?_
        rw [hQ]
        exact retS_i hx hb hr hlocks (congrArg iI (by rw [show k = 6 by omega])) dX1_foreseenSpread_56
      · skip
        refine lv_aload_n hx hb dX1_foreseenSpread_12 rfl (lv_at hl 0 rfl) ?_
        refine lv_iload_n hx hb dX1_foreseenSpread_13 rfl (lv_at hl 3 rfl) ?_
        refine csV_i (rest := []) (As := [.int (nI k)]) ⟨hx, hb, hml, hown, hts⟩ (c_X1_foreseenOf l E _ a n now lim F lit fo hv hO hfo k (by omega)) (cwV 1 hts gX1_foreseenSpread_X1_foreseenOf rfl rfl rfl (by decide +kernel) ⟨Nat.le_of_ble_eq_true rfl, Nat.le_of_ble_eq_true rfl⟩) (va_recv hK hP (ci := 2) (q0 := 0) rfl h0x) hP hK rfl hl.1 rfl (Nat.le_of_ble_eq_true rfl) dX1_foreseenSpread_14 (Nat.le_of_ble_eq_true rfl) (Nat.le_of_ble_eq_true rfl) (fun r14 hr14 => ?_)
        subst hr14
        refine lv_istore (lv' := [(4, .int (iI (foOf F fo k n))), (0, .ref (a 0)), (1, .int (iI (mstS F fo n k))), (2, .int (iI (lstS F fo n k))), (3, .int (nI k))]) hx hb dX1_foreseenSpread_17 hl (by decide) rfl (fun ls hl => ?_)
        refine lv_iload hx hb dX1_foreseenSpread_19 (lv_at hl 0 rfl) ?_
        refine iq_if_lt (tgt := 47) hx hb dX1_foreseenSpread_21 (by decide) (by omega) (fun h21 => ?_) (fun h21 => ?_)
        · skip
          refine nq_inc (lv' := [(3, .int (nI (k + 1))), (4, .int (iI (foOf F fo k n))), (0, .ref (a 0)), (1, .int (iI (mstS F fo n k))), (2, .int (iI (lstS F fo n k)))]) hx hb dX1_foreseenSpread_47 (d := 1) rfl hl (k := 4) rfl (by decide) rfl (fun ls hl => ?_)
          refine lv_goto (tgt := 6) hx hb dX1_foreseenSpread_50 (by decide) ?_
          have hl : lv_has ls 5 [(3, .int (nI (k + 1))), (4, .int (iI (foOf F fo k n))), (0, .ref (a 0)), (1, .int (iI (mstS F fo n (k + 1)))), (2, .int (iI (lstS F fo n k)))] := lv_rep hl 3 rfl (congrArg Value.int (show (iI (mstS F fo n k)) = (iI (mstS F fo n (k + 1))) from congrArg iI (by rw [mstS_s]; first | rw [if_pos h21] | rw [if_neg (by omega)])))
          have hl : lv_has ls 5 [(3, .int (nI (k + 1))), (4, .int (iI (foOf F fo k n))), (0, .ref (a 0)), (1, .int (iI (mstS F fo n (k + 1)))), (2, .int (iI (lstS F fo n (k + 1))))] := lv_rep hl 4 rfl (congrArg Value.int (show (iI (lstS F fo n k)) = (iI (lstS F fo n (k + 1))) from congrArg iI (by rw [lstS_s]; first | (rw [if_pos h21, if_pos (by omega)]; done) | (rw [if_pos h21, if_neg (by omega)]; done) | rw [if_neg (by omega)])))
          exact ih6 (k + 1) ls (by omega) (by omega) (lv_sub hl [2, 3, 4, 0] rfl)
        · skip
          refine lv_iload_n hx hb dX1_foreseenSpread_24 rfl (lv_at hl 2 rfl) ?_
          refine lv_iload hx hb dX1_foreseenSpread_25 (lv_at hl 0 rfl) ?_
          refine va_mmax hx hb (hml.trans hl.1.symm) hown (hts (.methodLink RX1 126 Lib.Math.max.name) (List.mem_of_getElem? (i := 1) (by rfl))) (hts (.static Lib.Math.max.name) (List.mem_of_getElem? (i := 2) (by rfl))) (hts (.initialized "java/lang/Math") (List.mem_of_getElem? (i := 3) (by rfl))) (hts (.code Lib.Math.max.name Lib.Math.max.code 2 (some .int)) (List.mem_of_getElem? (i := 4) (by rfl))) (Nat.le_of_ble_eq_true rfl) (Nat.le_of_ble_eq_true rfl) (Nat.le_of_ble_eq_true rfl) (Nat.le_of_ble_eq_true rfl) dX1_foreseenSpread_27 ?_
          refine nq_top (show (if (iI (mstS F fo n k)) < (iI (foOf F fo k n)) then (iI (foOf F fo k n)) else (iI (mstS F fo n k))) = (iI (max (mstS F fo n k) (foOf F fo k n))) from imax (by omega) (by omega)) ?_
          refine lv_istore_n (lv' := [(1, .int (iI (max (mstS F fo n k) (foOf F fo k n)))), (4, .int (iI (foOf F fo k n))), (0, .ref (a 0)), (2, .int (iI (lstS F fo n k))), (3, .int (nI k))]) hx hb dX1_foreseenSpread_30 rfl hl (by decide) rfl (fun ls hl => ?_)
          refine lv_iload_n hx hb dX1_foreseenSpread_31 rfl (lv_at hl 3 rfl) ?_
          refine iq_if_ge (tgt := 40) hx hb dX1_foreseenSpread_32 (by decide) (by omega) (fun h32 => ?_) (fun h32 => ?_)
          · skip
            refine lv_iload_n hx hb dX1_foreseenSpread_40 rfl (lv_at hl 3 rfl) ?_
            refine lv_iload hx hb dX1_foreseenSpread_41 (lv_at hl 1 rfl) ?_
            refine va_mmin hx hb (hml.trans hl.1.symm) hown (hts (.methodLink RX1 199 Lib.Math.min.name) (List.mem_of_getElem? (i := 5) (by rfl))) (hts (.static Lib.Math.min.name) (List.mem_of_getElem? (i := 6) (by rfl))) (hts (.initialized "java/lang/Math") (List.mem_of_getElem? (i := 3) (by rfl))) (hts (.code Lib.Math.min.name Lib.Math.min.code 2 (some .int)) (List.mem_of_getElem? (i := 7) (by rfl))) (Nat.le_of_ble_eq_true rfl) (Nat.le_of_ble_eq_true rfl) (Nat.le_of_ble_eq_true rfl) (Nat.le_of_ble_eq_true rfl) dX1_foreseenSpread_43 ?_
            refine nq_top (show (if (iI (foOf F fo k n)) < (iI (lstS F fo n k)) then (iI (foOf F fo k n)) else (iI (lstS F fo n k))) = (iI (min (lstS F fo n k) (foOf F fo k n))) from imin (by omega) (by omega)) ?_
            refine lv_istore_n (lv' := [(2, .int (iI (min (lstS F fo n k) (foOf F fo k n)))), (1, .int (iI (max (mstS F fo n k) (foOf F fo k n)))), (4, .int (iI (foOf F fo k n))), (0, .ref (a 0)), (3, .int (nI k))]) hx hb dX1_foreseenSpread_46 rfl hl (by decide) rfl (fun ls hl => ?_)
            refine nq_inc (lv' := [(3, .int (nI (k + 1))), (2, .int (iI (min (lstS F fo n k) (foOf F fo k n)))), (1, .int (iI (max (mstS F fo n k) (foOf F fo k n)))), (4, .int (iI (foOf F fo k n))), (0, .ref (a 0))]) hx hb dX1_foreseenSpread_47 (d := 1) rfl hl (k := 4) rfl (by decide) rfl (fun ls hl => ?_)
            refine lv_goto (tgt := 6) hx hb dX1_foreseenSpread_50 (by decide) ?_
            have hl : lv_has ls 5 [(3, .int (nI (k + 1))), (2, .int (iI (min (lstS F fo n k) (foOf F fo k n)))), (1, .int (iI (mstS F fo n (k + 1)))), (4, .int (iI (foOf F fo k n))), (0, .ref (a 0))] := lv_rep hl 2 rfl (congrArg Value.int (show (iI (max (mstS F fo n k) (foOf F fo k n))) = (iI (mstS F fo n (k + 1))) from congrArg iI (by rw [mstS_s]; first | rw [if_pos h21] | rw [if_neg (by omega)])))
            have hl : lv_has ls 5 [(3, .int (nI (k + 1))), (2, .int (iI (lstS F fo n (k + 1)))), (1, .int (iI (mstS F fo n (k + 1)))), (4, .int (iI (foOf F fo k n))), (0, .ref (a 0))] := lv_rep hl 1 rfl (congrArg Value.int (show (iI (min (lstS F fo n k) (foOf F fo k n))) = (iI (lstS F fo n (k + 1))) from congrArg iI (by rw [lstS_s]; first | (rw [if_pos h21, if_pos (by omega)]; done) | (rw [if_pos h21, if_neg (by omega)]; done) | rw [if_neg (by omega)])))
            exact ih6 (k + 1) ls (by omega) (by omega) (lv_sub hl [4, 2, 1, 0] rfl)
          · skip
            refine lv_iload hx hb dX1_foreseenSpread_35 (lv_at hl 1 rfl) ?_
            refine lv_goto (tgt := 46) hx hb dX1_foreseenSpread_37 (by decide) ?_
            refine lv_istore_n (lv' := [(2, .int (iI (foOf F fo k n))), (1, .int (iI (max (mstS F fo n k) (foOf F fo k n)))), (4, .int (iI (foOf F fo k n))), (0, .ref (a 0)), (3, .int (nI k))]) hx hb dX1_foreseenSpread_46 rfl hl (by decide) rfl (fun ls hl => ?_)
            refine nq_inc (lv' := [(3, .int (nI (k + 1))), (2, .int (iI (foOf F fo k n))), (1, .int (iI (max (mstS F fo n k) (foOf F fo k n)))), (4, .int (iI (foOf F fo k n))), (0, .ref (a 0))]) hx hb dX1_foreseenSpread_47 (d := 1) rfl hl (k := 4) rfl (by decide) rfl (fun ls hl => ?_)
            refine lv_goto (tgt := 6) hx hb dX1_foreseenSpread_50 (by decide) ?_
            have hl : lv_has ls 5 [(3, .int (nI (k + 1))), (2, .int (iI (foOf F fo k n))), (1, .int (iI (mstS F fo n (k + 1)))), (4, .int (iI (foOf F fo k n))), (0, .ref (a 0))] := lv_rep hl 2 rfl (congrArg Value.int (show (iI (max (mstS F fo n k) (foOf F fo k n))) = (iI (mstS F fo n (k + 1))) from congrArg iI (by rw [mstS_s]; first | rw [if_pos h21] | rw [if_neg (by omega)])))
            have hl : lv_has ls 5 [(3, .int (nI (k + 1))), (2, .int (iI (lstS F fo n (k + 1)))), (1, .int (iI (mstS F fo n (k + 1)))), (4, .int (iI (foOf F fo k n))), (0, .ref (a 0))] := lv_rep hl 1 rfl (congrArg Value.int (show (iI (foOf F fo k n)) = (iI (lstS F fo n (k + 1))) from congrArg iI (by rw [lstS_s]; first | (rw [if_pos h21, if_pos (by omega)]; done) | (rw [if_pos h21, if_neg (by omega)]; done) | rw [if_neg (by omega)])))
            exact ih6 (k + 1) ls (by omega) (by omega) (lv_sub hl [4, 2, 1, 0] rfl)
  have hl : lv_has ls 5 [(3, .int (nI 0)), (2, .int (iI (-1))), (1, .int (iI (mstS F fo n 0))), (0, .ref (a 0))] := lv_rep hl 2 rfl (congrArg Value.int (show (iI (-1)) = (iI (mstS F fo n 0)) from rfl))
  have hl : lv_has ls 5 [(3, .int (nI 0)), (2, .int (iI (lstS F fo n 0))), (1, .int (iI (mstS F fo n 0))), (0, .ref (a 0))] := lv_rep hl 1 rfl (congrArg Value.int (show (iI (-1)) = (iI (lstS F fo n 0)) from rfl))
  exact loop6 ((6 - 0) + 1) 0 ls (by omega) (Nat.lt_succ_self _) (lv_sub hl [3, 2, 1, 0] rfl)

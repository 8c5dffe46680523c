/-! the class's checksum -/
/-- what a lamp adds: its own numbers -/
def jbS (F : LR) (n now lim k : Nat) (d : Int64) : Int64 := jn (jn (jn (jn (jn (jn (jn (jn d (lN (ph F k now))) (bL (due F k now))) (bL (litS F lim now k))) (lN (F k 2))) (lN (F k 5))) (lN (F k 6))) (lN (mtS F k (F k 3 : Int) n))) (lN (bestS F n k (F k 0 - 1)))
/-- .. and when it meets each lamp -/
def juS (F : LR) (now k : Nat) : Nat → Int64 → Int64 | 0, d => d | j + 1, d => jn (juS F now k j d) (lI (untilS F now k j))
def jlS (F : LR) (n now lim k : Nat) (d : Int64) : Int64 := juS F now k n (jbS F n now lim k d)
def jaS (F : LR) (n now lim : Nat) (d : Int64) : Nat → Int64 | 0 => d | k + 1 => jlS F n now lim k (jaS F n now lim d k)
def jcS (F : LR) (n : Nat) (d : Int64) : Nat → Int64 | 0 => d | c + 1 => jn (jcS F n d c) (lN (seenS F c n))
def jhS (F : LR) (n now lim : Nat) : Int64 := jn (jn (jn (jn (jn (jn (jn (jn (jn (jn 2297 (lN now)) (lN n)) (lN lim)) (lN (acS F lim now n))) (lN (unfS F n))) (lN (lcmS F n))) (lN (apS F n n))) (lN (mxA F lim now n 12))) (lN (unfS (passF F lim now n 12) n))) (lN (mxD F now n 12))
def digS (F : LR) (n now lim : Nat) : Int64 := jcS F n (jaS F n now lim (jhS F n now lim) n) 6
theorem unfS_le {n now lim : Nat} {F : LR} (h : OkS n now lim F) : unfS F n ≤ 800000000 := by
  unfold unfS
  by_cases hn : n = 0
  · rw [if_pos hn]; omega
  · rw [if_neg hn]
    obtain ⟨⟨i, h1, h2⟩, -⟩ := mx_is F n (n - 1)
    have h3 := seenS_le h (F i 2) n (Nat.le_refl _)
    have h4 := h.1
    have h5 : n * 100000000 ≤ 8 * 100000000 := Nat.mul_le_mul_right _ h4
    omega

set_option maxHeartbeats 4000000 in
set_option maxRecDepth 100000 in
/-- joinedWithLamp(d, k) -/
theorem c_X1_joinedWithLamp (l : Launch) (E : GE) (sz : Nat) (a : Nat → Nat) (mc : Int32) (n now lim : Nat) (F : LR) (lit : Nat → Bool) (fo : Nat → Nat) (hO : OkS n now lim F) (d : Int64) (k : Nat) (hk : k < n) : Met l yX1_joinedWithLamp wsX1_joinedWithLamp ({ frames := 5, cells := 0, slots := 0, locals := 117 } : Room) (va_Pc [.ref (a 0), .long d, .int (nI k)] (pcM E (wC E a mc n now lim (LF F lit fo)) sz)) (va_Ql (S := Nat → Bool) (fun r _ => r = jlS F n now lim k d) (fun uQ tQ => atM E (va_A (wC E a mc n now lim (LF F lit fo)) sz) ((fun lt => wC E a mc n now lim (LF F lt fo)) uQ) tQ) (va_A (wC E a mc n now lim (LF F lit fo)) sz)) 0 0 (va_A (wC E a mc n now lim (LF F lit fo)) sz) := by
  refine metM (by decide) rfl (Nat.le_of_ble_eq_true rfl) ?_
  intro p e s m args below meth c ls A hAe hA hx hb hr hml hts hown hlocks hin hP hK hD hS hl
  rw [hAe]
  have hiX1 : ∀ q ∈ wsX10, q ∈ wsX1_joinedWithLamp := by decide +kernel
  obtain ⟨QQ, hQ⟩ : ∃ zQ, zQ = MQ below (va_Ql (S := Nat → Bool) (fun r _ => r = jlS F n now lim k d) (fun uQ tQ => atM E A ((fun lt => wC E a mc n now lim (LF F lt fo)) uQ) tQ) A) args s 0 0 A := ⟨_, rfl⟩
  rw [← hQ]
  obtain ⟨hO1, hO2, hO3, hO4, hO5⟩ := id hO
  have hinj := wC_inj hD
  have hk9 := hO4 k hk
  have hp9 := ph_lt (F := F) (i := k) (b := now) (by omega)
  have hm9 := mtS_le F k (F k 3 : Int) n
  have hb9 := bestS_le F n k (F k 0 - 1)
  refine lv_lload_n hx hb dX1_joinedWithLamp_0 rfl (lv_at hl 1 rfl) ?_
  refine lv_lstore (lv' := [(4, .long d), (0, .ref (a 0)), (1, .long d), (3, .int (nI k))]) hx hb dX1_joinedWithLamp_1 hl (by decide) rfl (fun ls hl => ?_)
  refine lv_lload hx hb dX1_joinedWithLamp_3 (lv_at hl 0 rfl) ?_
  refine lv_aload_n hx hb dX1_joinedWithLamp_5 rfl (lv_at hl 1 rfl) ?_
  refine lv_iload_n hx hb dX1_joinedWithLamp_6 rfl (lv_at hl 3 rfl) ?_
  refine csV_i (rest := [.long d]) (As := [.int (nI k)]) ⟨hx, hb, hml, hown, hts⟩ (c_X1_phaseOf l E _ a n now lim F lit fo CV_self hO k (by omega)) (cwV 1 hts gX1_joinedWithLamp_X1_phaseOf rfl rfl rfl (by decide +kernel) ⟨Nat.le_of_ble_eq_true rfl, Nat.le_of_ble_eq_true rfl⟩) (va_recv hK hP (ci := 2) (q0 := 0) rfl wC_x) hP hK rfl hl.1 rfl (Nat.le_of_ble_eq_true rfl) dX1_joinedWithLamp_7 (Nat.le_of_ble_eq_true rfl) (Nat.le_of_ble_eq_true rfl) (fun r7 hr7 => ?_)
  subst hr7
  refine lv_i2l (v := lN (ph F k now)) hx hb dX1_joinedWithLamp_10 (nI_l (by omega)) ?_
  refine csS_l (rest := []) (As := [.long d, .long (lN (ph F k now))]) ⟨hx, hb, hml, hown, hts⟩ (c_X1_joined l E _ d (lN (ph F k now))) (va_cwS 2 hts gX1_joinedWithLamp_X1_joined rfl rfl rfl (by decide +kernel) ⟨Nat.le_of_ble_eq_true rfl, Nat.le_of_ble_eq_true rfl⟩) hP hK rfl hl.1 rfl (Nat.le_of_ble_eq_true rfl) dX1_joinedWithLamp_11 (Nat.le_of_ble_eq_true rfl) (Nat.le_of_ble_eq_true rfl) (fun r11 hr11 => ?_)
  subst hr11
  refine lv_lstore (lv' := [(4, .long (jn d (lN (ph F k now)))), (0, .ref (a 0)), (1, .long d), (3, .int (nI k))]) hx hb dX1_joinedWithLamp_14 hl (by decide) rfl (fun ls hl => ?_)
  refine lv_lload hx hb dX1_joinedWithLamp_16 (lv_at hl 0 rfl) ?_
  refine lv_aload_n hx hb dX1_joinedWithLamp_18 rfl (lv_at hl 1 rfl) ?_
  refine lv_iload_n hx hb dX1_joinedWithLamp_19 rfl (lv_at hl 3 rfl) ?_
  refine csV_i (rest := [.long (jn d (lN (ph F k now)))]) (As := [.int (nI k)]) ⟨hx, hb, hml, hown, hts⟩ (c_X1_isDue l E _ a n now lim F lit fo CV_self hO k (by omega)) (cwV 1 hts gX1_joinedWithLamp_X1_isDue rfl rfl rfl (by decide +kernel) ⟨Nat.le_of_ble_eq_true rfl, Nat.le_of_ble_eq_true rfl⟩) (va_recv hK hP (ci := 2) (q0 := 0) rfl wC_x) hP hK rfl hl.1 rfl (Nat.le_of_ble_eq_true rfl) dX1_joinedWithLamp_20 (Nat.le_of_ble_eq_true rfl) (Nat.le_of_ble_eq_true rfl) (fun r20 hr20 => ?_)
  subst hr20
  have join31 : ∀  (H : Heap) (locs : List Loc) (ls : Array Slot), va_P E.1 vwCl (wC E a mc n now lim (LF F lit fo)) H → va_D A (wC E a mc n now lim (LF F lit fo)) → va_S A s.heap H locs → lv_has ls 7 [(0, .ref (a 0)), (3, .int (nI k))] → W p l e ({ frames := 5, cells := 0, slots := 0, locals := 117 } : Room) s m args below meth c H locs 0 0 QQ (F0 m 31 ls [.long (bL (due F k now)), .long (jn d (lN (ph F k now)))]) := by
    intro H locs ls hP hD hS hl
    refine csS_l (rest := []) (As := [.long (jn d (lN (ph F k now))), .long (bL (due F k now))]) ⟨hx, hb, hml, hown, hts⟩ (c_X1_joined l E _ (jn d (lN (ph F k now))) (bL (due F k now))) (va_cwS 2 hts gX1_joinedWithLamp_X1_joined rfl rfl rfl (by decide +kernel) ⟨Nat.le_of_ble_eq_true rfl, Nat.le_of_ble_eq_true rfl⟩) hP hK rfl hl.1 rfl (Nat.le_of_ble_eq_true rfl) dX1_joinedWithLamp_31 (Nat.le_of_ble_eq_true rfl) (Nat.le_of_ble_eq_true rfl) (fun r31 hr31 => ?_)
    subst hr31
    refine lv_lstore (lv' := [(4, .long (jn (jn d (lN (ph F k now))) (bL (due F k now)))), (0, .ref (a 0)), (3, .int (nI k))]) hx hb dX1_joinedWithLamp_34 hl (by decide) rfl (fun ls hl => ?_)
    refine lv_lload hx hb dX1_joinedWithLamp_36 (lv_at hl 0 rfl) ?_
    refine lv_aload_n hx hb dX1_joinedWithLamp_38 rfl (lv_at hl 1 rfl) ?_
    refine lv_iload_n hx hb dX1_joinedWithLamp_39 rfl (lv_at hl 2 rfl) ?_
    refine cmV_i (rest := [.long (jn (jn d (lN (ph F k now))) (bL (due F k now)))]) (As := [.int (nI k)]) ⟨hx, hb, hml, hown, hts⟩ (c_X1_shines l E _ a mc n now lim F lit fo hO k (by omega)) (cwV 1 hts gX1_joinedWithLamp_X1_shines rfl rfl rfl (by decide +kernel) ⟨Nat.le_of_ble_eq_true rfl, Nat.le_of_ble_eq_true rfl⟩) (va_recv hK hP (ci := 2) (q0 := 0) rfl wC_x) hP hK hD hS hA rfl hl.1 rfl (Nat.le_of_ble_eq_true rfl) dX1_joinedWithLamp_40 ⟨Nat.le_of_ble_eq_true rfl, Nat.le_of_ble_eq_true rfl⟩ (fun r40 u40 H locs hr40 hP hD hS => ?_)
    subst hr40
    have join51 : ∀  (H : Heap) (locs : List Loc) (ls : Array Slot), va_P E.1 vwCl (wC E a mc n now lim (LF F u40 fo)) H → va_D A (wC E a mc n now lim (LF F u40 fo)) → va_S A s.heap H locs → lv_has ls 7 [(0, .ref (a 0)), (3, .int (nI k))] → W p l e ({ frames := 5, cells := 0, slots := 0, locals := 117 } : Room) s m args below meth c H locs 0 0 QQ (F0 m 51 ls [.long (bL (litS F lim now k)), .long (jn (jn d (lN (ph F k now))) (bL (due F k now)))]) := by
      intro H locs ls hP hD hS hl
      refine csS_l (rest := []) (As := [.long (jn (jn d (lN (ph F k now))) (bL (due F k now))), .long (bL (litS F lim now k))]) ⟨hx, hb, hml, hown, hts⟩ (c_X1_joined l E _ (jn (jn d (lN (ph F k now))) (bL (due F k now))) (bL (litS F lim now k))) (va_cwS 2 hts gX1_joinedWithLamp_X1_joined rfl rfl rfl (by decide +kernel) ⟨Nat.le_of_ble_eq_true rfl, Nat.le_of_ble_eq_true rfl⟩) hP hK rfl hl.1 rfl (Nat.le_of_ble_eq_true rfl) dX1_joinedWithLamp_51 (Nat.le_of_ble_eq_true rfl) (Nat.le_of_ble_eq_true rfl) (fun r51 hr51 => ?_)
      subst hr51
      refine lv_lstore (lv' := [(4, .long (jn (jn (jn d (lN (ph F k now))) (bL (due F k now))) (bL (litS F lim now k)))), (0, .ref (a 0)), (3, .int (nI k))]) hx hb dX1_joinedWithLamp_54 hl (by decide) rfl (fun ls hl => ?_)
      refine lv_lload hx hb dX1_joinedWithLamp_56 (lv_at hl 0 rfl) ?_
      refine lv_aload_n hx hb dX1_joinedWithLamp_58 rfl (lv_at hl 1 rfl) ?_
      refine lv_iload_n hx hb dX1_joinedWithLamp_59 rfl (lv_at hl 2 rfl) ?_
      refine csV_i (rest := [.long (jn (jn (jn d (lN (ph F k now))) (bL (due F k now))) (bL (litS F lim now k)))]) (As := [.int (nI k)]) ⟨hx, hb, hml, hown, hts⟩ (c_X1_colourOf l E _ a n now lim F u40 fo CV_self hO k (by omega)) (cwV 1 hts gX1_joinedWithLamp_X1_colourOf rfl rfl rfl (by decide +kernel) ⟨Nat.le_of_ble_eq_true rfl, Nat.le_of_ble_eq_true rfl⟩) (va_recv hK hP (ci := 2) (q0 := 0) rfl wC_x) hP hK rfl hl.1 rfl (Nat.le_of_ble_eq_true rfl) dX1_joinedWithLamp_60 (Nat.le_of_ble_eq_true rfl) (Nat.le_of_ble_eq_true rfl) (fun r60 hr60 => ?_)
      subst hr60
      refine lv_i2l (v := lN (F k 2)) hx hb dX1_joinedWithLamp_63 (nI_l (by omega)) ?_
      refine csS_l (rest := []) (As := [.long (jn (jn (jn d (lN (ph F k now))) (bL (due F k now))) (bL (litS F lim now k))), .long (lN (F k 2))]) ⟨hx, hb, hml, hown, hts⟩ (c_X1_joined l E _ (jn (jn (jn d (lN (ph F k now))) (bL (due F k now))) (bL (litS F lim now k))) (lN (F k 2))) (va_cwS 2 hts gX1_joinedWithLamp_X1_joined rfl rfl rfl (by decide +kernel) ⟨Nat.le_of_ble_eq_true rfl, Nat.le_of_ble_eq_true rfl⟩) hP hK rfl hl.1 rfl (Nat.le_of_ble_eq_true rfl) dX1_joinedWithLamp_64 (Nat.le_of_ble_eq_true rfl) (Nat.le_of_ble_eq_true rfl) (fun r64 hr64 => ?_)
      subst hr64
      refine lv_lstore (lv' := [(4, .long (jn (jn (jn (jn d (lN (ph F k now))) (bL (due F k now))) (bL (litS F lim now k))) (lN (F k 2)))), (0, .ref (a 0)), (3, .int (nI k))]) hx hb dX1_joinedWithLamp_67 hl (by decide) rfl (fun ls hl => ?_)
      refine lv_lload hx hb dX1_joinedWithLamp_69 (lv_at hl 0 rfl) ?_
      refine lv_aload_n hx hb dX1_joinedWithLamp_71 rfl (lv_at hl 1 rfl) ?_
      refine lv_iload_n hx hb dX1_joinedWithLamp_72 rfl (lv_at hl 2 rfl) ?_
      refine csV_i (rest := [.long (jn (jn (jn (jn d (lN (ph F k now))) (bL (due F k now))) (bL (litS F lim now k))) (lN (F k 2)))]) (As := [.int (nI k)]) ⟨hx, hb, hml, hown, hts⟩ (c_X1_shone l E _ a n now lim F u40 fo CV_self hO k (by omega)) (cwV 1 hts gX1_joinedWithLamp_X1_shone rfl rfl rfl (by decide +kernel) ⟨Nat.le_of_ble_eq_true rfl, Nat.le_of_ble_eq_true rfl⟩) (va_recv hK hP (ci := 2) (q0 := 0) rfl wC_x) hP hK rfl hl.1 rfl (Nat.le_of_ble_eq_true rfl) dX1_joinedWithLamp_73 (Nat.le_of_ble_eq_true rfl) (Nat.le_of_ble_eq_true rfl) (fun r73 hr73 => ?_)
      subst hr73
      refine lv_i2l (v := lN (F k 5)) hx hb dX1_joinedWithLamp_76 (nI_l (by omega)) ?_
      refine csS_l (rest := []) (As := [.long (jn (jn (jn (jn d (lN (ph F k now))) (bL (due F k now))) (bL (litS F lim now k))) (lN (F k 2))), .long (lN (F k 5))]) ⟨hx, hb, hml, hown, hts⟩ (c_X1_joined l E _ (jn (jn (jn (jn d (lN (ph F k now))) (bL (due F k now))) (bL (litS F lim now k))) (lN (F k 2))) (lN (F k 5))) (va_cwS 2 hts gX1_joinedWithLamp_X1_joined rfl rfl rfl (by decide +kernel) ⟨Nat.le_of_ble_eq_true rfl, Nat.le_of_ble_eq_true rfl⟩) hP hK rfl hl.1 rfl (Nat.le_of_ble_eq_true rfl) dX1_joinedWithLamp_77 (Nat.le_of_ble_eq_true rfl) (Nat.le_of_ble_eq_true rfl) (fun r77 hr77 => ?_)
      subst hr77
      refine lv_lstore (lv' := [(4, .long (jn (jn (jn (jn (jn d (lN (ph F k now))) (bL (due F k now))) (bL (litS F lim now k))) (lN (F k 2))) (lN (F k 5)))), (0, .ref (a 0)), (3, .int (nI k))]) hx hb dX1_joinedWithLamp_80 hl (by decide) rfl (fun ls hl => ?_)
      refine lv_lload hx hb dX1_joinedWithLamp_82 (lv_at hl 0 rfl) ?_
      refine lv_aload_n hx hb dX1_joinedWithLamp_84 rfl (lv_at hl 1 rfl) ?_
      refine lv_iload_n hx hb dX1_joinedWithLamp_85 rfl (lv_at hl 2 rfl) ?_
      refine csV_i (rest := [.long (jn (jn (jn (jn (jn d (lN (ph F k now))) (bL (due F k now))) (bL (litS F lim now k))) (lN (F k 2))) (lN (F k 5)))]) (As := [.int (nI k)]) ⟨hx, hb, hml, hown, hts⟩ (c_X1_stayedDark l E _ a n now lim F u40 fo CV_self hO k (by omega)) (cwV 1 hts gX1_joinedWithLamp_X1_stayedDark rfl rfl rfl (by decide +kernel) ⟨Nat.le_of_ble_eq_true rfl, Nat.le_of_ble_eq_true rfl⟩) (va_recv hK hP (ci := 2) (q0 := 0) rfl wC_x) hP hK rfl hl.1 rfl (Nat.le_of_ble_eq_true rfl) dX1_joinedWithLamp_86 (Nat.le_of_ble_eq_true rfl) (Nat.le_of_ble_eq_true rfl) (fun r86 hr86 => ?_)
      subst hr86
      refine lv_i2l (v := lN (F k 6)) hx hb dX1_joinedWithLamp_89 (nI_l (by omega)) ?_
      refine csS_l (rest := []) (As := [.long (jn (jn (jn (jn (jn d (lN (ph F k now))) (bL (due F k now))) (bL (litS F lim now k))) (lN (F k 2))) (lN (F k 5))), .long (lN (F k 6))]) ⟨hx, hb, hml, hown, hts⟩ (c_X1_joined l E _ (jn (jn (jn (jn (jn d (lN (ph F k now))) (bL (due F k now))) (bL (litS F lim now k))) (lN (F k 2))) (lN (F k 5))) (lN (F k 6))) (va_cwS 2 hts gX1_joinedWithLamp_X1_joined rfl rfl rfl (by decide +kernel) ⟨Nat.le_of_ble_eq_true rfl, Nat.le_of_ble_eq_true rfl⟩) hP hK rfl hl.1 rfl (Nat.le_of_ble_eq_true rfl) dX1_joinedWithLamp_90 (Nat.le_of_ble_eq_true rfl) (Nat.le_of_ble_eq_true rfl) (fun r90 hr90 => ?_)
      subst hr90
      refine lv_lstore (lv' := [(4, .long (jn (jn (jn (jn (jn (jn d (lN (ph F k now))) (bL (due F k now))) (bL (litS F lim now k))) (lN (F k 2))) (lN (F k 5))) (lN (F k 6)))), (0, .ref (a 0)), (3, .int (nI k))]) hx hb dX1_joinedWithLamp_93 hl (by decide) rfl (fun ls hl => ?_)
      refine lv_lload hx hb dX1_joinedWithLamp_95 (lv_at hl 0 rfl) ?_
      refine lv_aload_n hx hb dX1_joinedWithLamp_97 rfl (lv_at hl 1 rfl) ?_
      refine lv_iload_n hx hb dX1_joinedWithLamp_98 rfl (lv_at hl 2 rfl) ?_
      refine csV_i (rest := [.long (jn (jn (jn (jn (jn (jn d (lN (ph F k now))) (bL (due F k now))) (bL (litS F lim now k))) (lN (F k 2))) (lN (F k 5))) (lN (F k 6)))]) (As := [.int (nI k)]) ⟨hx, hb, hml, hown, hts⟩ (c_X1_meets l E _ a n now lim F u40 fo CV_self hO hinj k (by omega)) (cwV 1 hts gX1_joinedWithLamp_X1_meets rfl rfl rfl (by decide +kernel) ⟨Nat.le_of_ble_eq_true rfl, Nat.le_of_ble_eq_true rfl⟩) (va_recv hK hP (ci := 2) (q0 := 0) rfl wC_x) hP hK rfl hl.1 rfl (Nat.le_of_ble_eq_true rfl) dX1_joinedWithLamp_99 (Nat.le_of_ble_eq_true rfl) (Nat.le_of_ble_eq_true rfl) (fun r99 hr99 => ?_)
      subst hr99
      refine lv_i2l (v := lN (mtS F k (F k 3 : Int) n)) hx hb dX1_joinedWithLamp_102 (nI_l (by omega)) ?_
      refine csS_l (rest := []) (As := [.long (jn (jn (jn (jn (jn (jn d (lN (ph F k now))) (bL (due F k now))) (bL (litS F lim now k))) (lN (F k 2))) (lN (F k 5))) (lN (F k 6))), .long (lN (mtS F k (F k 3 : Int) n))]) ⟨hx, hb, hml, hown, hts⟩ (c_X1_joined l E _ (jn (jn (jn (jn (jn (jn d (lN (ph F k now))) (bL (due F k now))) (bL (litS F lim now k))) (lN (F k 2))) (lN (F k 5))) (lN (F k 6))) (lN (mtS F k (F k 3 : Int) n))) (va_cwS 2 hts gX1_joinedWithLamp_X1_joined rfl rfl rfl (by decide +kernel) ⟨Nat.le_of_ble_eq_true rfl, Nat.le_of_ble_eq_true rfl⟩) hP hK rfl hl.1 rfl (Nat.le_of_ble_eq_true rfl) dX1_joinedWithLamp_103 (Nat.le_of_ble_eq_true rfl) (Nat.le_of_ble_eq_true rfl) (fun r103 hr103 => ?_)
      subst hr103
      refine lv_lstore (lv' := [(4, .long (jn (jn (jn (jn (jn (jn (jn d (lN (ph F k now))) (bL (due F k now))) (bL (litS F lim now k))) (lN (F k 2))) (lN (F k 5))) (lN (F k 6))) (lN (mtS F k (F k 3 : Int) n)))), (0, .ref (a 0)), (3, .int (nI k))]) hx hb dX1_joinedWithLamp_106 hl (by decide) rfl (fun ls hl => ?_)
      refine lv_lload hx hb dX1_joinedWithLamp_108 (lv_at hl 0 rfl) ?_
      refine lv_aload_n hx hb dX1_joinedWithLamp_110 rfl (lv_at hl 1 rfl) ?_
      refine lv_iload_n hx hb dX1_joinedWithLamp_111 rfl (lv_at hl 2 rfl) ?_
      refine csV_i (rest := [.long (jn (jn (jn (jn (jn (jn (jn d (lN (ph F k now))) (bL (due F k now))) (bL (litS F lim now k))) (lN (F k 2))) (lN (F k 5))) (lN (F k 6))) (lN (mtS F k (F k 3 : Int) n)))]) (As := [.int (nI k)]) ⟨hx, hb, hml, hown, hts⟩ (c_X1_bestShift l E _ a n now lim F u40 fo CV_self hO hinj k (by omega)) (cwV 1 hts gX1_joinedWithLamp_X1_bestShift rfl rfl rfl (by decide +kernel) ⟨Nat.le_of_ble_eq_true rfl, Nat.le_of_ble_eq_true rfl⟩) (va_recv hK hP (ci := 2) (q0 := 0) rfl wC_x) hP hK rfl hl.1 rfl (Nat.le_of_ble_eq_true rfl) dX1_joinedWithLamp_112 (Nat.le_of_ble_eq_true rfl) (Nat.le_of_ble_eq_true rfl) (fun r112 hr112 => ?_)
      subst hr112
      refine lv_i2l (v := lN (bestS F n k (F k 0 - 1))) hx hb dX1_joinedWithLamp_115 (nI_l (by omega)) ?_
      refine csS_l (rest := []) (As := [.long (jn (jn (jn (jn (jn (jn (jn d (lN (ph F k now))) (bL (due F k now))) (bL (litS F lim now k))) (lN (F k 2))) (lN (F k 5))) (lN (F k 6))) (lN (mtS F k (F k 3 : Int) n))), .long (lN (bestS F n k (F k 0 - 1)))]) ⟨hx, hb, hml, hown, hts⟩ (c_X1_joined l E _ (jn (jn (jn (jn (jn (jn (jn d (lN (ph F k now))) (bL (due F k now))) (bL (litS F lim now k))) (lN (F k 2))) (lN (F k 5))) (lN (F k 6))) (lN (mtS F k (F k 3 : Int) n))) (lN (bestS F n k (F k 0 - 1)))) (va_cwS 2 hts gX1_joinedWithLamp_X1_joined rfl rfl rfl (by decide +kernel) ⟨Nat.le_of_ble_eq_true rfl, Nat.le_of_ble_eq_true rfl⟩) hP hK rfl hl.1 rfl (Nat.le_of_ble_eq_true rfl) dX1_joinedWithLamp_116 (Nat.le_of_ble_eq_true rfl) (Nat.le_of_ble_eq_true rfl) (fun r116 hr116 => ?_)
      subst hr116
      refine lv_lstore (lv' := [(4, .long (jn (jn (jn (jn (jn (jn (jn (jn d (lN (ph F k now))) (bL (due F k now))) (bL (litS F lim now k))) (lN (F k 2))) (lN (F k 5))) (lN (F k 6))) (lN (mtS F k (F k 3 : Int) n))) (lN (bestS F n k (F k 0 - 1))))), (0, .ref (a 0)), (3, .int (nI k))]) hx hb dX1_joinedWithLamp_119 hl (by decide) rfl (fun ls hl => ?_)
      refine lv_iconst (v := (nI 0)) hx hb dX1_joinedWithLamp_121 (by decide) ?_
      refine lv_istore (lv' := [(6, .int (nI 0)), (4, .long (jn (jn (jn (jn (jn (jn (jn (jn d (lN (ph F k now))) (bL (due F k now))) (bL (litS F lim now k))) (lN (F k 2))) (lN (F k 5))) (lN (F k 6))) (lN (mtS F k (F k 3 : Int) n))) (lN (bestS F n k (F k 0 - 1))))), (0, .ref (a 0)), (3, .int (nI k))]) hx hb dX1_joinedWithLamp_122 hl (by decide) rfl (fun ls hl => ?_)
      have loop124 : ∀ (tk : Nat) (j : Nat) (H : Heap) (locs : List Loc) (ls : Array Slot), (j ≤ n) → (n - j) < tk → va_P E.1 vwCl (wC E a mc n now lim (LF F u40 fo)) H → va_D A (wC E a mc n now lim (LF F u40 fo)) → va_S A s.heap H locs → lv_has ls 7 [(0, .ref (a 0)), (3, .int (nI k)), (4, .long (juS F now k j (jbS F n now lim k d))), (6, .int (nI j))] → W p l e ({ frames := 5, cells := 0, slots := 0, locals := 117 } : Room) s m args below meth c H locs 0 0 QQ (F0 m 124 ls []) := by
        intro tk
        induction tk with
        | zero => intro j H locs ls hj hk hP hD hS hl; exact absurd hk (Nat.not_lt_zero _)
        | succ tk ih124 =>
          intro j H locs ls hj hk hP hD hS hl
          refine lv_iload hx hb dX1_joinedWithLamp_124 (lv_at hl 3 rfl) ?_
          refine lv_aload_n hx hb dX1_joinedWithLamp_126 rfl (lv_at hl 0 rfl) ?_
          refine va_get (D := E.1) (ci := 2) (v := .ref (a 1)) (C := RX1) (T := TX1) (N := 3) hx hb hts hiX1 hown hK hP 0 wC_x rfl 0 (by decide) (hts (.fieldLink RX1 10 "PulseLoom" "row" "Ljava/util/ArrayList;") (List.mem_of_getElem? (i := 1) (by rfl))) (fun _ h9 => h9) rfl dX1_joinedWithLamp_127 ?_
          refine csV_i (rest := [.int (nI j)]) (As := []) ⟨hx, hb, hml, hown, hts⟩ (c_Jx4a65c_size_8abf5 l E _ 1 _ _ _ n wC_row) (cwV 0 hts gX1_joinedWithLamp_Jx4a65c_size_8abf5 rfl rfl rfl (by decide +kernel) ⟨Nat.le_of_ble_eq_true rfl, Nat.le_of_ble_eq_true rfl⟩) (va_recv hK hP (ci := 0) (q0 := 1) rfl wC_row) hP hK rfl hl.1 rfl (Nat.le_of_ble_eq_true rfl) dX1_joinedWithLamp_130 (Nat.le_of_ble_eq_true rfl) (Nat.le_of_ble_eq_true rfl) (fun r130 hr130 => ?_)
          subst hr130
          refine nq_icmp_ge (tgt := 157) hx hb dX1_joinedWithLamp_133 (by decide) (by omega) (by omega) (fun h133 => ?_) (fun h133 => ?_)
          · skip
            refine lv_lload hx hb dX1_joinedWithLamp_157 (lv_at hl 2 rfl) ?_
            rw [hQ]
            exact retM_l (E := E) (A0 := A) (v := juS F now k j (jbS F n now lim k d)) (post := fun r _ => r = jlS F n now lim k d) (u := u40) (W1 := fun lt => wC E a mc n now lim (LF F lt fo)) hx hb hr hlocks hP hK hD hS (by rw [show j = n by omega]; rfl) dX1_joinedWithLamp_159
          · skip
            refine lv_lload hx hb dX1_joinedWithLamp_136 (lv_at hl 2 rfl) ?_
            refine lv_aload_n hx hb dX1_joinedWithLamp_138 rfl (lv_at hl 0 rfl) ?_
            refine lv_iload_n hx hb dX1_joinedWithLamp_139 rfl (lv_at hl 1 rfl) ?_
            refine lv_iload hx hb dX1_joinedWithLamp_140 (lv_at hl 3 rfl) ?_
            refine csV_i (rest := [.long (juS F now k j (jbS F n now lim k d))]) (As := [.int (nI k), .int (nI j)]) ⟨hx, hb, hml, hown, hts⟩ (c_X1_beatsUntilMeet l E _ a n now lim F u40 fo CV_self hO k j (by omega) (by omega)) (cwV 2 hts gX1_joinedWithLamp_X1_beatsUntilMeet rfl rfl rfl (by decide +kernel) ⟨Nat.le_of_ble_eq_true rfl, Nat.le_of_ble_eq_true rfl⟩) (va_recv hK hP (ci := 2) (q0 := 0) rfl wC_x) hP hK rfl hl.1 rfl (Nat.le_of_ble_eq_true rfl) dX1_joinedWithLamp_142 (Nat.le_of_ble_eq_true rfl) (Nat.le_of_ble_eq_true rfl) (fun r142 hr142 => ?_)
            subst hr142
            have hj8 := hO4 j h133
            have hub := until_bd (F := F) (now := now) (i := k) (j := j) (by omega) (by omega)
            refine lv_i2l (v := lI (untilS F now k j)) hx hb dX1_joinedWithLamp_145 (iI_lI (by omega)) ?_
            refine csS_l (rest := []) (As := [.long (juS F now k j (jbS F n now lim k d)), .long (lI (untilS F now k j))]) ⟨hx, hb, hml, hown, hts⟩ (c_X1_joined l E _ (juS F now k j (jbS F n now lim k d)) (lI (untilS F now k j))) (va_cwS 2 hts gX1_joinedWithLamp_X1_joined rfl rfl rfl (by decide +kernel) ⟨Nat.le_of_ble_eq_true rfl, Nat.le_of_ble_eq_true rfl⟩) hP hK rfl hl.1 rfl (Nat.le_of_ble_eq_true rfl) dX1_joinedWithLamp_146 (Nat.le_of_ble_eq_true rfl) (Nat.le_of_ble_eq_true rfl) (fun r146 hr146 => ?_)
            subst hr146
            refine lv_lstore (lv' := [(4, .long (jn (juS F now k j (jbS F n now lim k d)) (lI (untilS F now k j)))), (0, .ref (a 0)), (3, .int (nI k)), (6, .int (nI j))]) hx hb dX1_joinedWithLamp_149 hl (by decide) rfl (fun ls hl => ?_)
            refine nq_inc (lv' := [(6, .int (nI (j + 1))), (4, .long (jn (juS F now k j (jbS F n now lim k d)) (lI (untilS F now k j)))), (0, .ref (a 0)), (3, .int (nI k))]) hx hb dX1_joinedWithLamp_151 (d := 1) rfl hl (k := 3) rfl (by decide) rfl (fun ls hl => ?_)
            refine lv_goto (tgt := 124) hx hb dX1_joinedWithLamp_154 (by decide) ?_
            have hl : lv_has ls 7 [(6, .int (nI (j + 1))), (4, .long (juS F now k (j + 1) (jbS F n now lim k d))), (0, .ref (a 0)), (3, .int (nI k))] := lv_rep hl 1 rfl (congrArg Value.long (show (jn (juS F now k j (jbS F n now lim k d)) (lI (untilS F now k j))) = (juS F now k (j + 1) (jbS F n now lim k d)) from rfl))
            exact ih124 (j + 1) _ _ ls (by omega) (by omega) hP hD hS (lv_sub hl [2, 3, 1, 0] rfl)
      have hl : lv_has ls 7 [(6, .int (nI 0)), (4, .long (juS F now k 0 (jbS F n now lim k d))), (0, .ref (a 0)), (3, .int (nI k))] := lv_rep hl 1 rfl (congrArg Value.long (show (jn (jn (jn (jn (jn (jn (jn (jn d (lN (ph F k now))) (bL (due F k now))) (bL (litS F lim now k))) (lN (F k 2))) (lN (F k 5))) (lN (F k 6))) (lN (mtS F k (F k 3 : Int) n))) (lN (bestS F n k (F k 0 - 1)))) = (juS F now k 0 (jbS F n now lim k d)) from rfl))
      exact loop124 ((n - 0) + 1) 0 _ _ ls (by omega) (Nat.lt_succ_self _) hP hD hS (lv_sub hl [2, 3, 1, 0] rfl)
    refine bq_if_eq (tgt := 50) hx hb dX1_joinedWithLamp_43 (by decide) (fun h43 => ?_) (fun h43 => ?_)
    · skip
      refine lv_lconst (v := 0) hx hb dX1_joinedWithLamp_50 (by decide) ?_
      refine nq_topl (show 0 = bL (litS F lim now k) from by rw [h43]; rfl) ?_
      exact join51 _ _ ls hP hD hS (lv_sub hl [1, 2] rfl)
    · skip
      refine lv_lconst (v := 1) hx hb dX1_joinedWithLamp_46 (by decide) ?_
      refine lv_goto (tgt := 51) hx hb dX1_joinedWithLamp_47 (by decide) ?_
      refine nq_topl (show 1 = bL (litS F lim now k) from by rw [h43]; rfl) ?_
      exact join51 _ _ ls hP hD hS (lv_sub hl [1, 2] rfl)
  refine bq_if_eq (tgt := 30) hx hb dX1_joinedWithLamp_23 (by decide) (fun h23 => ?_) (fun h23 => ?_)
  · skip
    refine lv_lconst (v := 0) hx hb dX1_joinedWithLamp_30 (by decide) ?_
    refine nq_topl (show 0 = bL (due F k now) from by rw [h23]; rfl) ?_
    exact join31 _ _ ls hP hD hS (lv_sub hl [1, 3] rfl)
  · skip
    refine lv_lconst (v := 1) hx hb dX1_joinedWithLamp_26 (by decide) ?_
    refine lv_goto (tgt := 31) hx hb dX1_joinedWithLamp_27 (by decide) ?_
    refine nq_topl (show 1 = bL (due F k now) from by rw [h23]; rfl) ?_
    exact join31 _ _ ls hP hD hS (lv_sub hl [1, 3] rfl)

set_option maxHeartbeats 4000000 in
set_option maxRecDepth 100000 in
/-- digest() -/
theorem c_X1_digest (l : Launch) (E : GE) (sz : Nat) (a : Nat → Nat) (mc : Int32) (n now lim : Nat) (F : LR) (lit : Nat → Bool) (fo : Nat → Nat) (hO : OkS n now lim F) (hnow : now + 200 ≤ 100000000) : Met l yX1_digest wsX1_digest ({ frames := 7, cells := 0, slots := 0, locals := 156 } : Room) (va_Pc [.ref (a 0)] (pcM E (wC E a mc n now lim (LF F lit fo)) sz)) (va_Ql (S := (Nat → Bool) × (Nat → Nat)) (fun r _ => r = digS F n now lim) (fun uQ tQ => atM E (va_A (wC E a mc n now lim (LF F lit fo)) sz) ((fun u => wC E a mc n now lim (LF F u.1 u.2)) uQ) tQ) (va_A (wC E a mc n now lim (LF F lit fo)) sz)) 0 0 (va_A (wC E a mc n now lim (LF F lit fo)) sz) := by
  refine metM (by decide) rfl (Nat.le_of_ble_eq_true rfl) ?_
  intro p e s m args below meth c ls A hAe hA hx hb hr hml hts hown hlocks hin hP hK hD hS hl
  rw [hAe]
  have hiX1 : ∀ q ∈ wsX10, q ∈ wsX1_digest := by decide +kernel
  obtain ⟨QQ, hQ⟩ : ∃ zQ, zQ = MQ below (va_Ql (S := (Nat → Bool) × (Nat → Nat)) (fun r _ => r = digS F n now lim) (fun uQ tQ => atM E A ((fun u => wC E a mc n now lim (LF F u.1 u.2)) uQ) tQ) A) args s 0 0 A := ⟨_, rfl⟩
  rw [← hQ]
  obtain ⟨hO1, hO2, hO3, hO4, hO5⟩ := id hO
  have ha9 := acS_le hO lim now n (Nat.le_refl _)
  have hu8 := unfS_le hO
  have hu9 := unfS_le (pass_ok hO 12 (by omega))
  have hx9 := mxA_le hO lim now 12
  have hd9 := mxD_le hO now 12
  have hap := apS_le F n n
  have hap2 : n * n ≤ 8 * 8 := Nat.mul_le_mul hO1 hO1
  refine lv_ldc2 (v := 2297) hx hb hown (hts (.constantLong RX1 134 (2297)) (List.mem_of_getElem? (i := 1) (by rfl))) dX1_digest_0 ?_
  refine lv_lstore_n (lv' := [(1, .long 2297), (0, .ref (a 0))]) hx hb dX1_digest_3 rfl hl (by decide) rfl (fun ls hl => ?_)
  refine lv_lload_n hx hb dX1_digest_4 rfl (lv_at hl 0 rfl) ?_
  refine lv_aload_n hx hb dX1_digest_5 rfl (lv_at hl 1 rfl) ?_
  refine csV_i (rest := [.long 2297]) (As := []) ⟨hx, hb, hml, hown, hts⟩ (c_X1_beat l E _ a n now lim F lit fo CV_self hO) (cwV 0 hts gX1_digest_X1_beat rfl rfl rfl (by decide +kernel) ⟨Nat.le_of_ble_eq_true rfl, Nat.le_of_ble_eq_true rfl⟩) (va_recv hK hP (ci := 2) (q0 := 0) rfl wC_x) hP hK rfl hl.1 rfl (Nat.le_of_ble_eq_true rfl) dX1_digest_6 (Nat.le_of_ble_eq_true rfl) (Nat.le_of_ble_eq_true rfl) (fun r6 hr6 => ?_)
  subst hr6
  refine lv_i2l (v := lN now) hx hb dX1_digest_9 (nI_l (by omega)) ?_
  refine csS_l (rest := []) (As := [.long 2297, .long (lN now)]) ⟨hx, hb, hml, hown, hts⟩ (c_X1_joined l E _ 2297 (lN now)) (va_cwS 2 hts gX1_digest_X1_joined rfl rfl rfl (by decide +kernel) ⟨Nat.le_of_ble_eq_true rfl, Nat.le_of_ble_eq_true rfl⟩) hP hK rfl hl.1 rfl (Nat.le_of_ble_eq_true rfl) dX1_digest_10 (Nat.le_of_ble_eq_true rfl) (Nat.le_of_ble_eq_true rfl) (fun r10 hr10 => ?_)
  subst hr10
  refine lv_lstore_n (lv' := [(1, .long (jn 2297 (lN now))), (0, .ref (a 0))]) hx hb dX1_digest_13 rfl hl (by decide) rfl (fun ls hl => ?_)
  refine lv_lload_n hx hb dX1_digest_14 rfl (lv_at hl 0 rfl) ?_
  refine lv_aload_n hx hb dX1_digest_15 rfl (lv_at hl 1 rfl) ?_
  refine csV_i (rest := [.long (jn 2297 (lN now))]) (As := []) ⟨hx, hb, hml, hown, hts⟩ (c_X1_lamps l E _ a n now lim F lit fo CV_self hO) (cwV 0 hts gX1_digest_X1_lamps rfl rfl rfl (by decide +kernel) ⟨Nat.le_of_ble_eq_true rfl, Nat.le_of_ble_eq_true rfl⟩) (va_recv hK hP (ci := 2) (q0 := 0) rfl wC_x) hP hK rfl hl.1 rfl (Nat.le_of_ble_eq_true rfl) dX1_digest_16 (Nat.le_of_ble_eq_true rfl) (Nat.le_of_ble_eq_true rfl) (fun r16 hr16 => ?_)
  subst hr16
  refine lv_i2l (v := lN n) hx hb dX1_digest_19 (nI_l (by omega)) ?_
  refine csS_l (rest := []) (As := [.long (jn 2297 (lN now)), .long (lN n)]) ⟨hx, hb, hml, hown, hts⟩ (c_X1_joined l E _ (jn 2297 (lN now)) (lN n)) (va_cwS 2 hts gX1_digest_X1_joined rfl rfl rfl (by decide +kernel) ⟨Nat.le_of_ble_eq_true rfl, Nat.le_of_ble_eq_true rfl⟩) hP hK rfl hl.1 rfl (Nat.le_of_ble_eq_true rfl) dX1_digest_20 (Nat.le_of_ble_eq_true rfl) (Nat.le_of_ble_eq_true rfl) (fun r20 hr20 => ?_)
  subst hr20
  refine lv_lstore_n (lv' := [(1, .long (jn (jn 2297 (lN now)) (lN n))), (0, .ref (a 0))]) hx hb dX1_digest_23 rfl hl (by decide) rfl (fun ls hl => ?_)
  refine lv_lload_n hx hb dX1_digest_24 rfl (lv_at hl 0 rfl) ?_
  refine lv_aload_n hx hb dX1_digest_25 rfl (lv_at hl 1 rfl) ?_
  refine csV_i (rest := [.long (jn (jn 2297 (lN now)) (lN n))]) (As := []) ⟨hx, hb, hml, hown, hts⟩ (c_X1_limit l E _ a n now lim F lit fo CV_self hO) (cwV 0 hts gX1_digest_X1_limit rfl rfl rfl (by decide +kernel) ⟨Nat.le_of_ble_eq_true rfl, Nat.le_of_ble_eq_true rfl⟩) (va_recv hK hP (ci := 2) (q0 := 0) rfl wC_x) hP hK rfl hl.1 rfl (Nat.le_of_ble_eq_true rfl) dX1_digest_26 (Nat.le_of_ble_eq_true rfl) (Nat.le_of_ble_eq_true rfl) (fun r26 hr26 => ?_)
  subst hr26
  refine lv_i2l (v := lN lim) hx hb dX1_digest_29 (nI_l (by omega)) ?_
  refine csS_l (rest := []) (As := [.long (jn (jn 2297 (lN now)) (lN n)), .long (lN lim)]) ⟨hx, hb, hml, hown, hts⟩ (c_X1_joined l E _ (jn (jn 2297 (lN now)) (lN n)) (lN lim)) (va_cwS 2 hts gX1_digest_X1_joined rfl rfl rfl (by decide +kernel) ⟨Nat.le_of_ble_eq_true rfl, Nat.le_of_ble_eq_true rfl⟩) hP hK rfl hl.1 rfl (Nat.le_of_ble_eq_true rfl) dX1_digest_30 (Nat.le_of_ble_eq_true rfl) (Nat.le_of_ble_eq_true rfl) (fun r30 hr30 => ?_)
  subst hr30
  refine lv_lstore_n (lv' := [(1, .long (jn (jn (jn 2297 (lN now)) (lN n)) (lN lim))), (0, .ref (a 0))]) hx hb dX1_digest_33 rfl hl (by decide) rfl (fun ls hl => ?_)
  refine lv_lload_n hx hb dX1_digest_34 rfl (lv_at hl 0 rfl) ?_
  refine lv_aload_n hx hb dX1_digest_35 rfl (lv_at hl 1 rfl) ?_
  refine cmV_i (rest := [.long (jn (jn (jn 2297 (lN now)) (lN n)) (lN lim))]) (As := []) ⟨hx, hb, hml, hown, hts⟩ (c_X1_power l E _ a mc n now lim F lit fo hO) (cwV 0 hts gX1_digest_X1_power rfl rfl rfl (by decide +kernel) ⟨Nat.le_of_ble_eq_true rfl, Nat.le_of_ble_eq_true rfl⟩) (va_recv hK hP (ci := 2) (q0 := 0) rfl wC_x) hP hK hD hS hA rfl hl.1 rfl (Nat.le_of_ble_eq_true rfl) dX1_digest_36 ⟨Nat.le_of_ble_eq_true rfl, Nat.le_of_ble_eq_true rfl⟩ (fun r36 u36 H locs hr36 hP hD hS => ?_)
  subst hr36
  refine lv_i2l (v := lN (acS F lim now n)) hx hb dX1_digest_39 (nI_l (by omega)) ?_
  refine csS_l (rest := []) (As := [.long (jn (jn (jn 2297 (lN now)) (lN n)) (lN lim)), .long (lN (acS F lim now n))]) ⟨hx, hb, hml, hown, hts⟩ (c_X1_joined l E _ (jn (jn (jn 2297 (lN now)) (lN n)) (lN lim)) (lN (acS F lim now n))) (va_cwS 2 hts gX1_digest_X1_joined rfl rfl rfl (by decide +kernel) ⟨Nat.le_of_ble_eq_true rfl, Nat.le_of_ble_eq_true rfl⟩) hP hK rfl hl.1 rfl (Nat.le_of_ble_eq_true rfl) dX1_digest_40 (Nat.le_of_ble_eq_true rfl) (Nat.le_of_ble_eq_true rfl) (fun r40 hr40 => ?_)
  subst hr40
  refine lv_lstore_n (lv' := [(1, .long (jn (jn (jn (jn 2297 (lN now)) (lN n)) (lN lim)) (lN (acS F lim now n)))), (0, .ref (a 0))]) hx hb dX1_digest_43 rfl hl (by decide) rfl (fun ls hl => ?_)
  refine lv_lload_n hx hb dX1_digest_44 rfl (lv_at hl 0 rfl) ?_
  refine lv_aload_n hx hb dX1_digest_45 rfl (lv_at hl 1 rfl) ?_
  refine cmV_i (rest := [.long (jn (jn (jn (jn 2297 (lN now)) (lN n)) (lN lim)) (lN (acS F lim now n)))]) (As := []) ⟨hx, hb, hml, hown, hts⟩ (c_X1_unfairness l E _ a mc n now lim F u36 fo hO  (by omega)) (cwV 0 hts gX1_digest_X1_unfairness rfl rfl rfl (by decide +kernel) ⟨Nat.le_of_ble_eq_true rfl, Nat.le_of_ble_eq_true rfl⟩) (va_recv hK hP (ci := 2) (q0 := 0) rfl wC_x) hP hK hD hS hA rfl hl.1 rfl (Nat.le_of_ble_eq_true rfl) dX1_digest_46 ⟨Nat.le_of_ble_eq_true rfl, Nat.le_of_ble_eq_true rfl⟩ (fun r46 u46 H locs hr46 hP hD hS => ?_)
  subst hr46
  refine lv_i2l (v := lN (unfS F n)) hx hb dX1_digest_49 (nI_l (by omega)) ?_
  refine csS_l (rest := []) (As := [.long (jn (jn (jn (jn 2297 (lN now)) (lN n)) (lN lim)) (lN (acS F lim now n))), .long (lN (unfS F n))]) ⟨hx, hb, hml, hown, hts⟩ (c_X1_joined l E _ (jn (jn (jn (jn 2297 (lN now)) (lN n)) (lN lim)) (lN (acS F lim now n))) (lN (unfS F n))) (va_cwS 2 hts gX1_digest_X1_joined rfl rfl rfl (by decide +kernel) ⟨Nat.le_of_ble_eq_true rfl, Nat.le_of_ble_eq_true rfl⟩) hP hK rfl hl.1 rfl (Nat.le_of_ble_eq_true rfl) dX1_digest_50 (Nat.le_of_ble_eq_true rfl) (Nat.le_of_ble_eq_true rfl) (fun r50 hr50 => ?_)
  subst hr50
  refine lv_lstore_n (lv' := [(1, .long (jn (jn (jn (jn (jn 2297 (lN now)) (lN n)) (lN lim)) (lN (acS F lim now n))) (lN (unfS F n)))), (0, .ref (a 0))]) hx hb dX1_digest_53 rfl hl (by decide) rfl (fun ls hl => ?_)
  refine lv_lload_n hx hb dX1_digest_54 rfl (lv_at hl 0 rfl) ?_
  refine lv_aload_n hx hb dX1_digest_55 rfl (lv_at hl 1 rfl) ?_
  refine csV_l (rest := [.long (jn (jn (jn (jn (jn 2297 (lN now)) (lN n)) (lN lim)) (lN (acS F lim now n))) (lN (unfS F n)))]) (As := []) ⟨hx, hb, hml, hown, hts⟩ (c_X1_together l E _ a n now lim F u46.1 u46.2 CV_self hO) (cwV 0 hts gX1_digest_X1_together rfl rfl rfl (by decide +kernel) ⟨Nat.le_of_ble_eq_true rfl, Nat.le_of_ble_eq_true rfl⟩) (va_recv hK hP (ci := 2) (q0 := 0) rfl wC_x) hP hK rfl hl.1 rfl (Nat.le_of_ble_eq_true rfl) dX1_digest_56 (Nat.le_of_ble_eq_true rfl) (Nat.le_of_ble_eq_true rfl) (fun r56 hr56 => ?_)
  subst hr56
  refine csS_l (rest := []) (As := [.long (jn (jn (jn (jn (jn 2297 (lN now)) (lN n)) (lN lim)) (lN (acS F lim now n))) (lN (unfS F n))), .long (lN (lcmS F n))]) ⟨hx, hb, hml, hown, hts⟩ (c_X1_joined l E _ (jn (jn (jn (jn (jn 2297 (lN now)) (lN n)) (lN lim)) (lN (acS F lim now n))) (lN (unfS F n))) (lN (lcmS F n))) (va_cwS 2 hts gX1_digest_X1_joined rfl rfl rfl (by decide +kernel) ⟨Nat.le_of_ble_eq_true rfl, Nat.le_of_ble_eq_true rfl⟩) hP hK rfl hl.1 rfl (Nat.le_of_ble_eq_true rfl) dX1_digest_59 (Nat.le_of_ble_eq_true rfl) (Nat.le_of_ble_eq_true rfl) (fun r59 hr59 => ?_)
  subst hr59
  refine lv_lstore_n (lv' := [(1, .long (jn (jn (jn (jn (jn (jn 2297 (lN now)) (lN n)) (lN lim)) (lN (acS F lim now n))) (lN (unfS F n))) (lN (lcmS F n)))), (0, .ref (a 0))]) hx hb dX1_digest_62 rfl hl (by decide) rfl (fun ls hl => ?_)
  refine lv_lload_n hx hb dX1_digest_63 rfl (lv_at hl 0 rfl) ?_
  refine lv_aload_n hx hb dX1_digest_64 rfl (lv_at hl 1 rfl) ?_
  refine csV_i (rest := [.long (jn (jn (jn (jn (jn (jn 2297 (lN now)) (lN n)) (lN lim)) (lN (acS F lim now n))) (lN (unfS F n))) (lN (lcmS F n)))]) (As := []) ⟨hx, hb, hml, hown, hts⟩ (c_X1_apart l E _ a n now lim F u46.1 u46.2 CV_self hO) (cwV 0 hts gX1_digest_X1_apart rfl rfl rfl (by decide +kernel) ⟨Nat.le_of_ble_eq_true rfl, Nat.le_of_ble_eq_true rfl⟩) (va_recv hK hP (ci := 2) (q0 := 0) rfl wC_x) hP hK rfl hl.1 rfl (Nat.le_of_ble_eq_true rfl) dX1_digest_65 (Nat.le_of_ble_eq_true rfl) (Nat.le_of_ble_eq_true rfl) (fun r65 hr65 => ?_)
  subst hr65
  refine lv_i2l (v := lN (apS F n n)) hx hb dX1_digest_68 (nI_l (by omega)) ?_
  refine csS_l (rest := []) (As := [.long (jn (jn (jn (jn (jn (jn 2297 (lN now)) (lN n)) (lN lim)) (lN (acS F lim now n))) (lN (unfS F n))) (lN (lcmS F n))), .long (lN (apS F n n))]) ⟨hx, hb, hml, hown, hts⟩ (c_X1_joined l E _ (jn (jn (jn (jn (jn (jn 2297 (lN now)) (lN n)) (lN lim)) (lN (acS F lim now n))) (lN (unfS F n))) (lN (lcmS F n))) (lN (apS F n n))) (va_cwS 2 hts gX1_digest_X1_joined rfl rfl rfl (by decide +kernel) ⟨Nat.le_of_ble_eq_true rfl, Nat.le_of_ble_eq_true rfl⟩) hP hK rfl hl.1 rfl (Nat.le_of_ble_eq_true rfl) dX1_digest_69 (Nat.le_of_ble_eq_true rfl) (Nat.le_of_ble_eq_true rfl) (fun r69 hr69 => ?_)
  subst hr69
  refine lv_lstore_n (lv' := [(1, .long (jn (jn (jn (jn (jn (jn (jn 2297 (lN now)) (lN n)) (lN lim)) (lN (acS F lim now n))) (lN (unfS F n))) (lN (lcmS F n))) (lN (apS F n n)))), (0, .ref (a 0))]) hx hb dX1_digest_72 rfl hl (by decide) rfl (fun ls hl => ?_)
  refine lv_lload_n hx hb dX1_digest_73 rfl (lv_at hl 0 rfl) ?_
  refine lv_aload_n hx hb dX1_digest_74 rfl (lv_at hl 1 rfl) ?_
  refine lv_bipush (v := (nI 12)) hx hb dX1_digest_75 (by decide) ?_
  refine cmV_i (rest := [.long (jn (jn (jn (jn (jn (jn (jn 2297 (lN now)) (lN n)) (lN lim)) (lN (acS F lim now n))) (lN (unfS F n))) (lN (lcmS F n))) (lN (apS F n n)))]) (As := [.int (nI 12)]) ⟨hx, hb, hml, hown, hts⟩ (c_X1_brightest l E _ a mc n now lim F u46.1 u46.2 hO 12 (by omega)) (cwV 1 hts gX1_digest_X1_brightest rfl rfl rfl (by decide +kernel) ⟨Nat.le_of_ble_eq_true rfl, Nat.le_of_ble_eq_true rfl⟩) (va_recv hK hP (ci := 2) (q0 := 0) rfl wC_x) hP hK hD hS hA rfl hl.1 rfl (Nat.le_of_ble_eq_true rfl) dX1_digest_77 ⟨Nat.le_of_ble_eq_true rfl, Nat.le_of_ble_eq_true rfl⟩ (fun r77 u77 H locs hr77 hP hD hS => ?_)
  subst hr77
  refine lv_i2l (v := lN (mxA F lim now n 12)) hx hb dX1_digest_80 (nI_l (by omega)) ?_
  refine csS_l (rest := []) (As := [.long (jn (jn (jn (jn (jn (jn (jn 2297 (lN now)) (lN n)) (lN lim)) (lN (acS F lim now n))) (lN (unfS F n))) (lN (lcmS F n))) (lN (apS F n n))), .long (lN (mxA F lim now n 12))]) ⟨hx, hb, hml, hown, hts⟩ (c_X1_joined l E _ (jn (jn (jn (jn (jn (jn (jn 2297 (lN now)) (lN n)) (lN lim)) (lN (acS F lim now n))) (lN (unfS F n))) (lN (lcmS F n))) (lN (apS F n n))) (lN (mxA F lim now n 12))) (va_cwS 2 hts gX1_digest_X1_joined rfl rfl rfl (by decide +kernel) ⟨Nat.le_of_ble_eq_true rfl, Nat.le_of_ble_eq_true rfl⟩) hP hK rfl hl.1 rfl (Nat.le_of_ble_eq_true rfl) dX1_digest_81 (Nat.le_of_ble_eq_true rfl) (Nat.le_of_ble_eq_true rfl) (fun r81 hr81 => ?_)
  subst hr81
  refine lv_lstore_n (lv' := [(1, .long (jn (jn (jn (jn (jn (jn (jn (jn 2297 (lN now)) (lN n)) (lN lim)) (lN (acS F lim now n))) (lN (unfS F n))) (lN (lcmS F n))) (lN (apS F n n))) (lN (mxA F lim now n 12)))), (0, .ref (a 0))]) hx hb dX1_digest_84 rfl hl (by decide) rfl (fun ls hl => ?_)
  refine lv_lload_n hx hb dX1_digest_85 rfl (lv_at hl 0 rfl) ?_
  refine lv_aload_n hx hb dX1_digest_86 rfl (lv_at hl 1 rfl) ?_
  refine lv_bipush (v := (nI 12)) hx hb dX1_digest_87 (by decide) ?_
  refine cmV_i (rest := [.long (jn (jn (jn (jn (jn (jn (jn (jn 2297 (lN now)) (lN n)) (lN lim)) (lN (acS F lim now n))) (lN (unfS F n))) (lN (lcmS F n))) (lN (apS F n n))) (lN (mxA F lim now n 12)))]) (As := [.int (nI 12)]) ⟨hx, hb, hml, hown, hts⟩ (c_X1_unfairnessIn l E _ a mc n now lim F u77 u46.2 hO 12 (by omega) (by omega)) (cwV 1 hts gX1_digest_X1_unfairnessIn rfl rfl rfl (by decide +kernel) ⟨Nat.le_of_ble_eq_true rfl, Nat.le_of_ble_eq_true rfl⟩) (va_recv hK hP (ci := 2) (q0 := 0) rfl wC_x) hP hK hD hS hA rfl hl.1 rfl (Nat.le_of_ble_eq_true rfl) dX1_digest_89 ⟨Nat.le_of_ble_eq_true rfl, Nat.le_of_ble_eq_true rfl⟩ (fun r89 u89 H locs hr89 hP hD hS => ?_)
  subst hr89
  refine lv_i2l (v := lN (unfS (passF F lim now n 12) n)) hx hb dX1_digest_92 (nI_l (by omega)) ?_
  refine csS_l (rest := []) (As := [.long (jn (jn (jn (jn (jn (jn (jn (jn 2297 (lN now)) (lN n)) (lN lim)) (lN (acS F lim now n))) (lN (unfS F n))) (lN (lcmS F n))) (lN (apS F n n))) (lN (mxA F lim now n 12))), .long (lN (unfS (passF F lim now n 12) n))]) ⟨hx, hb, hml, hown, hts⟩ (c_X1_joined l E _ (jn (jn (jn (jn (jn (jn (jn (jn 2297 (lN now)) (lN n)) (lN lim)) (lN (acS F lim now n))) (lN (unfS F n))) (lN (lcmS F n))) (lN (apS F n n))) (lN (mxA F lim now n 12))) (lN (unfS (passF F lim now n 12) n))) (va_cwS 2 hts gX1_digest_X1_joined rfl rfl rfl (by decide +kernel) ⟨Nat.le_of_ble_eq_true rfl, Nat.le_of_ble_eq_true rfl⟩) hP hK rfl hl.1 rfl (Nat.le_of_ble_eq_true rfl) dX1_digest_93 (Nat.le_of_ble_eq_true rfl) (Nat.le_of_ble_eq_true rfl) (fun r93 hr93 => ?_)
  subst hr93
  refine lv_lstore_n (lv' := [(1, .long (jn (jn (jn (jn (jn (jn (jn (jn (jn 2297 (lN now)) (lN n)) (lN lim)) (lN (acS F lim now n))) (lN (unfS F n))) (lN (lcmS F n))) (lN (apS F n n))) (lN (mxA F lim now n 12))) (lN (unfS (passF F lim now n 12) n)))), (0, .ref (a 0))]) hx hb dX1_digest_96 rfl hl (by decide) rfl (fun ls hl => ?_)
  refine lv_lload_n hx hb dX1_digest_97 rfl (lv_at hl 0 rfl) ?_
  refine lv_aload_n hx hb dX1_digest_98 rfl (lv_at hl 1 rfl) ?_
  refine lv_bipush (v := (nI 12)) hx hb dX1_digest_99 (by decide) ?_
  refine csV_i (rest := [.long (jn (jn (jn (jn (jn (jn (jn (jn (jn 2297 (lN now)) (lN n)) (lN lim)) (lN (acS F lim now n))) (lN (unfS F n))) (lN (lcmS F n))) (lN (apS F n n))) (lN (mxA F lim now n 12))) (lN (unfS (passF F lim now n 12) n)))]) (As := [.int (nI 12)]) ⟨hx, hb, hml, hown, hts⟩ (c_X1_limitWanted l E _ a n now lim F u89.1 u89.2 CV_self hO 12 (by omega)) (cwV 1 hts gX1_digest_X1_limitWanted rfl rfl rfl (by decide +kernel) ⟨Nat.le_of_ble_eq_true rfl, Nat.le_of_ble_eq_true rfl⟩) (va_recv hK hP (ci := 2) (q0 := 0) rfl wC_x) hP hK rfl hl.1 rfl (Nat.le_of_ble_eq_true rfl) dX1_digest_101 (Nat.le_of_ble_eq_true rfl) (Nat.le_of_ble_eq_true rfl) (fun r101 hr101 => ?_)
  subst hr101
  refine lv_i2l (v := lN (mxD F now n 12)) hx hb dX1_digest_104 (nI_l (by omega)) ?_
  refine csS_l (rest := []) (As := [.long (jn (jn (jn (jn (jn (jn (jn (jn (jn 2297 (lN now)) (lN n)) (lN lim)) (lN (acS F lim now n))) (lN (unfS F n))) (lN (lcmS F n))) (lN (apS F n n))) (lN (mxA F lim now n 12))) (lN (unfS (passF F lim now n 12) n))), .long (lN (mxD F now n 12))]) ⟨hx, hb, hml, hown, hts⟩ (c_X1_joined l E _ (jn (jn (jn (jn (jn (jn (jn (jn (jn 2297 (lN now)) (lN n)) (lN lim)) (lN (acS F lim now n))) (lN (unfS F n))) (lN (lcmS F n))) (lN (apS F n n))) (lN (mxA F lim now n 12))) (lN (unfS (passF F lim now n 12) n))) (lN (mxD F now n 12))) (va_cwS 2 hts gX1_digest_X1_joined rfl rfl rfl (by decide +kernel) ⟨Nat.le_of_ble_eq_true rfl, Nat.le_of_ble_eq_true rfl⟩) hP hK rfl hl.1 rfl (Nat.le_of_ble_eq_true rfl) dX1_digest_105 (Nat.le_of_ble_eq_true rfl) (Nat.le_of_ble_eq_true rfl) (fun r105 hr105 => ?_)
  subst hr105
  refine lv_lstore_n (lv' := [(1, .long (jn (jn (jn (jn (jn (jn (jn (jn (jn (jn 2297 (lN now)) (lN n)) (lN lim)) (lN (acS F lim now n))) (lN (unfS F n))) (lN (lcmS F n))) (lN (apS F n n))) (lN (mxA F lim now n 12))) (lN (unfS (passF F lim now n 12) n))) (lN (mxD F now n 12)))), (0, .ref (a 0))]) hx hb dX1_digest_108 rfl hl (by decide) rfl (fun ls hl => ?_)
  refine lv_iconst (v := (nI 0)) hx hb dX1_digest_109 (by decide) ?_
  refine lv_istore_n (lv' := [(3, .int (nI 0)), (1, .long (jn (jn (jn (jn (jn (jn (jn (jn (jn (jn 2297 (lN now)) (lN n)) (lN lim)) (lN (acS F lim now n))) (lN (unfS F n))) (lN (lcmS F n))) (lN (apS F n n))) (lN (mxA F lim now n 12))) (lN (unfS (passF F lim now n 12) n))) (lN (mxD F now n 12)))), (0, .ref (a 0))]) hx hb dX1_digest_110 rfl hl (by decide) rfl (fun ls hl => ?_)
  have loop111 : ∀ (tk : Nat) (k : Nat) (lt : Nat → Bool) (H : Heap) (locs : List Loc) (ls : Array Slot), (k ≤ n) → (n - k) < tk → va_P E.1 vwCl (wC E a mc n now lim (LF F lt u89.2)) H → va_D A (wC E a mc n now lim (LF F lt u89.2)) → va_S A s.heap H locs → lv_has ls 4 [(0, .ref (a 0)), (1, .long (jaS F n now lim (jhS F n now lim) k)), (3, .int (nI k))] → W p l e ({ frames := 7, cells := 0, slots := 0, locals := 156 } : Room) s m args below meth c H locs 0 0 QQ (F0 m 111 ls []) := by
    intro tk
    induction tk with
    | zero => intro k lt H locs ls hk hk hP hD hS hl; exact absurd hk (Nat.not_lt_zero _)
    | succ tk ih111 =>
      intro k lt H locs ls hk hk hP hD hS hl
      refine lv_iload_n hx hb dX1_digest_111 rfl (lv_at hl 2 rfl) ?_
      refine lv_aload_n hx hb dX1_digest_112 rfl (lv_at hl 0 rfl) ?_
      refine va_get (D := E.1) (ci := 2) (v := .ref (a 1)) (C := RX1) (T := TX1) (N := 3) hx hb hts hiX1 hown hK hP 0 wC_x rfl 0 (by decide) (hts (.fieldLink RX1 10 "PulseLoom" "row" "Ljava/util/ArrayList;") (List.mem_of_getElem? (i := 2) (by rfl))) (fun _ h9 => h9) rfl dX1_digest_113 ?_
      refine csV_i (rest := [.int (nI k)]) (As := []) ⟨hx, hb, hml, hown, hts⟩ (c_Jx4a65c_size_8abf5 l E _ 1 _ _ _ n wC_row) (cwV 0 hts gX1_digest_Jx4a65c_size_8abf5 rfl rfl rfl (by decide +kernel) ⟨Nat.le_of_ble_eq_true rfl, Nat.le_of_ble_eq_true rfl⟩) (va_recv hK hP (ci := 0) (q0 := 1) rfl wC_row) hP hK rfl hl.1 rfl (Nat.le_of_ble_eq_true rfl) dX1_digest_116 (Nat.le_of_ble_eq_true rfl) (Nat.le_of_ble_eq_true rfl) (fun r116 hr116 => ?_)
      subst hr116
      refine nq_icmp_ge (tgt := 135) hx hb dX1_digest_119 (by decide) (by omega) (by omega) (fun h119 => ?_) (fun h119 => ?_)
      · skip
        refine lv_iconst (v := (nI 0)) hx hb dX1_digest_135 (by decide) ?_
        refine lv_istore_n (lv' := [(3, .int (nI 0)), (0, .ref (a 0)), (1, .long (jaS F n now lim (jhS F n now lim) k))]) hx hb dX1_digest_136 rfl hl (by decide) rfl (fun ls hl => ?_)
        have loop137 : ∀ (tk : Nat) (c9 : Nat) (H : Heap) (locs : List Loc) (ls : Array Slot), (c9 ≤ 6) → (6 - c9) < tk → va_P E.1 vwCl (wC E a mc n now lim (LF F lt u89.2)) H → va_D A (wC E a mc n now lim (LF F lt u89.2)) → va_S A s.heap H locs → lv_has ls 4 [(0, .ref (a 0)), (1, .long (jcS F n (jaS F n now lim (jhS F n now lim) n) c9)), (3, .int (nI c9))] → W p l e ({ frames := 7, cells := 0, slots := 0, locals := 156 } : Room) s m args below meth c H locs 0 0 QQ (F0 m 137 ls []) := by
          intro tk
          induction tk with
          | zero => intro c9 H locs ls hc9 hk hP hD hS hl; exact absurd hk (Nat.not_lt_zero _)
          | succ tk ih137 =>
            intro c9 H locs ls hc9 hk hP hD hS hl
            have hsn := seenS_le hO c9 n (Nat.le_refl _)
            have hs2 : n * 100000000 ≤ 8 * 100000000 := Nat.mul_le_mul_right _ hO1
            refine lv_iload_n hx hb dX1_digest_137 rfl (lv_at hl 2 rfl) ?_
            refine lv_bipush (v := (nI 6)) hx hb dX1_digest_138 (by decide) ?_
            refine nq_icmp_ge (tgt := 160) hx hb dX1_digest_140 (by decide) (by omega) (by omega) (fun h140 => ?_) (fun h140 => ?_)
            · skip
              refine lv_lload_n hx hb dX1_digest_160 rfl (lv_at hl 1 rfl) ?_
              rw [hQ]
              exact retM_l (E := E) (A0 := A) (v := jcS F n (jaS F n now lim (jhS F n now lim) n) c9) (post := fun r _ => r = digS F n now lim) (u := (lt, u89.2)) (W1 := fun u => wC E a mc n now lim (LF F u.1 u.2)) hx hb hr hlocks hP hK hD hS (by rw [show c9 = 6 by omega]; rfl) dX1_digest_161
            · skip
              refine lv_lload_n hx hb dX1_digest_143 rfl (lv_at hl 1 rfl) ?_
              refine lv_aload_n hx hb dX1_digest_144 rfl (lv_at hl 0 rfl) ?_
              refine lv_iload_n hx hb dX1_digest_145 rfl (lv_at hl 2 rfl) ?_
              refine csV_i (rest := [.long (jcS F n (jaS F n now lim (jhS F n now lim) n) c9)]) (As := [.int (nI c9)]) ⟨hx, hb, hml, hown, hts⟩ (c_X1_seen l E _ a n now lim F lt u89.2 CV_self hO c9 (by omega)) (cwV 1 hts gX1_digest_X1_seen rfl rfl rfl (by decide +kernel) ⟨Nat.le_of_ble_eq_true rfl, Nat.le_of_ble_eq_true rfl⟩) (va_recv hK hP (ci := 2) (q0 := 0) rfl wC_x) hP hK rfl hl.1 rfl (Nat.le_of_ble_eq_true rfl) dX1_digest_146 (Nat.le_of_ble_eq_true rfl) (Nat.le_of_ble_eq_true rfl) (fun r146 hr146 => ?_)
              subst hr146
              refine lv_i2l (v := lN (seenS F c9 n)) hx hb dX1_digest_149 (nI_l (by omega)) ?_
              refine csS_l (rest := []) (As := [.long (jcS F n (jaS F n now lim (jhS F n now lim) n) c9), .long (lN (seenS F c9 n))]) ⟨hx, hb, hml, hown, hts⟩ (c_X1_joined l E _ (jcS F n (jaS F n now lim (jhS F n now lim) n) c9) (lN (seenS F c9 n))) (va_cwS 2 hts gX1_digest_X1_joined rfl rfl rfl (by decide +kernel) ⟨Nat.le_of_ble_eq_true rfl, Nat.le_of_ble_eq_true rfl⟩) hP hK rfl hl.1 rfl (Nat.le_of_ble_eq_true rfl) dX1_digest_150 (Nat.le_of_ble_eq_true rfl) (Nat.le_of_ble_eq_true rfl) (fun r150 hr150 => ?_)
              subst hr150
              refine lv_lstore_n (lv' := [(1, .long (jn (jcS F n (jaS F n now lim (jhS F n now lim) n) c9) (lN (seenS F c9 n)))), (0, .ref (a 0)), (3, .int (nI c9))]) hx hb dX1_digest_153 rfl hl (by decide) rfl (fun ls hl => ?_)
              refine nq_inc (lv' := [(3, .int (nI (c9 + 1))), (1, .long (jn (jcS F n (jaS F n now lim (jhS F n now lim) n) c9) (lN (seenS F c9 n)))), (0, .ref (a 0))]) hx hb dX1_digest_154 (d := 1) rfl hl (k := 2) rfl (by decide) rfl (fun ls hl => ?_)
              refine lv_goto (tgt := 137) hx hb dX1_digest_157 (by decide) ?_
              have hl : lv_has ls 4 [(3, .int (nI (c9 + 1))), (1, .long (jcS F n (jaS F n now lim (jhS F n now lim) n) (c9 + 1))), (0, .ref (a 0))] := lv_rep hl 1 rfl (congrArg Value.long (show (jn (jcS F n (jaS F n now lim (jhS F n now lim) n) c9) (lN (seenS F c9 n))) = (jcS F n (jaS F n now lim (jhS F n now lim) n) (c9 + 1)) from rfl))
              exact ih137 (c9 + 1) _ _ ls (by omega) (by omega) hP hD hS (lv_sub hl [2, 1, 0] rfl)
        have hl : lv_has ls 4 [(3, .int (nI 0)), (0, .ref (a 0)), (1, .long (jcS F n (jaS F n now lim (jhS F n now lim) n) 0))] := lv_rep hl 2 rfl (congrArg Value.long (show (jaS F n now lim (jhS F n now lim) k) = (jcS F n (jaS F n now lim (jhS F n now lim) n) 0) from by rw [show k = n by omega]; rfl))
        exact loop137 ((6 - 0) + 1) 0 _ _ ls (by omega) (Nat.lt_succ_self _) hP hD hS (lv_sub hl [1, 2, 0] rfl)
      · skip
        refine lv_aload_n hx hb dX1_digest_122 rfl (lv_at hl 0 rfl) ?_
        refine lv_lload_n hx hb dX1_digest_123 rfl (lv_at hl 1 rfl) ?_
        refine lv_iload_n hx hb dX1_digest_124 rfl (lv_at hl 2 rfl) ?_
        refine cmV_l (rest := []) (As := [.long (jaS F n now lim (jhS F n now lim) k), .int (nI k)]) ⟨hx, hb, hml, hown, hts⟩ (c_X1_joinedWithLamp l E _ a mc n now lim F lt u89.2 hO (jaS F n now lim (jhS F n now lim) k) k (by omega)) (cwV 2 hts gX1_digest_X1_joinedWithLamp rfl rfl rfl (by decide +kernel) ⟨Nat.le_of_ble_eq_true rfl, Nat.le_of_ble_eq_true rfl⟩) (va_recv hK hP (ci := 2) (q0 := 0) rfl wC_x) hP hK hD hS hA rfl hl.1 rfl (Nat.le_of_ble_eq_true rfl) dX1_digest_125 ⟨Nat.le_of_ble_eq_true rfl, Nat.le_of_ble_eq_true rfl⟩ (fun r125 u125 H locs hr125 hP hD hS => ?_)
        subst hr125
        refine lv_lstore_n (lv' := [(1, .long (jlS F n now lim k (jaS F n now lim (jhS F n now lim) k))), (0, .ref (a 0)), (3, .int (nI k))]) hx hb dX1_digest_128 rfl hl (by decide) rfl (fun ls hl => ?_)
        refine nq_inc (lv' := [(3, .int (nI (k + 1))), (1, .long (jlS F n now lim k (jaS F n now lim (jhS F n now lim) k))), (0, .ref (a 0))]) hx hb dX1_digest_129 (d := 1) rfl hl (k := 2) rfl (by decide) rfl (fun ls hl => ?_)
        refine lv_goto (tgt := 111) hx hb dX1_digest_132 (by decide) ?_
        have hl : lv_has ls 4 [(3, .int (nI (k + 1))), (1, .long (jaS F n now lim (jhS F n now lim) (k + 1))), (0, .ref (a 0))] := lv_rep hl 1 rfl (congrArg Value.long (show (jlS F n now lim k (jaS F n now lim (jhS F n now lim) k)) = (jaS F n now lim (jhS F n now lim) (k + 1)) from rfl))
        exact ih111 (k + 1) u125 _ _ ls (by omega) (by omega) hP hD hS (lv_sub hl [2, 1, 0] rfl)
  have hl : lv_has ls 4 [(3, .int (nI 0)), (1, .long (jaS F n now lim (jhS F n now lim) 0)), (0, .ref (a 0))] := lv_rep hl 1 rfl (congrArg Value.long (show (jn (jn (jn (jn (jn (jn (jn (jn (jn (jn 2297 (lN now)) (lN n)) (lN lim)) (lN (acS F lim now n))) (lN (unfS F n))) (lN (lcmS F n))) (lN (apS F n n))) (lN (mxA F lim now n 12))) (lN (unfS (passF F lim now n 12) n))) (lN (mxD F now n 12))) = (jaS F n now lim (jhS F n now lim) 0) from rfl))
  exact loop111 ((n - 0) + 1) 0 u89.1 _ _ ls (by omega) (Nat.lt_succ_self _) hP hD hS (lv_sub hl [2, 1, 0] rfl)

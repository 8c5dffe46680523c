/-! something that a number chooses, done to both -/
theorem up2_ne {F : LR} {i k v j q : Nat} (h : q ≠ k) : up2 F i k v j q = F j q := if_neg (fun z => h z.2)
theorem ok_add {n now lim k v u z : Nat} {F : LR} (h : OkS n now lim F) (hn : n < 8) (hc9 : k ≤ 5) (hp9 : 2 ≤ v ∧ v ≤ 20) (hl9 : 1 ≤ u ∧ u < v) (hw9 : 1 ≤ z ∧ z ≤ 9) : OkS (n + 1) now lim (up2 (up2 (up2 (up2 F n 2 k) n 0 v) n 4 u) n 1 z) := by
  obtain ⟨h1, h2, h3, h4, h5⟩ := h
  have eo : ∀ i q, i ≠ n → up2 (up2 (up2 (up2 F n 2 k) n 0 v) n 4 u) n 1 z i q = F i q := fun i q hi => by simp [up2, hi]
  refine ⟨by omega, h2, h3, fun i hi => ?_, fun i hi q => ?_⟩
  · by_cases e : i = n
    · subst e
      have z0 : ∀ q, F i q = 0 := h5 i (Nat.le_refl _)
      have e0 : up2 (up2 (up2 (up2 F i 2 k) i 0 v) i 4 u) i 1 z i 0 = v := by simp [up2]
      have e1 : up2 (up2 (up2 (up2 F i 2 k) i 0 v) i 4 u) i 1 z i 1 = z := by simp [up2]
      have e2 : up2 (up2 (up2 (up2 F i 2 k) i 0 v) i 4 u) i 1 z i 2 = k := by simp [up2]
      have e3 : up2 (up2 (up2 (up2 F i 2 k) i 0 v) i 4 u) i 1 z i 3 = 0 := by simp [up2, z0]
      have e4 : up2 (up2 (up2 (up2 F i 2 k) i 0 v) i 4 u) i 1 z i 4 = u := by simp [up2]
      have e5 : up2 (up2 (up2 (up2 F i 2 k) i 0 v) i 4 u) i 1 z i 5 = 0 := by simp [up2, z0]
      have e6 : up2 (up2 (up2 (up2 F i 2 k) i 0 v) i 4 u) i 1 z i 6 = 0 := by simp [up2, z0]
      rw [e0, e1, e2, e3, e4, e5, e6]
      omega
    · rw [eo i 0 e, eo i 1 e, eo i 2 e, eo i 3 e, eo i 4 e, eo i 5 e, eo i 6 e]
      exact h4 i (by omega)
  · rw [eo i q (by omega)]
    exact h5 i (by omega) q
theorem ok_3 {n now lim k v : Nat} {F : LR} (h : OkS n now lim F) (hk : k < n) (hv : v < F k 0) : OkS n now lim (up2 F k 3 v) := by
  obtain ⟨h1, h2, h3, h4, h5⟩ := h
  refine ⟨h1, h2, h3, fun i hi => ?_, fun i hi q => ?_⟩
  · have h6 := h4 i hi
    have a3 : up2 F k 3 v i 3 < F i 0 := by
      unfold up2
      by_cases e : i = k
      · subst e; rw [if_pos ⟨rfl, rfl⟩]; exact hv
      · rw [if_neg (fun z => e z.1)]; omega
    rw [up2_ne (q := 0) (by decide), up2_ne (q := 1) (by decide), up2_ne (q := 2) (by decide), up2_ne (q := 4) (by decide), up2_ne (q := 5) (by decide), up2_ne (q := 6) (by decide)]
    omega
  · unfold up2
    rw [if_neg (fun z => by omega)]
    exact h5 i hi q
theorem ok_4 {n now lim k v : Nat} {F : LR} (h : OkS n now lim F) (hk : k < n) (hv : 1 ≤ v ∧ v < F k 0) : OkS n now lim (up2 F k 4 v) := by
  obtain ⟨h1, h2, h3, h4, h5⟩ := h
  refine ⟨h1, h2, h3, fun i hi => ?_, fun i hi q => ?_⟩
  · have h6 := h4 i hi
    have a3 : 1 ≤ up2 F k 4 v i 4 ∧ up2 F k 4 v i 4 < F i 0 := by
      unfold up2
      by_cases e : i = k
      · subst e; rw [if_pos ⟨rfl, rfl⟩]; exact hv
      · rw [if_neg (fun z => e z.1)]; omega
    rw [up2_ne (q := 0) (by decide), up2_ne (q := 1) (by decide), up2_ne (q := 2) (by decide), up2_ne (q := 3) (by decide), up2_ne (q := 5) (by decide), up2_ne (q := 6) (by decide)]
    omega
  · unfold up2
    rw [if_neg (fun z => by omega)]
    exact h5 i hi q
theorem ok_2 {n now lim k v : Nat} {F : LR} (h : OkS n now lim F) (hk : k < n) (hv : v ≤ 5) : OkS n now lim (up2 F k 2 v) := by
  obtain ⟨h1, h2, h3, h4, h5⟩ := h
  refine ⟨h1, h2, h3, fun i hi => ?_, fun i hi q => ?_⟩
  · have h6 := h4 i hi
    have a3 : up2 F k 2 v i 2 ≤ 5 := by
      unfold up2
      by_cases e : i = k
      · subst e; rw [if_pos ⟨rfl, rfl⟩]; exact hv
      · rw [if_neg (fun z => e z.1)]; omega
    rw [up2_ne (q := 0) (by decide), up2_ne (q := 1) (by decide), up2_ne (q := 3) (by decide), up2_ne (q := 4) (by decide), up2_ne (q := 5) (by decide), up2_ne (q := 6) (by decide)]
    omega
  · unfold up2
    rw [if_neg (fun z => by omega)]
    exact h5 i hi q
theorem ok_lim {n now lim v : Nat} {F : LR} (h : OkS n now lim F) (hv : v ≤ 99) : OkS n now v F := ⟨h.1, h.2.1, hv, h.2.2.2⟩
theorem up4_c {F : LR} {n k v u z : Nat} : up2 (up2 (up2 (up2 F n 2 k) n 0 v) n 4 u) n 1 z n 2 = k := by simp [up2]
theorem up4_u {F : LR} {n k v u z : Nat} : up2 (up2 (up2 (up2 F n 2 k) n 0 v) n 4 u) n 1 z n 4 = u := by simp [up2]
theorem up4_z {F : LR} {n k v u z : Nat} : up2 (up2 (up2 (up2 F n 2 k) n 0 v) n 4 u) n 1 z n 1 = z := by simp [up2]
abbrev STT : Type := (Nat → Nat) × Int32 × Nat × Nat × Nat × LR × (Nat → Bool) × (Nat → Nat) × (Nat → Nat)
/-- the cells of both sides, over one picture -/
def wU (E : GE) (u : STT) : va_W := wC E u.1 u.2.1 u.2.2.1 u.2.2.2.1 u.2.2.2.2.1 (LF u.2.2.2.2.2.1 u.2.2.2.2.2.2.1 u.2.2.2.2.2.2.2.1) ++ wS E u.2.2.2.2.2.2.2.2 u.2.2.1 u.2.2.2.1 u.2.2.2.2.1 u.2.2.2.2.2.1
/-- what something done to both leaves -/
def AR (a b : Nat → Nat) (n now : Nat) (x : Int32) (u : STT) : Prop := u.1 0 = a 0 ∧ u.2.2.2.2.2.2.2.2 0 = b 0 ∧ OkS u.2.2.1 u.2.2.2.1 u.2.2.2.2.1 u.2.2.2.2.2.1 ∧ u.2.2.2.1 ≤ now + 200 ∧ n ≤ u.2.2.1 ∧ 1 ≤ u.2.2.1 ∧ (n < 8 → bl x 11 = 0 → u.2.2.1 = n + 1)
section ASW
variable {p : Program} {l : Launch} {e : Env} {R : Room} {s : State} {m : MethodId} {args : Array Value} {below : List Frame} {meth : Method} {c : Code} {H : Heap} {locs : List Loc} {cells slots : Nat} {Q : State → Prop}
variable {ls : Array Slot} {rest : List Value}
theorem act_sw (hx : p.tables.exec = Jvm.exec) (hb : c.code = cL_act) {y : Nat} (hy : 1 ≤ y ∧ y ≤ 10)
    (k1 : W p l e R s m args below meth c H locs cells slots Q (F0 m 216 ls rest)) (k2 : W p l e R s m args below meth c H locs cells slots Q (F0 m 257 ls rest)) (k3 : W p l e R s m args below meth c H locs cells slots Q (F0 m 302 ls rest)) (k4 : W p l e R s m args below meth c H locs cells slots Q (F0 m 382 ls rest)) (k5 : W p l e R s m args below meth c H locs cells slots Q (F0 m 435 ls rest)) : W p l e R s m args below meth c H locs cells slots Q (F0 m 183 ls (.int (nI y) :: rest)) := by
  rcases Nat.lt_or_ge y 6 with h | h
  · match y, hy, h with
    | 0, hy, _ => exact absurd hy.1 (by omega)
    | 1, _, _ => exact lv_tableIn (x := nI 1) (off := 33) (tgt := 216) hx hb dL_act_183 (by decide) (by decide) (by rfl) (by decide) k1
    | 2, _, _ => exact lv_tableIn (x := nI 2) (off := 33) (tgt := 216) hx hb dL_act_183 (by decide) (by decide) (by rfl) (by decide) k1
    | 3, _, _ => exact lv_tableIn (x := nI 3) (off := 74) (tgt := 257) hx hb dL_act_183 (by decide) (by decide) (by rfl) (by decide) k2
    | 4, _, _ => exact lv_tableIn (x := nI 4) (off := 119) (tgt := 302) hx hb dL_act_183 (by decide) (by decide) (by rfl) (by decide) k3
    | 5, _, _ => exact lv_tableIn (x := nI 5) (off := 199) (tgt := 382) hx hb dL_act_183 (by decide) (by decide) (by rfl) (by decide) k4
    | z + 6, _, h => exact absurd h (by omega)
  · exact lv_tableOut (x := nI y) (tgt := 435) hx hb dL_act_183 (Or.inr (by rw [nI_toInt (by omega)]; omega)) (by decide) k5
end ASW

set_option maxHeartbeats 4000000 in
set_option maxRecDepth 100000 in
/-- act(the class, by hand, x) -/
theorem c_L_act (l : Launch) (E : GE) (sz : Nat) (z0 : Nat) (a : Nat → Nat) (mc : Int32) (n now lim : Nat) (F : LR) (lit : Nat → Bool) (fo : Nat → Nat) (b : Nat → Nat) (hO : OkS n now lim F) (hz : n = 0 → a 2 = z0) (hnow : now ≤ 90000) (x : Int32) : Met l yL_act wsL_act ({ frames := 6, cells := 200, slots := 1600, locals := 134 } : Room) (va_Pc [.ref (a 0), .ref (b 0), .int x] (pcZ E (wC E a mc n now lim (LF F lit fo) ++ wS E b n now lim F) sz z0)) (va_Qi (S := STT) (fun r u => r = bI true ∧ AR a b n now x u) (fun uQ tQ => atM E (va_A (wC E a mc n now lim (LF F lit fo) ++ wS E b n now lim F) sz) ((fun u => wU E u) uQ) tQ) (va_A (wC E a mc n now lim (LF F lit fo) ++ wS E b n now lim F) sz)) 200 1600 (va_A (wC E a mc n now lim (LF F lit fo) ++ wS E b n now lim F) sz) := by
  refine metZ (by decide) rfl (Nat.le_of_ble_eq_true rfl) ?_
  intro p e s m args below meth c ls A hAe hA hx hb hr hml hts hown hlocks hin hP hK hD hZ hS hl
  rw [hAe]
  have hiX2 : ∀ q ∈ wsX20, q ∈ wsL_act := by decide +kernel
  obtain ⟨QQ, hQ⟩ : ∃ zQ, zQ = MQ below (va_Qi (S := STT) (fun r u => r = bI true ∧ AR a b n now x u) (fun uQ tQ => atM E A ((fun u => wU E u) uQ) tQ) A) args s 200 1600 A := ⟨_, rfl⟩
  rw [← hQ]
  obtain ⟨hO1, hO2, hO3, hO4, hO5⟩ := id hO
  have hb11 := bl_lt (v := x) (k := 11) (by omega)
  have join19 : ∀  (H : Heap) (locs : List Loc) (ls : Array Slot), (n = 0 ∨ bl x 11 = 0) → va_P E.1 vwCl (wC E a mc n now lim (LF F lit fo) ++ wS E b n now lim F) H → va_D A (wC E a mc n now lim (LF F lit fo) ++ wS E b n now lim F) → va_S A s.heap H locs → lv_has ls 8 [(0, .ref (a 0)), (1, .ref (b 0)), (2, .int x), (3, .int (nI n))] → W p l e ({ frames := 6, cells := 200, slots := 1600, locals := 134 } : Room) s m args below meth c H locs 0 0 QQ (F0 m 19 ls []) := by
    intro H locs ls h19 hP hD hS hl
    refine lv_iload_n hx hb dL_act_19 rfl (lv_at hl 3 rfl) ?_
    refine lv_bipush (v := (nI 8)) hx hb dL_act_20 (by decide) ?_
    refine nq_icmp_ne (tgt := 27) hx hb dL_act_22 (by decide) (by omega) (by omega) (fun h22 => ?_) (fun h22 => ?_)
    · skip
      refine lv_iconst (v := (nI 2)) hx hb dL_act_27 (by decide) ?_
      refine lv_iload_n hx hb dL_act_28 rfl (lv_at hl 2 rfl) ?_
      refine lv_iconst (v := (nI 4)) hx hb dL_act_29 (by decide) ?_
      refine lv_ishr hx hb dL_act_30 ?_
      have join48 : ∀ (kk : Nat) (H : Heap) (locs : List Loc) (ls : Array Slot), (5 ≤ kk ∧ kk ≤ 19) → va_P E.1 vwCl (wC E a mc n now lim (LF F lit fo) ++ wS E b n now lim F) H → va_D A (wC E a mc n now lim (LF F lit fo) ++ wS E b n now lim F) → va_S A s.heap H locs → lv_has ls 8 [(0, .ref (a 0)), (1, .ref (b 0)), (2, .int x), (3, .int (nI n))] → W p l e ({ frames := 6, cells := 200, slots := 1600, locals := 134 } : Room) s m args below meth c H locs 0 0 QQ (F0 m 48 ls [.int (nI kk), .int (x >>> (nI 4 &&& 31)), .int (nI 2)]) := by
        intro kk H locs ls hkk hP hD hS hl
        refine csS_i (rest := [.int (nI 2)]) (As := [.int (x >>> (nI 4 &&& 31)), .int (nI kk)]) ⟨hx, hb, hml, hown, hts⟩ (c_L_below l E _ (x >>> (nI 4 &&& 31)) kk (by omega)) (va_cwS 2 hts gL_act_L_below rfl rfl rfl (by decide +kernel) ⟨Nat.le_of_ble_eq_true rfl, Nat.le_of_ble_eq_true rfl⟩) hP hK rfl hl.1 rfl (Nat.le_of_ble_eq_true rfl) dL_act_48 (Nat.le_of_ble_eq_true rfl) (Nat.le_of_ble_eq_true rfl) (fun r48 hr48 => ?_)
        subst hr48
        refine nq_add hx hb dL_act_51 ?_
        have hbv := bl_lt (v := x >>> (nI 4 &&& 31)) (k := kk) (by omega)
        refine lv_istore (lv' := [(4, .int (nI (2 + (bl (x >>> (nI 4 &&& 31)) kk)))), (0, .ref (a 0)), (1, .ref (b 0)), (2, .int x), (3, .int (nI n))]) hx hb dL_act_52 hl (by decide) rfl (fun ls hl => ?_)
        obtain ⟨pv, epv⟩ : ∃ z9, z9 = 2 + bl (x >>> (nI 4 &&& 31)) kk := ⟨_, rfl⟩
        have hl : lv_has ls 8 [(4, .int (nI pv)), (0, .ref (a 0)), (1, .ref (b 0)), (2, .int x), (3, .int (nI n))] := lv_rep hl 0 rfl (congrArg Value.int (show (nI (2 + (bl (x >>> (nI 4 &&& 31)) kk))) = (nI pv) from congrArg nI epv.symm))
        skip
        refine lv_bipush (v := (nI 7)) hx hb dL_act_54 (by decide) ?_
        refine nq_newa (atype := .int) (N := 7) hx hb (hts (.arrayClass .int) (List.mem_of_getElem? (i := 2) (by rfl))) rfl hK hP hD hS hA (by omega) (by show 0 + 1 ≤ 200; omega) (by show 0 + 7 ≤ 1600; omega) dL_act_56 (fun q56 H hP hD hS => ?_)
        rw [List.append_assoc] at hP hD
        have hP : va_P E.1 vwCl (wC E a mc n now lim (LF F lit fo) ++ (wS E b n now lim F ++ [(q56, .inl (E.2.1, 7, .inl (fun _ => 0)))])) _ := hP
        have hD : va_D A (wC E a mc n now lim (LF F lit fo) ++ (wS E b n now lim F ++ [(q56, .inl (E.2.1, 7, .inl (fun _ => 0)))])) := hD
        refine lv_dup hx hb dL_act_58 rfl ?_
        refine lv_iconst (v := (nI 0)) hx hb dL_act_59 (by decide) ?_
        refine lv_iload_n hx hb dL_act_60 rfl (lv_at hl 3 rfl) ?_
        refine lv_iconst (v := (nI 3)) hx hb dL_act_61 (by decide) ?_
        refine lv_ishr hx hb dL_act_62 ?_
        refine lv_bipush (v := (nI 6)) hx hb dL_act_63 (by decide) ?_
        refine csS_i (rest := [.int (nI 0), .ref q56, .ref q56]) (As := [.int (x >>> ((nI 3) &&& 31)), .int (nI 6)]) ⟨hx, hb, hml, hown, hts⟩ (c_L_below l E _ (x >>> ((nI 3) &&& 31)) 6 (by omega)) (va_cwS 2 hts gL_act_L_below rfl rfl rfl (by decide +kernel) ⟨Nat.le_of_ble_eq_true rfl, Nat.le_of_ble_eq_true rfl⟩) hP hK rfl hl.1 rfl (Nat.le_of_ble_eq_true rfl) dL_act_65 (Nat.le_of_ble_eq_true rfl) (Nat.le_of_ble_eq_true rfl) (fun r65 hr65 => ?_)
        subst hr65
        obtain ⟨ck, eck⟩ : ∃ z9, z9 = bl (x >>> (nI 3 &&& 31)) 6 := ⟨_, rfl⟩
        have hck := bl_lt (v := x >>> (nI 3 &&& 31)) (k := 6) (by omega)
        refine nq_top (show (nI (bl (x >>> ((nI 3) &&& 31)) 6)) = (nI ck) from congrArg nI eck.symm) ?_
        refine va_iast hx hb hK hP hD hS ((wC E a mc n now lim (LF F lit fo)).length + (2 + n)) 0 wS_em rfl (by exact vp_in_nI (by omega) (by omega)) dL_act_68 (fun H locs hP hD hS => ?_)
        rw [wS_ems] at hP hD
        refine lv_dup hx hb dL_act_69 rfl ?_
        refine lv_iconst (v := (nI 1)) hx hb dL_act_70 (by decide) ?_
        refine lv_iload hx hb dL_act_71 (lv_at hl 0 rfl) ?_
        refine va_iast hx hb hK hP hD hS ((wC E a mc n now lim (LF F lit fo)).length + (2 + n)) 0 wS_em rfl (by exact vp_in_nI (by omega) (by omega)) dL_act_73 (fun H locs hP hD hS => ?_)
        rw [wS_ems] at hP hD
        refine lv_dup hx hb dL_act_74 rfl ?_
        refine lv_iconst (v := (nI 2)) hx hb dL_act_75 (by decide) ?_
        refine lv_iconst (v := (nI 0)) hx hb dL_act_76 (by decide) ?_
        refine va_iast hx hb hK hP hD hS ((wC E a mc n now lim (LF F lit fo)).length + (2 + n)) 0 wS_em rfl (by exact vp_in_nI (by omega) (by omega)) dL_act_77 (fun H locs hP hD hS => ?_)
        rw [wS_ems] at hP hD
        refine lv_dup hx hb dL_act_78 rfl ?_
        refine lv_iconst (v := (nI 3)) hx hb dL_act_79 (by decide) ?_
        refine lv_iconst (v := (nI 1)) hx hb dL_act_80 (by decide) ?_
        refine lv_iload_n hx hb dL_act_81 rfl (lv_at hl 3 rfl) ?_
        refine lv_iconst (v := (nI 5)) hx hb dL_act_82 (by decide) ?_
        refine lv_ishr hx hb dL_act_83 ?_
        refine lv_iload hx hb dL_act_84 (lv_at hl 0 rfl) ?_
        refine lv_iconst (v := (nI 1)) hx hb dL_act_86 (by decide) ?_
        refine nq_sub hx hb dL_act_87 (by omega) ?_
        refine csS_i (rest := [.int (nI 1), .int (nI 3), .ref q56, .ref q56]) (As := [.int (x >>> ((nI 5) &&& 31)), .int (nI (pv - 1))]) ⟨hx, hb, hml, hown, hts⟩ (c_L_below l E _ (x >>> ((nI 5) &&& 31)) (pv - 1) (by omega)) (va_cwS 2 hts gL_act_L_below rfl rfl rfl (by decide +kernel) ⟨Nat.le_of_ble_eq_true rfl, Nat.le_of_ble_eq_true rfl⟩) hP hK rfl hl.1 rfl (Nat.le_of_ble_eq_true rfl) dL_act_88 (Nat.le_of_ble_eq_true rfl) (Nat.le_of_ble_eq_true rfl) (fun r88 hr88 => ?_)
        subst hr88
        refine nq_add hx hb dL_act_91 ?_
        obtain ⟨cu, ecu⟩ : ∃ z9, z9 = 1 + bl (x >>> (nI 5 &&& 31)) (pv - 1) := ⟨_, rfl⟩
        have hcu := bl_lt (v := x >>> (nI 5 &&& 31)) (k := pv - 1) (by omega)
        refine nq_top (show (nI (1 + (bl (x >>> ((nI 5) &&& 31)) (pv - 1)))) = (nI cu) from congrArg nI ecu.symm) ?_
        refine va_iast hx hb hK hP hD hS ((wC E a mc n now lim (LF F lit fo)).length + (2 + n)) 0 wS_em rfl (by exact vp_in_nI (by omega) (by omega)) dL_act_92 (fun H locs hP hD hS => ?_)
        rw [wS_ems] at hP hD
        refine lv_dup hx hb dL_act_93 rfl ?_
        refine lv_iconst (v := (nI 4)) hx hb dL_act_94 (by decide) ?_
        refine lv_iconst (v := (nI 1)) hx hb dL_act_95 (by decide) ?_
        refine lv_iload_n hx hb dL_act_96 rfl (lv_at hl 3 rfl) ?_
        refine lv_bipush (v := (nI 6)) hx hb dL_act_97 (by decide) ?_
        refine lv_ishr hx hb dL_act_99 ?_
        refine lv_bipush (v := (nI 9)) hx hb dL_act_100 (by decide) ?_
        refine csS_i (rest := [.int (nI 1), .int (nI 4), .ref q56, .ref q56]) (As := [.int (x >>> ((nI 6) &&& 31)), .int (nI 9)]) ⟨hx, hb, hml, hown, hts⟩ (c_L_below l E _ (x >>> ((nI 6) &&& 31)) 9 (by omega)) (va_cwS 2 hts gL_act_L_below rfl rfl rfl (by decide +kernel) ⟨Nat.le_of_ble_eq_true rfl, Nat.le_of_ble_eq_true rfl⟩) hP hK rfl hl.1 rfl (Nat.le_of_ble_eq_true rfl) dL_act_102 (Nat.le_of_ble_eq_true rfl) (Nat.le_of_ble_eq_true rfl) (fun r102 hr102 => ?_)
        subst hr102
        refine nq_add hx hb dL_act_105 ?_
        obtain ⟨cz, ecz⟩ : ∃ z9, z9 = 1 + bl (x >>> (nI 6 &&& 31)) 9 := ⟨_, rfl⟩
        have hcz := bl_lt (v := x >>> (nI 6 &&& 31)) (k := 9) (by omega)
        refine nq_top (show (nI (1 + (bl (x >>> ((nI 6) &&& 31)) 9))) = (nI cz) from congrArg nI ecz.symm) ?_
        refine va_iast hx hb hK hP hD hS ((wC E a mc n now lim (LF F lit fo)).length + (2 + n)) 0 wS_em rfl (by exact vp_in_nI (by omega) (by omega)) dL_act_106 (fun H locs hP hD hS => ?_)
        rw [wS_ems] at hP hD
        refine lv_dup hx hb dL_act_107 rfl ?_
        refine lv_iconst (v := (nI 5)) hx hb dL_act_108 (by decide) ?_
        refine lv_iconst (v := (nI 0)) hx hb dL_act_109 (by decide) ?_
        refine va_iast hx hb hK hP hD hS ((wC E a mc n now lim (LF F lit fo)).length + (2 + n)) 0 wS_em rfl (by exact vp_in_nI (by omega) (by omega)) dL_act_110 (fun H locs hP hD hS => ?_)
        rw [wS_ems] at hP hD
        refine lv_dup hx hb dL_act_111 rfl ?_
        refine lv_bipush (v := (nI 6)) hx hb dL_act_112 (by decide) ?_
        refine lv_iconst (v := (nI 0)) hx hb dL_act_114 (by decide) ?_
        refine va_iast hx hb hK hP hD hS ((wC E a mc n now lim (LF F lit fo)).length + (2 + n)) 0 wS_em rfl (by exact vp_in_nI (by omega) (by omega)) dL_act_115 (fun H locs hP hD hS => ?_)
        rw [wS_ems] at hP hD
        refine lv_astore (lv' := [(5, .ref q56), (4, .int (nI pv)), (0, .ref (a 0)), (1, .ref (b 0)), (2, .int x), (3, .int (nI n))]) hx hb dL_act_116 hl (by decide) rfl (fun ls hl => ?_)
        refine lv_aload_n hx hb dL_act_118 rfl (lv_at hl 3 rfl) ?_
        refine lv_aload_n hx hb dL_act_119 rfl (lv_at hl 3 rfl) ?_
        refine va_get (D := E.1) (ci := 3) (v := .ref (b 1)) (C := RX2) (T := TX2) (N := 3) hx hb hts hiX2 hown hK hP _ SV_mid.1 rfl 0 (by decide) (hts (.fieldLink RL 9 "PulseLoomLaw$Sim" "lamps" "[[I") (List.mem_of_getElem? (i := 1) (by rfl))) (fun _ h9 => h9) rfl dL_act_120 ?_
        refine lv_aload hx hb dL_act_123 (lv_at hl 0 rfl) ?_
        rw [own_rw (F := F) (n := n) (k := ck) (v := pv) (u := cu) (z := cz) (hO5 n (Nat.le_refl _))] at hP hD
        have hP : va_P E.1 vwCl (wC E a mc n now lim (LF F lit fo) ++ (wS E b n now lim F ++ [(q56, .inl (E.2.1, 7, .inl (rwF (up2 (up2 (up2 (up2 F n 2 ck) n 0 pv) n 4 cu) n 1 cz) n)))])) _ := hP
        have hD : va_D A (wC E a mc n now lim (LF F lit fo) ++ (wS E b n now lim F ++ [(q56, .inl (E.2.1, 7, .inl (rwF (up2 (up2 (up2 (up2 F n 2 ck) n 0 pv) n 4 cu) n 1 cz) n)))])) := hD
        refine cmES_r (wx := wC E a mc n now lim (LF F lit fo)) (rest := [.ref (b 0)]) (As := [.ref (b 1), .ref q56]) ⟨hx, hb, hml, hown, hts⟩ (c_X2_with l E _ z0 b n now lim F (by omega) q56 _) (va_cwS 2 hts gL_act_X2_with rfl rfl rfl (by decide +kernel) ⟨Nat.le_of_ble_eq_true rfl, Nat.le_of_ble_eq_true rfl⟩) hP hK hD hZ hS hA rfl hl.1 rfl (Nat.le_of_ble_eq_true rfl) dL_act_125 ⟨by show (0 + 1) + 1 ≤ 200; omega, by show (0 + 7) + 8 ≤ 1600; omega⟩ (fun q125 H locs hP hD hS => ?_)
        have hP : va_P E.1 vwCl (wC E a mc n now lim (LF F lit fo) ++ ((wS E b n now lim F ++ [(q56, .inl (E.2.1, 7, .inl (rwF (up2 (up2 (up2 (up2 F n 2 ck) n 0 pv) n 4 cu) n 1 cz) n)))]) ++ [(q125, .inl (E.2.2.2.2, n + 1, .inr (.inr (.inr (.inr (arS (va_up b (2 + n) q56) (n + 1)))))))])) _ := hP
        have hD : va_D A (wC E a mc n now lim (LF F lit fo) ++ ((wS E b n now lim F ++ [(q56, .inl (E.2.1, 7, .inl (rwF (up2 (up2 (up2 (up2 F n 2 ck) n 0 pv) n 4 cu) n 1 cz) n)))]) ++ [(q125, .inl (E.2.2.2.2, n + 1, .inr (.inr (.inr (.inr (arS (va_up b (2 + n) q56) (n + 1)))))))])) := hD
        refine va_put (D := E.1) (ci := 3) (v := .ref q125) (ty := (.array (.array .int))) (C := RX2) (T := TX2) (N := 3) hx hb hts hiX2 tyX2 tyX2_ok nmX2 hown hK hP hD hS (wC E a mc n now lim (LF F lit fo)).length (list_rig (i := 0) (list_app (list_app wS_0))) rfl 0 (by decide) (hts (.fieldLink RL 9 "PulseLoomLaw$Sim" "lamps" "[[I") (List.mem_of_getElem? (i := 1) (by rfl))) (fun _ h9 => h9) rfl (by decide +kernel) rfl (by rfl) (Nat.le_of_ble_eq_true rfl) dL_act_128 (fun H locs hP hD hS => ?_)
        obtain ⟨hP, hD⟩ := wS_add (wx := wC E a mc n now lim (LF F lit fo)) (G := (up2 (up2 (up2 (up2 F n 2 ck) n 0 pv) n 4 cu) n 1 cz)) (q := q125) (h2 := q56) (fun j hj => rwF_o (by omega)) hP hD
        obtain ⟨bb, hbb⟩ : ∃ z9, z9 = bookA b n q125 q56 := ⟨_, rfl⟩
        rw [← hbb] at hP hD
        have hb0 : bb 0 = b 0 := by rw [hbb]; exact bookA_0 _ _ _ _
        have hbn : bb (2 + n) = q56 := by rw [hbb]; exact bookA_n _ _ _ _
        have hl : lv_has ls 8 [(5, .ref (bb (2 + n))), (4, .int (nI pv)), (0, .ref (a 0)), (1, .ref (bb 0)), (2, .int x), (3, .int (nI n))] := by rw [hb0, hbn]; exact hl
        have hP : va_P E.1 vwCl (wC E a mc n now lim (LF F lit fo) ++ wS E bb (n + 1) now lim (up2 (up2 (up2 (up2 F n 2 ck) n 0 pv) n 4 cu) n 1 cz)) _ := hP
        have hD : va_D A (wC E a mc n now lim (LF F lit fo) ++ wS E bb (n + 1) now lim (up2 (up2 (up2 (up2 F n 2 ck) n 0 pv) n 4 cu) n 1 cz)) := hD
        refine lv_aload_n hx hb dL_act_131 rfl (lv_at hl 2 rfl) ?_
        refine lv_aload hx hb dL_act_132 (lv_at hl 0 rfl) ?_
        refine lv_iconst (v := (nI 0)) hx hb dL_act_134 (by decide) ?_
        refine va_iald hx hb hK hP ((wC E a mc n now lim (LF F lit fo)).length + (2 + n)) 0 (SV_end.2.2 n (by omega)) rfl (by exact vp_in_nI (by omega) (by omega)) dL_act_135 ?_
        refine nq_top (show (rwF (up2 (up2 (up2 (up2 F n 2 ck) n 0 pv) n 4 cu) n 1 cz) n (((nI 0)).toNatClampNeg)) = (nI ck) from by rw [nI_clamp (by omega)]; exact congrArg nI (up4_c)) ?_
        refine lv_iload hx hb dL_act_136 (lv_at hl 1 rfl) ?_
        refine lv_aload hx hb dL_act_138 (lv_at hl 0 rfl) ?_
        refine lv_iconst (v := (nI 3)) hx hb dL_act_140 (by decide) ?_
        refine va_iald hx hb hK hP ((wC E a mc n now lim (LF F lit fo)).length + (2 + n)) 0 (SV_end.2.2 n (by omega)) rfl (by exact vp_in_nI (by omega) (by omega)) dL_act_141 ?_
        refine nq_top (show (rwF (up2 (up2 (up2 (up2 F n 2 ck) n 0 pv) n 4 cu) n 1 cz) n (((nI 3)).toNatClampNeg)) = (nI cu) from by rw [nI_clamp (by omega)]; exact congrArg nI (up4_u)) ?_
        refine lv_aload hx hb dL_act_142 (lv_at hl 0 rfl) ?_
        refine lv_iconst (v := (nI 4)) hx hb dL_act_144 (by decide) ?_
        refine va_iald hx hb hK hP ((wC E a mc n now lim (LF F lit fo)).length + (2 + n)) 0 (SV_end.2.2 n (by omega)) rfl (by exact vp_in_nI (by omega) (by omega)) dL_act_145 ?_
        refine nq_top (show (rwF (up2 (up2 (up2 (up2 F n 2 ck) n 0 pv) n 4 cu) n 1 cz) n (((nI 4)).toNatClampNeg)) = (nI cz) from by rw [nI_clamp (by omega)]; exact congrArg nI (up4_z)) ?_
        have hP0 := hP
        have hP : va_P E.1 vwCl ([] ++ (wC E a mc n now lim (LF F lit fo) ++ wS E bb (n + 1) now lim (up2 (up2 (up2 (up2 F n 2 ck) n 0 pv) n 4 cu) n 1 cz))) _ := hP
        have hD : va_D A ([] ++ (wC E a mc n now lim (LF F lit fo) ++ wS E bb (n + 1) now lim (up2 (up2 (up2 (up2 F n 2 ck) n 0 pv) n 4 cu) n 1 cz))) := hD
        refine cmXZ_i (S := Nat → Nat) (W1 := fun uQ => wC E uQ (mc + nI 1) (n + 1) now lim (LF (up2 (up2 (up2 (up2 F n 2 ck) n 0 pv) n 4 cu) n 1 cz) (va_up lit n false) (va_up fo n 0))) (wx := []) (wy := wS E bb (n + 1) now lim (up2 (up2 (up2 (up2 F n 2 ck) n 0 pv) n 4 cu) n 1 cz)) (rest := []) (As := [.int (nI ck), .int (nI pv), .int (nI cu), .int (nI cz)]) ⟨hx, hb, hml, hown, hts⟩ (c_X1_addLamp l E _ a mc n now lim F lit fo hO z0 hz ck pv cu cz (by omega) (by omega) (by omega) (by omega) (by omega)) (cwV 4 hts gL_act_X1_addLamp rfl rfl rfl (by decide +kernel) ⟨Nat.le_of_ble_eq_true rfl, Nat.le_of_ble_eq_true rfl⟩) (va_recv hK hP0 (ci := 2) (q0 := 0) rfl (list_app wC_x)) hP hK hD hZ hS hA rfl hl.1 rfl (Nat.le_of_ble_eq_true rfl) dL_act_146 ⟨by show ((0 + 1) + 1) + 2 ≤ 200; omega, by show ((0 + 7) + 8) + 19 ≤ 1600; omega⟩ (fun r146 u146 H locs hr146 hP hD hS => ?_)
        obtain ⟨hr146, hu0⟩ := hr146
        subst hr146
        have hP : va_P E.1 vwCl (wC E u146 (mc + nI 1) (n + 1) now lim (LF (up2 (up2 (up2 (up2 F n 2 ck) n 0 pv) n 4 cu) n 1 cz) (va_up lit n false) (va_up fo n 0)) ++ wS E bb (n + 1) now lim (up2 (up2 (up2 (up2 F n 2 ck) n 0 pv) n 4 cu) n 1 cz)) _ := hP
        have hD : va_D A (wC E u146 (mc + nI 1) (n + 1) now lim (LF (up2 (up2 (up2 (up2 F n 2 ck) n 0 pv) n 4 cu) n 1 cz) (va_up lit n false) (va_up fo n 0)) ++ wS E bb (n + 1) now lim (up2 (up2 (up2 (up2 F n 2 ck) n 0 pv) n 4 cu) n 1 cz)) := hD
        refine lv_iload_n hx hb dL_act_149 rfl (lv_at hl 5 rfl) ?_
        refine nq_icmp_ne (tgt := 157) hx hb dL_act_150 (by decide) (by omega) (by omega) (fun h150 => ?_) (fun h150 => ?_)
        · skip
          exact absurd rfl h150
        · skip
          refine lv_iconst (v := (nI 1)) hx hb dL_act_153 (by decide) ?_
          refine lv_goto (tgt := 158) hx hb dL_act_154 (by decide) ?_
          rw [hQ]
          refine W.widen (k := 200) (n := 1600) (by omega) (by omega) ?_
          refine nq_top (show nI 1 = bI true from rfl) ?_
          exact retM_z (E := E) (A0 := A) (b := true) (post := fun r u => r = bI true ∧ AR a b n now x u) (u := (u146, (mc + nI 1), (n + 1), now, lim, (up2 (up2 (up2 (up2 F n 2 ck) n 0 pv) n 4 cu) n 1 cz), (va_up lit n false), (va_up fo n 0), bb)) (W1 := fun u => wU E u) hx hb hr hlocks hP hK hD hS (⟨rfl, hu0, hb0, ok_add hO (by omega) (by omega) (by omega) (by omega) (by omega), by show now ≤ now + 200; omega, by show n ≤ n + 1; omega, by show 1 ≤ n + 1; omega, fun _ _ => rfl⟩) dL_act_158
      refine lv_iload_n hx hb dL_act_31 rfl (lv_at hl 2 rfl) ?_
      refine lv_bipush (v := (nI 9)) hx hb dL_act_32 (by decide) ?_
      refine lv_ishr hx hb dL_act_34 ?_
      refine lv_iconst (v := (nI 2)) hx hb dL_act_35 (by decide) ?_
      refine csS_i (rest := [.int (x >>> ((nI 4) &&& 31)), .int (nI 2)]) (As := [.int (x >>> ((nI 9) &&& 31)), .int (nI 2)]) ⟨hx, hb, hml, hown, hts⟩ (c_L_below l E _ (x >>> ((nI 9) &&& 31)) 2 (by omega)) (va_cwS 2 hts gL_act_L_below rfl rfl rfl (by decide +kernel) ⟨Nat.le_of_ble_eq_true rfl, Nat.le_of_ble_eq_true rfl⟩) hP hK rfl hl.1 rfl (Nat.le_of_ble_eq_true rfl) dL_act_36 (Nat.le_of_ble_eq_true rfl) (Nat.le_of_ble_eq_true rfl) (fun r36 hr36 => ?_)
      subst hr36
      have hb92 := bl_lt (v := x >>> (nI 9 &&& 31)) (k := 2) (by omega)
      refine nq_if_ne (tgt := 47) hx hb dL_act_39 (by decide) (by omega) (fun h39 => ?_) (fun h39 => ?_)
      · skip
        refine lv_iconst (v := (nI 5)) hx hb dL_act_47 (by decide) ?_
        exact join48 5 _ _ ls (by omega) hP hD hS (lv_sub hl [0, 1, 2, 3] rfl)
      · skip
        refine lv_bipush (v := (nI 19)) hx hb dL_act_42 (by decide) ?_
        refine lv_goto (tgt := 48) hx hb dL_act_44 (by decide) ?_
        exact join48 19 _ _ ls (by omega) hP hD hS (lv_sub hl [0, 1, 2, 3] rfl)
    · skip
      refine lv_iconst (v := (nI 1)) hx hb dL_act_25 (by decide) ?_
      rw [hQ]
      refine W.widen (k := 200) (n := 1600) (by omega) (by omega) ?_
      refine nq_top (show nI 1 = bI true from rfl) ?_
      exact retM_z (E := E) (A0 := A) (b := true) (post := fun r u => r = bI true ∧ AR a b n now x u) (u := (a, mc, n, now, lim, F, lit, fo, b)) (W1 := fun u => wU E u) hx hb hr hlocks hP hK hD hS (⟨rfl, rfl, rfl, hO, by show now ≤ now + 200; omega, Nat.le_refl _, by show 1 ≤ n; omega, fun h9 => absurd h9 (by omega)⟩) dL_act_26
  refine lv_aload_n hx hb dL_act_0 rfl (lv_at hl 1 rfl) ?_
  refine va_get (D := E.1) (ci := 3) (v := .ref (b 1)) (C := RX2) (T := TX2) (N := 3) hx hb hts hiX2 hown hK hP _ SV_end.1 rfl 0 (by decide) (hts (.fieldLink RL 9 "PulseLoomLaw$Sim" "lamps" "[[I") (List.mem_of_getElem? (i := 1) (by rfl))) (fun _ h9 => h9) rfl dL_act_1 ?_
  refine va_alen hx hb hK hP _ 3 SV_end.2.1 rfl (v := nI n) rfl dL_act_4 ?_
  refine lv_istore_n (lv' := [(3, .int (nI n)), (0, .ref (a 0)), (1, .ref (b 0)), (2, .int x)]) hx hb dL_act_5 rfl hl (by decide) rfl (fun ls hl => ?_)
  refine lv_iload_n hx hb dL_act_6 rfl (lv_at hl 0 rfl) ?_
  refine nq_if_eq (tgt := 19) hx hb dL_act_7 (by decide) (by omega) (fun h7 => ?_) (fun h7 => ?_)
  · skip
    exact join19 _ _ ls (by omega) hP hD hS (lv_sub hl [1, 2, 3, 0] rfl)
  · skip
    refine lv_iload_n hx hb dL_act_10 rfl (lv_at hl 3 rfl) ?_
    refine lv_bipush (v := (nI 11)) hx hb dL_act_11 (by decide) ?_
    refine csS_i (rest := []) (As := [.int x, .int (nI 11)]) ⟨hx, hb, hml, hown, hts⟩ (c_L_below l E _ x 11 (by omega)) (va_cwS 2 hts gL_act_L_below rfl rfl rfl (by decide +kernel) ⟨Nat.le_of_ble_eq_true rfl, Nat.le_of_ble_eq_true rfl⟩) hP hK rfl hl.1 rfl (Nat.le_of_ble_eq_true rfl) dL_act_13 (Nat.le_of_ble_eq_true rfl) (Nat.le_of_ble_eq_true rfl) (fun r13 hr13 => ?_)
    subst hr13
    refine nq_if_ne (tgt := 159) hx hb dL_act_16 (by decide) (by omega) (fun h16 => ?_) (fun h16 => ?_)
    · skip
      have hn1 : 1 ≤ n := by omega
      refine lv_iload_n hx hb dL_act_159 rfl (lv_at hl 3 rfl) ?_
      refine lv_iconst (v := (nI 3)) hx hb dL_act_160 (by decide) ?_
      refine lv_ishr hx hb dL_act_161 ?_
      refine lv_iload_n hx hb dL_act_162 rfl (lv_at hl 0 rfl) ?_
      refine csS_i (rest := []) (As := [.int (x >>> ((nI 3) &&& 31)), .int (nI n)]) ⟨hx, hb, hml, hown, hts⟩ (c_L_below l E _ (x >>> ((nI 3) &&& 31)) n (by omega)) (va_cwS 2 hts gL_act_L_below rfl rfl rfl (by decide +kernel) ⟨Nat.le_of_ble_eq_true rfl, Nat.le_of_ble_eq_true rfl⟩) hP hK rfl hl.1 rfl (Nat.le_of_ble_eq_true rfl) dL_act_163 (Nat.le_of_ble_eq_true rfl) (Nat.le_of_ble_eq_true rfl) (fun r163 hr163 => ?_)
      subst hr163
      refine lv_istore (lv' := [(4, .int (nI (bl (x >>> ((nI 3) &&& 31)) n))), (3, .int (nI n)), (0, .ref (a 0)), (1, .ref (b 0)), (2, .int x)]) hx hb dL_act_166 hl (by decide) rfl (fun ls hl => ?_)
      have hbk := bl_lt (v := x >>> (nI 3 &&& 31)) (k := n) (by omega)
      obtain ⟨k, ek⟩ : ∃ z9, z9 = bl (x >>> (nI 3 &&& 31)) n := ⟨_, rfl⟩
      have hl : lv_has ls 8 [(4, .int (nI k)), (3, .int (nI n)), (0, .ref (a 0)), (1, .ref (b 0)), (2, .int x)] := lv_rep hl 0 rfl (congrArg Value.int (show (nI (bl (x >>> ((nI 3) &&& 31)) n)) = (nI k) from congrArg nI ek.symm))
      have hk : k < n := by omega
      have hk9 := hO4 k hk
      refine lv_aload_n hx hb dL_act_168 rfl (lv_at hl 3 rfl) ?_
      refine va_get (D := E.1) (ci := 3) (v := .ref (b 1)) (C := RX2) (T := TX2) (N := 3) hx hb hts hiX2 hown hK hP _ SV_end.1 rfl 0 (by decide) (hts (.fieldLink RL 9 "PulseLoomLaw$Sim" "lamps" "[[I") (List.mem_of_getElem? (i := 1) (by rfl))) (fun _ h9 => h9) rfl dL_act_169 ?_
      refine lv_iload hx hb dL_act_172 (lv_at hl 0 rfl) ?_
      refine nz_aald hx hb hK hP _ SV_end.2.1 (by exact vp_in_nI (by omega) (by omega)) dL_act_174 ?_
      refine nq_topv (show va_rf ((arS b n) ((nI k)).toNatClampNeg) = .ref (b (2 + k)) from by rw [nI_clamp (by omega)]; exact congrArg va_rf (arS_at (by omega))) ?_
      refine lv_astore (lv' := [(5, .ref (b (2 + k))), (4, .int (nI k)), (3, .int (nI n)), (0, .ref (a 0)), (1, .ref (b 0)), (2, .int x)]) hx hb dL_act_175 hl (by decide) rfl (fun ls hl => ?_)
      refine lv_iload_n hx hb dL_act_177 rfl (lv_at hl 5 rfl) ?_
      refine lv_bipush (v := (nI 11)) hx hb dL_act_178 (by decide) ?_
      refine csS_i (rest := []) (As := [.int x, .int (nI 11)]) ⟨hx, hb, hml, hown, hts⟩ (c_L_below l E _ x 11 (by omega)) (va_cwS 2 hts gL_act_L_below rfl rfl rfl (by decide +kernel) ⟨Nat.le_of_ble_eq_true rfl, Nat.le_of_ble_eq_true rfl⟩) hP hK rfl hl.1 rfl (Nat.le_of_ble_eq_true rfl) dL_act_180 (Nat.le_of_ble_eq_true rfl) (Nat.le_of_ble_eq_true rfl) (fun r180 hr180 => ?_)
      subst hr180
      refine act_sw hx hb (y := bl x 11) (by omega) ?_ ?_ ?_ ?_ ?_
      · skip
        refine lv_aload hx hb dL_act_216 (lv_at hl 0 rfl) ?_
        refine lv_iconst (v := (nI 2)) hx hb dL_act_218 (by decide) ?_
        refine va_iald hx hb hK hP ((wC E a mc n now lim (LF F lit fo)).length + (2 + k)) 0 (SV_end.2.2 k (by omega)) rfl (by exact vp_in_nI (by omega) (by omega)) dL_act_219 ?_
        refine nq_top (show (rwF F k (((nI 2)).toNatClampNeg)) = (nI (F k 3)) from by rw [nI_clamp (by omega)]; rfl) ?_
        refine lv_istore (lv' := [(6, .int (nI (F k 3))), (5, .ref (b (2 + k))), (4, .int (nI k)), (3, .int (nI n)), (0, .ref (a 0)), (1, .ref (b 0)), (2, .int x)]) hx hb dL_act_220 hl (by decide) rfl (fun ls hl => ?_)
        refine lv_aload hx hb dL_act_222 (lv_at hl 1 rfl) ?_
        refine lv_iconst (v := (nI 2)) hx hb dL_act_224 (by decide) ?_
        refine lv_iload_n hx hb dL_act_225 rfl (lv_at hl 6 rfl) ?_
        refine lv_iconst (v := (nI 5)) hx hb dL_act_226 (by decide) ?_
        refine lv_ishr hx hb dL_act_227 ?_
        refine lv_aload hx hb dL_act_228 (lv_at hl 1 rfl) ?_
        refine lv_iconst (v := (nI 1)) hx hb dL_act_230 (by decide) ?_
        refine va_iald hx hb hK hP ((wC E a mc n now lim (LF F lit fo)).length + (2 + k)) 0 (SV_end.2.2 k (by omega)) rfl (by exact vp_in_nI (by omega) (by omega)) dL_act_231 ?_
        refine nq_top (show (rwF F k (((nI 1)).toNatClampNeg)) = (nI (F k 0)) from by rw [nI_clamp (by omega)]; rfl) ?_
        refine csS_i (rest := [.int (nI 2), .ref (b (2 + k))]) (As := [.int (x >>> ((nI 5) &&& 31)), .int (nI (F k 0))]) ⟨hx, hb, hml, hown, hts⟩ (c_L_below l E _ (x >>> ((nI 5) &&& 31)) (F k 0) (by omega)) (va_cwS 2 hts gL_act_L_below rfl rfl rfl (by decide +kernel) ⟨Nat.le_of_ble_eq_true rfl, Nat.le_of_ble_eq_true rfl⟩) hP hK rfl hl.1 rfl (Nat.le_of_ble_eq_true rfl) dL_act_232 (Nat.le_of_ble_eq_true rfl) (Nat.le_of_ble_eq_true rfl) (fun r232 hr232 => ?_)
        subst hr232
        obtain ⟨cv, ecv⟩ : ∃ z9, z9 = bl (x >>> (nI 5 &&& 31)) (F k 0) := ⟨_, rfl⟩
        have hcv := bl_lt (v := x >>> (nI 5 &&& 31)) (k := F k 0) (by omega)
        refine nq_top (show (nI (bl (x >>> ((nI 5) &&& 31)) (F k 0))) = (nI cv) from congrArg nI ecv.symm) ?_
        refine va_iast hx hb hK hP hD hS ((wC E a mc n now lim (LF F lit fo)).length + (2 + k)) 0 (SV_end.2.2 k (by omega)) rfl (by exact vp_in_nI (by omega) (by omega)) dL_act_235 (fun H locs hP hD hS => ?_)
        rw [wSd_set (q := 3) (v := cv) (by omega) rwF_s] at hP hD
        refine lv_aload_n hx hb dL_act_236 rfl (lv_at hl 4 rfl) ?_
        refine lv_iload hx hb dL_act_237 (lv_at hl 2 rfl) ?_
        refine lv_aload hx hb dL_act_239 (lv_at hl 1 rfl) ?_
        refine lv_iconst (v := (nI 2)) hx hb dL_act_241 (by decide) ?_
        refine va_iald hx hb hK hP ((wC E a mc n now lim (LF F lit fo)).length + (2 + k)) 0 (SV_end.2.2 k (by omega)) rfl (by exact vp_in_nI (by omega) (by omega)) dL_act_242 ?_
        refine nq_top (show (rwF (up2 F k 3 cv) k (((nI 2)).toNatClampNeg)) = (nI ((up2 F k 3 cv) k 3)) from by rw [nI_clamp (by omega)]; rfl) ?_
        refine nq_top (show (nI ((up2 F k 3 cv) k 3)) = (nI cv) from congrArg nI (up_3 F k cv)) ?_
        have hP0 := hP
        have hP : va_P E.1 vwCl ([] ++ (wC E a mc n now lim (LF F lit fo) ++ wS E b n now lim (up2 F k 3 cv))) H := hP
        have hD : va_D A ([] ++ (wC E a mc n now lim (LF F lit fo) ++ wS E b n now lim (up2 F k 3 cv))) := hD
        refine cmX_i (wx := []) (wy := wS E b n now lim (up2 F k 3 cv)) (rest := []) (As := [.int (nI k), .int (nI cv)]) ⟨hx, hb, hml, hown, hts⟩ (c_X1_setShift l E _ a mc n now lim F lit fo hO k cv (by omega) (by omega)) (cwV 2 hts gL_act_X1_setShift rfl rfl rfl (by decide +kernel) ⟨Nat.le_of_ble_eq_true rfl, Nat.le_of_ble_eq_true rfl⟩) (va_recv hK hP0 (ci := 2) (q0 := 0) rfl (list_app wC_x)) hP hK hD hS hA rfl hl.1 rfl (Nat.le_of_ble_eq_true rfl) dL_act_243 ⟨Nat.le_of_ble_eq_true rfl, Nat.le_of_ble_eq_true rfl⟩ (fun r243 u243 H locs hr243 hP hD hS => ?_)
        subst hr243
        have hP : va_P E.1 vwCl (wC E a mc n now lim (LF (up2 F k 3 cv) lit fo) ++ wS E b n now lim (up2 F k 3 cv)) H := hP
        have hD : va_D A (wC E a mc n now lim (LF (up2 F k 3 cv) lit fo) ++ wS E b n now lim (up2 F k 3 cv)) := hD
        refine lv_iload hx hb dL_act_246 (lv_at hl 0 rfl) ?_
        refine nq_icmp_ne (tgt := 255) hx hb dL_act_248 (by decide) (by omega) (by omega) (fun h248 => ?_) (fun h248 => ?_)
        · skip
          exact absurd rfl h248
        · skip
          refine lv_iconst (v := (nI 1)) hx hb dL_act_251 (by decide) ?_
          refine lv_goto (tgt := 256) hx hb dL_act_252 (by decide) ?_
          rw [hQ]
          refine W.widen (k := 200) (n := 1600) (by omega) (by omega) ?_
          refine nq_top (show nI 1 = bI true from rfl) ?_
          exact retM_z (E := E) (A0 := A) (b := true) (post := fun r u => r = bI true ∧ AR a b n now x u) (u := (a, mc, n, now, lim, (up2 F k 3 cv), lit, fo, b)) (W1 := fun u => wU E u) hx hb hr hlocks hP hK hD hS (⟨rfl, rfl, rfl, ok_3 hO hk (by omega), by show now ≤ now + 200; omega, Nat.le_refl _, by show 1 ≤ n; omega, fun _ h9 => absurd h9 (by omega)⟩) dL_act_256
      · skip
        refine lv_aload hx hb dL_act_257 (lv_at hl 0 rfl) ?_
        refine lv_iconst (v := (nI 3)) hx hb dL_act_259 (by decide) ?_
        refine va_iald hx hb hK hP ((wC E a mc n now lim (LF F lit fo)).length + (2 + k)) 0 (SV_end.2.2 k (by omega)) rfl (by exact vp_in_nI (by omega) (by omega)) dL_act_260 ?_
        refine nq_top (show (rwF F k (((nI 3)).toNatClampNeg)) = (nI (F k 4)) from by rw [nI_clamp (by omega)]; rfl) ?_
        refine lv_istore (lv' := [(6, .int (nI (F k 4))), (5, .ref (b (2 + k))), (4, .int (nI k)), (3, .int (nI n)), (0, .ref (a 0)), (1, .ref (b 0)), (2, .int x)]) hx hb dL_act_261 hl (by decide) rfl (fun ls hl => ?_)
        refine lv_aload hx hb dL_act_263 (lv_at hl 1 rfl) ?_
        refine lv_iconst (v := (nI 3)) hx hb dL_act_265 (by decide) ?_
        refine lv_iconst (v := (nI 1)) hx hb dL_act_266 (by decide) ?_
        refine lv_iload_n hx hb dL_act_267 rfl (lv_at hl 6 rfl) ?_
        refine lv_iconst (v := (nI 5)) hx hb dL_act_268 (by decide) ?_
        refine lv_ishr hx hb dL_act_269 ?_
        refine lv_aload hx hb dL_act_270 (lv_at hl 1 rfl) ?_
        refine lv_iconst (v := (nI 1)) hx hb dL_act_272 (by decide) ?_
        refine va_iald hx hb hK hP ((wC E a mc n now lim (LF F lit fo)).length + (2 + k)) 0 (SV_end.2.2 k (by omega)) rfl (by exact vp_in_nI (by omega) (by omega)) dL_act_273 ?_
        refine nq_top (show (rwF F k (((nI 1)).toNatClampNeg)) = (nI (F k 0)) from by rw [nI_clamp (by omega)]; rfl) ?_
        refine lv_iconst (v := (nI 1)) hx hb dL_act_274 (by decide) ?_
        refine nq_sub hx hb dL_act_275 (by omega) ?_
        refine csS_i (rest := [.int (nI 1), .int (nI 3), .ref (b (2 + k))]) (As := [.int (x >>> ((nI 5) &&& 31)), .int (nI ((F k 0) - 1))]) ⟨hx, hb, hml, hown, hts⟩ (c_L_below l E _ (x >>> ((nI 5) &&& 31)) ((F k 0) - 1) (by omega)) (va_cwS 2 hts gL_act_L_below rfl rfl rfl (by decide +kernel) ⟨Nat.le_of_ble_eq_true rfl, Nat.le_of_ble_eq_true rfl⟩) hP hK rfl hl.1 rfl (Nat.le_of_ble_eq_true rfl) dL_act_276 (Nat.le_of_ble_eq_true rfl) (Nat.le_of_ble_eq_true rfl) (fun r276 hr276 => ?_)
        subst hr276
        refine nq_add hx hb dL_act_279 ?_
        obtain ⟨cv, ecv⟩ : ∃ z9, z9 = 1 + bl (x >>> (nI 5 &&& 31)) (F k 0 - 1) := ⟨_, rfl⟩
        have hcv := bl_lt (v := x >>> (nI 5 &&& 31)) (k := F k 0 - 1) (by omega)
        refine nq_top (show (nI (1 + (bl (x >>> ((nI 5) &&& 31)) ((F k 0) - 1)))) = (nI cv) from congrArg nI ecv.symm) ?_
        refine va_iast hx hb hK hP hD hS ((wC E a mc n now lim (LF F lit fo)).length + (2 + k)) 0 (SV_end.2.2 k (by omega)) rfl (by exact vp_in_nI (by omega) (by omega)) dL_act_280 (fun H locs hP hD hS => ?_)
        rw [wSd_set (q := 4) (v := cv) (by omega) rwF_l] at hP hD
        refine lv_aload_n hx hb dL_act_281 rfl (lv_at hl 4 rfl) ?_
        refine lv_iload hx hb dL_act_282 (lv_at hl 2 rfl) ?_
        refine lv_aload hx hb dL_act_284 (lv_at hl 1 rfl) ?_
        refine lv_iconst (v := (nI 3)) hx hb dL_act_286 (by decide) ?_
        refine va_iald hx hb hK hP ((wC E a mc n now lim (LF F lit fo)).length + (2 + k)) 0 (SV_end.2.2 k (by omega)) rfl (by exact vp_in_nI (by omega) (by omega)) dL_act_287 ?_
        refine nq_top (show (rwF (up2 F k 4 cv) k (((nI 3)).toNatClampNeg)) = (nI ((up2 F k 4 cv) k 4)) from by rw [nI_clamp (by omega)]; rfl) ?_
        refine nq_top (show (nI ((up2 F k 4 cv) k 4)) = (nI cv) from congrArg nI (by simp [up2])) ?_
        have hP0 := hP
        have hP : va_P E.1 vwCl ([] ++ (wC E a mc n now lim (LF F lit fo) ++ wS E b n now lim (up2 F k 4 cv))) H := hP
        have hD : va_D A ([] ++ (wC E a mc n now lim (LF F lit fo) ++ wS E b n now lim (up2 F k 4 cv))) := hD
        refine cmX_i (wx := []) (wy := wS E b n now lim (up2 F k 4 cv)) (rest := []) (As := [.int (nI k), .int (nI cv)]) ⟨hx, hb, hml, hown, hts⟩ (c_X1_setLength l E _ a mc n now lim F lit fo hO k cv (by omega) (by omega)) (cwV 2 hts gL_act_X1_setLength rfl rfl rfl (by decide +kernel) ⟨Nat.le_of_ble_eq_true rfl, Nat.le_of_ble_eq_true rfl⟩) (va_recv hK hP0 (ci := 2) (q0 := 0) rfl (list_app wC_x)) hP hK hD hS hA rfl hl.1 rfl (Nat.le_of_ble_eq_true rfl) dL_act_288 ⟨Nat.le_of_ble_eq_true rfl, Nat.le_of_ble_eq_true rfl⟩ (fun r288 u288 H locs hr288 hP hD hS => ?_)
        subst hr288
        have hP : va_P E.1 vwCl (wC E a mc n now lim (LF (up2 F k 4 cv) lit fo) ++ wS E b n now lim (up2 F k 4 cv)) H := hP
        have hD : va_D A (wC E a mc n now lim (LF (up2 F k 4 cv) lit fo) ++ wS E b n now lim (up2 F k 4 cv)) := hD
        refine lv_iload hx hb dL_act_291 (lv_at hl 0 rfl) ?_
        refine nq_icmp_ne (tgt := 300) hx hb dL_act_293 (by decide) (by omega) (by omega) (fun h293 => ?_) (fun h293 => ?_)
        · skip
          exact absurd rfl h293
        · skip
          refine lv_iconst (v := (nI 1)) hx hb dL_act_296 (by decide) ?_
          refine lv_goto (tgt := 301) hx hb dL_act_297 (by decide) ?_
          rw [hQ]
          refine W.widen (k := 200) (n := 1600) (by omega) (by omega) ?_
          refine nq_top (show nI 1 = bI true from rfl) ?_
          exact retM_z (E := E) (A0 := A) (b := true) (post := fun r u => r = bI true ∧ AR a b n now x u) (u := (a, mc, n, now, lim, (up2 F k 4 cv), lit, fo, b)) (W1 := fun u => wU E u) hx hb hr hlocks hP hK hD hS (⟨rfl, rfl, rfl, ok_4 hO hk (by omega), by show now ≤ now + 200; omega, Nat.le_refl _, by show 1 ≤ n; omega, fun _ h9 => absurd h9 (by omega)⟩) dL_act_301
      · skip
        refine lv_iload_n hx hb dL_act_302 rfl (lv_at hl 5 rfl) ?_
        refine lv_bipush (v := (nI 6)) hx hb dL_act_303 (by decide) ?_
        refine lv_ishr hx hb dL_act_305 ?_
        refine lv_iload_n hx hb dL_act_306 rfl (lv_at hl 2 rfl) ?_
        refine csS_i (rest := []) (As := [.int (x >>> ((nI 6) &&& 31)), .int (nI n)]) ⟨hx, hb, hml, hown, hts⟩ (c_L_below l E _ (x >>> ((nI 6) &&& 31)) n (by omega)) (va_cwS 2 hts gL_act_L_below rfl rfl rfl (by decide +kernel) ⟨Nat.le_of_ble_eq_true rfl, Nat.le_of_ble_eq_true rfl⟩) hP hK rfl hl.1 rfl (Nat.le_of_ble_eq_true rfl) dL_act_307 (Nat.le_of_ble_eq_true rfl) (Nat.le_of_ble_eq_true rfl) (fun r307 hr307 => ?_)
        subst hr307
        refine lv_istore (lv' := [(6, .int (nI (bl (x >>> ((nI 6) &&& 31)) n))), (5, .ref (b (2 + k))), (4, .int (nI k)), (3, .int (nI n)), (0, .ref (a 0)), (1, .ref (b 0)), (2, .int x)]) hx hb dL_act_310 hl (by decide) rfl (fun ls hl => ?_)
        have hbj := bl_lt (v := x >>> (nI 6 &&& 31)) (k := n) (by omega)
        obtain ⟨j, ej⟩ : ∃ z9, z9 = bl (x >>> (nI 6 &&& 31)) n := ⟨_, rfl⟩
        have hl : lv_has ls 8 [(6, .int (nI j)), (5, .ref (b (2 + k))), (4, .int (nI k)), (3, .int (nI n)), (0, .ref (a 0)), (1, .ref (b 0)), (2, .int x)] := lv_rep hl 0 rfl (congrArg Value.int (show (nI (bl (x >>> ((nI 6) &&& 31)) n)) = (nI j) from congrArg nI ej.symm))
        have hj : j < n := by omega
        have hj9 := hO4 j hj
        refine lv_iload hx hb dL_act_312 (lv_at hl 0 rfl) ?_
        refine lv_iload hx hb dL_act_314 (lv_at hl 2 rfl) ?_
        refine nq_icmp_ne (tgt := 321) hx hb dL_act_316 (by decide) (by omega) (by omega) (fun h316 => ?_) (fun h316 => ?_)
        · skip
          have hkj : k ≠ j := by omega
          refine lv_aload hx hb dL_act_321 (lv_at hl 1 rfl) ?_
          refine lv_iconst (v := (nI 0)) hx hb dL_act_323 (by decide) ?_
          refine va_iald hx hb hK hP ((wC E a mc n now lim (LF F lit fo)).length + (2 + k)) 0 (SV_end.2.2 k (by omega)) rfl (by exact vp_in_nI (by omega) (by omega)) dL_act_324 ?_
          refine nq_top (show (rwF F k (((nI 0)).toNatClampNeg)) = (nI (F k 2)) from by rw [nI_clamp (by omega)]; rfl) ?_
          refine lv_istore (lv' := [(7, .int (nI (F k 2))), (6, .int (nI j)), (5, .ref (b (2 + k))), (4, .int (nI k)), (3, .int (nI n)), (0, .ref (a 0)), (1, .ref (b 0)), (2, .int x)]) hx hb dL_act_325 hl (by decide) rfl (fun ls hl => ?_)
          refine lv_aload hx hb dL_act_327 (lv_at hl 2 rfl) ?_
          refine lv_iconst (v := (nI 0)) hx hb dL_act_329 (by decide) ?_
          refine lv_aload_n hx hb dL_act_330 rfl (lv_at hl 6 rfl) ?_
          refine va_get (D := E.1) (ci := 3) (v := .ref (b 1)) (C := RX2) (T := TX2) (N := 3) hx hb hts hiX2 hown hK hP _ SV_end.1 rfl 0 (by decide) (hts (.fieldLink RL 9 "PulseLoomLaw$Sim" "lamps" "[[I") (List.mem_of_getElem? (i := 1) (by rfl))) (fun _ h9 => h9) rfl dL_act_331 ?_
          refine lv_iload hx hb dL_act_334 (lv_at hl 1 rfl) ?_
          refine nz_aald hx hb hK hP _ SV_end.2.1 (by exact vp_in_nI (by omega) (by omega)) dL_act_336 ?_
          refine nq_topv (show va_rf ((arS b n) ((nI j)).toNatClampNeg) = .ref (b (2 + j)) from by rw [nI_clamp (by omega)]; exact congrArg va_rf (arS_at (by omega))) ?_
          refine lv_iconst (v := (nI 0)) hx hb dL_act_337 (by decide) ?_
          refine va_iald hx hb hK hP ((wC E a mc n now lim (LF F lit fo)).length + (2 + j)) 0 (SV_end.2.2 j (by omega)) rfl (by exact vp_in_nI (by omega) (by omega)) dL_act_338 ?_
          refine nq_top (show (rwF F j (((nI 0)).toNatClampNeg)) = (nI (F j 2)) from by rw [nI_clamp (by omega)]; rfl) ?_
          refine nq_top (show (nI (F j 2)) = (nI (F j 2)) from rfl) ?_
          refine va_iast hx hb hK hP hD hS ((wC E a mc n now lim (LF F lit fo)).length + (2 + k)) 0 (SV_end.2.2 k (by omega)) rfl (by exact vp_in_nI (by omega) (by omega)) dL_act_339 (fun H locs hP hD hS => ?_)
          rw [wSd_set (q := 2) (v := F j 2) (by omega) rwF_c] at hP hD
          refine lv_aload_n hx hb dL_act_340 rfl (lv_at hl 6 rfl) ?_
          refine va_get (D := E.1) (ci := 3) (v := .ref (b 1)) (C := RX2) (T := TX2) (N := 3) hx hb hts hiX2 hown hK hP _ SV_end.1 rfl 0 (by decide) (hts (.fieldLink RL 9 "PulseLoomLaw$Sim" "lamps" "[[I") (List.mem_of_getElem? (i := 1) (by rfl))) (fun _ h9 => h9) rfl dL_act_341 ?_
          refine lv_iload hx hb dL_act_344 (lv_at hl 1 rfl) ?_
          refine nz_aald hx hb hK hP _ SV_end.2.1 (by exact vp_in_nI (by omega) (by omega)) dL_act_346 ?_
          refine nq_topv (show va_rf ((arS b n) ((nI j)).toNatClampNeg) = .ref (b (2 + j)) from by rw [nI_clamp (by omega)]; exact congrArg va_rf (arS_at (by omega))) ?_
          refine lv_iconst (v := (nI 0)) hx hb dL_act_347 (by decide) ?_
          refine lv_iload hx hb dL_act_348 (lv_at hl 0 rfl) ?_
          refine va_iast hx hb hK hP hD hS ((wC E a mc n now lim (LF F lit fo)).length + (2 + j)) 0 (SV_end.2.2 j (by omega)) rfl (by exact vp_in_nI (by omega) (by omega)) dL_act_350 (fun H locs hP hD hS => ?_)
          rw [wSd_set (q := 2) (v := F k 2) (by omega) rwF_c] at hP hD
          refine lv_aload_n hx hb dL_act_351 rfl (lv_at hl 5 rfl) ?_
          refine lv_iload hx hb dL_act_352 (lv_at hl 3 rfl) ?_
          refine lv_iload hx hb dL_act_354 (lv_at hl 1 rfl) ?_
          have hP0 := hP
          have hP : va_P E.1 vwCl ([] ++ (wC E a mc n now lim (LF F lit fo) ++ wS E b n now lim (up2 (up2 F k 2 (F j 2)) j 2 (F k 2)))) H := hP
          have hD : va_D A ([] ++ (wC E a mc n now lim (LF F lit fo) ++ wS E b n now lim (up2 (up2 F k 2 (F j 2)) j 2 (F k 2)))) := hD
          refine cmX_i (wx := []) (wy := wS E b n now lim (up2 (up2 F k 2 (F j 2)) j 2 (F k 2))) (rest := []) (As := [.int (nI k), .int (nI j)]) ⟨hx, hb, hml, hown, hts⟩ (c_X1_swapColours l E _ a mc n now lim F lit fo hO k j (by omega) (by omega) (by omega)) (cwV 2 hts gL_act_X1_swapColours rfl rfl rfl (by decide +kernel) ⟨Nat.le_of_ble_eq_true rfl, Nat.le_of_ble_eq_true rfl⟩) (va_recv hK hP0 (ci := 2) (q0 := 0) rfl (list_app wC_x)) hP hK hD hS hA rfl hl.1 rfl (Nat.le_of_ble_eq_true rfl) dL_act_356 ⟨Nat.le_of_ble_eq_true rfl, Nat.le_of_ble_eq_true rfl⟩ (fun r356 u356 H locs hr356 hP hD hS => ?_)
          subst hr356
          have hP : va_P E.1 vwCl (wC E a mc n now lim (LF (up2 (up2 F k 2 (F j 2)) j 2 (F k 2)) lit fo) ++ wS E b n now lim (up2 (up2 F k 2 (F j 2)) j 2 (F k 2))) H := hP
          have hD : va_D A (wC E a mc n now lim (LF (up2 (up2 F k 2 (F j 2)) j 2 (F k 2)) lit fo) ++ wS E b n now lim (up2 (up2 F k 2 (F j 2)) j 2 (F k 2))) := hD
          refine lv_iload hx hb dL_act_359 (lv_at hl 0 rfl) ?_
          refine lv_aload hx hb dL_act_361 (lv_at hl 2 rfl) ?_
          refine lv_iconst (v := (nI 0)) hx hb dL_act_363 (by decide) ?_
          refine va_iald hx hb hK hP ((wC E a mc n now lim (LF (up2 (up2 F k 2 (F j 2)) j 2 (F k 2)) lit fo)).length + (2 + k)) 0 (SV_end.2.2 k (by omega)) rfl (by exact vp_in_nI (by omega) (by omega)) dL_act_364 ?_
          refine nq_top (show (rwF (up2 (up2 F k 2 (F j 2)) j 2 (F k 2)) k (((nI 0)).toNatClampNeg)) = (nI ((up2 (up2 F k 2 (F j 2)) j 2 (F k 2)) k 2)) from by rw [nI_clamp (by omega)]; rfl) ?_
          refine nq_top (show (nI ((up2 (up2 F k 2 (F j 2)) j 2 (F k 2)) k 2)) = (nI (F j 2)) from congrArg nI (by simp [up2, hkj])) ?_
          refine nq_icmp_eq (tgt := 372) hx hb dL_act_365 (by decide) (by omega) (by omega) (fun h365 => ?_) (fun h365 => ?_)
          · skip
            refine lv_iconst (v := (nI 0)) hx hb dL_act_372 (by decide) ?_
            refine lv_icmp_ne (tgt := 380) hx hb dL_act_373 (by decide) (fun h373 => ?_) (fun h373 => ?_)
            · skip
              exact absurd (by rw [show decide (F j 2 ≠ F k 2) = false from decide_eq_false (fun q => q h365.symm)]; rfl) h373
            · skip
              refine lv_iconst (v := (nI 1)) hx hb dL_act_376 (by decide) ?_
              refine lv_goto (tgt := 381) hx hb dL_act_377 (by decide) ?_
              rw [hQ]
              refine W.widen (k := 200) (n := 1600) (by omega) (by omega) ?_
              refine nq_top (show nI 1 = bI true from rfl) ?_
              exact retM_z (E := E) (A0 := A) (b := true) (post := fun r u => r = bI true ∧ AR a b n now x u) (u := (a, mc, n, now, lim, (up2 (up2 F k 2 (F j 2)) j 2 (F k 2)), lit, fo, b)) (W1 := fun u => wU E u) hx hb hr hlocks hP hK hD hS (⟨rfl, rfl, rfl, ok_2 (ok_2 hO hk (hO4 j hj).2.2.2.2.1) hj (hO4 k hk).2.2.2.2.1, by show now ≤ now + 200; omega, Nat.le_refl _, by show 1 ≤ n; omega, fun _ h9 => absurd h9 (by omega)⟩) dL_act_381
          · skip
            refine lv_iconst (v := (nI 1)) hx hb dL_act_368 (by decide) ?_
            refine lv_goto (tgt := 373) hx hb dL_act_369 (by decide) ?_
            refine lv_icmp_ne (tgt := 380) hx hb dL_act_373 (by decide) (fun h373 => ?_) (fun h373 => ?_)
            · skip
              exact absurd (by rw [show decide (F j 2 ≠ F k 2) = true from decide_eq_true (fun q => h365 q.symm)]; rfl) h373
            · skip
              refine lv_iconst (v := (nI 1)) hx hb dL_act_376 (by decide) ?_
              refine lv_goto (tgt := 381) hx hb dL_act_377 (by decide) ?_
              rw [hQ]
              refine W.widen (k := 200) (n := 1600) (by omega) (by omega) ?_
              refine nq_top (show nI 1 = bI true from rfl) ?_
              exact retM_z (E := E) (A0 := A) (b := true) (post := fun r u => r = bI true ∧ AR a b n now x u) (u := (a, mc, n, now, lim, (up2 (up2 F k 2 (F j 2)) j 2 (F k 2)), lit, fo, b)) (W1 := fun u => wU E u) hx hb hr hlocks hP hK hD hS (⟨rfl, rfl, rfl, ok_2 (ok_2 hO hk (hO4 j hj).2.2.2.2.1) hj (hO4 k hk).2.2.2.2.1, by show now ≤ now + 200; omega, Nat.le_refl _, by show 1 ≤ n; omega, fun _ h9 => absurd h9 (by omega)⟩) dL_act_381
        · skip
          refine lv_iconst (v := (nI 1)) hx hb dL_act_319 (by decide) ?_
          rw [hQ]
          refine W.widen (k := 200) (n := 1600) (by omega) (by omega) ?_
          refine nq_top (show nI 1 = bI true from rfl) ?_
          exact retM_z (E := E) (A0 := A) (b := true) (post := fun r u => r = bI true ∧ AR a b n now x u) (u := (a, mc, n, now, lim, F, lit, fo, b)) (W1 := fun u => wU E u) hx hb hr hlocks hP hK hD hS (⟨rfl, rfl, rfl, hO, by show now ≤ now + 200; omega, Nat.le_refl _, by show 1 ≤ n; omega, fun _ h9 => absurd h9 (by omega)⟩) dL_act_320
      · skip
        refine lv_aload_n hx hb dL_act_382 rfl (lv_at hl 4 rfl) ?_
        refine va_get (D := E.1) (ci := 3) (v := .int (nI lim)) (C := RX2) (T := TX2) (N := 3) hx hb hts hiX2 hown hK hP _ SV_end.1 rfl 1 (by decide) (hts (.fieldLink RL 41 "PulseLoomLaw$Sim" "limit" "I") (List.mem_of_getElem? (i := 3) (by rfl))) (fun _ h9 => h9) rfl dL_act_383 ?_
        refine lv_istore (lv' := [(6, .int (nI lim)), (5, .ref (b (2 + k))), (4, .int (nI k)), (3, .int (nI n)), (0, .ref (a 0)), (1, .ref (b 0)), (2, .int x)]) hx hb dL_act_386 hl (by decide) rfl (fun ls hl => ?_)
        refine lv_aload_n hx hb dL_act_388 rfl (lv_at hl 5 rfl) ?_
        refine lv_iload_n hx hb dL_act_389 rfl (lv_at hl 6 rfl) ?_
        refine lv_iconst (v := (nI 4)) hx hb dL_act_390 (by decide) ?_
        refine lv_ishr hx hb dL_act_391 ?_
        refine lv_iload_n hx hb dL_act_392 rfl (lv_at hl 6 rfl) ?_
        have join410 : ∀ (kk : Nat) (H : Heap) (locs : List Loc) (ls : Array Slot), (15 ≤ kk ∧ kk ≤ 100) → va_P E.1 vwCl (wC E a mc n now lim (LF F lit fo) ++ wS E b n now lim F) H → va_D A (wC E a mc n now lim (LF F lit fo) ++ wS E b n now lim F) → va_S A s.heap H locs → lv_has ls 8 [(6, .int (nI lim)), (5, .ref (b (2 + k))), (4, .int (nI k)), (3, .int (nI n)), (0, .ref (a 0)), (1, .ref (b 0)), (2, .int x)] → W p l e ({ frames := 6, cells := 200, slots := 1600, locals := 134 } : Room) s m args below meth c H locs 0 0 QQ (F0 m 410 ls [.int (nI kk), .int (x >>> (nI 4 &&& 31)), .ref (b 0)]) := by
          intro kk H locs ls hkk hP hD hS hl
          refine csS_i (rest := [.ref (b 0)]) (As := [.int (x >>> (nI 4 &&& 31)), .int (nI kk)]) ⟨hx, hb, hml, hown, hts⟩ (c_L_below l E _ (x >>> (nI 4 &&& 31)) kk (by omega)) (va_cwS 2 hts gL_act_L_below rfl rfl rfl (by decide +kernel) ⟨Nat.le_of_ble_eq_true rfl, Nat.le_of_ble_eq_true rfl⟩) hP hK rfl hl.1 rfl (Nat.le_of_ble_eq_true rfl) dL_act_410 (Nat.le_of_ble_eq_true rfl) (Nat.le_of_ble_eq_true rfl) (fun r410 hr410 => ?_)
          subst hr410
          obtain ⟨cv, ecv⟩ : ∃ z9, z9 = bl (x >>> (nI 4 &&& 31)) kk := ⟨_, rfl⟩
          have hcv := bl_lt (v := x >>> (nI 4 &&& 31)) (k := kk) (by omega)
          refine nq_top (show (nI (bl (x >>> (nI 4 &&& 31)) kk)) = (nI cv) from congrArg nI ecv.symm) ?_
          refine va_put (D := E.1) (ci := 3) (v := .int (nI cv)) (ty := .int) (C := RX2) (T := TX2) (N := 3) hx hb hts hiX2 tyX2 tyX2_ok nmX2 hown hK hP hD hS _ SV_end.1 rfl 1 (by decide) (hts (.fieldLink RL 41 "PulseLoomLaw$Sim" "limit" "I") (List.mem_of_getElem? (i := 3) (by rfl))) (fun _ h9 => h9) rfl (by decide +kernel) rfl (by rfl) (Nat.le_of_ble_eq_true rfl) dL_act_413 (fun H locs hP hD hS => ?_)
          have hP : va_P E.1 vwCl ((wC E a mc n now lim (LF F lit fo) ++ wS E b n now lim F).set (wC E a mc n now lim (LF F lit fo)).length (b 0, .inr (3, [.ref (b 1), .int (nI cv), .int (nI now)]))) H := hP
          have hD : va_D A ((wC E a mc n now lim (LF F lit fo) ++ wS E b n now lim F).set (wC E a mc n now lim (LF F lit fo)).length (b 0, .inr (3, [.ref (b 1), .int (nI cv), .int (nI now)]))) := hD
          rw [wS_l0] at hP hD
          refine lv_aload_n hx hb dL_act_416 rfl (lv_at hl 4 rfl) ?_
          refine lv_aload_n hx hb dL_act_417 rfl (lv_at hl 5 rfl) ?_
          refine va_get (D := E.1) (ci := 3) (v := .int (nI cv)) (C := RX2) (T := TX2) (N := 3) hx hb hts hiX2 hown hK hP _ SV_end.1 rfl 1 (by decide) (hts (.fieldLink RL 41 "PulseLoomLaw$Sim" "limit" "I") (List.mem_of_getElem? (i := 3) (by rfl))) (fun _ h9 => h9) rfl dL_act_418 ?_
          have hP0 := hP
          have hP : va_P E.1 vwCl ([] ++ (wC E a mc n now lim (LF F lit fo) ++ wS E b n now cv F)) H := hP
          have hD : va_D A ([] ++ (wC E a mc n now lim (LF F lit fo) ++ wS E b n now cv F)) := hD
          refine cmX_i (wx := []) (wy := wS E b n now cv F) (rest := []) (As := [.int (nI cv)]) ⟨hx, hb, hml, hown, hts⟩ (c_X1_setLimit l E _ a mc n now lim F lit fo hO cv (by omega)) (cwV 1 hts gL_act_X1_setLimit rfl rfl rfl (by decide +kernel) ⟨Nat.le_of_ble_eq_true rfl, Nat.le_of_ble_eq_true rfl⟩) (va_recv hK hP0 (ci := 2) (q0 := 0) rfl (list_app wC_x)) hP hK hD hS hA rfl hl.1 rfl (Nat.le_of_ble_eq_true rfl) dL_act_421 ⟨Nat.le_of_ble_eq_true rfl, Nat.le_of_ble_eq_true rfl⟩ (fun r421 u421 H locs hr421 hP hD hS => ?_)
          subst hr421
          have hP : va_P E.1 vwCl (wC E a mc n now cv (LF F lit fo) ++ wS E b n now cv F) H := hP
          have hD : va_D A (wC E a mc n now cv (LF F lit fo) ++ wS E b n now cv F) := hD
          refine lv_iload hx hb dL_act_424 (lv_at hl 0 rfl) ?_
          refine nq_icmp_ne (tgt := 433) hx hb dL_act_426 (by decide) (by omega) (by omega) (fun h426 => ?_) (fun h426 => ?_)
          · skip
            exact absurd rfl h426
          · skip
            refine lv_iconst (v := (nI 1)) hx hb dL_act_429 (by decide) ?_
            refine lv_goto (tgt := 434) hx hb dL_act_430 (by decide) ?_
            rw [hQ]
            refine W.widen (k := 200) (n := 1600) (by omega) (by omega) ?_
            refine nq_top (show nI 1 = bI true from rfl) ?_
            exact retM_z (E := E) (A0 := A) (b := true) (post := fun r u => r = bI true ∧ AR a b n now x u) (u := (a, mc, n, now, cv, F, lit, fo, b)) (W1 := fun u => wU E u) hx hb hr hlocks hP hK hD hS (⟨rfl, rfl, rfl, ok_lim (v := cv) hO (by omega), by show now ≤ now + 200; omega, Nat.le_refl _, by show 1 ≤ n; omega, fun _ h9 => absurd h9 (by omega)⟩) dL_act_434
        refine lv_bipush (v := (nI 8)) hx hb dL_act_393 (by decide) ?_
        refine lv_ishr hx hb dL_act_395 ?_
        refine lv_iconst (v := (nI 2)) hx hb dL_act_396 (by decide) ?_
        refine csS_i (rest := [.int (x >>> ((nI 4) &&& 31)), .ref (b 0)]) (As := [.int (x >>> ((nI 8) &&& 31)), .int (nI 2)]) ⟨hx, hb, hml, hown, hts⟩ (c_L_below l E _ (x >>> ((nI 8) &&& 31)) 2 (by omega)) (va_cwS 2 hts gL_act_L_below rfl rfl rfl (by decide +kernel) ⟨Nat.le_of_ble_eq_true rfl, Nat.le_of_ble_eq_true rfl⟩) hP hK rfl hl.1 rfl (Nat.le_of_ble_eq_true rfl) dL_act_397 (Nat.le_of_ble_eq_true rfl) (Nat.le_of_ble_eq_true rfl) (fun r397 hr397 => ?_)
        subst hr397
        have hb82 := bl_lt (v := x >>> (nI 8 &&& 31)) (k := 2) (by omega)
        refine nq_if_ne (tgt := 408) hx hb dL_act_400 (by decide) (by omega) (fun h400 => ?_) (fun h400 => ?_)
        · skip
          refine lv_bipush (v := (nI 15)) hx hb dL_act_408 (by decide) ?_
          exact join410 15 _ _ ls (by omega) hP hD hS (lv_sub hl [0, 1, 2, 3, 4, 5, 6] rfl)
        · skip
          refine lv_bipush (v := (nI 100)) hx hb dL_act_403 (by decide) ?_
          refine lv_goto (tgt := 410) hx hb dL_act_405 (by decide) ?_
          exact join410 100 _ _ ls (by omega) hP hD hS (lv_sub hl [0, 1, 2, 3, 4, 5, 6] rfl)
      · skip
        refine lv_iconst (v := (nI 1)) hx hb dL_act_435 (by decide) ?_
        refine lv_iload_n hx hb dL_act_436 rfl (lv_at hl 5 rfl) ?_
        refine lv_iconst (v := (nI 4)) hx hb dL_act_437 (by decide) ?_
        refine lv_ishr hx hb dL_act_438 ?_
        refine lv_iload_n hx hb dL_act_439 rfl (lv_at hl 5 rfl) ?_
        refine lv_bipush (v := (nI 8)) hx hb dL_act_440 (by decide) ?_
        have join458 : ∀ (kk : Nat) (H : Heap) (locs : List Loc) (ls : Array Slot), (12 ≤ kk ∧ kk ≤ 200) → va_P E.1 vwCl (wC E a mc n now lim (LF F lit fo) ++ wS E b n now lim F) H → va_D A (wC E a mc n now lim (LF F lit fo) ++ wS E b n now lim F) → va_S A s.heap H locs → lv_has ls 8 [(5, .ref (b (2 + k))), (4, .int (nI k)), (3, .int (nI n)), (0, .ref (a 0)), (1, .ref (b 0)), (2, .int x)] → W p l e ({ frames := 6, cells := 200, slots := 1600, locals := 134 } : Room) s m args below meth c H locs 0 0 QQ (F0 m 458 ls [.int (nI kk), .int (x >>> (nI 4 &&& 31)), .int (nI 1)]) := by
          intro kk H locs ls hkk hP hD hS hl
          refine csS_i (rest := [.int (nI 1)]) (As := [.int (x >>> (nI 4 &&& 31)), .int (nI kk)]) ⟨hx, hb, hml, hown, hts⟩ (c_L_below l E _ (x >>> (nI 4 &&& 31)) kk (by omega)) (va_cwS 2 hts gL_act_L_below rfl rfl rfl (by decide +kernel) ⟨Nat.le_of_ble_eq_true rfl, Nat.le_of_ble_eq_true rfl⟩) hP hK rfl hl.1 rfl (Nat.le_of_ble_eq_true rfl) dL_act_458 (Nat.le_of_ble_eq_true rfl) (Nat.le_of_ble_eq_true rfl) (fun r458 hr458 => ?_)
          subst hr458
          refine nq_add hx hb dL_act_461 ?_
          refine lv_istore (lv' := [(6, .int (nI (1 + (bl (x >>> (nI 4 &&& 31)) kk)))), (5, .ref (b (2 + k))), (4, .int (nI k)), (3, .int (nI n)), (0, .ref (a 0)), (1, .ref (b 0)), (2, .int x)]) hx hb dL_act_462 hl (by decide) rfl (fun ls hl => ?_)
          have hbt := bl_lt (v := x >>> (nI 4 &&& 31)) (k := kk) (by omega)
          obtain ⟨t9, et9⟩ : ∃ z9, z9 = 1 + bl (x >>> (nI 4 &&& 31)) kk := ⟨_, rfl⟩
          have hl : lv_has ls 8 [(6, .int (nI t9)), (5, .ref (b (2 + k))), (4, .int (nI k)), (3, .int (nI n)), (0, .ref (a 0)), (1, .ref (b 0)), (2, .int x)] := lv_rep hl 0 rfl (congrArg Value.int (show (nI (1 + (bl (x >>> (nI 4 &&& 31)) kk))) = (nI t9) from congrArg nI et9.symm))
          have ht9 : 1 ≤ t9 ∧ t9 ≤ 200 := by omega
          have hpd9 := passD_le F lim now n t9
          refine lv_aload_n hx hb dL_act_464 rfl (lv_at hl 4 rfl) ?_
          refine lv_iload hx hb dL_act_465 (lv_at hl 0 rfl) ?_
          have hP0 := hP
          have hP : va_P E.1 vwCl ([] ++ (wC E a mc n now lim (LF F lit fo) ++ wS E b n now lim F)) H := hP
          have hD : va_D A ([] ++ (wC E a mc n now lim (LF F lit fo) ++ wS E b n now lim F)) := hD
          refine cmX_i (wx := []) (wy := wS E b n now lim F) (rest := []) (As := [.int (nI t9)]) ⟨hx, hb, hml, hown, hts⟩ (c_X1_pass l E _ a mc n now lim F lit fo hO t9 (by omega) (by omega)) (cwV 1 hts gL_act_X1_pass rfl rfl rfl (by decide +kernel) ⟨Nat.le_of_ble_eq_true rfl, Nat.le_of_ble_eq_true rfl⟩) (va_recv hK hP0 (ci := 2) (q0 := 0) rfl (list_app wC_x)) hP hK hD hS hA rfl hl.1 rfl (Nat.le_of_ble_eq_true rfl) dL_act_467 ⟨Nat.le_of_ble_eq_true rfl, Nat.le_of_ble_eq_true rfl⟩ (fun r467 u467 H locs hr467 hP hD hS => ?_)
          subst hr467
          have hP : va_P E.1 vwCl (wC E a mc n (now + t9) lim (LF (passF F lim now n t9) u467 fo) ++ wS E b n now lim F) H := hP
          have hD : va_D A (wC E a mc n (now + t9) lim (LF (passF F lim now n t9) u467 fo) ++ wS E b n now lim F) := hD
          refine lv_aload_n hx hb dL_act_470 rfl (lv_at hl 5 rfl) ?_
          refine lv_iload hx hb dL_act_471 (lv_at hl 0 rfl) ?_
          refine cmE_i (wx := (wC E a mc n (now + t9) lim (LF (passF F lim now n t9) u467 fo))) (rest := [.int (nI (passD F lim now n t9))]) (As := [.int (nI t9)]) ⟨hx, hb, hml, hown, hts⟩ (c_X2_pass_ l E _ b n now lim F hO t9 (by omega) (by omega)) (cwV 1 hts gL_act_X2_pass_ rfl rfl rfl (by decide +kernel) ⟨Nat.le_of_ble_eq_true rfl, Nat.le_of_ble_eq_true rfl⟩) (va_recv hK hP (ci := 3) (q0 := _) rfl SV_end.1) hP hK hD hS hA rfl hl.1 rfl (Nat.le_of_ble_eq_true rfl) dL_act_473 ⟨by show 0 + 200 ≤ 200; omega, by show 0 + 1600 ≤ 1600; omega⟩ (fun r473 u473 H locs hr473 hP hD hS => ?_)
          subst hr473
          have hP : va_P E.1 vwCl (wC E a mc n (now + t9) lim (LF (passF F lim now n t9) u467 fo) ++ wS E b n (now + t9) lim (passF F lim now n t9)) H := hP
          have hD : va_D A (wC E a mc n (now + t9) lim (LF (passF F lim now n t9) u467 fo) ++ wS E b n (now + t9) lim (passF F lim now n t9)) := hD
          refine nq_icmp_ne (tgt := 483) hx hb dL_act_476 (by decide) (by omega) (by omega) (fun h476 => ?_) (fun h476 => ?_)
          · skip
            exact absurd rfl h476
          · skip
            refine lv_iconst (v := (nI 1)) hx hb dL_act_479 (by decide) ?_
            refine lv_goto (tgt := 484) hx hb dL_act_480 (by decide) ?_
            rw [hQ]
            refine W.widen (k := 200) (n := 1600) (by omega) (by omega) ?_
            refine nq_top (show nI 1 = bI true from rfl) ?_
            exact retM_z (E := E) (A0 := A) (b := true) (post := fun r u => r = bI true ∧ AR a b n now x u) (u := (a, mc, n, (now + t9), lim, (passF F lim now n t9), u467, fo, b)) (W1 := fun u => wU E u) hx hb hr hlocks hP hK hD hS (⟨rfl, rfl, rfl, pass_ok hO t9 (by omega), by show now + t9 ≤ now + 200; omega, Nat.le_refl _, by show 1 ≤ n; omega, fun _ h9 => absurd h9 (by omega)⟩) dL_act_484
        refine lv_ishr hx hb dL_act_442 ?_
        refine lv_iconst (v := (nI 4)) hx hb dL_act_443 (by decide) ?_
        refine csS_i (rest := [.int (x >>> ((nI 4) &&& 31)), .int (nI 1)]) (As := [.int (x >>> ((nI 8) &&& 31)), .int (nI 4)]) ⟨hx, hb, hml, hown, hts⟩ (c_L_below l E _ (x >>> ((nI 8) &&& 31)) 4 (by omega)) (va_cwS 2 hts gL_act_L_below rfl rfl rfl (by decide +kernel) ⟨Nat.le_of_ble_eq_true rfl, Nat.le_of_ble_eq_true rfl⟩) hP hK rfl hl.1 rfl (Nat.le_of_ble_eq_true rfl) dL_act_444 (Nat.le_of_ble_eq_true rfl) (Nat.le_of_ble_eq_true rfl) (fun r444 hr444 => ?_)
        subst hr444
        have hb84 := bl_lt (v := x >>> (nI 8 &&& 31)) (k := 4) (by omega)
        refine nq_if_ne (tgt := 456) hx hb dL_act_447 (by decide) (by omega) (fun h447 => ?_) (fun h447 => ?_)
        · skip
          refine lv_bipush (v := (nI 12)) hx hb dL_act_456 (by decide) ?_
          exact join458 12 _ _ ls (by omega) hP hD hS (lv_sub hl [0, 1, 2, 3, 4, 5] rfl)
        · skip
          refine lv_sipush (v := (nI 200)) hx hb dL_act_450 (by decide) ?_
          refine lv_goto (tgt := 458) hx hb dL_act_453 (by decide) ?_
          exact join458 200 _ _ ls (by omega) hP hD hS (lv_sub hl [0, 1, 2, 3, 4, 5] rfl)
    · skip
      exact join19 _ _ ls (by omega) hP hD hS (lv_sub hl [1, 2, 3, 0] rfl)

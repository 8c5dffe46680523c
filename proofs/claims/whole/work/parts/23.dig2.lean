/-! the reference's checksum: rows of ints, joined one by one -/
def arrL (x : List Int32) : Nat → Int32 := fun j => x.getD j 0
theorem upd_arr {x : List Int32} {k : Nat} {v : Int32} (h : x.length = k) (hk : k < 1000) : upd (arrL x) ((nI k).toNatClampNeg) v = arrL (x ++ [v]) := by
  rw [nI_clamp (by omega)]
  subst h
  funext j
  unfold upd arrL
  by_cases hj : j = x.length
  · subst hj
    simp
  · rw [if_neg hj]
    rcases Nat.lt_or_ge j x.length with z | z
    · simp [List.getD, List.getElem?_append_left z]
    · have h1 : x.length < j := by omega
      simp [List.getD, List.getElem?_eq_none (show x.length ≤ j by omega), List.getElem?_eq_none (show (x ++ [v]).length ≤ j by simp; omega)]
def jF (f : Nat → Int32) (d : Int64) : Nat → Int64 | 0 => d | k + 1 => jn (jF f d k) ((f k).toInt64)
theorem bI_l (c : Bool) : (bI c).toInt64 = bL c := by cases c <;> rfl
theorem jF4 (x0 x1 x2 x3 : Int32) (d : Int64) : jF (arrL [x0, x1, x2, x3]) d 4 = jn (jn (jn (jn d x0.toInt64) x1.toInt64) x2.toInt64) x3.toInt64 := rfl
theorem jF5 (x0 x1 x2 x3 x4 : Int32) (d : Int64) : jF (arrL [x0, x1, x2, x3, x4]) d 5 = jn (jn (jn (jn (jn d x0.toInt64) x1.toInt64) x2.toInt64) x3.toInt64) x4.toInt64 := rfl
theorem jF8 (x0 x1 x2 x3 x4 x5 x6 x7 : Int32) (d : Int64) : jF (arrL [x0, x1, x2, x3, x4, x5, x6, x7]) d 8 = jn (jn (jn (jn (jn (jn (jn (jn d x0.toInt64) x1.toInt64) x2.toInt64) x3.toInt64) x4.toInt64) x5.toInt64) x6.toInt64) x7.toInt64 := rfl
theorem jF_s (f : Nat → Int32) (d : Int64) (k : Nat) : jF f d (k + 1) = jF f d k * 31 + (f k).toInt64 := rfl
section WMO
variable {p : Program} {l : Launch} {e : Env} {R : Room} {s : State} {m : MethodId} {args : Array Value} {below : List Frame} {meth : Method} {c : Code} {H : Heap} {locs : List Loc} {cells slots cells2 slots2 mc ms : Nat} {Q : State → Prop} {g : JFrame}
theorem W_cs (h1 : cells = cells2) (h2 : slots = slots2) (k : W p l e R s m args below meth c H locs cells2 slots2 Q g) : W p l e R s m args below meth c H locs cells slots Q g := by
  subst h1
  subst h2
  exact k
theorem W_more {Qc : Array Value → State → Outcome → State → Prop} {free : Addr → Prop} (h1 : cells2 ≤ mc) (h2 : slots2 ≤ ms) (k : W p l e R s m args below meth c H locs cells slots (MQ below Qc args s cells2 slots2 free) g) : W p l e R s m args below meth c H locs cells slots (MQ below Qc args s mc ms free) g := by
  intro T hT X
  obtain ⟨t, a1, o, a2, a3, a4, L, ⟨b1, b2, b3⟩, a6⟩ := k T hT X
  exact ⟨t, a1, o, a2, a3, a4, L, ⟨b1, b2, b3.1, b3.2.1, by have := b3.2.2.1; omega, b3.2.2.2.1, by have := b3.2.2.2.2.1; omega, b3.2.2.2.2.2⟩, a6⟩
end WMO

set_option maxHeartbeats 4000000 in
set_option maxRecDepth 100000 in
/-- digest() -/
theorem c_X2_digest (l : Launch) (E : GE) (sz : Nat) (b : Nat → Nat) (th : Int32) (n lim t : Nat) (F : LR) (kp : Nat → Int32) (hO : OkS n t lim F) (hk9 : t + 200 ≤ 100000000) : Met l yX2_digest wsX2_digest ({ frames := 5, cells := 10, slots := 73, locals := 112 } : Room) (va_Pc [.ref (b 0)] (pcM E (wM E b th n lim F (NW t F) kp) sz)) (va_Ql (S := Nat → Int32) (fun r _ => r = digS F n t lim) (fun uQ tQ => atM E (va_A (wM E b th n lim F (NW t F) kp) sz) ((fun kq => wM E b (nI 0) n lim F (NW t F) kq) uQ) tQ) (va_A (wM E b th n lim F (NW t F) kp) sz)) 10 73 (va_A (wM E b th n lim F (NW t F) kp) sz) := by
  refine metM (by decide) rfl (Nat.le_of_ble_eq_true rfl) ?_
  intro p e s m args below meth c ls A hAe hA hx hb hr hml hts hown hlocks hin hP hK hD hS hl
  rw [hAe]
  have hiX2 : ∀ q ∈ wsX20, q ∈ wsX2_digest := by decide +kernel
  obtain ⟨QQ, hQ⟩ : ∃ zQ, zQ = MQ below (va_Ql (S := Nat → Int32) (fun r _ => r = digS F n t lim) (fun uQ tQ => atM E A ((fun kq => wM E b (nI 0) n lim F (NW t F) kq) uQ) tQ) A) args s 10 73 A := ⟨_, rfl⟩
  rw [← hQ]
  obtain ⟨hO1, hO2, hO3, hO4, hO5⟩ := id hO
  have ha9 := acS_le hO lim t n (Nat.le_refl _)
  have hu8 := unfS_le hO
  have hu9 := unfS_le (pass_ok hO 12 (by omega))
  have hx9 := mxA_le hO lim t 12
  have hx8 := mxA_le hO 99 t 12
  have hap := apS_le F n n
  have hap2 : n * n ≤ 8 * 8 := Nat.mul_le_mul hO1 hO1
  refine lv_aload_n hx hb dX2_digest_0 rfl (lv_at hl 0 rfl) ?_
  refine lv_iconst (v := (nI 0)) hx hb dX2_digest_1 (by decide) ?_
  refine va_put (D := E.1) (ci := 3) (v := .int (nI 0)) (ty := .int) (C := RX2) (T := TX2) (N := 10) hx hb hts hiX2 tyX2 tyX2_ok nmX2 hown hK hP hD hS 0 rfl rfl 0 (by decide) (hts (.fieldLink RX2 35 "PulseLoomModel" "thrown" "I") (List.mem_of_getElem? (i := 1) (by rfl))) (fun _ h9 => h9) rfl (by decide +kernel) rfl (by rfl) (Nat.le_of_ble_eq_true rfl) dX2_digest_2 (fun H locs hP hD hS => ?_)
  have hP : va_P E.1 vwCl (wM E b (nI 0) n lim F (NW t F) kp) H := hP
  have hD : va_D A (wM E b (nI 0) n lim F (NW t F) kp) := hD
  refine lv_iconst (v := (nI 5)) hx hb dX2_digest_5 (by decide) ?_
  refine nq_newa (atype := .int) (N := 5) hx hb (hts (.arrayClass .int) (List.mem_of_getElem? (i := 2) (by rfl))) rfl hK hP hD hS hA (by decide) (by show 0 + 1 ≤ 10; omega) (by show 0 + 5 ≤ 73; omega) dX2_digest_6 (fun q6 H hP hD hS => ?_)
  have hP : va_P E.1 vwCl (wM E b (nI 0) n lim F (NW t F) kp ++ [(q6, .inl (E.2.1, 5, .inl (arrL [])))]) H := hP
  have hD : va_D A (wM E b (nI 0) n lim F (NW t F) kp ++ [(q6, .inl (E.2.1, 5, .inl (arrL [])))]) := hD
  refine lv_dup hx hb dX2_digest_8 rfl ?_
  refine lv_iconst (v := (nI 0)) hx hb dX2_digest_9 (by decide) ?_
  refine lv_aload_n hx hb dX2_digest_10 rfl (lv_at hl 0 rfl) ?_
  refine va_get (D := E.1) (ci := 3) (v := .ref (b 6)) (C := RX2) (T := TX2) (N := 10) hx hb hts hiX2 hown hK hP 0 rfl rfl 8 (by decide) (hts (.fieldLink RX2 29 "PulseLoomModel" "now" "[I") (List.mem_of_getElem? (i := 3) (by rfl))) (fun _ h9 => h9) rfl dX2_digest_11 ?_
  refine lv_iconst (v := (nI 0)) hx hb dX2_digest_14 (by decide) ?_
  refine va_iald hx hb hK hP 6 0 rfl rfl (by exact vp_in_nI (by omega) (by omega)) dX2_digest_15 ?_
  refine nq_top (show (NW t F (((nI 0)).toNatClampNeg)) = (nI t) from by rw [nI_clamp (by omega)]; rfl) ?_
  refine va_iast hx hb hK hP hD hS 8 0 rfl rfl (by exact vp_in_nI (by omega) (by omega)) dX2_digest_16 (fun H locs hP hD hS => ?_)
  rw [upd_arr (x := []) (k := 0) (v := (nI t)) rfl (by decide)] at hP hD
  have hP : va_P E.1 vwCl (wM E b (nI 0) n lim F (NW t F) kp ++ [(q6, .inl (E.2.1, 5, .inl (arrL [(nI t)])))]) H := hP
  have hD : va_D A (wM E b (nI 0) n lim F (NW t F) kp ++ [(q6, .inl (E.2.1, 5, .inl (arrL [(nI t)])))]) := hD
  refine lv_dup hx hb dX2_digest_17 rfl ?_
  refine lv_iconst (v := (nI 1)) hx hb dX2_digest_18 (by decide) ?_
  refine lv_aload_n hx hb dX2_digest_19 rfl (lv_at hl 0 rfl) ?_
  refine va_get (D := E.1) (ci := 3) (v := .int (nI n)) (C := RX2) (T := TX2) (N := 10) hx hb hts hiX2 hown hK hP 0 rfl rfl 1 (by decide) (hts (.fieldLink RX2 38 "PulseLoomModel" "lamps" "I") (List.mem_of_getElem? (i := 4) (by rfl))) (fun _ h9 => h9) rfl dX2_digest_20 ?_
  refine va_iast hx hb hK hP hD hS 8 0 rfl rfl (by exact vp_in_nI (by omega) (by omega)) dX2_digest_23 (fun H locs hP hD hS => ?_)
  rw [upd_arr (x := [(nI t)]) (k := 1) (v := (nI n)) rfl (by decide)] at hP hD
  have hP : va_P E.1 vwCl (wM E b (nI 0) n lim F (NW t F) kp ++ [(q6, .inl (E.2.1, 5, .inl (arrL [(nI t), (nI n)])))]) H := hP
  have hD : va_D A (wM E b (nI 0) n lim F (NW t F) kp ++ [(q6, .inl (E.2.1, 5, .inl (arrL [(nI t), (nI n)])))]) := hD
  refine lv_dup hx hb dX2_digest_24 rfl ?_
  refine lv_iconst (v := (nI 2)) hx hb dX2_digest_25 (by decide) ?_
  refine lv_aload_n hx hb dX2_digest_26 rfl (lv_at hl 0 rfl) ?_
  refine va_get (D := E.1) (ci := 3) (v := .int (nI lim)) (C := RX2) (T := TX2) (N := 10) hx hb hts hiX2 hown hK hP 0 rfl rfl 2 (by decide) (hts (.fieldLink RX2 9 "PulseLoomModel" "limit" "I") (List.mem_of_getElem? (i := 5) (by rfl))) (fun _ h9 => h9) rfl dX2_digest_27 ?_
  refine va_iast hx hb hK hP hD hS 8 0 rfl rfl (by exact vp_in_nI (by omega) (by omega)) dX2_digest_30 (fun H locs hP hD hS => ?_)
  rw [upd_arr (x := [(nI t), (nI n)]) (k := 2) (v := (nI lim)) rfl (by decide)] at hP hD
  have hP : va_P E.1 vwCl (wM E b (nI 0) n lim F (NW t F) kp ++ [(q6, .inl (E.2.1, 5, .inl (arrL [(nI t), (nI n), (nI lim)])))]) H := hP
  have hD : va_D A (wM E b (nI 0) n lim F (NW t F) kp ++ [(q6, .inl (E.2.1, 5, .inl (arrL [(nI t), (nI n), (nI lim)])))]) := hD
  refine lv_dup hx hb dX2_digest_31 rfl ?_
  refine lv_iconst (v := (nI 3)) hx hb dX2_digest_32 (by decide) ?_
  refine lv_aload_n hx hb dX2_digest_33 rfl (lv_at hl 0 rfl) ?_
  refine lv_aload_n hx hb dX2_digest_34 rfl (lv_at hl 0 rfl) ?_
  refine csV_i (rest := [.ref (b 0), .int (nI 3), .ref q6, .ref q6]) (As := []) ⟨hx, hb, hml, hown, hts⟩ (c_X2_shining l E _ b n lim t F t MV_app hO (Nat.le_refl _)) (cwV 0 hts gX2_digest_X2_shining rfl rfl rfl (by decide +kernel) ⟨Nat.le_of_ble_eq_true rfl, Nat.le_of_ble_eq_true rfl⟩) (va_recv hK hP (ci := 3) (q0 := 0) rfl rfl) hP hK rfl hl.1 rfl (Nat.le_of_ble_eq_true rfl) dX2_digest_35 (by show _ ≤ 10; omega) (by show _ ≤ 73; omega) (fun r35 hr35 => ?_)
  subst hr35
  refine csV_i (rest := [.int (nI 3), .ref q6, .ref q6]) (As := [.int (nI (shN F lim t n))]) ⟨hx, hb, hml, hown, hts⟩ (c_X2_powerOf l E _ b n lim t F t MV_app hO (Nat.le_refl _)) (cwV 1 hts gX2_digest_X2_powerOf rfl rfl rfl (by decide +kernel) ⟨Nat.le_of_ble_eq_true rfl, Nat.le_of_ble_eq_true rfl⟩) (va_recv hK hP (ci := 3) (q0 := 0) rfl rfl) hP hK rfl hl.1 rfl (Nat.le_of_ble_eq_true rfl) dX2_digest_38 (by show _ ≤ 10; omega) (by show _ ≤ 73; omega) (fun r38 hr38 => ?_)
  subst hr38
  refine va_iast hx hb hK hP hD hS 8 0 rfl rfl (by exact vp_in_nI (by omega) (by omega)) dX2_digest_41 (fun H locs hP hD hS => ?_)
  rw [upd_arr (x := [(nI t), (nI n), (nI lim)]) (k := 3) (v := (nI (acS F lim t n))) rfl (by decide)] at hP hD
  have hP : va_P E.1 vwCl (wM E b (nI 0) n lim F (NW t F) kp ++ [(q6, .inl (E.2.1, 5, .inl (arrL [(nI t), (nI n), (nI lim), (nI (acS F lim t n))])))]) H := hP
  have hD : va_D A (wM E b (nI 0) n lim F (NW t F) kp ++ [(q6, .inl (E.2.1, 5, .inl (arrL [(nI t), (nI n), (nI lim), (nI (acS F lim t n))])))]) := hD
  refine lv_dup hx hb dX2_digest_42 rfl ?_
  refine lv_iconst (v := (nI 4)) hx hb dX2_digest_43 (by decide) ?_
  refine lv_aload_n hx hb dX2_digest_44 rfl (lv_at hl 0 rfl) ?_
  refine csV_i (rest := [.int (nI 4), .ref q6, .ref q6]) (As := []) ⟨hx, hb, hml, hown, hts⟩ (c_X2_unfair l E _ b n lim t F t MV_app hO (Nat.le_refl _)) (cwV 0 hts gX2_digest_X2_unfair rfl rfl rfl (by decide +kernel) ⟨Nat.le_of_ble_eq_true rfl, Nat.le_of_ble_eq_true rfl⟩) (va_recv hK hP (ci := 3) (q0 := 0) rfl rfl) hP hK rfl hl.1 rfl (Nat.le_of_ble_eq_true rfl) dX2_digest_45 (by show _ ≤ 10; omega) (by show _ ≤ 73; omega) (fun r45 hr45 => ?_)
  subst hr45
  refine va_iast hx hb hK hP hD hS 8 0 rfl rfl (by exact vp_in_nI (by omega) (by omega)) dX2_digest_48 (fun H locs hP hD hS => ?_)
  rw [upd_arr (x := [(nI t), (nI n), (nI lim), (nI (acS F lim t n))]) (k := 4) (v := (nI (unfS F n))) rfl (by decide)] at hP hD
  have hP : va_P E.1 vwCl (wM E b (nI 0) n lim F (NW t F) kp ++ [(q6, .inl (E.2.1, 5, .inl (arrL [(nI t), (nI n), (nI lim), (nI (acS F lim t n)), (nI (unfS F n))])))]) H := hP
  have hD : va_D A (wM E b (nI 0) n lim F (NW t F) kp ++ [(q6, .inl (E.2.1, 5, .inl (arrL [(nI t), (nI n), (nI lim), (nI (acS F lim t n)), (nI (unfS F n))])))]) := hD
  refine lv_astore_n (lv' := [(1, .ref q6), (0, .ref (b 0))]) hx hb dX2_digest_49 rfl hl (by decide) rfl (fun ls hl => ?_)
  refine lv_ldc2 (v := 2297) hx hb hown (hts (.constantLong RX2 149 (2297)) (List.mem_of_getElem? (i := 6) (by rfl))) dX2_digest_50 ?_
  refine lv_lstore_n (lv' := [(2, .long 2297), (1, .ref q6), (0, .ref (b 0))]) hx hb dX2_digest_53 rfl hl (by decide) rfl (fun ls hl => ?_)
  refine lv_aload_n hx hb dX2_digest_54 rfl (lv_at hl 1 rfl) ?_
  refine lv_astore (lv' := [(4, .ref q6), (2, .long 2297), (1, .ref q6), (0, .ref (b 0))]) hx hb dX2_digest_55 hl (by decide) rfl (fun ls hl => ?_)
  refine lv_aload hx hb dX2_digest_57 (lv_at hl 0 rfl) ?_
  refine va_alen hx hb hK hP 8 0 rfl rfl (v := nI 5) rfl dX2_digest_59 ?_
  refine lv_istore (lv' := [(5, .int (nI 5)), (4, .ref q6), (2, .long 2297), (1, .ref q6), (0, .ref (b 0))]) hx hb dX2_digest_60 hl (by decide) rfl (fun ls hl => ?_)
  refine lv_iconst (v := (nI 0)) hx hb dX2_digest_62 (by decide) ?_
  refine lv_istore (lv' := [(6, .int (nI 0)), (5, .int (nI 5)), (4, .ref q6), (2, .long 2297), (1, .ref q6), (0, .ref (b 0))]) hx hb dX2_digest_63 hl (by decide) rfl (fun ls hl => ?_)
  have loop65 : ∀ (tk : Nat) (i : Nat) (H : Heap) (locs : List Loc) (ls : Array Slot), (i ≤ 5) → (5 - i) < tk → va_P E.1 vwCl (wM E b (nI 0) n lim F (NW t F) kp ++ [(q6, .inl (E.2.1, 5, .inl (arrL [nI t, nI n, nI lim, nI (acS F lim t n), nI (unfS F n)])))]) H → va_D A (wM E b (nI 0) n lim F (NW t F) kp ++ [(q6, .inl (E.2.1, 5, .inl (arrL [nI t, nI n, nI lim, nI (acS F lim t n), nI (unfS F n)])))]) → va_S A s.heap H locs → lv_has ls 11 [(0, .ref (b 0)), (2, .long (jF (arrL [nI t, nI n, nI lim, nI (acS F lim t n), nI (unfS F n)]) 2297 i)), (4, .ref q6), (5, .int (nI 5)), (6, .int (nI i))] → W p l e ({ frames := 5, cells := 10, slots := 73, locals := 112 } : Room) s m args below meth c H locs (0 + 1) (0 + 5) QQ (F0 m 65 ls []) := by
    intro tk
    induction tk with
    | zero => intro i H locs ls hi hk hP hD hS hl; exact absurd hk (Nat.not_lt_zero _)
    | succ tk ih65 =>
      intro i H locs ls hi hk hP hD hS hl
      refine lv_iload hx hb dX2_digest_65 (lv_at hl 4 rfl) ?_
      refine lv_iload hx hb dX2_digest_67 (lv_at hl 3 rfl) ?_
      refine nq_icmp_ge (tgt := 95) hx hb dX2_digest_69 (by decide) (by omega) (by omega) (fun h69 => ?_) (fun h69 => ?_)
      · skip
        have hP := va_Pl hP
        have hD := va_Dl hD
        skip
        have hl : lv_has ls 11 [(0, .ref (b 0)), (2, .long (jn (jn (jn (jn (jn 2297 (lN t)) (lN n)) (lN lim)) (lN (acS F lim t n))) (lN (unfS F n)))), (4, .ref q6), (5, .int (nI 5)), (6, .int (nI i))] := lv_rep hl 1 rfl (congrArg Value.long (show (jF (arrL [nI t, nI n, nI lim, nI (acS F lim t n), nI (unfS F n)]) 2297 i) = (jn (jn (jn (jn (jn 2297 (lN t)) (lN n)) (lN lim)) (lN (acS F lim t n))) (lN (unfS F n))) from by rw [show i = 5 by omega, jF5, nI_l (n := t) (by omega), nI_l (n := n) (by omega), nI_l (n := lim) (by omega), nI_l (n := acS F lim t n) (by omega), nI_l (n := unfS F n) (by omega)]))
        skip
        refine lv_lload_n hx hb dX2_digest_95 rfl (lv_at hl 1 rfl) ?_
        refine lv_ldc2 (v := 31) hx hb hown (hts (.constantLong RX2 151 (31)) (List.mem_of_getElem? (i := 7) (by rfl))) dX2_digest_96 ?_
        refine lv_lmul hx hb dX2_digest_99 ?_
        refine lv_aload_n hx hb dX2_digest_100 rfl (lv_at hl 0 rfl) ?_
        refine csV_l (rest := [.long ((jn (jn (jn (jn (jn 2297 (lN t)) (lN n)) (lN lim)) (lN (acS F lim t n))) (lN (unfS F n))) * 31)]) (As := []) ⟨hx, hb, hml, hown, hts⟩ (c_X2_whole l E _ b n lim t F t MV_self hO (Nat.le_refl _)) (cwV 0 hts gX2_digest_X2_whole rfl rfl rfl (by decide +kernel) ⟨Nat.le_of_ble_eq_true rfl, Nat.le_of_ble_eq_true rfl⟩) (va_recv hK hP (ci := 3) (q0 := 0) rfl rfl) hP hK rfl hl.1 rfl (Nat.le_of_ble_eq_true rfl) dX2_digest_101 (by show _ ≤ 10; omega) (by show _ ≤ 73; omega) (fun r101 hr101 => ?_)
        subst hr101
        refine lv_ladd hx hb dX2_digest_104 ?_
        refine nq_topl (show ((jn (jn (jn (jn (jn 2297 (lN t)) (lN n)) (lN lim)) (lN (acS F lim t n))) (lN (unfS F n))) * 31) + (lN (lcmS F n)) = jn (jn (jn (jn (jn (jn 2297 (lN t)) (lN n)) (lN lim)) (lN (acS F lim t n))) (lN (unfS F n))) (lN (lcmS F n)) from rfl) ?_
        refine lv_lstore_n (lv' := [(2, .long (jn (jn (jn (jn (jn (jn 2297 (lN t)) (lN n)) (lN lim)) (lN (acS F lim t n))) (lN (unfS F n))) (lN (lcmS F n)))), (0, .ref (b 0)), (4, .ref q6), (5, .int (nI 5)), (6, .int (nI i))]) hx hb dX2_digest_105 rfl hl (by decide) rfl (fun ls hl => ?_)
        refine lv_iconst (v := (nI 4)) hx hb dX2_digest_106 (by decide) ?_
        refine nq_newa (atype := .int) (N := 4) hx hb (hts (.arrayClass .int) (List.mem_of_getElem? (i := 2) (by rfl))) rfl hK hP hD hS hA (by decide) (by show (0 + 1) + 1 ≤ 10; omega) (by show (0 + 5) + 4 ≤ 73; omega) dX2_digest_107 (fun q107 H hP hD hS => ?_)
        have hP : va_P E.1 vwCl (wM E b (nI 0) n lim F (NW t F) kp ++ [(q107, .inl (E.2.1, 4, .inl (arrL [])))]) H := hP
        have hD : va_D A (wM E b (nI 0) n lim F (NW t F) kp ++ [(q107, .inl (E.2.1, 4, .inl (arrL [])))]) := hD
        refine lv_dup hx hb dX2_digest_109 rfl ?_
        refine lv_iconst (v := (nI 0)) hx hb dX2_digest_110 (by decide) ?_
        refine lv_aload_n hx hb dX2_digest_111 rfl (lv_at hl 1 rfl) ?_
        refine csV_i (rest := [.int (nI 0), .ref q107, .ref q107]) (As := []) ⟨hx, hb, hml, hown, hts⟩ (c_X2_strangers l E _ b n lim t F t MV_app hO (Nat.le_refl _)) (cwV 0 hts gX2_digest_X2_strangers rfl rfl rfl (by decide +kernel) ⟨Nat.le_of_ble_eq_true rfl, Nat.le_of_ble_eq_true rfl⟩) (va_recv hK hP (ci := 3) (q0 := 0) rfl rfl) hP hK rfl hl.1 rfl (Nat.le_of_ble_eq_true rfl) dX2_digest_112 (by show _ ≤ 10; omega) (by show _ ≤ 73; omega) (fun r112 hr112 => ?_)
        subst hr112
        refine va_iast hx hb hK hP hD hS 8 0 rfl rfl (by exact vp_in_nI (by omega) (by omega)) dX2_digest_115 (fun H locs hP hD hS => ?_)
        rw [upd_arr (x := []) (k := 0) (v := (nI (apS F n n))) rfl (by decide)] at hP hD
        have hP : va_P E.1 vwCl (wM E b (nI 0) n lim F (NW t F) kp ++ [(q107, .inl (E.2.1, 4, .inl (arrL [(nI (apS F n n))])))]) H := hP
        have hD : va_D A (wM E b (nI 0) n lim F (NW t F) kp ++ [(q107, .inl (E.2.1, 4, .inl (arrL [(nI (apS F n n))])))]) := hD
        refine lv_dup hx hb dX2_digest_116 rfl ?_
        refine lv_iconst (v := (nI 1)) hx hb dX2_digest_117 (by decide) ?_
        refine lv_aload_n hx hb dX2_digest_118 rfl (lv_at hl 1 rfl) ?_
        refine lv_bipush (v := (nI 12)) hx hb dX2_digest_119 (by decide) ?_
        refine lv_iconst (v := (nI 0)) hx hb dX2_digest_121 (by decide) ?_
        have hP : va_P E.1 vwCl ([] ++ (wM E b (nI 0) n lim F (NW t F) kp ++ [(q107, .inl (E.2.1, 4, .inl (arrL [(nI (apS F n n))])))])) H := hP
        have hD : va_D A ([] ++ (wM E b (nI 0) n lim F (NW t F) kp ++ [(q107, .inl (E.2.1, 4, .inl (arrL [(nI (apS F n n))])))])) := hD
        refine cmX_i (wx := []) (wy := [(q107, .inl (E.2.1, 4, .inl (arrL [(nI (apS F n n))])))]) (rest := [.int (nI 1), .ref q107, .ref q107]) (As := [.int (nI 12), .int (nI 0)]) ⟨hx, hb, hml, hown, hts⟩ (c_X2_most_f l E _ b (nI 0) n lim t F kp hO 12 (by omega)) (cwV 2 hts gX2_digest_X2_most rfl rfl rfl (by decide +kernel) ⟨Nat.le_of_ble_eq_true rfl, Nat.le_of_ble_eq_true rfl⟩) (va_recv hK hP (ci := 3) (q0 := 0) rfl rfl) hP hK hD hS hA rfl hl.1 rfl (Nat.le_of_ble_eq_true rfl) dX2_digest_122 ⟨Nat.le_of_ble_eq_true rfl, Nat.le_of_ble_eq_true rfl⟩ (fun r122 u122 H locs hr122 hP hD hS => ?_)
        subst hr122
        have hP : va_P E.1 vwCl (wM E b (nI 0) n lim F (NW t F) (va_cpy (NW t F) kp 0 0 17) ++ [(q107, .inl (E.2.1, 4, .inl (arrL [(nI (apS F n n))])))]) H := hP
        have hD : va_D A (wM E b (nI 0) n lim F (NW t F) (va_cpy (NW t F) kp 0 0 17) ++ [(q107, .inl (E.2.1, 4, .inl (arrL [(nI (apS F n n))])))]) := hD
        refine va_iast hx hb hK hP hD hS 8 0 rfl rfl (by exact vp_in_nI (by omega) (by omega)) dX2_digest_125 (fun H locs hP hD hS => ?_)
        rw [upd_arr (x := [(nI (apS F n n))]) (k := 1) (v := (nI (mxA F lim t n 12))) rfl (by decide)] at hP hD
        have hP : va_P E.1 vwCl (wM E b (nI 0) n lim F (NW t F) (va_cpy (NW t F) kp 0 0 17) ++ [(q107, .inl (E.2.1, 4, .inl (arrL [(nI (apS F n n)), (nI (mxA F lim t n 12))])))]) H := hP
        have hD : va_D A (wM E b (nI 0) n lim F (NW t F) (va_cpy (NW t F) kp 0 0 17) ++ [(q107, .inl (E.2.1, 4, .inl (arrL [(nI (apS F n n)), (nI (mxA F lim t n 12))])))]) := hD
        refine lv_dup hx hb dX2_digest_126 rfl ?_
        refine lv_iconst (v := (nI 2)) hx hb dX2_digest_127 (by decide) ?_
        refine lv_aload_n hx hb dX2_digest_128 rfl (lv_at hl 1 rfl) ?_
        refine lv_bipush (v := (nI 12)) hx hb dX2_digest_129 (by decide) ?_
        have hP : va_P E.1 vwCl ([] ++ (wM E b (nI 0) n lim F (NW t F) (va_cpy (NW t F) kp 0 0 17) ++ [(q107, .inl (E.2.1, 4, .inl (arrL [(nI (apS F n n)), (nI (mxA F lim t n 12))])))])) H := hP
        have hD : va_D A ([] ++ (wM E b (nI 0) n lim F (NW t F) (va_cpy (NW t F) kp 0 0 17) ++ [(q107, .inl (E.2.1, 4, .inl (arrL [(nI (apS F n n)), (nI (mxA F lim t n 12))])))])) := hD
        refine cmX_i (wx := []) (wy := [(q107, .inl (E.2.1, 4, .inl (arrL [(nI (apS F n n)), (nI (mxA F lim t n 12))])))]) (rest := [.int (nI 2), .ref q107, .ref q107]) (As := [.int (nI 12)]) ⟨hx, hb, hml, hown, hts⟩ (c_X2_unfairBehind l E _ b (nI 0) n lim t F (va_cpy (NW t F) kp 0 0 17) hO 12 (by omega)) (cwV 1 hts gX2_digest_X2_unfairBehind rfl rfl rfl (by decide +kernel) ⟨Nat.le_of_ble_eq_true rfl, Nat.le_of_ble_eq_true rfl⟩) (va_recv hK hP (ci := 3) (q0 := 0) rfl rfl) hP hK hD hS hA rfl hl.1 rfl (Nat.le_of_ble_eq_true rfl) dX2_digest_131 ⟨Nat.le_of_ble_eq_true rfl, Nat.le_of_ble_eq_true rfl⟩ (fun r131 u131 H locs hr131 hP hD hS => ?_)
        subst hr131
        have hP : va_P E.1 vwCl (wM E b (nI 0) n lim F (NW t F) (va_cpy (NW t F) (va_cpy (NW t F) kp 0 0 17) 0 0 17) ++ [(q107, .inl (E.2.1, 4, .inl (arrL [(nI (apS F n n)), (nI (mxA F lim t n 12))])))]) H := hP
        have hD : va_D A (wM E b (nI 0) n lim F (NW t F) (va_cpy (NW t F) (va_cpy (NW t F) kp 0 0 17) 0 0 17) ++ [(q107, .inl (E.2.1, 4, .inl (arrL [(nI (apS F n n)), (nI (mxA F lim t n 12))])))]) := hD
        refine va_iast hx hb hK hP hD hS 8 0 rfl rfl (by exact vp_in_nI (by omega) (by omega)) dX2_digest_134 (fun H locs hP hD hS => ?_)
        rw [upd_arr (x := [(nI (apS F n n)), (nI (mxA F lim t n 12))]) (k := 2) (v := (nI (unfS (passF F lim t n 12) n))) rfl (by decide)] at hP hD
        have hP : va_P E.1 vwCl (wM E b (nI 0) n lim F (NW t F) (va_cpy (NW t F) (va_cpy (NW t F) kp 0 0 17) 0 0 17) ++ [(q107, .inl (E.2.1, 4, .inl (arrL [(nI (apS F n n)), (nI (mxA F lim t n 12)), (nI (unfS (passF F lim t n 12) n))])))]) H := hP
        have hD : va_D A (wM E b (nI 0) n lim F (NW t F) (va_cpy (NW t F) (va_cpy (NW t F) kp 0 0 17) 0 0 17) ++ [(q107, .inl (E.2.1, 4, .inl (arrL [(nI (apS F n n)), (nI (mxA F lim t n 12)), (nI (unfS (passF F lim t n 12) n))])))]) := hD
        refine lv_dup hx hb dX2_digest_135 rfl ?_
        refine lv_iconst (v := (nI 3)) hx hb dX2_digest_136 (by decide) ?_
        refine lv_aload_n hx hb dX2_digest_137 rfl (lv_at hl 1 rfl) ?_
        refine lv_bipush (v := (nI 12)) hx hb dX2_digest_138 (by decide) ?_
        refine lv_iconst (v := (nI 1)) hx hb dX2_digest_140 (by decide) ?_
        have hP : va_P E.1 vwCl ([] ++ (wM E b (nI 0) n lim F (NW t F) (va_cpy (NW t F) (va_cpy (NW t F) kp 0 0 17) 0 0 17) ++ [(q107, .inl (E.2.1, 4, .inl (arrL [(nI (apS F n n)), (nI (mxA F lim t n 12)), (nI (unfS (passF F lim t n 12) n))])))])) H := hP
        have hD : va_D A ([] ++ (wM E b (nI 0) n lim F (NW t F) (va_cpy (NW t F) (va_cpy (NW t F) kp 0 0 17) 0 0 17) ++ [(q107, .inl (E.2.1, 4, .inl (arrL [(nI (apS F n n)), (nI (mxA F lim t n 12)), (nI (unfS (passF F lim t n 12) n))])))])) := hD
        refine cmX_i (wx := []) (wy := [(q107, .inl (E.2.1, 4, .inl (arrL [(nI (apS F n n)), (nI (mxA F lim t n 12)), (nI (unfS (passF F lim t n 12) n))])))]) (rest := [.int (nI 3), .ref q107, .ref q107]) (As := [.int (nI 12), .int (nI 1)]) ⟨hx, hb, hml, hown, hts⟩ (c_X2_most_t l E _ b (nI 0) n lim t F (va_cpy (NW t F) (va_cpy (NW t F) kp 0 0 17) 0 0 17) hO 12 (by omega)) (cwV 2 hts gX2_digest_X2_most rfl rfl rfl (by decide +kernel) ⟨Nat.le_of_ble_eq_true rfl, Nat.le_of_ble_eq_true rfl⟩) (va_recv hK hP (ci := 3) (q0 := 0) rfl rfl) hP hK hD hS hA rfl hl.1 rfl (Nat.le_of_ble_eq_true rfl) dX2_digest_141 ⟨Nat.le_of_ble_eq_true rfl, Nat.le_of_ble_eq_true rfl⟩ (fun r141 u141 H locs hr141 hP hD hS => ?_)
        subst hr141
        have hP : va_P E.1 vwCl (wM E b (nI 0) n lim F (NW t F) (va_cpy (NW t F) (va_cpy (NW t F) (va_cpy (NW t F) kp 0 0 17) 0 0 17) 0 0 17) ++ [(q107, .inl (E.2.1, 4, .inl (arrL [(nI (apS F n n)), (nI (mxA F lim t n 12)), (nI (unfS (passF F lim t n 12) n))])))]) H := hP
        have hD : va_D A (wM E b (nI 0) n lim F (NW t F) (va_cpy (NW t F) (va_cpy (NW t F) (va_cpy (NW t F) kp 0 0 17) 0 0 17) 0 0 17) ++ [(q107, .inl (E.2.1, 4, .inl (arrL [(nI (apS F n n)), (nI (mxA F lim t n 12)), (nI (unfS (passF F lim t n 12) n))])))]) := hD
        refine va_iast hx hb hK hP hD hS 8 0 rfl rfl (by exact vp_in_nI (by omega) (by omega)) dX2_digest_144 (fun H locs hP hD hS => ?_)
        rw [upd_arr (x := [(nI (apS F n n)), (nI (mxA F lim t n 12)), (nI (unfS (passF F lim t n 12) n))]) (k := 3) (v := (nI (mxA F 99 t n 12))) rfl (by decide)] at hP hD
        have hP : va_P E.1 vwCl (wM E b (nI 0) n lim F (NW t F) (va_cpy (NW t F) (va_cpy (NW t F) (va_cpy (NW t F) kp 0 0 17) 0 0 17) 0 0 17) ++ [(q107, .inl (E.2.1, 4, .inl (arrL [(nI (apS F n n)), (nI (mxA F lim t n 12)), (nI (unfS (passF F lim t n 12) n)), (nI (mxA F 99 t n 12))])))]) H := hP
        have hD : va_D A (wM E b (nI 0) n lim F (NW t F) (va_cpy (NW t F) (va_cpy (NW t F) (va_cpy (NW t F) kp 0 0 17) 0 0 17) 0 0 17) ++ [(q107, .inl (E.2.1, 4, .inl (arrL [(nI (apS F n n)), (nI (mxA F lim t n 12)), (nI (unfS (passF F lim t n 12) n)), (nI (mxA F 99 t n 12))])))]) := hD
        refine lv_astore (lv' := [(4, .ref q107), (2, .long (jn (jn (jn (jn (jn (jn 2297 (lN t)) (lN n)) (lN lim)) (lN (acS F lim t n))) (lN (unfS F n))) (lN (lcmS F n)))), (0, .ref (b 0)), (5, .int (nI 5)), (6, .int (nI i))]) hx hb dX2_digest_145 hl (by decide) rfl (fun ls hl => ?_)
        refine lv_aload hx hb dX2_digest_147 (lv_at hl 0 rfl) ?_
        refine lv_astore (lv' := [(5, .ref q107), (4, .ref q107), (2, .long (jn (jn (jn (jn (jn (jn 2297 (lN t)) (lN n)) (lN lim)) (lN (acS F lim t n))) (lN (unfS F n))) (lN (lcmS F n)))), (0, .ref (b 0)), (6, .int (nI i))]) hx hb dX2_digest_149 hl (by decide) rfl (fun ls hl => ?_)
        refine lv_aload hx hb dX2_digest_151 (lv_at hl 0 rfl) ?_
        refine va_alen hx hb hK hP 8 0 rfl rfl (v := nI 4) rfl dX2_digest_153 ?_
        refine lv_istore (lv' := [(6, .int (nI 4)), (5, .ref q107), (4, .ref q107), (2, .long (jn (jn (jn (jn (jn (jn 2297 (lN t)) (lN n)) (lN lim)) (lN (acS F lim t n))) (lN (unfS F n))) (lN (lcmS F n)))), (0, .ref (b 0))]) hx hb dX2_digest_154 hl (by decide) rfl (fun ls hl => ?_)
        refine lv_iconst (v := (nI 0)) hx hb dX2_digest_156 (by decide) ?_
        refine lv_istore (lv' := [(7, .int (nI 0)), (6, .int (nI 4)), (5, .ref q107), (4, .ref q107), (2, .long (jn (jn (jn (jn (jn (jn 2297 (lN t)) (lN n)) (lN lim)) (lN (acS F lim t n))) (lN (unfS F n))) (lN (lcmS F n)))), (0, .ref (b 0))]) hx hb dX2_digest_157 hl (by decide) rfl (fun ls hl => ?_)
        have loop159 : ∀ (tk : Nat) (i : Nat) (H : Heap) (locs : List Loc) (ls : Array Slot), (i ≤ 4) → (4 - i) < tk → va_P E.1 vwCl (wM E b (nI 0) n lim F (NW t F) (va_cpy (NW t F) (va_cpy (NW t F) (va_cpy (NW t F) kp 0 0 17) 0 0 17) 0 0 17) ++ [(q107, .inl (E.2.1, 4, .inl (arrL [nI (apS F n n), nI (mxA F lim t n 12), nI (unfS (passF F lim t n 12) n), nI (mxA F 99 t n 12)])))]) H → va_D A (wM E b (nI 0) n lim F (NW t F) (va_cpy (NW t F) (va_cpy (NW t F) (va_cpy (NW t F) kp 0 0 17) 0 0 17) 0 0 17) ++ [(q107, .inl (E.2.1, 4, .inl (arrL [nI (apS F n n), nI (mxA F lim t n 12), nI (unfS (passF F lim t n 12) n), nI (mxA F 99 t n 12)])))]) → va_S A s.heap H locs → lv_has ls 11 [(0, .ref (b 0)), (2, .long (jF (arrL [nI (apS F n n), nI (mxA F lim t n 12), nI (unfS (passF F lim t n 12) n), nI (mxA F 99 t n 12)]) (jn (jn (jn (jn (jn (jn 2297 (lN t)) (lN n)) (lN lim)) (lN (acS F lim t n))) (lN (unfS F n))) (lN (lcmS F n))) i)), (5, .ref q107), (6, .int (nI 4)), (7, .int (nI i))] → W p l e ({ frames := 5, cells := 10, slots := 73, locals := 112 } : Room) s m args below meth c H locs ((0 + 1) + 1) ((0 + 5) + 4) QQ (F0 m 159 ls []) := by
          intro tk
          induction tk with
          | zero => intro i H locs ls hi hk hP hD hS hl; exact absurd hk (Nat.not_lt_zero _)
          | succ tk ih159 =>
            intro i H locs ls hi hk hP hD hS hl
            refine lv_iload hx hb dX2_digest_159 (lv_at hl 4 rfl) ?_
            refine lv_iload hx hb dX2_digest_161 (lv_at hl 3 rfl) ?_
            refine nq_icmp_ge (tgt := 189) hx hb dX2_digest_163 (by decide) (by omega) (by omega) (fun h163 => ?_) (fun h163 => ?_)
            · skip
              have hP := va_Pl hP
              have hD := va_Dl hD
              skip
              have hl : lv_has ls 11 [(0, .ref (b 0)), (2, .long (jhS F n t lim)), (5, .ref q107), (6, .int (nI 4)), (7, .int (nI i))] := lv_rep hl 1 rfl (congrArg Value.long (show (jF (arrL [nI (apS F n n), nI (mxA F lim t n 12), nI (unfS (passF F lim t n 12) n), nI (mxA F 99 t n 12)]) (jn (jn (jn (jn (jn (jn 2297 (lN t)) (lN n)) (lN lim)) (lN (acS F lim t n))) (lN (unfS F n))) (lN (lcmS F n))) i) = (jhS F n t lim) from by rw [show i = 4 by omega, jF4, nI_l (n := apS F n n) (by omega), nI_l (n := mxA F lim t n 12) (by omega), nI_l (n := unfS (passF F lim t n 12) n) (by omega), nI_l (n := mxA F 99 t n 12) (by omega), mxA_99 hO]; unfold jhS; rfl))
              skip
              refine lv_iconst (v := (nI 0)) hx hb dX2_digest_189 (by decide) ?_
              refine lv_istore (lv' := [(5, .int (nI 0)), (0, .ref (b 0)), (2, .long (jhS F n t lim)), (6, .int (nI 4)), (7, .int (nI i))]) hx hb dX2_digest_190 hl (by decide) rfl (fun ls hl => ?_)
              have loop192 : ∀ (tk : Nat) (k : Nat) (H : Heap) (locs : List Loc) (ls : Array Slot), (k ≤ n) → (n - k) < tk → va_P E.1 vwCl (wM E b (nI 0) n lim F (NW t F) (va_cpy (NW t F) (va_cpy (NW t F) (va_cpy (NW t F) kp 0 0 17) 0 0 17) 0 0 17)) H → va_D A (wM E b (nI 0) n lim F (NW t F) (va_cpy (NW t F) (va_cpy (NW t F) (va_cpy (NW t F) kp 0 0 17) 0 0 17) 0 0 17)) → va_S A s.heap H locs → lv_has ls 11 [(0, .ref (b 0)), (2, .long (jaS F n t lim (jhS F n t lim) k)), (5, .int (nI k))] → W p l e ({ frames := 5, cells := 10, slots := 73, locals := 112 } : Room) s m args below meth c H locs (2 + k) (9 + 8 * k) QQ (F0 m 192 ls []) := by
                intro tk
                induction tk with
                | zero => intro k H locs ls hk hk hP hD hS hl; exact absurd hk (Nat.not_lt_zero _)
                | succ tk ih192 =>
                  intro k H locs ls hk hk hP hD hS hl
                  refine lv_iload hx hb dX2_digest_192 (lv_at hl 2 rfl) ?_
                  refine lv_aload_n hx hb dX2_digest_194 rfl (lv_at hl 0 rfl) ?_
                  refine va_get (D := E.1) (ci := 3) (v := .int (nI n)) (C := RX2) (T := TX2) (N := 10) hx hb hts hiX2 hown hK hP 0 rfl rfl 1 (by decide) (hts (.fieldLink RX2 38 "PulseLoomModel" "lamps" "I") (List.mem_of_getElem? (i := 4) (by rfl))) (fun _ h9 => h9) rfl dX2_digest_195 ?_
                  refine nq_icmp_ge (tgt := 395) hx hb dX2_digest_198 (by decide) (by omega) (by omega) (fun h198 => ?_) (fun h198 => ?_)
                  · skip
                    refine lv_iconst (v := (nI 0)) hx hb dX2_digest_395 (by decide) ?_
                    refine lv_istore (lv' := [(5, .int (nI 0)), (0, .ref (b 0)), (2, .long (jaS F n t lim (jhS F n t lim) k))]) hx hb dX2_digest_396 hl (by decide) rfl (fun ls hl => ?_)
                    have loop398 : ∀ (tk : Nat) (c9 : Nat) (H : Heap) (locs : List Loc) (ls : Array Slot), (c9 ≤ 6) → (6 - c9) < tk → va_P E.1 vwCl (wM E b (nI 0) n lim F (NW t F) (va_cpy (NW t F) (va_cpy (NW t F) (va_cpy (NW t F) kp 0 0 17) 0 0 17) 0 0 17)) H → va_D A (wM E b (nI 0) n lim F (NW t F) (va_cpy (NW t F) (va_cpy (NW t F) (va_cpy (NW t F) kp 0 0 17) 0 0 17) 0 0 17)) → va_S A s.heap H locs → lv_has ls 11 [(0, .ref (b 0)), (2, .long (jcS F n (jaS F n t lim (jhS F n t lim) n) c9)), (5, .int (nI c9))] → W p l e ({ frames := 5, cells := 10, slots := 73, locals := 112 } : Room) s m args below meth c H locs (2 + k) (9 + 8 * k) QQ (F0 m 398 ls []) := by
                      intro tk
                      induction tk with
                      | zero => intro c9 H locs ls hc9 hk hP hD hS hl; exact absurd hk (Nat.not_lt_zero _)
                      | succ tk ih398 =>
                        intro c9 H locs ls hc9 hk hP hD hS hl
                        have hsn := seenS_le hO c9 n (Nat.le_refl _)
                        have hs2 : n * 100000000 ≤ 8 * 100000000 := Nat.mul_le_mul_right _ hO1
                        refine lv_iload hx hb dX2_digest_398 (lv_at hl 2 rfl) ?_
                        refine lv_bipush (v := (nI 6)) hx hb dX2_digest_400 (by decide) ?_
                        refine nq_icmp_ge (tgt := 425) hx hb dX2_digest_402 (by decide) (by omega) (by omega) (fun h402 => ?_) (fun h402 => ?_)
                        · skip
                          refine lv_lload_n hx hb dX2_digest_425 rfl (lv_at hl 1 rfl) ?_
                          rw [hQ]
                          refine W_more (mc := 10) (ms := 73) (cells2 := (2 + k)) (slots2 := (9 + 8 * k)) (by omega) (by omega) ?_
                          exact retM_l (E := E) (A0 := A) (v := jcS F n (jaS F n t lim (jhS F n t lim) n) c9) (post := fun r _ => r = digS F n t lim) (u := (va_cpy (NW t F) (va_cpy (NW t F) (va_cpy (NW t F) kp 0 0 17) 0 0 17) 0 0 17)) (W1 := fun kq => wM E b (nI 0) n lim F (NW t F) kq) hx hb hr hlocks hP hK hD hS (by rw [show c9 = 6 by omega]; rfl) dX2_digest_426
                        · skip
                          refine lv_lload_n hx hb dX2_digest_405 rfl (lv_at hl 1 rfl) ?_
                          refine lv_ldc2 (v := 31) hx hb hown (hts (.constantLong RX2 151 (31)) (List.mem_of_getElem? (i := 7) (by rfl))) dX2_digest_406 ?_
                          refine lv_lmul hx hb dX2_digest_409 ?_
                          refine lv_aload_n hx hb dX2_digest_410 rfl (lv_at hl 0 rfl) ?_
                          refine lv_iload hx hb dX2_digest_411 (lv_at hl 2 rfl) ?_
                          refine csV_i (rest := [.long ((jcS F n (jaS F n t lim (jhS F n t lim) n) c9) * 31)]) (As := [.int (nI c9)]) ⟨hx, hb, hml, hown, hts⟩ (c_X2_seenOf l E _ b n lim t F t MV_self hO (Nat.le_refl _) c9 (by omega)) (cwV 1 hts gX2_digest_X2_seenOf rfl rfl rfl (by decide +kernel) ⟨Nat.le_of_ble_eq_true rfl, Nat.le_of_ble_eq_true rfl⟩) (va_recv hK hP (ci := 3) (q0 := 0) rfl rfl) hP hK rfl hl.1 rfl (Nat.le_of_ble_eq_true rfl) dX2_digest_413 (by show _ ≤ 10; omega) (by show _ ≤ 73; omega) (fun r413 hr413 => ?_)
                          subst hr413
                          refine lv_i2l (v := lN (seenS F c9 n)) hx hb dX2_digest_416 (nI_l (by omega)) ?_
                          refine lv_ladd hx hb dX2_digest_417 ?_
                          refine lv_lstore_n (lv' := [(2, .long (((jcS F n (jaS F n t lim (jhS F n t lim) n) c9) * 31) + (lN (seenS F c9 n)))), (0, .ref (b 0)), (5, .int (nI c9))]) hx hb dX2_digest_418 rfl hl (by decide) rfl (fun ls hl => ?_)
                          refine nq_inc (lv' := [(5, .int (nI (c9 + 1))), (2, .long (((jcS F n (jaS F n t lim (jhS F n t lim) n) c9) * 31) + (lN (seenS F c9 n)))), (0, .ref (b 0))]) hx hb dX2_digest_419 (d := 1) rfl hl (k := 2) rfl (by decide) rfl (fun ls hl => ?_)
                          refine lv_goto (tgt := 398) hx hb dX2_digest_422 (by decide) ?_
                          have hl : lv_has ls 11 [(5, .int (nI (c9 + 1))), (2, .long (jcS F n (jaS F n t lim (jhS F n t lim) n) (c9 + 1))), (0, .ref (b 0))] := lv_rep hl 1 rfl (congrArg Value.long (show (((jcS F n (jaS F n t lim (jhS F n t lim) n) c9) * 31) + (lN (seenS F c9 n))) = (jcS F n (jaS F n t lim (jhS F n t lim) n) (c9 + 1)) from rfl))
                          exact ih398 (c9 + 1) _ _ ls (by omega) (by omega) hP hD hS (lv_sub hl [2, 1, 0] rfl)
                    have hl : lv_has ls 11 [(5, .int (nI 0)), (0, .ref (b 0)), (2, .long (jcS F n (jaS F n t lim (jhS F n t lim) n) 0))] := lv_rep hl 2 rfl (congrArg Value.long (show (jaS F n t lim (jhS F n t lim) k) = (jcS F n (jaS F n t lim (jhS F n t lim) n) 0) from by rw [show k = n by omega]; rfl))
                    exact loop398 ((6 - 0) + 1) 0 _ _ ls (by omega) (Nat.lt_succ_self _) hP hD hS (lv_sub hl [1, 2, 0] rfl)
                  · skip
                    have hk8 := hO4 k h198
                    have hp9 := ph_lt (F := F) (i := k) (b := t) (by omega)
                    have hm9 := mtS_le F k ((F k 3 : Nat) : Int) n
                    have hb9 := bestS_le F n k (F k 0 - 1)
                    refine lv_bipush (v := (nI 8)) hx hb dX2_digest_201 (by decide) ?_
                    refine nq_newa (atype := .int) (N := 8) hx hb (hts (.arrayClass .int) (List.mem_of_getElem? (i := 2) (by rfl))) rfl hK hP hD hS hA (by decide) (by show (2 + k) + 1 ≤ 10; omega) (by show (9 + 8 * k) + 8 ≤ 73; omega) dX2_digest_203 (fun q203 H hP hD hS => ?_)
                    have hP : va_P E.1 vwCl (wM E b (nI 0) n lim F (NW t F) (va_cpy (NW t F) (va_cpy (NW t F) (va_cpy (NW t F) kp 0 0 17) 0 0 17) 0 0 17) ++ [(q203, .inl (E.2.1, 8, .inl (arrL [])))]) H := hP
                    have hD : va_D A (wM E b (nI 0) n lim F (NW t F) (va_cpy (NW t F) (va_cpy (NW t F) (va_cpy (NW t F) kp 0 0 17) 0 0 17) 0 0 17) ++ [(q203, .inl (E.2.1, 8, .inl (arrL [])))]) := hD
                    refine lv_dup hx hb dX2_digest_205 rfl ?_
                    refine lv_iconst (v := (nI 0)) hx hb dX2_digest_206 (by decide) ?_
                    refine lv_aload_n hx hb dX2_digest_207 rfl (lv_at hl 0 rfl) ?_
                    refine lv_iload hx hb dX2_digest_208 (lv_at hl 2 rfl) ?_
                    refine lv_iconst (v := (nI 0)) hx hb dX2_digest_210 (by decide) ?_
                    refine csV_i (rest := [.int (nI 0), .ref q203, .ref q203]) (As := [.int (nI k), .int (nI 0)]) ⟨hx, hb, hml, hown, hts⟩ (c_X2_phaseIn l E _ b n lim t F t MV_app hO (Nat.le_refl _) k (by omega) 0 (by omega)) (cwV 2 hts gX2_digest_X2_phaseIn rfl rfl rfl (by decide +kernel) ⟨Nat.le_of_ble_eq_true rfl, Nat.le_of_ble_eq_true rfl⟩) (va_recv hK hP (ci := 3) (q0 := 0) rfl rfl) hP hK rfl hl.1 rfl (Nat.le_of_ble_eq_true rfl) dX2_digest_211 (by show _ ≤ 10; omega) (by show _ ≤ 73; omega) (fun r211 hr211 => ?_)
                    subst hr211
                    refine nq_top (show (nI (ph F k (t + 0))) = (nI (ph F k t)) from rfl) ?_
                    refine va_iast hx hb hK hP hD hS 8 0 rfl rfl (by exact vp_in_nI (by omega) (by omega)) dX2_digest_214 (fun H locs hP hD hS => ?_)
                    rw [upd_arr (x := []) (k := 0) (v := (nI (ph F k t))) rfl (by decide)] at hP hD
                    have hP : va_P E.1 vwCl (wM E b (nI 0) n lim F (NW t F) (va_cpy (NW t F) (va_cpy (NW t F) (va_cpy (NW t F) kp 0 0 17) 0 0 17) 0 0 17) ++ [(q203, .inl (E.2.1, 8, .inl (arrL [(nI (ph F k t))])))]) H := hP
                    have hD : va_D A (wM E b (nI 0) n lim F (NW t F) (va_cpy (NW t F) (va_cpy (NW t F) (va_cpy (NW t F) kp 0 0 17) 0 0 17) 0 0 17) ++ [(q203, .inl (E.2.1, 8, .inl (arrL [(nI (ph F k t))])))]) := hD
                    refine lv_dup hx hb dX2_digest_215 rfl ?_
                    refine lv_iconst (v := (nI 1)) hx hb dX2_digest_216 (by decide) ?_
                    refine lv_aload_n hx hb dX2_digest_217 rfl (lv_at hl 0 rfl) ?_
                    refine lv_iload hx hb dX2_digest_218 (lv_at hl 2 rfl) ?_
                    refine csV_i (rest := [.int (nI 1), .ref q203, .ref q203]) (As := [.int (nI k)]) ⟨hx, hb, hml, hown, hts⟩ (c_X2_dueIn l E _ b n lim t F t MV_app hO (Nat.le_refl _) k (by omega)) (cwV 1 hts gX2_digest_X2_dueIn rfl rfl rfl (by decide +kernel) ⟨Nat.le_of_ble_eq_true rfl, Nat.le_of_ble_eq_true rfl⟩) (va_recv hK hP (ci := 3) (q0 := 0) rfl rfl) hP hK rfl hl.1 rfl (Nat.le_of_ble_eq_true rfl) dX2_digest_220 (by show _ ≤ 10; omega) (by show _ ≤ 73; omega) (fun r220 hr220 => ?_)
                    subst hr220
                    have join231 : ∀  (H : Heap) (locs : List Loc) (ls : Array Slot), va_P E.1 vwCl (wM E b (nI 0) n lim F (NW t F) (va_cpy (NW t F) (va_cpy (NW t F) (va_cpy (NW t F) kp 0 0 17) 0 0 17) 0 0 17) ++ [(q203, .inl (E.2.1, 8, .inl (arrL [(nI (ph F k t))])))]) H → va_D A (wM E b (nI 0) n lim F (NW t F) (va_cpy (NW t F) (va_cpy (NW t F) (va_cpy (NW t F) kp 0 0 17) 0 0 17) 0 0 17) ++ [(q203, .inl (E.2.1, 8, .inl (arrL [(nI (ph F k t))])))]) → va_S A s.heap H locs → lv_has ls 11 [(0, .ref (b 0)), (2, .long (jaS F n t lim (jhS F n t lim) k)), (5, .int (nI k))] → W p l e ({ frames := 5, cells := 10, slots := 73, locals := 112 } : Room) s m args below meth c H locs ((2 + k) + 1) ((9 + 8 * k) + 8) QQ (F0 m 231 ls [.int (bI (due F k t)), .int (nI 1), .ref q203, .ref q203]) := by
                      intro H locs ls hP hD hS hl
                      refine va_iast hx hb hK hP hD hS 8 0 rfl rfl (by exact vp_in_nI (by omega) (by omega)) dX2_digest_231 (fun H locs hP hD hS => ?_)
                      rw [upd_arr (x := [(nI (ph F k t))]) (k := 1) (v := (bI (due F k t))) rfl (by decide)] at hP hD
                      have hP : va_P E.1 vwCl (wM E b (nI 0) n lim F (NW t F) (va_cpy (NW t F) (va_cpy (NW t F) (va_cpy (NW t F) kp 0 0 17) 0 0 17) 0 0 17) ++ [(q203, .inl (E.2.1, 8, .inl (arrL [(nI (ph F k t)), (bI (due F k t))])))]) H := hP
                      have hD : va_D A (wM E b (nI 0) n lim F (NW t F) (va_cpy (NW t F) (va_cpy (NW t F) (va_cpy (NW t F) kp 0 0 17) 0 0 17) 0 0 17) ++ [(q203, .inl (E.2.1, 8, .inl (arrL [(nI (ph F k t)), (bI (due F k t))])))]) := hD
                      refine lv_dup hx hb dX2_digest_232 rfl ?_
                      refine lv_iconst (v := (nI 2)) hx hb dX2_digest_233 (by decide) ?_
                      refine lv_aload_n hx hb dX2_digest_234 rfl (lv_at hl 0 rfl) ?_
                      refine lv_iload hx hb dX2_digest_235 (lv_at hl 2 rfl) ?_
                      refine csV_i (rest := [.int (nI 2), .ref q203, .ref q203]) (As := [.int (nI k)]) ⟨hx, hb, hml, hown, hts⟩ (c_X2_isShining l E _ b n lim t F t MV_app hO (Nat.le_refl _) k (by omega)) (cwV 1 hts gX2_digest_X2_isShining rfl rfl rfl (by decide +kernel) ⟨Nat.le_of_ble_eq_true rfl, Nat.le_of_ble_eq_true rfl⟩) (va_recv hK hP (ci := 3) (q0 := 0) rfl rfl) hP hK rfl hl.1 rfl (Nat.le_of_ble_eq_true rfl) dX2_digest_237 (by show _ ≤ 10; omega) (by show _ ≤ 73; omega) (fun r237 hr237 => ?_)
                      subst hr237
                      have join248 : ∀  (H : Heap) (locs : List Loc) (ls : Array Slot), va_P E.1 vwCl (wM E b (nI 0) n lim F (NW t F) (va_cpy (NW t F) (va_cpy (NW t F) (va_cpy (NW t F) kp 0 0 17) 0 0 17) 0 0 17) ++ [(q203, .inl (E.2.1, 8, .inl (arrL [(nI (ph F k t)), (bI (due F k t))])))]) H → va_D A (wM E b (nI 0) n lim F (NW t F) (va_cpy (NW t F) (va_cpy (NW t F) (va_cpy (NW t F) kp 0 0 17) 0 0 17) 0 0 17) ++ [(q203, .inl (E.2.1, 8, .inl (arrL [(nI (ph F k t)), (bI (due F k t))])))]) → va_S A s.heap H locs → lv_has ls 11 [(0, .ref (b 0)), (2, .long (jaS F n t lim (jhS F n t lim) k)), (5, .int (nI k))] → W p l e ({ frames := 5, cells := 10, slots := 73, locals := 112 } : Room) s m args below meth c H locs ((2 + k) + 1) ((9 + 8 * k) + 8) QQ (F0 m 248 ls [.int (bI (litS F lim t k)), .int (nI 2), .ref q203, .ref q203]) := by
                        intro H locs ls hP hD hS hl
                        refine va_iast hx hb hK hP hD hS 8 0 rfl rfl (by exact vp_in_nI (by omega) (by omega)) dX2_digest_248 (fun H locs hP hD hS => ?_)
                        rw [upd_arr (x := [(nI (ph F k t)), (bI (due F k t))]) (k := 2) (v := (bI (litS F lim t k))) rfl (by decide)] at hP hD
                        have hP : va_P E.1 vwCl (wM E b (nI 0) n lim F (NW t F) (va_cpy (NW t F) (va_cpy (NW t F) (va_cpy (NW t F) kp 0 0 17) 0 0 17) 0 0 17) ++ [(q203, .inl (E.2.1, 8, .inl (arrL [(nI (ph F k t)), (bI (due F k t)), (bI (litS F lim t k))])))]) H := hP
                        have hD : va_D A (wM E b (nI 0) n lim F (NW t F) (va_cpy (NW t F) (va_cpy (NW t F) (va_cpy (NW t F) kp 0 0 17) 0 0 17) 0 0 17) ++ [(q203, .inl (E.2.1, 8, .inl (arrL [(nI (ph F k t)), (bI (due F k t)), (bI (litS F lim t k))])))]) := hD
                        refine lv_dup hx hb dX2_digest_249 rfl ?_
                        refine lv_iconst (v := (nI 3)) hx hb dX2_digest_250 (by decide) ?_
                        refine lv_aload_n hx hb dX2_digest_251 rfl (lv_at hl 0 rfl) ?_
                        refine va_get (D := E.1) (ci := 3) (v := .ref (b 1)) (C := RX2) (T := TX2) (N := 10) hx hb hts hiX2 hown hK hP 0 rfl rfl 3 (by decide) (hts (.fieldLink RX2 13 "PulseLoomModel" "colour" "[I") (List.mem_of_getElem? (i := 8) (by rfl))) (fun _ h9 => h9) rfl dX2_digest_252 ?_
                        refine lv_iload hx hb dX2_digest_255 (lv_at hl 2 rfl) ?_
                        refine va_iald hx hb hK hP 1 0 rfl rfl (by exact vp_in_nI (by omega) (by omega)) dX2_digest_257 ?_
                        refine nq_top (show (nI (F (((nI k)).toNatClampNeg) 2)) = (nI (F k 2)) from by rw [nI_clamp (by omega)]) ?_
                        refine va_iast hx hb hK hP hD hS 8 0 rfl rfl (by exact vp_in_nI (by omega) (by omega)) dX2_digest_258 (fun H locs hP hD hS => ?_)
                        rw [upd_arr (x := [(nI (ph F k t)), (bI (due F k t)), (bI (litS F lim t k))]) (k := 3) (v := (nI (F k 2))) rfl (by decide)] at hP hD
                        have hP : va_P E.1 vwCl (wM E b (nI 0) n lim F (NW t F) (va_cpy (NW t F) (va_cpy (NW t F) (va_cpy (NW t F) kp 0 0 17) 0 0 17) 0 0 17) ++ [(q203, .inl (E.2.1, 8, .inl (arrL [(nI (ph F k t)), (bI (due F k t)), (bI (litS F lim t k)), (nI (F k 2))])))]) H := hP
                        have hD : va_D A (wM E b (nI 0) n lim F (NW t F) (va_cpy (NW t F) (va_cpy (NW t F) (va_cpy (NW t F) kp 0 0 17) 0 0 17) 0 0 17) ++ [(q203, .inl (E.2.1, 8, .inl (arrL [(nI (ph F k t)), (bI (due F k t)), (bI (litS F lim t k)), (nI (F k 2))])))]) := hD
                        refine lv_dup hx hb dX2_digest_259 rfl ?_
                        refine lv_iconst (v := (nI 4)) hx hb dX2_digest_260 (by decide) ?_
                        refine lv_aload_n hx hb dX2_digest_261 rfl (lv_at hl 0 rfl) ?_
                        refine va_get (D := E.1) (ci := 3) (v := .ref (b 6)) (C := RX2) (T := TX2) (N := 10) hx hb hts hiX2 hown hK hP 0 rfl rfl 8 (by decide) (hts (.fieldLink RX2 29 "PulseLoomModel" "now" "[I") (List.mem_of_getElem? (i := 3) (by rfl))) (fun _ h9 => h9) rfl dX2_digest_262 ?_
                        refine lv_iconst (v := (nI 1)) hx hb dX2_digest_265 (by decide) ?_
                        refine lv_iload hx hb dX2_digest_266 (lv_at hl 2 rfl) ?_
                        refine nq_add hx hb dX2_digest_268 ?_
                        refine va_iald hx hb hK hP 6 0 rfl rfl (by exact vp_in_nI (by omega) (by omega)) dX2_digest_269 ?_
                        refine nq_top (show (NW t F (((nI (1 + k))).toNatClampNeg)) = (nI (F k 5)) from by rw [nI_clamp (by omega)]; exact NW_s _ _ (by omega)) ?_
                        refine va_iast hx hb hK hP hD hS 8 0 rfl rfl (by exact vp_in_nI (by omega) (by omega)) dX2_digest_270 (fun H locs hP hD hS => ?_)
                        rw [upd_arr (x := [(nI (ph F k t)), (bI (due F k t)), (bI (litS F lim t k)), (nI (F k 2))]) (k := 4) (v := (nI (F k 5))) rfl (by decide)] at hP hD
                        have hP : va_P E.1 vwCl (wM E b (nI 0) n lim F (NW t F) (va_cpy (NW t F) (va_cpy (NW t F) (va_cpy (NW t F) kp 0 0 17) 0 0 17) 0 0 17) ++ [(q203, .inl (E.2.1, 8, .inl (arrL [(nI (ph F k t)), (bI (due F k t)), (bI (litS F lim t k)), (nI (F k 2)), (nI (F k 5))])))]) H := hP
                        have hD : va_D A (wM E b (nI 0) n lim F (NW t F) (va_cpy (NW t F) (va_cpy (NW t F) (va_cpy (NW t F) kp 0 0 17) 0 0 17) 0 0 17) ++ [(q203, .inl (E.2.1, 8, .inl (arrL [(nI (ph F k t)), (bI (due F k t)), (bI (litS F lim t k)), (nI (F k 2)), (nI (F k 5))])))]) := hD
                        refine lv_dup hx hb dX2_digest_271 rfl ?_
                        refine lv_iconst (v := (nI 5)) hx hb dX2_digest_272 (by decide) ?_
                        refine lv_aload_n hx hb dX2_digest_273 rfl (lv_at hl 0 rfl) ?_
                        refine va_get (D := E.1) (ci := 3) (v := .ref (b 6)) (C := RX2) (T := TX2) (N := 10) hx hb hts hiX2 hown hK hP 0 rfl rfl 8 (by decide) (hts (.fieldLink RX2 29 "PulseLoomModel" "now" "[I") (List.mem_of_getElem? (i := 3) (by rfl))) (fun _ h9 => h9) rfl dX2_digest_274 ?_
                        refine lv_bipush (v := (nI 9)) hx hb dX2_digest_277 (by decide) ?_
                        refine lv_iload hx hb dX2_digest_279 (lv_at hl 2 rfl) ?_
                        refine nq_add hx hb dX2_digest_281 ?_
                        refine va_iald hx hb hK hP 6 0 rfl rfl (by exact vp_in_nI (by omega) (by omega)) dX2_digest_282 ?_
                        refine nq_top (show (NW t F (((nI (9 + k))).toNatClampNeg)) = (nI (F k 6)) from by rw [nI_clamp (by omega)]; exact NW_d _ _ _) ?_
                        refine va_iast hx hb hK hP hD hS 8 0 rfl rfl (by exact vp_in_nI (by omega) (by omega)) dX2_digest_283 (fun H locs hP hD hS => ?_)
                        rw [upd_arr (x := [(nI (ph F k t)), (bI (due F k t)), (bI (litS F lim t k)), (nI (F k 2)), (nI (F k 5))]) (k := 5) (v := (nI (F k 6))) rfl (by decide)] at hP hD
                        have hP : va_P E.1 vwCl (wM E b (nI 0) n lim F (NW t F) (va_cpy (NW t F) (va_cpy (NW t F) (va_cpy (NW t F) kp 0 0 17) 0 0 17) 0 0 17) ++ [(q203, .inl (E.2.1, 8, .inl (arrL [(nI (ph F k t)), (bI (due F k t)), (bI (litS F lim t k)), (nI (F k 2)), (nI (F k 5)), (nI (F k 6))])))]) H := hP
                        have hD : va_D A (wM E b (nI 0) n lim F (NW t F) (va_cpy (NW t F) (va_cpy (NW t F) (va_cpy (NW t F) kp 0 0 17) 0 0 17) 0 0 17) ++ [(q203, .inl (E.2.1, 8, .inl (arrL [(nI (ph F k t)), (bI (due F k t)), (bI (litS F lim t k)), (nI (F k 2)), (nI (F k 5)), (nI (F k 6))])))]) := hD
                        refine lv_dup hx hb dX2_digest_284 rfl ?_
                        refine lv_bipush (v := (nI 6)) hx hb dX2_digest_285 (by decide) ?_
                        refine lv_aload_n hx hb dX2_digest_287 rfl (lv_at hl 0 rfl) ?_
                        refine lv_iload hx hb dX2_digest_288 (lv_at hl 2 rfl) ?_
                        refine lv_aload_n hx hb dX2_digest_290 rfl (lv_at hl 0 rfl) ?_
                        refine va_get (D := E.1) (ci := 3) (v := .ref (b 3)) (C := RX2) (T := TX2) (N := 10) hx hb hts hiX2 hown hK hP 0 rfl rfl 5 (by decide) (hts (.fieldLink RX2 20 "PulseLoomModel" "shift" "[I") (List.mem_of_getElem? (i := 9) (by rfl))) (fun _ h9 => h9) rfl dX2_digest_291 ?_
                        refine lv_iload hx hb dX2_digest_294 (lv_at hl 2 rfl) ?_
                        refine va_iald hx hb hK hP 3 0 rfl rfl (by exact vp_in_nI (by omega) (by omega)) dX2_digest_296 ?_
                        refine nq_top (show (nI (F (((nI k)).toNatClampNeg) 3)) = (nI (F k 3)) from by rw [nI_clamp (by omega)]) ?_
                        refine csV_i (rest := [.int (nI 6), .ref q203, .ref q203]) (As := [.int (nI k), .int (nI (F k 3))]) ⟨hx, hb, hml, hown, hts⟩ (c_X2_met l E _ b n lim t F t MV_app hO (Nat.le_refl _) k (F k 3) (by omega) (by omega)) (cwV 2 hts gX2_digest_X2_met rfl rfl rfl (by decide +kernel) ⟨Nat.le_of_ble_eq_true rfl, Nat.le_of_ble_eq_true rfl⟩) (va_recv hK hP (ci := 3) (q0 := 0) rfl rfl) hP hK rfl hl.1 rfl (Nat.le_of_ble_eq_true rfl) dX2_digest_297 (by show _ ≤ 10; omega) (by show _ ≤ 73; omega) (fun r297 hr297 => ?_)
                        subst hr297
                        refine va_iast hx hb hK hP hD hS 8 0 rfl rfl (by exact vp_in_nI (by omega) (by omega)) dX2_digest_300 (fun H locs hP hD hS => ?_)
                        rw [upd_arr (x := [(nI (ph F k t)), (bI (due F k t)), (bI (litS F lim t k)), (nI (F k 2)), (nI (F k 5)), (nI (F k 6))]) (k := 6) (v := (nI (mtS F k (((F k 3) : Nat) : Int) n))) rfl (by decide)] at hP hD
                        have hP : va_P E.1 vwCl (wM E b (nI 0) n lim F (NW t F) (va_cpy (NW t F) (va_cpy (NW t F) (va_cpy (NW t F) kp 0 0 17) 0 0 17) 0 0 17) ++ [(q203, .inl (E.2.1, 8, .inl (arrL [(nI (ph F k t)), (bI (due F k t)), (bI (litS F lim t k)), (nI (F k 2)), (nI (F k 5)), (nI (F k 6)), (nI (mtS F k (((F k 3) : Nat) : Int) n))])))]) H := hP
                        have hD : va_D A (wM E b (nI 0) n lim F (NW t F) (va_cpy (NW t F) (va_cpy (NW t F) (va_cpy (NW t F) kp 0 0 17) 0 0 17) 0 0 17) ++ [(q203, .inl (E.2.1, 8, .inl (arrL [(nI (ph F k t)), (bI (due F k t)), (bI (litS F lim t k)), (nI (F k 2)), (nI (F k 5)), (nI (F k 6)), (nI (mtS F k (((F k 3) : Nat) : Int) n))])))]) := hD
                        refine lv_dup hx hb dX2_digest_301 rfl ?_
                        refine lv_bipush (v := (nI 7)) hx hb dX2_digest_302 (by decide) ?_
                        refine lv_aload_n hx hb dX2_digest_304 rfl (lv_at hl 0 rfl) ?_
                        refine lv_iload hx hb dX2_digest_305 (lv_at hl 2 rfl) ?_
                        refine csV_i (rest := [.int (nI 7), .ref q203, .ref q203]) (As := [.int (nI k)]) ⟨hx, hb, hml, hown, hts⟩ (c_X2_shiftFor l E _ b n lim t F t MV_app hO (Nat.le_refl _) k (by omega)) (cwV 1 hts gX2_digest_X2_shiftFor rfl rfl rfl (by decide +kernel) ⟨Nat.le_of_ble_eq_true rfl, Nat.le_of_ble_eq_true rfl⟩) (va_recv hK hP (ci := 3) (q0 := 0) rfl rfl) hP hK rfl hl.1 rfl (Nat.le_of_ble_eq_true rfl) dX2_digest_307 (by show _ ≤ 10; omega) (by show _ ≤ 73; omega) (fun r307 hr307 => ?_)
                        subst hr307
                        refine va_iast hx hb hK hP hD hS 8 0 rfl rfl (by exact vp_in_nI (by omega) (by omega)) dX2_digest_310 (fun H locs hP hD hS => ?_)
                        rw [upd_arr (x := [(nI (ph F k t)), (bI (due F k t)), (bI (litS F lim t k)), (nI (F k 2)), (nI (F k 5)), (nI (F k 6)), (nI (mtS F k (((F k 3) : Nat) : Int) n))]) (k := 7) (v := (nI (bestS F n k (F k 0 - 1)))) rfl (by decide)] at hP hD
                        have hP : va_P E.1 vwCl (wM E b (nI 0) n lim F (NW t F) (va_cpy (NW t F) (va_cpy (NW t F) (va_cpy (NW t F) kp 0 0 17) 0 0 17) 0 0 17) ++ [(q203, .inl (E.2.1, 8, .inl (arrL [(nI (ph F k t)), (bI (due F k t)), (bI (litS F lim t k)), (nI (F k 2)), (nI (F k 5)), (nI (F k 6)), (nI (mtS F k (((F k 3) : Nat) : Int) n)), (nI (bestS F n k (F k 0 - 1)))])))]) H := hP
                        have hD : va_D A (wM E b (nI 0) n lim F (NW t F) (va_cpy (NW t F) (va_cpy (NW t F) (va_cpy (NW t F) kp 0 0 17) 0 0 17) 0 0 17) ++ [(q203, .inl (E.2.1, 8, .inl (arrL [(nI (ph F k t)), (bI (due F k t)), (bI (litS F lim t k)), (nI (F k 2)), (nI (F k 5)), (nI (F k 6)), (nI (mtS F k (((F k 3) : Nat) : Int) n)), (nI (bestS F n k (F k 0 - 1)))])))]) := hD
                        refine lv_astore (lv' := [(6, .ref q203), (0, .ref (b 0)), (2, .long (jaS F n t lim (jhS F n t lim) k)), (5, .int (nI k))]) hx hb dX2_digest_311 hl (by decide) rfl (fun ls hl => ?_)
                        refine lv_aload hx hb dX2_digest_313 (lv_at hl 0 rfl) ?_
                        refine lv_astore (lv' := [(7, .ref q203), (6, .ref q203), (0, .ref (b 0)), (2, .long (jaS F n t lim (jhS F n t lim) k)), (5, .int (nI k))]) hx hb dX2_digest_315 hl (by decide) rfl (fun ls hl => ?_)
                        refine lv_aload hx hb dX2_digest_317 (lv_at hl 0 rfl) ?_
                        refine va_alen hx hb hK hP 8 0 rfl rfl (v := nI 8) rfl dX2_digest_319 ?_
                        refine lv_istore (lv' := [(8, .int (nI 8)), (7, .ref q203), (6, .ref q203), (0, .ref (b 0)), (2, .long (jaS F n t lim (jhS F n t lim) k)), (5, .int (nI k))]) hx hb dX2_digest_320 hl (by decide) rfl (fun ls hl => ?_)
                        refine lv_iconst (v := (nI 0)) hx hb dX2_digest_322 (by decide) ?_
                        refine lv_istore (lv' := [(9, .int (nI 0)), (8, .int (nI 8)), (7, .ref q203), (6, .ref q203), (0, .ref (b 0)), (2, .long (jaS F n t lim (jhS F n t lim) k)), (5, .int (nI k))]) hx hb dX2_digest_323 hl (by decide) rfl (fun ls hl => ?_)
                        have loop325 : ∀ (tk : Nat) (i : Nat) (H : Heap) (locs : List Loc) (ls : Array Slot), (i ≤ 8) → (8 - i) < tk → va_P E.1 vwCl (wM E b (nI 0) n lim F (NW t F) (va_cpy (NW t F) (va_cpy (NW t F) (va_cpy (NW t F) kp 0 0 17) 0 0 17) 0 0 17) ++ [(q203, .inl (E.2.1, 8, .inl (arrL [nI (ph F k t), bI (due F k t), bI (litS F lim t k), nI (F k 2), nI (F k 5), nI (F k 6), nI (mtS F k ((F k 3 : Nat) : Int) n), nI (bestS F n k (F k 0 - 1))])))]) H → va_D A (wM E b (nI 0) n lim F (NW t F) (va_cpy (NW t F) (va_cpy (NW t F) (va_cpy (NW t F) kp 0 0 17) 0 0 17) 0 0 17) ++ [(q203, .inl (E.2.1, 8, .inl (arrL [nI (ph F k t), bI (due F k t), bI (litS F lim t k), nI (F k 2), nI (F k 5), nI (F k 6), nI (mtS F k ((F k 3 : Nat) : Int) n), nI (bestS F n k (F k 0 - 1))])))]) → va_S A s.heap H locs → lv_has ls 11 [(0, .ref (b 0)), (2, .long (jF (arrL [nI (ph F k t), bI (due F k t), bI (litS F lim t k), nI (F k 2), nI (F k 5), nI (F k 6), nI (mtS F k ((F k 3 : Nat) : Int) n), nI (bestS F n k (F k 0 - 1))]) (jaS F n t lim (jhS F n t lim) k) i)), (5, .int (nI k)), (7, .ref q203), (8, .int (nI 8)), (9, .int (nI i))] → W p l e ({ frames := 5, cells := 10, slots := 73, locals := 112 } : Room) s m args below meth c H locs ((2 + k) + 1) ((9 + 8 * k) + 8) QQ (F0 m 325 ls []) := by
                          intro tk
                          induction tk with
                          | zero => intro i H locs ls hi hk hP hD hS hl; exact absurd hk (Nat.not_lt_zero _)
                          | succ tk ih325 =>
                            intro i H locs ls hi hk hP hD hS hl
                            refine lv_iload hx hb dX2_digest_325 (lv_at hl 5 rfl) ?_
                            refine lv_iload hx hb dX2_digest_327 (lv_at hl 4 rfl) ?_
                            refine nq_icmp_ge (tgt := 355) hx hb dX2_digest_329 (by decide) (by omega) (by omega) (fun h329 => ?_) (fun h329 => ?_)
                            · skip
                              have hP := va_Pl hP
                              have hD := va_Dl hD
                              skip
                              have hl : lv_has ls 11 [(0, .ref (b 0)), (2, .long (jbS F n t lim k (jaS F n t lim (jhS F n t lim) k))), (5, .int (nI k)), (7, .ref q203), (8, .int (nI 8)), (9, .int (nI i))] := lv_rep hl 1 rfl (congrArg Value.long (show (jF (arrL [nI (ph F k t), bI (due F k t), bI (litS F lim t k), nI (F k 2), nI (F k 5), nI (F k 6), nI (mtS F k ((F k 3 : Nat) : Int) n), nI (bestS F n k (F k 0 - 1))]) (jaS F n t lim (jhS F n t lim) k) i) = (jbS F n t lim k (jaS F n t lim (jhS F n t lim) k)) from by rw [show i = 8 by omega, jF8, nI_l (n := ph F k t) (by omega), nI_l (n := F k 2) (by omega), nI_l (n := F k 5) (by omega), nI_l (n := F k 6) (by omega), nI_l (n := mtS F k ((F k 3 : Nat) : Int) n) (by omega), nI_l (n := bestS F n k (F k 0 - 1)) (by omega), bI_l, bI_l]; unfold jbS; rfl))
                              skip
                              refine lv_iconst (v := (nI 0)) hx hb dX2_digest_355 (by decide) ?_
                              refine lv_istore (lv' := [(7, .int (nI 0)), (0, .ref (b 0)), (2, .long (jbS F n t lim k (jaS F n t lim (jhS F n t lim) k))), (5, .int (nI k)), (8, .int (nI 8)), (9, .int (nI i))]) hx hb dX2_digest_356 hl (by decide) rfl (fun ls hl => ?_)
                              have loop358 : ∀ (tk : Nat) (j : Nat) (H : Heap) (locs : List Loc) (ls : Array Slot), (j ≤ n) → (n - j) < tk → va_P E.1 vwCl (wM E b (nI 0) n lim F (NW t F) (va_cpy (NW t F) (va_cpy (NW t F) (va_cpy (NW t F) kp 0 0 17) 0 0 17) 0 0 17)) H → va_D A (wM E b (nI 0) n lim F (NW t F) (va_cpy (NW t F) (va_cpy (NW t F) (va_cpy (NW t F) kp 0 0 17) 0 0 17) 0 0 17)) → va_S A s.heap H locs → lv_has ls 11 [(0, .ref (b 0)), (2, .long (juS F t k j (jbS F n t lim k (jaS F n t lim (jhS F n t lim) k)))), (5, .int (nI k)), (7, .int (nI j))] → W p l e ({ frames := 5, cells := 10, slots := 73, locals := 112 } : Room) s m args below meth c H locs ((2 + k) + 1) ((9 + 8 * k) + 8) QQ (F0 m 358 ls []) := by
                                intro tk
                                induction tk with
                                | zero => intro j H locs ls hj hk hP hD hS hl; exact absurd hk (Nat.not_lt_zero _)
                                | succ tk ih358 =>
                                  intro j H locs ls hj hk hP hD hS hl
                                  refine lv_iload hx hb dX2_digest_358 (lv_at hl 3 rfl) ?_
                                  refine lv_aload_n hx hb dX2_digest_360 rfl (lv_at hl 0 rfl) ?_
                                  refine va_get (D := E.1) (ci := 3) (v := .int (nI n)) (C := RX2) (T := TX2) (N := 10) hx hb hts hiX2 hown hK hP 0 rfl rfl 1 (by decide) (hts (.fieldLink RX2 38 "PulseLoomModel" "lamps" "I") (List.mem_of_getElem? (i := 4) (by rfl))) (fun _ h9 => h9) rfl dX2_digest_361 ?_
                                  refine nq_icmp_ge (tgt := 389) hx hb dX2_digest_364 (by decide) (by omega) (by omega) (fun h364 => ?_) (fun h364 => ?_)
                                  · skip
                                    refine nq_inc (lv' := [(5, .int (nI (k + 1))), (0, .ref (b 0)), (2, .long (juS F t k j (jbS F n t lim k (jaS F n t lim (jhS F n t lim) k)))), (7, .int (nI j))]) hx hb dX2_digest_389 (d := 1) rfl hl (k := 2) rfl (by decide) rfl (fun ls hl => ?_)
                                    refine lv_goto (tgt := 192) hx hb dX2_digest_392 (by decide) ?_
                                    have hl : lv_has ls 11 [(5, .int (nI (k + 1))), (0, .ref (b 0)), (2, .long (jaS F n t lim (jhS F n t lim) (k + 1))), (7, .int (nI j))] := lv_rep hl 2 rfl (congrArg Value.long (show (juS F t k j (jbS F n t lim k (jaS F n t lim (jhS F n t lim) k))) = (jaS F n t lim (jhS F n t lim) (k + 1)) from by rw [show j = n by omega]; rfl))
                                    refine W_cs (cells2 := 2 + (k + 1)) (slots2 := 9 + 8 * (k + 1)) (by omega) (by omega) ?_
                                    exact ih192 (k + 1) _ _ ls (by omega) (by omega) hP hD hS (lv_sub hl [1, 2, 0] rfl)
                                  · skip
                                    refine lv_lload_n hx hb dX2_digest_367 rfl (lv_at hl 1 rfl) ?_
                                    refine lv_ldc2 (v := 31) hx hb hown (hts (.constantLong RX2 151 (31)) (List.mem_of_getElem? (i := 7) (by rfl))) dX2_digest_368 ?_
                                    refine lv_lmul hx hb dX2_digest_371 ?_
                                    refine lv_aload_n hx hb dX2_digest_372 rfl (lv_at hl 0 rfl) ?_
                                    refine lv_iload hx hb dX2_digest_373 (lv_at hl 2 rfl) ?_
                                    refine lv_iload hx hb dX2_digest_375 (lv_at hl 3 rfl) ?_
                                    have hj8 := hO4 j h364
                                    have hub := until_bd (F := F) (now := t) (i := k) (j := j) (by omega) (by omega)
                                    refine csV_i (rest := [.long ((juS F t k j (jbS F n t lim k (jaS F n t lim (jhS F n t lim) k))) * 31)]) (As := [.int (nI k), .int (nI j)]) ⟨hx, hb, hml, hown, hts⟩ (c_X2_until l E _ b n lim t F t MV_self hO (Nat.le_refl _) k j (by omega) (by omega)) (cwV 2 hts gX2_digest_X2_until rfl rfl rfl (by decide +kernel) ⟨Nat.le_of_ble_eq_true rfl, Nat.le_of_ble_eq_true rfl⟩) (va_recv hK hP (ci := 3) (q0 := 0) rfl rfl) hP hK rfl hl.1 rfl (Nat.le_of_ble_eq_true rfl) dX2_digest_377 (by show _ ≤ 10; omega) (by show _ ≤ 73; omega) (fun r377 hr377 => ?_)
                                    subst hr377
                                    refine lv_i2l (v := lI (untilS F t k j)) hx hb dX2_digest_380 (iI_lI (by omega)) ?_
                                    refine lv_ladd hx hb dX2_digest_381 ?_
                                    refine lv_lstore_n (lv' := [(2, .long (((juS F t k j (jbS F n t lim k (jaS F n t lim (jhS F n t lim) k))) * 31) + (lI (untilS F t k j)))), (0, .ref (b 0)), (5, .int (nI k)), (7, .int (nI j))]) hx hb dX2_digest_382 rfl hl (by decide) rfl (fun ls hl => ?_)
                                    refine nq_inc (lv' := [(7, .int (nI (j + 1))), (2, .long (((juS F t k j (jbS F n t lim k (jaS F n t lim (jhS F n t lim) k))) * 31) + (lI (untilS F t k j)))), (0, .ref (b 0)), (5, .int (nI k))]) hx hb dX2_digest_383 (d := 1) rfl hl (k := 3) rfl (by decide) rfl (fun ls hl => ?_)
                                    refine lv_goto (tgt := 358) hx hb dX2_digest_386 (by decide) ?_
                                    have hl : lv_has ls 11 [(7, .int (nI (j + 1))), (2, .long (juS F t k (j + 1) (jbS F n t lim k (jaS F n t lim (jhS F n t lim) k)))), (0, .ref (b 0)), (5, .int (nI k))] := lv_rep hl 1 rfl (congrArg Value.long (show (((juS F t k j (jbS F n t lim k (jaS F n t lim (jhS F n t lim) k))) * 31) + (lI (untilS F t k j))) = (juS F t k (j + 1) (jbS F n t lim k (jaS F n t lim (jhS F n t lim) k))) from rfl))
                                    exact ih358 (j + 1) _ _ ls (by omega) (by omega) hP hD hS (lv_sub hl [2, 1, 3, 0] rfl)
                              have hl : lv_has ls 11 [(7, .int (nI 0)), (0, .ref (b 0)), (2, .long (juS F t k 0 (jbS F n t lim k (jaS F n t lim (jhS F n t lim) k)))), (5, .int (nI k)), (8, .int (nI 8)), (9, .int (nI i))] := lv_rep hl 2 rfl (congrArg Value.long (show (jbS F n t lim k (jaS F n t lim (jhS F n t lim) k)) = (juS F t k 0 (jbS F n t lim k (jaS F n t lim (jhS F n t lim) k))) from rfl))
                              exact loop358 ((n - 0) + 1) 0 _ _ ls (by omega) (Nat.lt_succ_self _) hP hD hS (lv_sub hl [1, 2, 3, 0] rfl)
                            · skip
                              refine lv_aload hx hb dX2_digest_332 (lv_at hl 3 rfl) ?_
                              refine lv_iload hx hb dX2_digest_334 (lv_at hl 5 rfl) ?_
                              refine va_iald hx hb hK hP 8 0 rfl rfl (by exact vp_in_nI (by omega) (by omega)) dX2_digest_336 ?_
                              refine nq_top (show (arrL [(nI (ph F k t)), (bI (due F k t)), (bI (litS F lim t k)), (nI (F k 2)), (nI (F k 5)), (nI (F k 6)), (nI (mtS F k (((F k 3) : Nat) : Int) n)), (nI (bestS F n k (F k 0 - 1)))] (((nI i)).toNatClampNeg)) = (arrL [(nI (ph F k t)), (bI (due F k t)), (bI (litS F lim t k)), (nI (F k 2)), (nI (F k 5)), (nI (F k 6)), (nI (mtS F k (((F k 3) : Nat) : Int) n)), (nI (bestS F n k (F k 0 - 1)))] i) from by rw [nI_clamp (by omega)]) ?_
                              refine lv_istore (lv' := [(10, .int (arrL [(nI (ph F k t)), (bI (due F k t)), (bI (litS F lim t k)), (nI (F k 2)), (nI (F k 5)), (nI (F k 6)), (nI (mtS F k (((F k 3) : Nat) : Int) n)), (nI (bestS F n k (F k 0 - 1)))] i)), (0, .ref (b 0)), (2, .long (jF (arrL [nI (ph F k t), bI (due F k t), bI (litS F lim t k), nI (F k 2), nI (F k 5), nI (F k 6), nI (mtS F k ((F k 3 : Nat) : Int) n), nI (bestS F n k (F k 0 - 1))]) (jaS F n t lim (jhS F n t lim) k) i)), (5, .int (nI k)), (7, .ref q203), (8, .int (nI 8)), (9, .int (nI i))]) hx hb dX2_digest_337 hl (by decide) rfl (fun ls hl => ?_)
                              refine lv_lload_n hx hb dX2_digest_339 rfl (lv_at hl 2 rfl) ?_
                              refine lv_ldc2 (v := 31) hx hb hown (hts (.constantLong RX2 151 (31)) (List.mem_of_getElem? (i := 7) (by rfl))) dX2_digest_340 ?_
                              refine lv_lmul hx hb dX2_digest_343 ?_
                              refine lv_iload hx hb dX2_digest_344 (lv_at hl 0 rfl) ?_
                              refine lv_i2l (v := (arrL [(nI (ph F k t)), (bI (due F k t)), (bI (litS F lim t k)), (nI (F k 2)), (nI (F k 5)), (nI (F k 6)), (nI (mtS F k (((F k 3) : Nat) : Int) n)), (nI (bestS F n k (F k 0 - 1)))] i).toInt64) hx hb dX2_digest_346 (rfl) ?_
                              refine lv_ladd hx hb dX2_digest_347 ?_
                              refine lv_lstore_n (lv' := [(2, .long (((jF (arrL [nI (ph F k t), bI (due F k t), bI (litS F lim t k), nI (F k 2), nI (F k 5), nI (F k 6), nI (mtS F k ((F k 3 : Nat) : Int) n), nI (bestS F n k (F k 0 - 1))]) (jaS F n t lim (jhS F n t lim) k) i) * 31) + ((arrL [(nI (ph F k t)), (bI (due F k t)), (bI (litS F lim t k)), (nI (F k 2)), (nI (F k 5)), (nI (F k 6)), (nI (mtS F k (((F k 3) : Nat) : Int) n)), (nI (bestS F n k (F k 0 - 1)))] i).toInt64))), (10, .int (arrL [(nI (ph F k t)), (bI (due F k t)), (bI (litS F lim t k)), (nI (F k 2)), (nI (F k 5)), (nI (F k 6)), (nI (mtS F k (((F k 3) : Nat) : Int) n)), (nI (bestS F n k (F k 0 - 1)))] i)), (0, .ref (b 0)), (5, .int (nI k)), (7, .ref q203), (8, .int (nI 8)), (9, .int (nI i))]) hx hb dX2_digest_348 rfl hl (by decide) rfl (fun ls hl => ?_)
                              refine nq_inc (lv' := [(9, .int (nI (i + 1))), (2, .long (((jF (arrL [nI (ph F k t), bI (due F k t), bI (litS F lim t k), nI (F k 2), nI (F k 5), nI (F k 6), nI (mtS F k ((F k 3 : Nat) : Int) n), nI (bestS F n k (F k 0 - 1))]) (jaS F n t lim (jhS F n t lim) k) i) * 31) + ((arrL [(nI (ph F k t)), (bI (due F k t)), (bI (litS F lim t k)), (nI (F k 2)), (nI (F k 5)), (nI (F k 6)), (nI (mtS F k (((F k 3) : Nat) : Int) n)), (nI (bestS F n k (F k 0 - 1)))] i).toInt64))), (10, .int (arrL [(nI (ph F k t)), (bI (due F k t)), (bI (litS F lim t k)), (nI (F k 2)), (nI (F k 5)), (nI (F k 6)), (nI (mtS F k (((F k 3) : Nat) : Int) n)), (nI (bestS F n k (F k 0 - 1)))] i)), (0, .ref (b 0)), (5, .int (nI k)), (7, .ref q203), (8, .int (nI 8))]) hx hb dX2_digest_349 (d := 1) rfl hl (k := 6) rfl (by decide) rfl (fun ls hl => ?_)
                              refine lv_goto (tgt := 325) hx hb dX2_digest_352 (by decide) ?_
                              have hl : lv_has ls 11 [(9, .int (nI (i + 1))), (2, .long (jF (arrL [nI (ph F k t), bI (due F k t), bI (litS F lim t k), nI (F k 2), nI (F k 5), nI (F k 6), nI (mtS F k ((F k 3 : Nat) : Int) n), nI (bestS F n k (F k 0 - 1))]) (jaS F n t lim (jhS F n t lim) k) (i + 1))), (10, .int (arrL [(nI (ph F k t)), (bI (due F k t)), (bI (litS F lim t k)), (nI (F k 2)), (nI (F k 5)), (nI (F k 6)), (nI (mtS F k (((F k 3) : Nat) : Int) n)), (nI (bestS F n k (F k 0 - 1)))] i)), (0, .ref (b 0)), (5, .int (nI k)), (7, .ref q203), (8, .int (nI 8))] := lv_rep hl 1 rfl (congrArg Value.long (show (((jF (arrL [nI (ph F k t), bI (due F k t), bI (litS F lim t k), nI (F k 2), nI (F k 5), nI (F k 6), nI (mtS F k ((F k 3 : Nat) : Int) n), nI (bestS F n k (F k 0 - 1))]) (jaS F n t lim (jhS F n t lim) k) i) * 31) + ((arrL [(nI (ph F k t)), (bI (due F k t)), (bI (litS F lim t k)), (nI (F k 2)), (nI (F k 5)), (nI (F k 6)), (nI (mtS F k (((F k 3) : Nat) : Int) n)), (nI (bestS F n k (F k 0 - 1)))] i).toInt64)) = (jF (arrL [nI (ph F k t), bI (due F k t), bI (litS F lim t k), nI (F k 2), nI (F k 5), nI (F k 6), nI (mtS F k ((F k 3 : Nat) : Int) n), nI (bestS F n k (F k 0 - 1))]) (jaS F n t lim (jhS F n t lim) k) (i + 1)) from (jF_s _ _ _).symm))
                              exact ih325 (i + 1) _ _ ls (by omega) (by omega) hP hD hS (lv_sub hl [3, 1, 4, 5, 6, 0] rfl)
                        have hl : lv_has ls 11 [(9, .int (nI 0)), (8, .int (nI 8)), (7, .ref q203), (6, .ref q203), (0, .ref (b 0)), (2, .long (jF (arrL [nI (ph F k t), bI (due F k t), bI (litS F lim t k), nI (F k 2), nI (F k 5), nI (F k 6), nI (mtS F k ((F k 3 : Nat) : Int) n), nI (bestS F n k (F k 0 - 1))]) (jaS F n t lim (jhS F n t lim) k) 0)), (5, .int (nI k))] := lv_rep hl 5 rfl (congrArg Value.long (show (jaS F n t lim (jhS F n t lim) k) = (jF (arrL [nI (ph F k t), bI (due F k t), bI (litS F lim t k), nI (F k 2), nI (F k 5), nI (F k 6), nI (mtS F k ((F k 3 : Nat) : Int) n), nI (bestS F n k (F k 0 - 1))]) (jaS F n t lim (jhS F n t lim) k) 0) from rfl))
                        rw [show wM E b (nI 0) n lim F (NW t F) (va_cpy (NW t F) (va_cpy (NW t F) (va_cpy (NW t F) kp 0 0 17) 0 0 17) 0 0 17) ++ [(q203, .inl (E.2.1, 8, .inl (arrL [(nI (ph F k t)), (bI (due F k t)), (bI (litS F lim t k)), (nI (F k 2)), (nI (F k 5)), (nI (F k 6)), (nI (mtS F k (((F k 3) : Nat) : Int) n)), (nI (bestS F n k (F k 0 - 1)))])))] = wM E b (nI 0) n lim F (NW t F) (va_cpy (NW t F) (va_cpy (NW t F) (va_cpy (NW t F) kp 0 0 17) 0 0 17) 0 0 17) ++ [(q203, .inl (E.2.1, 8, .inl (arrL [nI (ph F k t), bI (due F k t), bI (litS F lim t k), nI (F k 2), nI (F k 5), nI (F k 6), nI (mtS F k ((F k 3 : Nat) : Int) n), nI (bestS F n k (F k 0 - 1))])))] from rfl] at hP hD
                        exact loop325 ((8 - 0) + 1) 0 _ _ ls (by omega) (Nat.lt_succ_self _) hP hD hS (lv_sub hl [4, 5, 6, 2, 1, 0] rfl)
                      refine bq_if_eq (tgt := 247) hx hb dX2_digest_240 (by decide) (fun h240 => ?_) (fun h240 => ?_)
                      · skip
                        refine lv_iconst (v := (nI 0)) hx hb dX2_digest_247 (by decide) ?_
                        refine nq_top (show (nI 0) = (bI (litS F lim t k)) from by rw [h240]; rfl) ?_
                        exact join248 _ _ ls hP hD hS (lv_sub hl [0, 1, 2] rfl)
                      · skip
                        refine lv_iconst (v := (nI 1)) hx hb dX2_digest_243 (by decide) ?_
                        refine lv_goto (tgt := 248) hx hb dX2_digest_244 (by decide) ?_
                        refine nq_top (show (nI 1) = (bI (litS F lim t k)) from by rw [h240]; rfl) ?_
                        exact join248 _ _ ls hP hD hS (lv_sub hl [0, 1, 2] rfl)
                    refine bq_if_eq (tgt := 230) hx hb dX2_digest_223 (by decide) (fun h223 => ?_) (fun h223 => ?_)
                    · skip
                      refine lv_iconst (v := (nI 0)) hx hb dX2_digest_230 (by decide) ?_
                      refine nq_top (show (nI 0) = (bI (due F k t)) from by rw [h223]; rfl) ?_
                      exact join231 _ _ ls hP hD hS (lv_sub hl [0, 1, 2] rfl)
                    · skip
                      refine lv_iconst (v := (nI 1)) hx hb dX2_digest_226 (by decide) ?_
                      refine lv_goto (tgt := 231) hx hb dX2_digest_227 (by decide) ?_
                      refine nq_top (show (nI 1) = (bI (due F k t)) from by rw [h223]; rfl) ?_
                      exact join231 _ _ ls hP hD hS (lv_sub hl [0, 1, 2] rfl)
              have hl : lv_has ls 11 [(5, .int (nI 0)), (0, .ref (b 0)), (2, .long (jaS F n t lim (jhS F n t lim) 0)), (6, .int (nI 4)), (7, .int (nI i))] := lv_rep hl 2 rfl (congrArg Value.long (show (jhS F n t lim) = (jaS F n t lim (jhS F n t lim) 0) from rfl))
              refine W_cs (cells2 := 2 + 0) (slots2 := 9 + 8 * 0) (by omega) (by omega) ?_
              exact loop192 ((n - 0) + 1) 0 _ _ ls (by omega) (Nat.lt_succ_self _) hP hD hS (lv_sub hl [1, 2, 0] rfl)
            · skip
              refine lv_aload hx hb dX2_digest_166 (lv_at hl 2 rfl) ?_
              refine lv_iload hx hb dX2_digest_168 (lv_at hl 4 rfl) ?_
              refine va_iald hx hb hK hP 8 0 rfl rfl (by exact vp_in_nI (by omega) (by omega)) dX2_digest_170 ?_
              refine nq_top (show (arrL [(nI (apS F n n)), (nI (mxA F lim t n 12)), (nI (unfS (passF F lim t n 12) n)), (nI (mxA F 99 t n 12))] (((nI i)).toNatClampNeg)) = (arrL [(nI (apS F n n)), (nI (mxA F lim t n 12)), (nI (unfS (passF F lim t n 12) n)), (nI (mxA F 99 t n 12))] i) from by rw [nI_clamp (by omega)]) ?_
              refine lv_istore (lv' := [(8, .int (arrL [(nI (apS F n n)), (nI (mxA F lim t n 12)), (nI (unfS (passF F lim t n 12) n)), (nI (mxA F 99 t n 12))] i)), (0, .ref (b 0)), (2, .long (jF (arrL [nI (apS F n n), nI (mxA F lim t n 12), nI (unfS (passF F lim t n 12) n), nI (mxA F 99 t n 12)]) (jn (jn (jn (jn (jn (jn 2297 (lN t)) (lN n)) (lN lim)) (lN (acS F lim t n))) (lN (unfS F n))) (lN (lcmS F n))) i)), (5, .ref q107), (6, .int (nI 4)), (7, .int (nI i))]) hx hb dX2_digest_171 hl (by decide) rfl (fun ls hl => ?_)
              refine lv_lload_n hx hb dX2_digest_173 rfl (lv_at hl 2 rfl) ?_
              refine lv_ldc2 (v := 31) hx hb hown (hts (.constantLong RX2 151 (31)) (List.mem_of_getElem? (i := 7) (by rfl))) dX2_digest_174 ?_
              refine lv_lmul hx hb dX2_digest_177 ?_
              refine lv_iload hx hb dX2_digest_178 (lv_at hl 0 rfl) ?_
              refine lv_i2l (v := (arrL [(nI (apS F n n)), (nI (mxA F lim t n 12)), (nI (unfS (passF F lim t n 12) n)), (nI (mxA F 99 t n 12))] i).toInt64) hx hb dX2_digest_180 (rfl) ?_
              refine lv_ladd hx hb dX2_digest_181 ?_
              refine lv_lstore_n (lv' := [(2, .long (((jF (arrL [nI (apS F n n), nI (mxA F lim t n 12), nI (unfS (passF F lim t n 12) n), nI (mxA F 99 t n 12)]) (jn (jn (jn (jn (jn (jn 2297 (lN t)) (lN n)) (lN lim)) (lN (acS F lim t n))) (lN (unfS F n))) (lN (lcmS F n))) i) * 31) + ((arrL [(nI (apS F n n)), (nI (mxA F lim t n 12)), (nI (unfS (passF F lim t n 12) n)), (nI (mxA F 99 t n 12))] i).toInt64))), (8, .int (arrL [(nI (apS F n n)), (nI (mxA F lim t n 12)), (nI (unfS (passF F lim t n 12) n)), (nI (mxA F 99 t n 12))] i)), (0, .ref (b 0)), (5, .ref q107), (6, .int (nI 4)), (7, .int (nI i))]) hx hb dX2_digest_182 rfl hl (by decide) rfl (fun ls hl => ?_)
              refine nq_inc (lv' := [(7, .int (nI (i + 1))), (2, .long (((jF (arrL [nI (apS F n n), nI (mxA F lim t n 12), nI (unfS (passF F lim t n 12) n), nI (mxA F 99 t n 12)]) (jn (jn (jn (jn (jn (jn 2297 (lN t)) (lN n)) (lN lim)) (lN (acS F lim t n))) (lN (unfS F n))) (lN (lcmS F n))) i) * 31) + ((arrL [(nI (apS F n n)), (nI (mxA F lim t n 12)), (nI (unfS (passF F lim t n 12) n)), (nI (mxA F 99 t n 12))] i).toInt64))), (8, .int (arrL [(nI (apS F n n)), (nI (mxA F lim t n 12)), (nI (unfS (passF F lim t n 12) n)), (nI (mxA F 99 t n 12))] i)), (0, .ref (b 0)), (5, .ref q107), (6, .int (nI 4))]) hx hb dX2_digest_183 (d := 1) rfl hl (k := 5) rfl (by decide) rfl (fun ls hl => ?_)
              refine lv_goto (tgt := 159) hx hb dX2_digest_186 (by decide) ?_
              have hl : lv_has ls 11 [(7, .int (nI (i + 1))), (2, .long (jF (arrL [nI (apS F n n), nI (mxA F lim t n 12), nI (unfS (passF F lim t n 12) n), nI (mxA F 99 t n 12)]) (jn (jn (jn (jn (jn (jn 2297 (lN t)) (lN n)) (lN lim)) (lN (acS F lim t n))) (lN (unfS F n))) (lN (lcmS F n))) (i + 1))), (8, .int (arrL [(nI (apS F n n)), (nI (mxA F lim t n 12)), (nI (unfS (passF F lim t n 12) n)), (nI (mxA F 99 t n 12))] i)), (0, .ref (b 0)), (5, .ref q107), (6, .int (nI 4))] := lv_rep hl 1 rfl (congrArg Value.long (show (((jF (arrL [nI (apS F n n), nI (mxA F lim t n 12), nI (unfS (passF F lim t n 12) n), nI (mxA F 99 t n 12)]) (jn (jn (jn (jn (jn (jn 2297 (lN t)) (lN n)) (lN lim)) (lN (acS F lim t n))) (lN (unfS F n))) (lN (lcmS F n))) i) * 31) + ((arrL [(nI (apS F n n)), (nI (mxA F lim t n 12)), (nI (unfS (passF F lim t n 12) n)), (nI (mxA F 99 t n 12))] i).toInt64)) = (jF (arrL [nI (apS F n n), nI (mxA F lim t n 12), nI (unfS (passF F lim t n 12) n), nI (mxA F 99 t n 12)]) (jn (jn (jn (jn (jn (jn 2297 (lN t)) (lN n)) (lN lim)) (lN (acS F lim t n))) (lN (unfS F n))) (lN (lcmS F n))) (i + 1)) from (jF_s _ _ _).symm))
              exact ih159 (i + 1) _ _ ls (by omega) (by omega) hP hD hS (lv_sub hl [3, 1, 4, 5, 0] rfl)
        have hl : lv_has ls 11 [(7, .int (nI 0)), (6, .int (nI 4)), (5, .ref q107), (4, .ref q107), (2, .long (jF (arrL [nI (apS F n n), nI (mxA F lim t n 12), nI (unfS (passF F lim t n 12) n), nI (mxA F 99 t n 12)]) (jn (jn (jn (jn (jn (jn 2297 (lN t)) (lN n)) (lN lim)) (lN (acS F lim t n))) (lN (unfS F n))) (lN (lcmS F n))) 0)), (0, .ref (b 0))] := lv_rep hl 4 rfl (congrArg Value.long (show (jn (jn (jn (jn (jn (jn 2297 (lN t)) (lN n)) (lN lim)) (lN (acS F lim t n))) (lN (unfS F n))) (lN (lcmS F n))) = (jF (arrL [nI (apS F n n), nI (mxA F lim t n 12), nI (unfS (passF F lim t n 12) n), nI (mxA F 99 t n 12)]) (jn (jn (jn (jn (jn (jn 2297 (lN t)) (lN n)) (lN lim)) (lN (acS F lim t n))) (lN (unfS F n))) (lN (lcmS F n))) 0) from rfl))
        rw [show wM E b (nI 0) n lim F (NW t F) (va_cpy (NW t F) (va_cpy (NW t F) (va_cpy (NW t F) kp 0 0 17) 0 0 17) 0 0 17) ++ [(q107, .inl (E.2.1, 4, .inl (arrL [(nI (apS F n n)), (nI (mxA F lim t n 12)), (nI (unfS (passF F lim t n 12) n)), (nI (mxA F 99 t n 12))])))] = wM E b (nI 0) n lim F (NW t F) (va_cpy (NW t F) (va_cpy (NW t F) (va_cpy (NW t F) kp 0 0 17) 0 0 17) 0 0 17) ++ [(q107, .inl (E.2.1, 4, .inl (arrL [nI (apS F n n), nI (mxA F lim t n 12), nI (unfS (passF F lim t n 12) n), nI (mxA F 99 t n 12)])))] from rfl] at hP hD
        exact loop159 ((4 - 0) + 1) 0 _ _ ls (by omega) (Nat.lt_succ_self _) hP hD hS (lv_sub hl [5, 4, 2, 1, 0] rfl)
      · skip
        refine lv_aload hx hb dX2_digest_72 (lv_at hl 2 rfl) ?_
        refine lv_iload hx hb dX2_digest_74 (lv_at hl 4 rfl) ?_
        refine va_iald hx hb hK hP 8 0 rfl rfl (by exact vp_in_nI (by omega) (by omega)) dX2_digest_76 ?_
        refine nq_top (show (arrL [(nI t), (nI n), (nI lim), (nI (acS F lim t n)), (nI (unfS F n))] (((nI i)).toNatClampNeg)) = (arrL [(nI t), (nI n), (nI lim), (nI (acS F lim t n)), (nI (unfS F n))] i) from by rw [nI_clamp (by omega)]) ?_
        refine lv_istore (lv' := [(7, .int (arrL [(nI t), (nI n), (nI lim), (nI (acS F lim t n)), (nI (unfS F n))] i)), (0, .ref (b 0)), (2, .long (jF (arrL [nI t, nI n, nI lim, nI (acS F lim t n), nI (unfS F n)]) 2297 i)), (4, .ref q6), (5, .int (nI 5)), (6, .int (nI i))]) hx hb dX2_digest_77 hl (by decide) rfl (fun ls hl => ?_)
        refine lv_lload_n hx hb dX2_digest_79 rfl (lv_at hl 2 rfl) ?_
        refine lv_ldc2 (v := 31) hx hb hown (hts (.constantLong RX2 151 (31)) (List.mem_of_getElem? (i := 7) (by rfl))) dX2_digest_80 ?_
        refine lv_lmul hx hb dX2_digest_83 ?_
        refine lv_iload hx hb dX2_digest_84 (lv_at hl 0 rfl) ?_
        refine lv_i2l (v := (arrL [(nI t), (nI n), (nI lim), (nI (acS F lim t n)), (nI (unfS F n))] i).toInt64) hx hb dX2_digest_86 (rfl) ?_
        refine lv_ladd hx hb dX2_digest_87 ?_
        refine lv_lstore_n (lv' := [(2, .long (((jF (arrL [nI t, nI n, nI lim, nI (acS F lim t n), nI (unfS F n)]) 2297 i) * 31) + ((arrL [(nI t), (nI n), (nI lim), (nI (acS F lim t n)), (nI (unfS F n))] i).toInt64))), (7, .int (arrL [(nI t), (nI n), (nI lim), (nI (acS F lim t n)), (nI (unfS F n))] i)), (0, .ref (b 0)), (4, .ref q6), (5, .int (nI 5)), (6, .int (nI i))]) hx hb dX2_digest_88 rfl hl (by decide) rfl (fun ls hl => ?_)
        refine nq_inc (lv' := [(6, .int (nI (i + 1))), (2, .long (((jF (arrL [nI t, nI n, nI lim, nI (acS F lim t n), nI (unfS F n)]) 2297 i) * 31) + ((arrL [(nI t), (nI n), (nI lim), (nI (acS F lim t n)), (nI (unfS F n))] i).toInt64))), (7, .int (arrL [(nI t), (nI n), (nI lim), (nI (acS F lim t n)), (nI (unfS F n))] i)), (0, .ref (b 0)), (4, .ref q6), (5, .int (nI 5))]) hx hb dX2_digest_89 (d := 1) rfl hl (k := 5) rfl (by decide) rfl (fun ls hl => ?_)
        refine lv_goto (tgt := 65) hx hb dX2_digest_92 (by decide) ?_
        have hl : lv_has ls 11 [(6, .int (nI (i + 1))), (2, .long (jF (arrL [nI t, nI n, nI lim, nI (acS F lim t n), nI (unfS F n)]) 2297 (i + 1))), (7, .int (arrL [(nI t), (nI n), (nI lim), (nI (acS F lim t n)), (nI (unfS F n))] i)), (0, .ref (b 0)), (4, .ref q6), (5, .int (nI 5))] := lv_rep hl 1 rfl (congrArg Value.long (show (((jF (arrL [nI t, nI n, nI lim, nI (acS F lim t n), nI (unfS F n)]) 2297 i) * 31) + ((arrL [(nI t), (nI n), (nI lim), (nI (acS F lim t n)), (nI (unfS F n))] i).toInt64)) = (jF (arrL [nI t, nI n, nI lim, nI (acS F lim t n), nI (unfS F n)]) 2297 (i + 1)) from (jF_s _ _ _).symm))
        exact ih65 (i + 1) _ _ ls (by omega) (by omega) hP hD hS (lv_sub hl [3, 1, 4, 5, 0] rfl)
  have hl : lv_has ls 11 [(6, .int (nI 0)), (5, .int (nI 5)), (4, .ref q6), (2, .long (jF (arrL [nI t, nI n, nI lim, nI (acS F lim t n), nI (unfS F n)]) 2297 0)), (1, .ref q6), (0, .ref (b 0))] := lv_rep hl 3 rfl (congrArg Value.long (show 2297 = (jF (arrL [nI t, nI n, nI lim, nI (acS F lim t n), nI (unfS F n)]) 2297 0) from rfl))
  rw [show wM E b (nI 0) n lim F (NW t F) kp ++ [(q6, .inl (E.2.1, 5, .inl (arrL [(nI t), (nI n), (nI lim), (nI (acS F lim t n)), (nI (unfS F n))])))] = wM E b (nI 0) n lim F (NW t F) kp ++ [(q6, .inl (E.2.1, 5, .inl (arrL [nI t, nI n, nI lim, nI (acS F lim t n), nI (unfS F n)])))] from rfl] at hP hD
  exact loop65 ((5 - 0) + 1) 0 _ _ ls (by omega) (Nat.lt_succ_self _) hP hD hS (lv_sub hl [5, 3, 2, 1, 0] rfl)

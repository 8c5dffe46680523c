/-! the mean: a whole number by 1 to 8 is no NaN -/
def fgood : FP.Core.Datum → Prop | .nan => False | .inf _ => True | .fin _ c q => c < 9007199254740992 ∧ q ≤ 971
theorem f_t : FP.Core.b64.tails = 4503599627370496 := by decide
theorem f_e : FP.Core.b64.exps = 2048 := by decide
theorem f_m : FP.Core.b64.qmin = -1074 := by decide
theorem f_x : FP.Core.b64.qmax = 971 := by decide
theorem f_p : FP.Core.b64.p = 53 := rfl
theorem f_enc {d : FP.Core.Datum} (h : fgood d) : FP.Core.encode FP.Core.b64 d % 9223372036854775808 ≤ 9218868437227405312 := by
  cases d with
  | nan => exact h.elim
  | inf s =>
    have hs := Bool.toNat_le s
    simp only [FP.Core.encode, FP.Core.assemble, f_t, f_e]
    omega
  | fin s c q =>
    have hs := Bool.toNat_le s
    obtain ⟨h1, h2⟩ := h
    simp only [FP.Core.encode, FP.Core.assemble, f_t, f_e, f_m]
    split <;> omega
theorem f_round (s : Bool) (num den : Nat) (e9 : Int) : fgood (FP.Core.roundRatio FP.Core.b64 s num den e9) := by
  unfold FP.Core.roundRatio
  split
  · exact ⟨by decide, by rw [f_m]; decide⟩
  · unfold FP.Core.roundAt FP.Core.settle
    split
    · rename_i h
      rw [f_p] at h
      unfold FP.Core.bound
      split
      · rename_i h2
        rw [f_x] at h2
        exact ⟨by omega, h2⟩
      · trivial
    · unfold FP.Core.bound
      split
      · rename_i h2
        rw [f_x] at h2
        exact ⟨by rw [f_t]; decide, h2⟩
      · trivial
theorem f_dec {z : Nat} (h : z % 9223372036854775808 ≤ 9218868437227405312) : FP.Core.decode FP.Core.b64 z ≠ .nan := by
  intro hn
  unfold FP.Core.decode FP.Core.fieldE FP.Core.fieldT at hn
  rw [f_t, f_e] at hn
  split at hn
  · split at hn
    · cases hn
    · omega
  · split at hn <;> cases hn
def fchk : FP.Core.Datum → Bool | .fin _ d _ => decide (d ≠ 0) | _ => false
theorem f_quo {u v : FP.Core.Datum} (hu : u ≠ .nan) (hv : fchk v = true) : fgood (FP.Core.quotient FP.Core.b64 u v) := by
  cases v with
  | nan => cases hv
  | inf s => cases hv
  | fin t9 d r =>
    have hd : d ≠ 0 := of_decide_eq_true hv
    cases u with
    | nan => exact absurd rfl hu
    | inf s => trivial
    | fin s c q =>
      show fgood (if d = 0 then (if c = 0 then .nan else .inf (s != t9)) else FP.Core.roundRatio FP.Core.b64 (s != t9) c d (q - r))
      rw [if_neg hd]
      exact f_round _ _ _ _
theorem f_by : ∀ n, n < 9 → 0 < n → fchk (FP.Core.decode FP.Core.b64 (FP.i2d (nI n)).toNat) = true := by decide +kernel
theorem f_n64 {z : Nat} (h : z % 9223372036854775808 ≤ 9218868437227405312) : vf_n64 (UInt64.ofNat z) := by
  unfold vf_n64
  rw [UInt64.le_iff_toNat_le, UInt64.toNat_and]
  have e1 : (0x7fffffffffffffff : UInt64).toNat = 2 ^ 63 - 1 := by decide
  have e2 : (0x7ff0000000000000 : UInt64).toNat = 9218868437227405312 := by decide
  rw [e1, e2, Nat.and_two_pow_sub_one_eq_mod, UInt64.toNat_ofNat']
  omega
theorem dd_ok {x n : Nat} (hn : 0 < n ∧ n ≤ 8) : vf_n64 (FP.ddiv (FP.i2d (nI x)) (FP.i2d (nI n))) := by
  refine f_n64 (f_enc (f_quo (f_dec ?_) (f_by n (by omega) hn.1)))
  have h1 : fgood (FP.Core.round FP.Core.b64 (FP.Core.ofInt (nI x).toInt)) := f_round _ _ _ _
  have h2 := f_enc h1
  show (UInt64.ofNat (FP.Core.fromInt FP.Core.b64 (nI x).toInt)).toNat % _ ≤ _
  rw [UInt64.toNat_ofNat']
  unfold FP.Core.fromInt
  omega
/-- the mean of the beats that the first k lamps shone in -/
def sumS (F : LR) : Nat → Nat | 0 => 0 | k + 1 => sumS F k + F k 5
def mnD (F : LR) (n : Nat) : UInt64 := if n = 0 then FP.dconst0 else FP.ddiv (FP.i2d (nI (sumS F n))) (FP.i2d (nI n))
section RD
variable {p : Program} {l : Launch} {e : Env} {R : Room} {s : State} {m : MethodId} {args : Array Value} {below : List Frame} {meth : Method} {c : Code} {H : Heap} {locs : List Loc} {cells slots : Nat} {cc : ByteArray} {pc : Nat} {ls : Array Slot} {E : GE} {A0 : Nat → Prop} {S : Type} {W1 : S → va_W}
theorem retM_d {post : UInt64 → S → Prop} {v : UInt64} {u : S} (hx : p.tables.exec = Jvm.exec) (hb : c.code = cc) (hr : meth.sig.returnType = some .double) (hlocks : meth.locks = false) (hP : va_P E.1 vwCl (W1 u) H) (hK : va_K E.1 vwCl (tyE E) s) (hD : va_D A0 (W1 u)) (hS : va_S A0 s.heap H locs) (h : post v u) (hdg : decode cc pc = .ok (.dreturn, 1)) : W p l e R s m args below meth c H locs cells slots (MQ below (va_Qd post (fun u t => atM E A0 (W1 u) t) A0) args s cells slots A0) (F0 m pc ls [.double v]) :=
  W.dret hx hb hr (fun t ht hW => ⟨⟨v, u, rfl, h, by rw [ht]; exact hP, va_K.moved hW.alike hK, hD⟩, hS.F ht⟩) hS.2.2 hdg hlocks
end RD

set_option maxHeartbeats 4000000 in
set_option maxRecDepth 100000 in
/-- meanShone() -/
theorem c_X1_meanShone (l : Launch) (E : GE) (sz : Nat) (a : Nat → Nat) (mc : Int32) (n now lim : Nat) (F : LR) (lit : Nat → Bool) (fo : Nat → Nat) (hO : OkS n now lim F) : Met l yX1_meanShone wsX1_meanShone ({ frames := 3, cells := 0, slots := 0, locals := 64 } : Room) (va_Pc [.ref (a 0)] (pcM E (wC E a mc n now lim (LF F lit fo)) sz)) (va_Qd (S := Unit) (fun r _ => r = mnD F n) (fun uQ tQ => atM E (va_A (wC E a mc n now lim (LF F lit fo)) sz) ((fun _ => wC E a mc n now lim (LF F lit fo)) uQ) tQ) (va_A (wC E a mc n now lim (LF F lit fo)) sz)) 0 0 (va_A (wC E a mc n now lim (LF F lit fo)) sz) := by
  refine metM (by decide) rfl (Nat.le_of_ble_eq_true rfl) ?_
  intro p e s m args below meth c ls A hAe hA hx hb hr hml hts hown hlocks hin hP hK hD hS hl
  rw [hAe]
  have hiX1 : ∀ q ∈ wsX10, q ∈ wsX1_meanShone := by decide +kernel
  have hiX0 : ∀ q ∈ wsX00, q ∈ wsX1_meanShone := by decide +kernel
  obtain ⟨QQ, hQ⟩ : ∃ zQ, zQ = MQ below (va_Qd (S := Unit) (fun r _ => r = mnD F n) (fun uQ tQ => atM E A ((fun _ => wC E a mc n now lim (LF F lit fo)) uQ) tQ) A) args s 0 0 A := ⟨_, rfl⟩
  rw [← hQ]
  obtain ⟨hO1, hO2, hO3, hO4, hO5⟩ := id hO
  refine lv_aload_n hx hb dX1_meanShone_0 rfl (lv_at hl 0 rfl) ?_
  refine va_get (D := E.1) (ci := 2) (v := .ref (a 1)) (C := RX1) (T := TX1) (N := 3) hx hb hts hiX1 hown hK hP 0 wC_x rfl 0 (by decide) (hts (.fieldLink RX1 10 "PulseLoom" "row" "Ljava/util/ArrayList;") (List.mem_of_getElem? (i := 1) (by rfl))) (fun _ h9 => h9) rfl dX1_meanShone_1 ?_
  refine csV_i (rest := []) (As := []) ⟨hx, hb, hml, hown, hts⟩ (c_Jx4a65c_size_8abf5 l E _ 1 _ _ _ n wC_row) (cwV 0 hts gX1_meanShone_Jx4a65c_size_8abf5 rfl rfl rfl (by decide +kernel) ⟨Nat.le_of_ble_eq_true rfl, Nat.le_of_ble_eq_true rfl⟩) (va_recv hK hP (ci := 0) (q0 := 1) rfl wC_row) hP hK rfl hl.1 rfl (Nat.le_of_ble_eq_true rfl) dX1_meanShone_4 (Nat.le_of_ble_eq_true rfl) (Nat.le_of_ble_eq_true rfl) (fun r4 hr4 => ?_)
  subst hr4
  refine lv_istore_n (lv' := [(1, .int (nI n)), (0, .ref (a 0))]) hx hb dX1_meanShone_7 rfl hl (by decide) rfl (fun ls hl => ?_)
  refine lv_iload_n hx hb dX1_meanShone_8 rfl (lv_at hl 0 rfl) ?_
  refine lv_iconst (v := (nI 1)) hx hb dX1_meanShone_9 (by decide) ?_
  refine nq_icmp_ge (tgt := 15) hx hb dX1_meanShone_10 (by decide) (by omega) (by omega) (fun h10 => ?_) (fun h10 => ?_)
  · skip
    refine lv_iconst (v := (nI 0)) hx hb dX1_meanShone_15 (by decide) ?_
    refine lv_istore_n (lv' := [(2, .int (nI 0)), (1, .int (nI n)), (0, .ref (a 0))]) hx hb dX1_meanShone_16 rfl hl (by decide) rfl (fun ls hl => ?_)
    refine lv_iconst (v := (nI 0)) hx hb dX1_meanShone_17 (by decide) ?_
    refine lv_istore_n (lv' := [(3, .int (nI 0)), (2, .int (nI 0)), (1, .int (nI n)), (0, .ref (a 0))]) hx hb dX1_meanShone_18 rfl hl (by decide) rfl (fun ls hl => ?_)
    have loop19 : ∀ (tk : Nat) (i : Nat) (H : Heap) (locs : List Loc) (ls : Array Slot), (i ≤ n) → (n - i) < tk → va_P E.1 vwCl (wC E a mc n now lim (LF F lit fo)) H → va_D A (wC E a mc n now lim (LF F lit fo)) → va_S A s.heap H locs → lv_has ls 4 [(0, .ref (a 0)), (1, .int (nI n)), (2, .int (nI (sumS F i))), (3, .int (nI i))] → W p l e ({ frames := 3, cells := 0, slots := 0, locals := 64 } : Room) s m args below meth c H locs 0 0 QQ (F0 m 19 ls []) := by
      intro tk
      induction tk with
      | zero => intro i H locs ls hi hk hP hD hS hl; exact absurd hk (Nat.not_lt_zero _)
      | succ tk ih19 =>
        intro i H locs ls hi hk hP hD hS hl
        refine lv_iload_n hx hb dX1_meanShone_19 rfl (lv_at hl 3 rfl) ?_
        refine lv_aload_n hx hb dX1_meanShone_20 rfl (lv_at hl 0 rfl) ?_
        refine va_get (D := E.1) (ci := 2) (v := .ref (a 1)) (C := RX1) (T := TX1) (N := 3) hx hb hts hiX1 hown hK hP 0 wC_x rfl 0 (by decide) (hts (.fieldLink RX1 10 "PulseLoom" "row" "Ljava/util/ArrayList;") (List.mem_of_getElem? (i := 1) (by rfl))) (fun _ h9 => h9) rfl dX1_meanShone_21 ?_
        refine csV_i (rest := [.int (nI i)]) (As := []) ⟨hx, hb, hml, hown, hts⟩ (c_Jx4a65c_size_8abf5 l E _ 1 _ _ _ n wC_row) (cwV 0 hts gX1_meanShone_Jx4a65c_size_8abf5 rfl rfl rfl (by decide +kernel) ⟨Nat.le_of_ble_eq_true rfl, Nat.le_of_ble_eq_true rfl⟩) (va_recv hK hP (ci := 0) (q0 := 1) rfl wC_row) hP hK rfl hl.1 rfl (Nat.le_of_ble_eq_true rfl) dX1_meanShone_24 (Nat.le_of_ble_eq_true rfl) (Nat.le_of_ble_eq_true rfl) (fun r24 hr24 => ?_)
        subst hr24
        refine nq_icmp_ge (tgt := 53) hx hb dX1_meanShone_27 (by decide) (by omega) (by omega) (fun h27 => ?_) (fun h27 => ?_)
        · skip
          refine lv_iload_n hx hb dX1_meanShone_53 rfl (lv_at hl 2 rfl) ?_
          refine lv_i2d hx hb dX1_meanShone_54 ?_
          refine lv_iload_n hx hb dX1_meanShone_55 rfl (lv_at hl 1 rfl) ?_
          refine lv_i2d hx hb dX1_meanShone_56 ?_
          refine lv_ddiv hx hb dX1_meanShone_57 (dd_ok (by omega)) ?_
          rw [hQ]
          exact retM_d (E := E) (A0 := A) (v := FP.ddiv (FP.i2d (nI (sumS F i))) (FP.i2d (nI n))) (post := fun r _ => r = mnD F n) (u := ()) (W1 := fun _ => wC E a mc n now lim (LF F lit fo)) hx hb hr hlocks hP hK hD hS (by unfold mnD; rw [if_neg (by omega), show i = n by omega]) dX1_meanShone_58
        · skip
          refine lv_iload_n hx hb dX1_meanShone_30 rfl (lv_at hl 2 rfl) ?_
          refine lv_aload_n hx hb dX1_meanShone_31 rfl (lv_at hl 0 rfl) ?_
          refine va_get (D := E.1) (ci := 2) (v := .ref (a 1)) (C := RX1) (T := TX1) (N := 3) hx hb hts hiX1 hown hK hP 0 wC_x rfl 0 (by decide) (hts (.fieldLink RX1 10 "PulseLoom" "row" "Ljava/util/ArrayList;") (List.mem_of_getElem? (i := 1) (by rfl))) (fun _ h9 => h9) rfl dX1_meanShone_32 ?_
          refine lv_iload_n hx hb dX1_meanShone_35 rfl (lv_at hl 3 rfl) ?_
          refine csV_r (rest := [.int (nI (sumS F i))]) (As := [.int (nI i)]) ⟨hx, hb, hml, hown, hts⟩ (c_Jx4a65c_get_915e3 l E _ 1 _ _ _ n wC_row 2 (arF a n) (wC_arr (by omega)) i (a (3 + i)) (by omega) (by omega) (arF_at (by omega))) (cwV 1 hts gX1_meanShone_Jx4a65c_get_915e3 rfl rfl rfl (by decide +kernel) ⟨Nat.le_of_ble_eq_true rfl, Nat.le_of_ble_eq_true rfl⟩) (va_recv hK hP (ci := 0) (q0 := 1) rfl wC_row) hP hK rfl hl.1 rfl (Nat.le_of_ble_eq_true rfl) dX1_meanShone_36 (Nat.le_of_ble_eq_true rfl) (Nat.le_of_ble_eq_true rfl) (fun r36 hr36 => ?_)
          subst hr36
          refine va_castS hx hb hown (hts (.classLink RX1 38 "PulseLoom$Lamp") (List.mem_of_getElem? (i := 2) (by rfl))) (hK.1 1 _ rfl).2 (va_recv hK hP (ci := 1) (q0 := (3 + i)) rfl (wC_lamp (i := i) (by omega))) dX1_meanShone_39 ?_
          refine va_get (D := E.1) (ci := 1) (v := .int (nI (F i 5))) (C := RX0) (T := TX0) (N := 9) hx hb hts hiX0 hown hK hP (3 + i) (wC_lamp (i := i) (by omega)) rfl 5 (by decide) (hts (.fieldLink RX1 87 "PulseLoom$Lamp" "beatsShone" "I") (List.mem_of_getElem? (i := 3) (by rfl))) (fun _ h9 => h9) rfl dX1_meanShone_42 ?_
          refine nq_add hx hb dX1_meanShone_45 ?_
          refine lv_istore_n (lv' := [(2, .int (nI ((sumS F i) + (F i 5)))), (0, .ref (a 0)), (1, .int (nI n)), (3, .int (nI i))]) hx hb dX1_meanShone_46 rfl hl (by decide) rfl (fun ls hl => ?_)
          refine nq_inc (lv' := [(3, .int (nI (i + 1))), (2, .int (nI ((sumS F i) + (F i 5)))), (0, .ref (a 0)), (1, .int (nI n))]) hx hb dX1_meanShone_47 (d := 1) rfl hl (k := 3) rfl (by decide) rfl (fun ls hl => ?_)
          refine lv_goto (tgt := 19) hx hb dX1_meanShone_50 (by decide) ?_
          have hl : lv_has ls 4 [(3, .int (nI (i + 1))), (2, .int (nI (sumS F (i + 1)))), (0, .ref (a 0)), (1, .int (nI n))] := lv_rep hl 1 rfl (congrArg Value.int (show (nI ((sumS F i) + (F i 5))) = (nI (sumS F (i + 1))) from rfl))
          exact ih19 (i + 1) _ _ ls (by omega) (by omega) hP hD hS (lv_sub hl [2, 3, 1, 0] rfl)
    have hl : lv_has ls 4 [(3, .int (nI 0)), (2, .int (nI (sumS F 0))), (1, .int (nI n)), (0, .ref (a 0))] := lv_rep hl 1 rfl (congrArg Value.int (show (nI 0) = (nI (sumS F 0)) from rfl))
    exact loop19 ((n - 0) + 1) 0 _ _ ls (by omega) (Nat.lt_succ_self _) hP hD hS (lv_sub hl [3, 2, 1, 0] rfl)
  · skip
    refine lv_dconst0 hx hb dX1_meanShone_13 ?_
    rw [hQ]
    exact retM_d (E := E) (A0 := A) (v := FP.dconst0) (post := fun r _ => r = mnD F n) (u := ()) (W1 := fun _ => wC E a mc n now lim (LF F lit fo)) hx hb hr hlocks hP hK hD hS (by unfold mnD; rw [if_pos (by omega)]) dX1_meanShone_14

/-! the class's cells as they change: who shines in a beat, a beat gone by -/
section CV1
variable {p : Program} {l : Launch} {e : Env} {R : Room} {s : State} {m : MethodId} {args : Array Value} {below : List Frame} {meth : Method} {c : Code} {H : Heap} {locs : List Loc} {cells slots : Nat} {Q : State → Prop}
variable {cc bytes : ByteArray} {pc maxL nL n index : Nat} {ret : Option FieldType} {ls : Array Slot} {rest st As : List Value} {E : GE} {w : va_W} {y : MethodName} {ws : List Cond} {rm : Room} {Ts : List Cond} {own C : String} {b : Addr}
theorem csS_v {post : Unit → Prop} (S : CallFix p m c cc nL s args Ts own) (hM : Met l y ws rm (va_Pc As (pcS E w)) (va_Sv post) 0 0 (fun _ => False)) (cw : CallB R s args own index y bytes maxL ret ws rm 0 0 n ∧ (Cond.static y).before args s = true) (hP : va_P E.1 vwCl w H) (hK : va_K E.1 vwCl (tyE E) s)
    (hn : As.length = n) (hz : ls.size = nL) (hst : st = As.reverse ++ rest) (hW : (rest.map fun v => v.category).sum ≤ 8) (hdg : decode cc pc = .ok (.invokestatic index, 3)) (hc : cells ≤ R.cells) (hs : slots ≤ R.slots)
    (kk : post () → W p l e R s m args below meth c H locs cells slots Q (F0 m (pc + 3) ls rest)) : W p l e R s m args below meth c H locs cells slots Q (F0 m pc ls st) :=
  va_csv (W.runS (As := As) (rest := rest) S hM cw ⟨fb_S, fun U hU hW => ⟨rfl, by rw [hU]; exact hP, va_K.moved hW.alike hK⟩⟩ rfl hn hz hst (lv_room hW) hdg ⟨hc, hs⟩) kk
theorem retS_v {post : Unit → Prop} (hx : p.tables.exec = Jvm.exec) (hb : c.code = cc) (hr : meth.sig.returnType = none) (hlocks : meth.locks = false) (h : post ()) (hdg : decode cc pc = .ok (.return_, 1)) : W p l e R s m args below meth c s.heap [] 0 0 (MQ below (va_Sv post) args s 0 0 (fun _ => False)) (F0 m pc ls []) :=
  W.vret hx hb hr (fun t ht _ => ⟨rfl, h, ht⟩) (fun _ h => nomatch h) hdg hlocks
end CV1
/-- the power of those that shine in the beat b, of the first k lamps -/
def acS (F : LR) (lim b : Nat) : Nat → Nat | 0 => 0 | k + 1 => if (due F k b && decide (acS F lim b k + F k 1 ≤ lim)) = true then acS F lim b k + F k 1 else acS F lim b k
def litS (F : LR) (lim b k : Nat) : Bool := due F k b && decide (acS F lim b k + F k 1 ≤ lim)
theorem acS_s (F : LR) (lim b k : Nat) : acS F lim b (k + 1) = if litS F lim b k = true then acS F lim b k + F k 1 else acS F lim b k := rfl
theorem acS_le {n now lim : Nat} {F : LR} (h : OkS n now lim F) (lm b : Nat) : ∀ k, k ≤ n → acS F lm b k ≤ 9 * k
  | 0, _ => Nat.le_refl _
  | k + 1, hk => by
    have h1 := acS_le h lm b k (by omega)
    have h2 := h.2.2.2.1 k (by omega)
    rw [acS_s]
    split <;> omega
theorem acS_lim (F : LR) (lm b : Nat) : ∀ k, acS F lm b k ≤ lm
  | 0 => Nat.zero_le _
  | k + 1 => by
    have h1 := acS_lim F lm b k
    rw [acS_s]
    split
    · rename_i h
      simp only [litS, Bool.and_eq_true, decide_eq_true_eq] at h
      exact h.2
    · exact h1
/-- the state behind the beat b, as far as the first k lamps are counted -/
def stepF (F : LR) (lim b k : Nat) : LR := fun j q => if j < k ∧ q = 5 then F j 5 + (litS F lim b j).toNat else if j < k ∧ q = 6 then F j 6 + (due F j b && !litS F lim b j).toNat else F j q
def drkS (F : LR) (lim b : Nat) : Nat → Bool | 0 => false | k + 1 => drkS F lim b k || (due F k b && !litS F lim b k)
theorem stepF_0 (F : LR) (lim b : Nat) : stepF F lim b 0 = F := by
  funext j q
  simp [stepF]
theorem stepF_q {F : LR} {lim b k j q : Nat} (h5 : q ≠ 5) (h6 : q ≠ 6) : stepF F lim b k j q = F j q := by simp [stepF, h5, h6]
theorem stepF_at (F : LR) (lim b k q : Nat) : stepF F lim b k k q = F k q := by simp [stepF]
theorem stepF_lit {F : LR} {lim b k : Nat} (h : litS F lim b k = true) : up2 (stepF F lim b k) k 5 (stepF F lim b k k 5 + 1) = stepF F lim b (k + 1) := by
  funext j q
  have hd : due F k b = true := by
    simp only [litS, Bool.and_eq_true] at h
    exact h.1
  rw [stepF_at]
  unfold up2 stepF
  by_cases hj : j = k
  · subst hj
    by_cases h5 : q = 5
    · subst h5; simp [h]
    · by_cases h6 : q = 6
      · subst h6; simp [h, hd]
      · simp [h5, h6]
  · have e1 : (j < k + 1) ↔ (j < k) := by omega
    simp [hj, e1]
theorem stepF_dark {F : LR} {lim b k : Nat} (h : litS F lim b k = false) (hd : due F k b = true) : up2 (stepF F lim b k) k 6 (stepF F lim b k k 6 + 1) = stepF F lim b (k + 1) := by
  funext j q
  rw [stepF_at]
  unfold up2 stepF
  by_cases hj : j = k
  · subst hj
    by_cases h5 : q = 5
    · subst h5; simp [h]
    · by_cases h6 : q = 6
      · subst h6; simp [h, hd]
      · simp [h5, h6]
  · have e1 : (j < k + 1) ↔ (j < k) := by omega
    simp [hj, e1]
theorem stepF_none {F : LR} {lim b k : Nat} (h : litS F lim b k = false) (hd : due F k b = false) : stepF F lim b k = stepF F lim b (k + 1) := by
  funext j q
  unfold stepF
  by_cases hj : j = k
  · subst hj
    by_cases h5 : q = 5
    · subst h5; simp [h]
    · by_cases h6 : q = 6
      · subst h6; simp [h, hd]
      · simp [h5, h6]
  · have e1 : (j < k + 1) ↔ (j < k) := by omega
    simp [e1]
theorem step_due (F : LR) (lim b k i c : Nat) : due (stepF F lim b k) i c = due F i c := by
  unfold due ph
  rw [stepF_q (by decide) (by decide), stepF_q (by decide) (by decide), stepF_q (by decide) (by decide)]
theorem step_acS (F : LR) (lim b k c : Nat) (lm : Nat) : ∀ i, acS (stepF F lim b k) lm c i = acS F lm c i
  | 0 => rfl
  | i + 1 => by
    have h := step_acS F lim b k c lm i
    unfold acS
    rw [h, step_due, stepF_q (by decide) (by decide)]
theorem step_litS (F : LR) (lim b k c lm i : Nat) : litS (stepF F lim b k) lm c i = litS F lm c i := by
  unfold litS
  rw [step_acS, step_due, stepF_q (by decide) (by decide)]
theorem step_ok {F : LR} {n now lim : Nat} (h : OkS n now lim F) (b : Nat) (hn : now < 100000000) : OkS n (now + 1) lim (stepF F lim b n) := by
  obtain ⟨h1, h2, h3, h4, h5⟩ := h
  refine ⟨h1, by omega, h3, fun i hi => ?_, fun i hi k => ?_⟩
  · have h6 := h4 i hi
    rw [stepF_q (q := 0) (by decide) (by decide), stepF_q (q := 1) (by decide) (by decide), stepF_q (q := 2) (by decide) (by decide), stepF_q (q := 3) (by decide) (by decide), stepF_q (q := 4) (by decide) (by decide)]
    have h7 : stepF F lim b n i 5 + stepF F lim b n i 6 ≤ F i 5 + F i 6 + 1 := by
      unfold stepF
      simp only [hi, true_and, if_true, if_false, show ¬ (6 : Nat) = 5 by decide]
      cases litS F lim b i <;> cases due F i b <;> simp <;> omega
    omega
  · unfold stepF
    rw [if_neg (by omega), if_neg (by omega)]
    exact h5 i hi k
/-- after k beats -/
def passF (F : LR) (lim now n : Nat) : Nat → LR | 0 => F | k + 1 => stepF (passF F lim now n k) lim (now + k) n
def passD (F : LR) (lim now n : Nat) : Nat → Nat | 0 => 0 | k + 1 => passD F lim now n k + (drkS (passF F lim now n k) lim (now + k) n).toNat
theorem passD_le (F : LR) (lim now n : Nat) : ∀ k, passD F lim now n k ≤ k
  | 0 => Nat.le_refl _
  | k + 1 => by
    have h := passD_le F lim now n k
    have h2 : (drkS (passF F lim now n k) lim (now + k) n).toNat ≤ 1 := by cases drkS (passF F lim now n k) lim (now + k) n <;> decide
    show passD F lim now n k + (drkS (passF F lim now n k) lim (now + k) n).toNat ≤ k + 1
    omega
theorem pass_ok {F : LR} {n now lim : Nat} (h : OkS n now lim F) : ∀ k, now + k ≤ 100000000 → OkS n (now + k) lim (passF F lim now n k)
  | 0, _ => h
  | k + 1, hk => step_ok (pass_ok h k (by omega)) (now + k) (by omega)
theorem pass_q {F : LR} {lim now n j q : Nat} (h5 : q ≠ 5) (h6 : q ≠ 6) : ∀ k, passF F lim now n k j q = F j q
  | 0 => rfl
  | k + 1 => by
    show stepF _ _ _ _ _ _ = _
    rw [stepF_q h5 h6, pass_q h5 h6 k]
theorem pass_due (F : LR) (lim now n i c : Nat) : ∀ k, due (passF F lim now n k) i c = due F i c
  | 0 => rfl
  | k + 1 => by
    show due (stepF _ _ _ _) _ _ = _
    rw [step_due, pass_due F lim now n i c k]
theorem pass_acS (F : LR) (lim now n lm i c : Nat) : ∀ k, acS (passF F lim now n k) lm c i = acS F lm c i
  | 0 => rfl
  | k + 1 => by
    show acS (stepF _ _ _ _) _ _ _ = _
    rw [step_acS, pass_acS F lim now n lm i c k]
theorem pass_litS (F : LR) (lim now n lm i c : Nat) : ∀ k, litS (passF F lim now n k) lm c i = litS F lm c i
  | 0 => rfl
  | k + 1 => by
    show litS (stepF _ _ _ _) _ _ _ = _
    rw [step_litS, pass_litS F lim now n lm i c k]

set_option maxHeartbeats 4000000 in
set_option maxRecDepth 100000 in
/-- lightLamps(b) -/
theorem c_X1_lightLamps (l : Launch) (E : GE) (sz : Nat) (a : Nat → Nat) (mc : Int32) (n now lim : Nat) (F : LR) (lit : Nat → Bool) (fo : Nat → Nat) (hO : OkS n now lim F) (b : Nat) (hb0 : b ≤ 1000000000) : Met l yX1_lightLamps wsX1_lightLamps ({ frames := 3, cells := 0, slots := 0, locals := 64 } : Room) (va_Pc [.ref (a 0), .int (nI b)] (pcM E (wC E a mc n now lim (LF F lit fo)) sz)) (va_Qi (S := Nat → Bool) (fun r lt => r = nI (acS F lim b n) ∧ ∀ i, i < n → lt i = litS F lim b i) (fun uQ tQ => atM E (va_A (wC E a mc n now lim (LF F lit fo)) sz) ((fun lt => wC E a mc n now lim (LF F lt fo)) uQ) tQ) (va_A (wC E a mc n now lim (LF F lit fo)) sz)) 0 0 (va_A (wC E a mc n now lim (LF F lit fo)) sz) := by
  refine metM (by decide) rfl (Nat.le_of_ble_eq_true rfl) ?_
  intro p e s m args below meth c ls A hAe hA hx hb hr hml hts hown hlocks hin hP hK hD hS hl
  rw [hAe]
  have hiX1 : ∀ q ∈ wsX10, q ∈ wsX1_lightLamps := by decide +kernel
  have hiX0 : ∀ q ∈ wsX00, q ∈ wsX1_lightLamps := by decide +kernel
  obtain ⟨QQ, hQ⟩ : ∃ zQ, zQ = MQ below (va_Qi (S := Nat → Bool) (fun r lt => r = nI (acS F lim b n) ∧ ∀ i, i < n → lt i = litS F lim b i) (fun uQ tQ => atM E A ((fun lt => wC E a mc n now lim (LF F lt fo)) uQ) tQ) A) args s 0 0 A := ⟨_, rfl⟩
  rw [← hQ]
  obtain ⟨hO1, hO2, hO3, hO4, hO5⟩ := id hO
  refine lv_iconst (v := (nI 0)) hx hb dX1_lightLamps_0 (by decide) ?_
  refine lv_istore_n (lv' := [(2, .int (nI 0)), (0, .ref (a 0)), (1, .int (nI b))]) hx hb dX1_lightLamps_1 rfl hl (by decide) rfl (fun ls hl => ?_)
  refine lv_iconst (v := (nI 0)) hx hb dX1_lightLamps_2 (by decide) ?_
  refine lv_istore_n (lv' := [(3, .int (nI 0)), (2, .int (nI 0)), (0, .ref (a 0)), (1, .int (nI b))]) hx hb dX1_lightLamps_3 rfl hl (by decide) rfl (fun ls hl => ?_)
  have loop4 : ∀ (tk : Nat) (i : Nat) (lt : Nat → Bool) (H : Heap) (locs : List Loc) (ls : Array Slot), (i ≤ n) → (∀ j, j < i → lt j = litS F lim b j) → (n - i) < tk → va_P E.1 vwCl (wC E a mc n now lim (LF F lt fo)) H → va_D A (wC E a mc n now lim (LF F lt fo)) → va_S A s.heap H locs → lv_has ls 5 [(0, .ref (a 0)), (1, .int (nI b)), (2, .int (nI (acS F lim b i))), (3, .int (nI i))] → W p l e ({ frames := 3, cells := 0, slots := 0, locals := 64 } : Room) s m args below meth c H locs 0 0 QQ (F0 m 4 ls []) := by
    intro tk
    induction tk with
    | zero => intro i lt H locs ls hi hlt hk hP hD hS hl; exact absurd hk (Nat.not_lt_zero _)
    | succ tk ih4 =>
      intro i lt H locs ls hi hlt hk hP hD hS hl
      have hac := acS_le hO lim b i hi
      refine lv_iload_n hx hb dX1_lightLamps_4 rfl (lv_at hl 3 rfl) ?_
      refine lv_aload_n hx hb dX1_lightLamps_5 rfl (lv_at hl 0 rfl) ?_
      refine va_get (D := E.1) (ci := 2) (v := .ref (a 1)) (C := RX1) (T := TX1) (N := 3) hx hb hts hiX1 hown hK hP 0 wC_x rfl 0 (by decide) (hts (.fieldLink RX1 10 "PulseLoom" "row" "Ljava/util/ArrayList;") (List.mem_of_getElem? (i := 1) (by rfl))) (fun _ h9 => h9) rfl dX1_lightLamps_6 ?_
      refine csV_i (rest := [.int (nI i)]) (As := []) ⟨hx, hb, hml, hown, hts⟩ (c_Jx4a65c_size_8abf5 l E _ 1 _ _ _ n wC_row) (cwV 0 hts gX1_lightLamps_Jx4a65c_size_8abf5 rfl rfl rfl (by decide +kernel) ⟨Nat.le_of_ble_eq_true rfl, Nat.le_of_ble_eq_true rfl⟩) (va_recv hK hP (ci := 0) (q0 := 1) rfl wC_row) hP hK rfl hl.1 rfl (Nat.le_of_ble_eq_true rfl) dX1_lightLamps_9 (Nat.le_of_ble_eq_true rfl) (Nat.le_of_ble_eq_true rfl) (fun r9 hr9 => ?_)
      subst hr9
      refine nq_icmp_ge (tgt := 83) hx hb dX1_lightLamps_12 (by decide) (by omega) (by omega) (fun h12 => ?_) (fun h12 => ?_)
      · skip
        refine lv_iload_n hx hb dX1_lightLamps_83 rfl (lv_at hl 2 rfl) ?_
        rw [hQ]
        exact retM_i (E := E) (A0 := A) (v := (nI (acS F lim b i))) (post := fun r lt => r = nI (acS F lim b n) ∧ ∀ i, i < n → lt i = litS F lim b i) (u := lt) (W1 := fun lt => wC E a mc n now lim (LF F lt fo)) hx hb hr hlocks hP hK hD hS (⟨congrArg nI (by rw [show i = n by omega]), fun j hj => hlt j (by omega)⟩) dX1_lightLamps_84
      · skip
        have hi9 := hO4 i h12
        refine lv_aload_n hx hb dX1_lightLamps_15 rfl (lv_at hl 0 rfl) ?_
        refine va_get (D := E.1) (ci := 2) (v := .ref (a 1)) (C := RX1) (T := TX1) (N := 3) hx hb hts hiX1 hown hK hP 0 wC_x rfl 0 (by decide) (hts (.fieldLink RX1 10 "PulseLoom" "row" "Ljava/util/ArrayList;") (List.mem_of_getElem? (i := 1) (by rfl))) (fun _ h9 => h9) rfl dX1_lightLamps_16 ?_
        refine lv_iload_n hx hb dX1_lightLamps_19 rfl (lv_at hl 3 rfl) ?_
        refine csV_r (rest := []) (As := [.int (nI i)]) ⟨hx, hb, hml, hown, hts⟩ (c_Jx4a65c_get_915e3 l E _ 1 _ _ _ n wC_row 2 (arF a n) (wC_arr (by omega)) i (a (3 + i)) (by omega) (by omega) (arF_at (by omega))) (cwV 1 hts gX1_lightLamps_Jx4a65c_get_915e3 rfl rfl rfl (by decide +kernel) ⟨Nat.le_of_ble_eq_true rfl, Nat.le_of_ble_eq_true rfl⟩) (va_recv hK hP (ci := 0) (q0 := 1) rfl wC_row) hP hK rfl hl.1 rfl (Nat.le_of_ble_eq_true rfl) dX1_lightLamps_20 (Nat.le_of_ble_eq_true rfl) (Nat.le_of_ble_eq_true rfl) (fun r20 hr20 => ?_)
        subst hr20
        refine va_castS hx hb hown (hts (.classLink RX1 38 "PulseLoom$Lamp") (List.mem_of_getElem? (i := 2) (by rfl))) (hK.1 1 _ rfl).2 (va_recv hK hP (ci := 1) (q0 := (3 + i)) rfl (wC_lamp (i := i) (by omega))) dX1_lightLamps_23 ?_
        refine lv_astore (lv' := [(4, .ref (a (3 + i))), (0, .ref (a 0)), (1, .int (nI b)), (2, .int (nI (acS F lim b i))), (3, .int (nI i))]) hx hb dX1_lightLamps_26 hl (by decide) rfl (fun ls hl => ?_)
        have join61 : ∀ (lt2 : Nat → Bool) (H : Heap) (locs : List Loc) (ls : Array Slot), (∀ j, j < i + 1 → lt2 j = litS F lim b j) → va_P E.1 vwCl (wC E a mc n now lim (LF F lt2 fo)) H → va_D A (wC E a mc n now lim (LF F lt2 fo)) → va_S A s.heap H locs → lv_has ls 5 [(4, .ref (a (3 + i))), (0, .ref (a 0)), (1, .int (nI b)), (2, .int (nI (acS F lim b i))), (3, .int (nI i))] → W p l e ({ frames := 3, cells := 0, slots := 0, locals := 64 } : Room) s m args below meth c H locs 0 0 QQ (F0 m 61 ls []) := by
          intro lt2 H locs ls hlt2 hP hD hS hl
          refine lv_aload hx hb dX1_lightLamps_61 (lv_at hl 0 rfl) ?_
          refine va_get (D := E.1) (ci := 1) (v := .int (bI (lt2 i))) (C := RX0) (T := TX0) (N := 9) hx hb hts hiX0 hown hK hP (3 + i) (wC_lamp (i := i) (by omega)) rfl 7 (by decide) (hts (.fieldLink RX1 83 "PulseLoom$Lamp" "lit" "Z") (List.mem_of_getElem? (i := 5) (by rfl))) (fun _ h9 => h9) rfl dX1_lightLamps_63 ?_
          refine nq_top (show (bI (lt2 i)) = (bI (litS F lim b i)) from congrArg bI (hlt2 i (by omega))) ?_
          refine bq_if_eq (tgt := 77) hx hb dX1_lightLamps_66 (by decide) (fun h66 => ?_) (fun h66 => ?_)
          · skip
            refine nq_inc (lv' := [(3, .int (nI (i + 1))), (4, .ref (a (3 + i))), (0, .ref (a 0)), (1, .int (nI b)), (2, .int (nI (acS F lim b i)))]) hx hb dX1_lightLamps_77 (d := 1) rfl hl (k := 4) rfl (by decide) rfl (fun ls hl => ?_)
            refine lv_goto (tgt := 4) hx hb dX1_lightLamps_80 (by decide) ?_
            have hl : lv_has ls 5 [(3, .int (nI (i + 1))), (4, .ref (a (3 + i))), (0, .ref (a 0)), (1, .int (nI b)), (2, .int (nI (acS F lim b (i + 1))))] := lv_rep hl 4 rfl (congrArg Value.int (show (nI (acS F lim b i)) = (nI (acS F lim b (i + 1))) from congrArg nI (by rw [acS_s, h66]; rfl)))
            exact ih4 (i + 1) lt2 _ _ ls (by omega) (hlt2) (by omega) hP hD hS (lv_sub hl [2, 3, 4, 0] rfl)
          · skip
            refine lv_iload_n hx hb dX1_lightLamps_69 rfl (lv_at hl 3 rfl) ?_
            refine lv_aload hx hb dX1_lightLamps_70 (lv_at hl 0 rfl) ?_
            refine va_get (D := E.1) (ci := 1) (v := .int (nI (F i 1))) (C := RX0) (T := TX0) (N := 9) hx hb hts hiX0 hown hK hP (3 + i) (wC_lamp (i := i) (by omega)) rfl 1 (by decide) (hts (.fieldLink RX1 184 "PulseLoom$Lamp" "power" "I") (List.mem_of_getElem? (i := 3) (by rfl))) (fun _ h9 => h9) rfl dX1_lightLamps_72 ?_
            refine nq_add hx hb dX1_lightLamps_75 ?_
            refine lv_istore_n (lv' := [(2, .int (nI ((acS F lim b i) + (F i 1)))), (4, .ref (a (3 + i))), (0, .ref (a 0)), (1, .int (nI b)), (3, .int (nI i))]) hx hb dX1_lightLamps_76 rfl hl (by decide) rfl (fun ls hl => ?_)
            refine nq_inc (lv' := [(3, .int (nI (i + 1))), (2, .int (nI ((acS F lim b i) + (F i 1)))), (4, .ref (a (3 + i))), (0, .ref (a 0)), (1, .int (nI b))]) hx hb dX1_lightLamps_77 (d := 1) rfl hl (k := 4) rfl (by decide) rfl (fun ls hl => ?_)
            refine lv_goto (tgt := 4) hx hb dX1_lightLamps_80 (by decide) ?_
            have hl : lv_has ls 5 [(3, .int (nI (i + 1))), (2, .int (nI (acS F lim b (i + 1)))), (4, .ref (a (3 + i))), (0, .ref (a 0)), (1, .int (nI b))] := lv_rep hl 1 rfl (congrArg Value.int (show (nI ((acS F lim b i) + (F i 1))) = (nI (acS F lim b (i + 1))) from congrArg nI (by rw [acS_s, h66]; rfl)))
            exact ih4 (i + 1) lt2 _ _ ls (by omega) (hlt2) (by omega) hP hD hS (lv_sub hl [3, 4, 1, 0] rfl)
        refine lv_aload hx hb dX1_lightLamps_28 (lv_at hl 0 rfl) ?_
        refine lv_aload hx hb dX1_lightLamps_30 (lv_at hl 0 rfl) ?_
        refine lv_iload_n hx hb dX1_lightLamps_32 rfl (lv_at hl 2 rfl) ?_
        refine csV_i (rest := [.ref (a (3 + i))]) (As := [.int (nI b)]) ⟨hx, hb, hml, hown, hts⟩ (c_X0_dueAt l E _ (3 + i) (a (3 + i)) F _ _ i b (wC_lamp (i := i) (by omega)) ((okp hO (i := i) (by omega))) (by omega) ((okl hO (i := i) (by omega)))) (cwV 1 hts gX1_lightLamps_X0_dueAt rfl rfl rfl (by decide +kernel) ⟨Nat.le_of_ble_eq_true rfl, Nat.le_of_ble_eq_true rfl⟩) (va_recv hK hP (ci := 1) (q0 := (3 + i)) rfl (wC_lamp (i := i) (by omega))) hP hK rfl hl.1 rfl (Nat.le_of_ble_eq_true rfl) dX1_lightLamps_33 (Nat.le_of_ble_eq_true rfl) (Nat.le_of_ble_eq_true rfl) (fun r33 hr33 => ?_)
        subst hr33
        refine bq_if_eq (tgt := 57) hx hb dX1_lightLamps_36 (by decide) (fun h36 => ?_) (fun h36 => ?_)
        · skip
          refine lv_iconst (v := (nI 0)) hx hb dX1_lightLamps_57 (by decide) ?_
          refine nq_top (show (nI 0) = (bI (litS F lim b i)) from by first | rw [show litS F lim b i = false from by first | (simp [litS, h36]; done) | (simp [litS, h36]; omega)]; rfl | rw [show litS F lim b i = true from by simp [litS, h36]; omega]; rfl) ?_
          refine va_put (D := E.1) (ci := 1) (v := .int (bI (litS F lim b i))) (ty := .boolean) (C := RX0) (T := TX0) (N := 9) hx hb hts hiX0 tyX0 tyX0_ok nmX0 hown hK hP hD hS (3 + i) (wC_lamp (i := i) (by omega)) rfl 7 (by decide) (hts (.fieldLink RX1 83 "PulseLoom$Lamp" "lit" "Z") (List.mem_of_getElem? (i := 5) (by rfl))) (fun _ h9 => h9) rfl (by decide +kernel) (bI_nar _) (bI_fit _) (Nat.le_of_ble_eq_true rfl) dX1_lightLamps_58 (fun H locs hP hD hS => ?_)
          rw [wC_set (by omega), LF_lit] at hP hD
          exact join61 (va_up lt i (litS F lim b i)) _ _ ls (fun j hj => by rcases Nat.lt_or_ge j i with z | z; rw [up_n _ _ (by omega)]; exact hlt j z; rw [show j = i by omega, up_s]) hP hD hS (lv_sub hl [0, 1, 2, 3, 4] rfl)
        · skip
          refine lv_iload_n hx hb dX1_lightLamps_39 rfl (lv_at hl 3 rfl) ?_
          refine lv_aload hx hb dX1_lightLamps_40 (lv_at hl 0 rfl) ?_
          refine va_get (D := E.1) (ci := 1) (v := .int (nI (F i 1))) (C := RX0) (T := TX0) (N := 9) hx hb hts hiX0 hown hK hP (3 + i) (wC_lamp (i := i) (by omega)) rfl 1 (by decide) (hts (.fieldLink RX1 184 "PulseLoom$Lamp" "power" "I") (List.mem_of_getElem? (i := 3) (by rfl))) (fun _ h9 => h9) rfl dX1_lightLamps_42 ?_
          refine nq_add hx hb dX1_lightLamps_45 ?_
          refine lv_aload_n hx hb dX1_lightLamps_46 rfl (lv_at hl 1 rfl) ?_
          refine va_get (D := E.1) (ci := 2) (v := .int (nI lim)) (C := RX1) (T := TX1) (N := 3) hx hb hts hiX1 hown hK hP 0 wC_x rfl 2 (by decide) (hts (.fieldLink RX1 20 "PulseLoom" "mostPower" "I") (List.mem_of_getElem? (i := 4) (by rfl))) (fun _ h9 => h9) rfl dX1_lightLamps_47 ?_
          refine nq_icmp_gt (tgt := 57) hx hb dX1_lightLamps_50 (by decide) (by omega) (by omega) (fun h50 => ?_) (fun h50 => ?_)
          · skip
            refine lv_iconst (v := (nI 0)) hx hb dX1_lightLamps_57 (by decide) ?_
            refine nq_top (show (nI 0) = (bI (litS F lim b i)) from by first | rw [show litS F lim b i = false from by first | (simp [litS, h36]; done) | (simp [litS, h36]; omega)]; rfl | rw [show litS F lim b i = true from by simp [litS, h36]; omega]; rfl) ?_
            refine va_put (D := E.1) (ci := 1) (v := .int (bI (litS F lim b i))) (ty := .boolean) (C := RX0) (T := TX0) (N := 9) hx hb hts hiX0 tyX0 tyX0_ok nmX0 hown hK hP hD hS (3 + i) (wC_lamp (i := i) (by omega)) rfl 7 (by decide) (hts (.fieldLink RX1 83 "PulseLoom$Lamp" "lit" "Z") (List.mem_of_getElem? (i := 5) (by rfl))) (fun _ h9 => h9) rfl (by decide +kernel) (bI_nar _) (bI_fit _) (Nat.le_of_ble_eq_true rfl) dX1_lightLamps_58 (fun H locs hP hD hS => ?_)
            rw [wC_set (by omega), LF_lit] at hP hD
            exact join61 (va_up lt i (litS F lim b i)) _ _ ls (fun j hj => by rcases Nat.lt_or_ge j i with z | z; rw [up_n _ _ (by omega)]; exact hlt j z; rw [show j = i by omega, up_s]) hP hD hS (lv_sub hl [0, 1, 2, 3, 4] rfl)
          · skip
            refine lv_iconst (v := (nI 1)) hx hb dX1_lightLamps_53 (by decide) ?_
            refine lv_goto (tgt := 58) hx hb dX1_lightLamps_54 (by decide) ?_
            refine nq_top (show (nI 1) = (bI (litS F lim b i)) from by first | rw [show litS F lim b i = false from by first | (simp [litS, h36]; done) | (simp [litS, h36]; omega)]; rfl | rw [show litS F lim b i = true from by simp [litS, h36]; omega]; rfl) ?_
            refine va_put (D := E.1) (ci := 1) (v := .int (bI (litS F lim b i))) (ty := .boolean) (C := RX0) (T := TX0) (N := 9) hx hb hts hiX0 tyX0 tyX0_ok nmX0 hown hK hP hD hS (3 + i) (wC_lamp (i := i) (by omega)) rfl 7 (by decide) (hts (.fieldLink RX1 83 "PulseLoom$Lamp" "lit" "Z") (List.mem_of_getElem? (i := 5) (by rfl))) (fun _ h9 => h9) rfl (by decide +kernel) (bI_nar _) (bI_fit _) (Nat.le_of_ble_eq_true rfl) dX1_lightLamps_58 (fun H locs hP hD hS => ?_)
            rw [wC_set (by omega), LF_lit] at hP hD
            exact join61 (va_up lt i (litS F lim b i)) _ _ ls (fun j hj => by rcases Nat.lt_or_ge j i with z | z; rw [up_n _ _ (by omega)]; exact hlt j z; rw [show j = i by omega, up_s]) hP hD hS (lv_sub hl [0, 1, 2, 3, 4] rfl)
  have hl : lv_has ls 5 [(3, .int (nI 0)), (2, .int (nI (acS F lim b 0))), (0, .ref (a 0)), (1, .int (nI b))] := lv_rep hl 1 rfl (congrArg Value.int (show (nI 0) = (nI (acS F lim b 0)) from rfl))
  exact loop4 ((n - 0) + 1) 0 lit _ _ ls (by omega) (fun j hj => absurd hj (by omega)) (Nat.lt_succ_self _) hP hD hS (lv_sub hl [2, 3, 1, 0] rfl)

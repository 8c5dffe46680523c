/-! the law, in pieces: what always holds of its run -/
theorem lg_self (x : Int64) : lg_cmp x x = 0 := (lg_cmp_eq x x).mpr rfl
theorem lN_rem0 {x9 y9 : Nat} (hx9 : x9 < 4611686018427387904) (hy9 : y9 < 4611686018427387904) (h : y9 ∣ x9) : lN x9 - lN x9 / lN y9 * lN y9 = 0 := by
  rw [← lI_n, ← lI_n, lI_rem (by omega) (by omega), Int.dvd_iff_tmod_eq_zero.mp (Int.natCast_dvd_natCast.mpr h)]
  rfl
theorem mx0 {v : Nat} (hv : v ≤ 1000) : (if nI 0 < iI ((v : Int) - 1) then iI ((v : Int) - 1) else nI 0) = nI (v - 1) := by
  rw [show nI 0 = iI 0 from (iI_n 0).symm, imax (by omega) (by omega), ← iI_n]
  congr 1
  omega
/-- what lamps will have been due in, behind t beats, as a row of ints filled up to k -/
def duF (F : LR) (now t k : Nat) : Nat → Int32 := fun j => if j < k then nI (F j 5 + F j 6 + mdS F j now t) else 0
theorem duF_0 (F : LR) (now t : Nat) : (fun _ => 0) = duF F now t 0 := by
  funext j
  unfold duF
  rw [if_neg (Nat.not_lt_zero _)]
theorem duF_s {F : LR} {now t i : Nat} (h : i < 2147483648) : upd (duF F now t i) ((nI i).toNatClampNeg) (nI (F i 5 + F i 6 + mdS F i now t)) = duF F now t (i + 1) := by
  rw [nI_clamp h]
  funext j
  unfold upd duF
  by_cases hj : j = i
  · subst hj; rw [if_pos rfl, if_pos (by omega)]
  · rw [if_neg hj]
    by_cases h2 : j < i
    · rw [if_pos h2, if_pos (by omega)]
    · rw [if_neg h2, if_neg (by omega)]
theorem duF_at {F : LR} {now t i k : Nat} (h : i < k) (h2 : i < 2147483648) : duF F now t k ((nI i).toNatClampNeg) = nI (F i 5 + F i 6 + mdS F i now t) := by
  rw [nI_clamp h2]
  exact if_pos h
def LC (p : Program) (s : State) (m : MethodId) (args : Array Value) (c : Code) (E : GE) (A : Nat → Prop) (z0 bs L : Nat) (xs : Nat → Int32) : Prop :=
  p.tables.exec = Jvm.exec ∧ c.code = cL_law ∧ c.maxLocals = 23 ∧ s.vm.findClass RL = some m.cls ∧ (∀ q ∈ wsL_law, q.before args s = true) ∧ va_K E.1 vwCl (tyE E) s ∧ ZE z0 A s s.heap ∧ (∀ q, s.heap.size ≤ q → A q) ∧ ¬ A bs ∧ va_X bs L xs s s.heap ∧ NL s
/-- a state that lies between two pieces -/
def BU (nb : Nat) (u : STT) : Prop := OkS u.2.2.1 u.2.2.2.1 u.2.2.2.2.1 u.2.2.2.2.2.1 ∧ 2 ≤ u.2.2.1 ∧ u.2.2.2.1 ≤ nb
set_option maxHeartbeats 8000000 in
set_option maxRecDepth 100000 in
theorem law_A {p : Program} {l : Launch} {e : Env} {s : State} {m : MethodId} {args : Array Value} {below : List Frame} {meth : Method} {c : Code} {E : GE} {A : Nat → Prop} {z0 bs L : Nat} {xs : Nat → Int32} {QQ : State → Prop} (CC : LC p s m args c E A z0 bs L xs) (hL : L ≤ 260) (a : Nat → Nat) (mc : Int32) (n now lim : Nat) (F : LR) (lit : Nat → Bool) (fo : Nat → Nat) (b : Nat → Nat) (hO : OkS n now lim F) (h2n : 2 ≤ n) (hnow : now ≤ 80000) (t : Nat) (ht : t < 7) (cc ss : Nat) (hcc : cc + 1200 ≤ 1064556) (hss : ss + 9700 ≤ 5907956) (join82 : ∀ (x : Int32) (u : STT) (H : Heap) (locs : List Loc) (ls : Array Slot), (OkS u.2.2.1 u.2.2.2.1 u.2.2.2.2.1 u.2.2.2.2.2.1 ∧ 2 ≤ u.2.2.1 ∧ u.2.2.2.1 ≤ now + 600 ∧ u.1 0 = a 0 ∧ u.2.2.2.2.2.2.2.2 0 = b 0) → va_P E.1 vwCl (wU E u) H → va_D A (wU E u) → va_S A s.heap H locs → lv_has ls 23 [(4, .int x), (0, .ref bs), (1, .ref (a 0)), (2, .ref (b 0)), (3, .int (nI t))] → W p l e room_1 s m args below meth c H locs (cc + 600) (ss + 4800) QQ (F0 m 82 ls [])) (H : Heap) (locs : List Loc) (ls : Array Slot) (hP : va_P E.1 vwCl (wC E a mc n now lim (LF F lit fo) ++ wS E b n now lim F) H) (hD : va_D A (wC E a mc n now lim (LF F lit fo) ++ wS E b n now lim F)) (hS : va_S A s.heap H locs) (hl : lv_has ls 23 [(0, .ref bs), (1, .ref (a 0)), (2, .ref (b 0)), (3, .int (nI t))]) : W p l e room_1 s m args below meth c H locs cc ss QQ (F0 m 28 ls []) := by
  obtain ⟨hx, hb, hml, hown, hts, hK, hZ, hA, hbs, hX, hN⟩ := CC
  have hiX2 : ∀ q ∈ wsX20, q ∈ wsL_law := inlX2
  refine lv_aload_n hx hb dL_law_28 rfl (lv_at hl 0 rfl) ?_
  refine lv_iload_n hx hb dL_law_29 rfl (lv_at hl 3 rfl) ?_
  refine lv_iconst (v := (nI 1)) hx hb dL_law_30 (by decide) ?_
  refine nq_add hx hb dL_law_31 ?_
  refine csX_i (rest := []) (As := [.ref bs, .int (nI (t + 1))]) ⟨hx, hb, hml, hown, hts⟩ (c_L_cell l bs L xs (t + 1) (by omega) (by omega)) (va_cwS 2 hts gL_law_L_cell rfl rfl rfl (by decide +kernel) ⟨Nat.le_of_ble_eq_true rfl, Nat.le_of_ble_eq_true rfl⟩) hX hbs hX.lt hS rfl hl.1 rfl (Nat.le_of_ble_eq_true rfl) dL_law_32 (by show cc ≤ 1064556; omega) (by show ss ≤ 5907956; omega) (fun r32 _ => ?_)
  refine lv_iconst (v := (nI 2)) hx hb dL_law_35 (by decide) ?_
  refine lv_ishr hx hb dL_law_36 ?_
  refine lv_bipush (v := (nI 53)) hx hb dL_law_37 (by decide) ?_
  refine lv_iload_n hx hb dL_law_39 rfl (lv_at hl 3 rfl) ?_
  refine nq_mul hx hb dL_law_40 ?_
  refine lv_iadd hx hb dL_law_41 ?_
  refine lv_istore (lv' := [(4, .int ((r32 >>> ((nI 2) &&& 31)) + (nI (53 * t)))), (0, .ref bs), (1, .ref (a 0)), (2, .ref (b 0)), (3, .int (nI t))]) hx hb dL_law_42 hl (by decide) rfl (fun ls hl => ?_)
  obtain ⟨x, ex⟩ : ∃ z9, z9 = ((r32 >>> ((nI 2) &&& 31)) + (nI (53 * t))) := ⟨_, rfl⟩
  have hl : lv_has ls 23 [(4, .int x), (0, .ref bs), (1, .ref (a 0)), (2, .ref (b 0)), (3, .int (nI t))] := lv_rep hl 0 rfl (congrArg Value.int (show ((r32 >>> ((nI 2) &&& 31)) + (nI (53 * t))) = x from ex.symm))
  skip
  refine lv_iconst (v := (nI 0)) hx hb dL_law_44 (by decide) ?_
  refine lv_istore (lv' := [(5, .int (nI 0)), (4, .int x), (0, .ref bs), (1, .ref (a 0)), (2, .ref (b 0)), (3, .int (nI t))]) hx hb dL_law_45 hl (by decide) rfl (fun ls hl => ?_)
  have loop47 : ∀ (tk : Nat) (k : Nat) (u : STT) (H : Heap) (locs : List Loc) (ls : Array Slot), (k ≤ 3) → (OkS u.2.2.1 u.2.2.2.1 u.2.2.2.2.1 u.2.2.2.2.2.1 ∧ 2 ≤ u.2.2.1 ∧ u.2.2.2.1 ≤ now + 200 * k ∧ u.1 0 = a 0 ∧ u.2.2.2.2.2.2.2.2 0 = b 0) → (3 - k) < tk → va_P E.1 vwCl (wU E u) H → va_D A (wU E u) → va_S A s.heap H locs → lv_has ls 23 [(5, .int (nI k)), (4, .int x), (0, .ref bs), (1, .ref (a 0)), (2, .ref (b 0)), (3, .int (nI t))] → W p l e room_1 s m args below meth c H locs (cc + 200 * k) (ss + 1600 * k) QQ (F0 m 47 ls []) := by
    intro tk
    induction tk with
    | zero => intro k u H locs ls hk hU hk hP hD hS hl; exact absurd hk (Nat.not_lt_zero _)
    | succ tk ih47 =>
      intro k u H locs ls hk hU hk hP hD hS hl
      obtain ⟨a1, mc1, n1, now1, lim1, F1, lit1, fo1, b1⟩ := u
      obtain ⟨hO1, hlo1, hnw1, ha1, hb1⟩ := hU
      have hO : OkS n1 now1 lim1 F1 := hO1
      have hlo : 2 ≤ n1 := hlo1
      have hnw : now1 ≤ now + 200 * k := hnw1
      have ha1 : a1 0 = a 0 := ha1
      have hb1 : b1 0 = b 0 := hb1
      have hl : lv_has ls 23 [(5, .int (nI k)), (4, .int x), (0, .ref bs), (1, .ref (a1 0)), (2, .ref (b1 0)), (3, .int (nI t))] := by rw [ha1, hb1]; exact hl
      have hP : va_P E.1 vwCl (wC E a1 mc1 n1 now1 lim1 (LF F1 lit1 fo1) ++ wS E b1 n1 now1 lim1 F1) _ := hP
      have hD : va_D A (wC E a1 mc1 n1 now1 lim1 (LF F1 lit1 fo1) ++ wS E b1 n1 now1 lim1 F1) := hD
      skip
      refine lv_iload hx hb dL_law_47 (lv_at hl 0 rfl) ?_
      refine lv_iconst (v := (nI 3)) hx hb dL_law_49 (by decide) ?_
      refine nq_icmp_ge (tgt := 82) hx hb dL_law_50 (by decide) (by omega) (by omega) (fun h50 => ?_) (fun h50 => ?_)
      · skip
        have hl : lv_has ls 23 [(5, .int (nI k)), (4, .int x), (0, .ref bs), (1, .ref (a 0)), (2, .ref (b 0)), (3, .int (nI t))] := by rw [← ha1, ← hb1]; exact hl
        skip
        rw [show wC E a1 mc1 n1 now1 lim1 (LF F1 lit1 fo1) ++ wS E b1 n1 now1 lim1 F1 = wU E ((a1, mc1, n1, now1, lim1, F1, lit1, fo1, b1) : STT) from rfl] at hP hD
        refine W.widen (k := cc + 600) (n := ss + 4800) (by omega) (by omega) ?_
        exact join82 x ((a1, mc1, n1, now1, lim1, F1, lit1, fo1, b1) : STT) _ _ ls (⟨hO, hlo, (by show now1 ≤ now + 600; omega), ha1, hb1⟩) hP hD hS (lv_sub hl [1, 2, 3, 4, 5] rfl)
      · skip
        refine lv_aload_n hx hb dL_law_53 rfl (lv_at hl 3 rfl) ?_
        refine lv_aload_n hx hb dL_law_54 rfl (lv_at hl 4 rfl) ?_
        refine lv_iload hx hb dL_law_55 (lv_at hl 1 rfl) ?_
        refine lv_iconst (v := (nI 3)) hx hb dL_law_57 (by decide) ?_
        refine lv_iload hx hb dL_law_58 (lv_at hl 0 rfl) ?_
        refine nq_mul hx hb dL_law_60 ?_
        refine lv_ishr hx hb dL_law_61 ?_
        refine lv_bipush (v := (nI 29)) hx hb dL_law_62 (by decide) ?_
        refine lv_iload hx hb dL_law_64 (lv_at hl 0 rfl) ?_
        refine nq_mul hx hb dL_law_66 ?_
        refine lv_iadd hx hb dL_law_67 ?_
        obtain ⟨x68, ex68⟩ : ∃ z9, z9 = ((x >>> ((nI (3 * k)) &&& 31)) + (nI (29 * k))) := ⟨_, rfl⟩
        refine nq_top ex68.symm ?_
        refine cmSZ_i (S := STT) (W1 := fun u => wU E u) (rest := []) (As := [.ref (a1 0), .ref (b1 0), .int x68]) ⟨hx, hb, hml, hown, hts⟩ (c_L_act l E _ z0 a1 mc1 n1 now1 lim1 F1 lit1 fo1 b1 hO (fun h9 => absurd h9 (by omega)) (by omega) x68) (va_cwS 3 hts gL_law_L_act rfl rfl rfl (by decide +kernel) ⟨Nat.le_of_ble_eq_true rfl, Nat.le_of_ble_eq_true rfl⟩) hP hK hD hZ hS hA rfl hl.1 rfl (Nat.le_of_ble_eq_true rfl) dL_law_68 ⟨by show (cc + 200 * k) + 200 ≤ 1064556; omega, by show (ss + 1600 * k) + 1600 ≤ 5907956; omega⟩ (fun r68 u68 H locs hr68 hP hD hS => ?_)
        obtain ⟨hr68, hua, hub, huO, hunow, hun, hun1, hun2⟩ := hr68
        subst hr68
        refine bq_if_ne (tgt := 76) hx hb dL_law_71 (by decide) (fun h71 => ?_) (fun h71 => ?_)
        · skip
          have hl : lv_has ls 23 [(5, .int (nI k)), (4, .int x), (0, .ref bs), (1, .ref (a 0)), (2, .ref (b 0)), (3, .int (nI t))] := by rw [← ha1, ← hb1]; exact hl
          skip
          refine nq_inc (lv' := [(5, .int (nI (k + 1))), (4, .int x), (0, .ref bs), (1, .ref (a 0)), (2, .ref (b 0)), (3, .int (nI t))]) hx hb dL_law_76 (d := 1) rfl hl (k := 0) rfl (by decide) rfl (fun ls hl => ?_)
          refine lv_goto (tgt := 47) hx hb dL_law_79 (by decide) ?_
          refine W.widen (k := cc + 200 * (k + 1)) (n := ss + 1600 * (k + 1)) (by omega) (by omega) ?_
          exact ih47 (k + 1) u68 _ _ ls (by omega) (⟨huO, (by omega), (by omega), hua.trans ha1, hub.trans hb1⟩) (by omega) hP hD hS (lv_sub hl [0, 1, 2, 3, 4, 5] rfl)
        · skip
          exact absurd h71 (by decide)
  rw [show wC E a mc n now lim (LF F lit fo) ++ wS E b n now lim F = wU E ((a, mc, n, now, lim, F, lit, fo, b) : STT) from rfl] at hP hD
  refine W.widen (k := cc + 200 * 0) (n := ss + 1600 * 0) (by omega) (by omega) ?_
  exact loop47 ((3 - 0) + 1) 0 ((a, mc, n, now, lim, F, lit, fo, b) : STT) _ _ ls (by omega) (⟨hO, h2n, (by show now ≤ now + 200 * 0; omega), rfl, rfl⟩) (Nat.lt_succ_self _) hP hD hS (lv_sub hl [0, 1, 2, 3, 4, 5] rfl)

set_option maxHeartbeats 8000000 in
set_option maxRecDepth 100000 in
theorem law_B {p : Program} {l : Launch} {e : Env} {s : State} {m : MethodId} {args : Array Value} {below : List Frame} {meth : Method} {c : Code} {E : GE} {A : Nat → Prop} {z0 bs L : Nat} {xs : Nat → Int32} {QQ : State → Prop} (CC : LC p s m args c E A z0 bs L xs) (hL : L ≤ 260) (a : Nat → Nat) (mc : Int32) (n now lim : Nat) (F : LR) (lit : Nat → Bool) (fo : Nat → Nat) (b : Nat → Nat) (hO : OkS n now lim F) (h2n : 2 ≤ n) (hnow : now ≤ 80000) (t : Nat) (ht : t < 7) (x : Int32) (cc ss : Nat) (hcc : cc + 1200 ≤ 1064556) (hss : ss + 9700 ≤ 5907956) (join496 : ∀ (lt : Nat → Bool) (f9 : Nat → Nat) (H : Heap) (locs : List Loc) (ls : Array Slot), va_P E.1 vwCl (wC E a mc n now lim (LF F lt f9) ++ wS E b n now lim F) H → va_D A (wC E a mc n now lim (LF F lt f9) ++ wS E b n now lim F) → va_S A s.heap H locs → lv_has ls 23 [(10, .int (nI (apS F n n))), (9, .int (nI (sumS F n))), (8, .int (nI (acS F lim now n))), (7, .int (nI n)), (5, .long (digS F n now lim)), (4, .int x), (3, .int (nI t)), (2, .ref (b 0)), (1, .ref (a 0)), (0, .ref bs)] → W p l e room_1 s m args below meth c H locs (cc) (ss) QQ (F0 m 496 ls [])) (H : Heap) (locs : List Loc) (ls : Array Slot) (hP : va_P E.1 vwCl (wC E a mc n now lim (LF F lit fo) ++ wS E b n now lim F) H) (hD : va_D A (wC E a mc n now lim (LF F lit fo) ++ wS E b n now lim F)) (hS : va_S A s.heap H locs) (hl : lv_has ls 23 [(4, .int x), (0, .ref bs), (1, .ref (a 0)), (2, .ref (b 0)), (3, .int (nI t))]) : W p l e room_1 s m args below meth c H locs cc ss QQ (F0 m 82 ls []) := by
  obtain ⟨hx, hb, hml, hown, hts, hK, hZ, hA, hbs, hX, hN⟩ := CC
  have hiX2 : ∀ q ∈ wsX20, q ∈ wsL_law := inlX2
  obtain ⟨hO1, hO2, hO3, hO4, hO5⟩ := id hO
  refine lv_aload_n hx hb dL_law_82 rfl (lv_at hl 2 rfl) ?_
  have hP0 := hP
  have hP : va_P E.1 vwCl ([] ++ (wC E a mc n now lim (LF F lit fo) ++ wS E b n now lim F)) H := hP
  have hD : va_D A ([] ++ (wC E a mc n now lim (LF F lit fo) ++ wS E b n now lim F)) := hD
  refine cmX_l (wx := []) (wy := wS E b n now lim F) (rest := []) (As := []) ⟨hx, hb, hml, hown, hts⟩ (c_X1_digest l E _ a mc n now lim F lit fo hO  (by omega)) (cwV 0 hts gL_law_X1_digest rfl rfl rfl (by decide +kernel) ⟨Nat.le_of_ble_eq_true rfl, Nat.le_of_ble_eq_true rfl⟩) (va_recv hK hP0 (ci := 2) (q0 := 0) rfl (list_app wC_x)) hP hK hD hS hA rfl hl.1 rfl (Nat.le_of_ble_eq_true rfl) dL_law_83 ⟨by show cc + 0 ≤ 1064556; omega, by show ss + 0 ≤ 5907956; omega⟩ (fun r83 u83 H locs hr83 hP hD hS => ?_)
  subst hr83
  have hP : va_P E.1 vwCl (wC E a mc n now lim (LF F u83.1 u83.2) ++ wS E b n now lim F) H := hP
  have hD : va_D A (wC E a mc n now lim (LF F u83.1 u83.2) ++ wS E b n now lim F) := hD
  obtain ⟨f9, ef9⟩ : ∃ z9, z9 = u83.2 := ⟨_, rfl⟩
  rw [← ef9] at hP hD
  have hP : va_P E.1 vwCl (wC E a mc n now lim (LF F u83.1 f9) ++ wS E b n now lim F) _ := hP
  have hD : va_D A (wC E a mc n now lim (LF F u83.1 f9) ++ wS E b n now lim F) := hD
  skip
  refine lv_lstore (lv' := [(5, .long (digS F n now lim)), (4, .int x), (0, .ref bs), (1, .ref (a 0)), (2, .ref (b 0)), (3, .int (nI t))]) hx hb dL_law_86 hl (by decide) rfl (fun ls hl => ?_)
  refine lv_aload_n hx hb dL_law_88 rfl (lv_at hl 3 rfl) ?_
  refine csV_i (rest := []) (As := []) ⟨hx, hb, hml, hown, hts⟩ (c_X1_lamps l E _ a n now lim F u83.1 f9 CV_app hO) (cwV 0 hts gL_law_X1_lamps rfl rfl rfl (by decide +kernel) ⟨Nat.le_of_ble_eq_true rfl, Nat.le_of_ble_eq_true rfl⟩) (va_recv hK hP (ci := 2) (q0 := 0) rfl (list_app wC_x)) hP hK rfl hl.1 rfl (Nat.le_of_ble_eq_true rfl) dL_law_89 (by show cc ≤ 1064556; omega) (by show ss ≤ 5907956; omega) (fun r89 hr89 => ?_)
  subst hr89
  refine lv_istore (lv' := [(7, .int (nI n)), (5, .long (digS F n now lim)), (4, .int x), (0, .ref bs), (1, .ref (a 0)), (2, .ref (b 0)), (3, .int (nI t))]) hx hb dL_law_92 hl (by decide) rfl (fun ls hl => ?_)
  refine lv_iconst (v := (nI 0)) hx hb dL_law_94 (by decide) ?_
  refine lv_istore (lv' := [(8, .int (nI 0)), (7, .int (nI n)), (5, .long (digS F n now lim)), (4, .int x), (0, .ref bs), (1, .ref (a 0)), (2, .ref (b 0)), (3, .int (nI t))]) hx hb dL_law_95 hl (by decide) rfl (fun ls hl => ?_)
  refine lv_iconst (v := (nI 0)) hx hb dL_law_97 (by decide) ?_
  refine lv_istore (lv' := [(9, .int (nI 0)), (8, .int (nI 0)), (7, .int (nI n)), (5, .long (digS F n now lim)), (4, .int x), (0, .ref bs), (1, .ref (a 0)), (2, .ref (b 0)), (3, .int (nI t))]) hx hb dL_law_98 hl (by decide) rfl (fun ls hl => ?_)
  refine lv_iconst (v := (nI 0)) hx hb dL_law_100 (by decide) ?_
  refine lv_istore (lv' := [(10, .int (nI 0)), (9, .int (nI 0)), (8, .int (nI 0)), (7, .int (nI n)), (5, .long (digS F n now lim)), (4, .int x), (0, .ref bs), (1, .ref (a 0)), (2, .ref (b 0)), (3, .int (nI t))]) hx hb dL_law_101 hl (by decide) rfl (fun ls hl => ?_)
  refine lv_iconst (v := (nI 0)) hx hb dL_law_103 (by decide) ?_
  refine lv_istore (lv' := [(11, .int (nI 0)), (10, .int (nI 0)), (9, .int (nI 0)), (8, .int (nI 0)), (7, .int (nI n)), (5, .long (digS F n now lim)), (4, .int x), (0, .ref bs), (1, .ref (a 0)), (2, .ref (b 0)), (3, .int (nI t))]) hx hb dL_law_104 hl (by decide) rfl (fun ls hl => ?_)
  have loop106 : ∀ (tk : Nat) (i : Nat) (lt : Nat → Bool) (H : Heap) (locs : List Loc) (ls : Array Slot), (i ≤ n) → (n - i) < tk → va_P E.1 vwCl (wC E a mc n now lim (LF F lt f9) ++ wS E b n now lim F) H → va_D A (wC E a mc n now lim (LF F lt f9) ++ wS E b n now lim F) → va_S A s.heap H locs → lv_has ls 23 [(11, .int (nI i)), (10, .int (nI (apS F n i))), (9, .int (nI (sumS F i))), (8, .int (nI (acS F lim now i))), (7, .int (nI n)), (5, .long (digS F n now lim)), (4, .int x), (3, .int (nI t)), (2, .ref (b 0)), (1, .ref (a 0)), (0, .ref bs)] → W p l e room_1 s m args below meth c H locs cc ss QQ (F0 m 106 ls []) := by
    intro tk
    induction tk with
    | zero => intro i lt H locs ls hi hk hP hD hS hl; exact absurd hk (Nat.not_lt_zero _)
    | succ tk ih106 =>
      intro i lt H locs ls hi hk hP hD hS hl
      have hac := acS_le hO lim now i hi
      have hsu := sumS_bd hO (by omega) i hi
      have hsu9 : i * 100000 ≤ 8 * 100000 := Nat.mul_le_mul_right _ (by omega)
      have hap := apS_le F n i
      have hap9 : i * n ≤ 8 * 8 := Nat.mul_le_mul (by omega) (by omega)
      refine lv_iload hx hb dL_law_106 (lv_at hl 0 rfl) ?_
      refine lv_iload hx hb dL_law_108 (lv_at hl 4 rfl) ?_
      refine nq_icmp_ge (tgt := 496) hx hb dL_law_110 (by decide) (by omega) (by omega) (fun h110 => ?_) (fun h110 => ?_)
      · skip
        have ein : i = n := by omega
        have hl : lv_has ls 23 [(11, .int (nI i)), (10, .int (nI (apS F n n))), (9, .int (nI (sumS F i))), (8, .int (nI (acS F lim now i))), (7, .int (nI n)), (5, .long (digS F n now lim)), (4, .int x), (3, .int (nI t)), (2, .ref (b 0)), (1, .ref (a 0)), (0, .ref bs)] := lv_rep hl 1 rfl (congrArg Value.int (show (nI (apS F n i)) = (nI (apS F n n)) from by rw [ein]))
        have hl : lv_has ls 23 [(11, .int (nI i)), (10, .int (nI (apS F n n))), (9, .int (nI (sumS F n))), (8, .int (nI (acS F lim now i))), (7, .int (nI n)), (5, .long (digS F n now lim)), (4, .int x), (3, .int (nI t)), (2, .ref (b 0)), (1, .ref (a 0)), (0, .ref bs)] := lv_rep hl 2 rfl (congrArg Value.int (show (nI (sumS F i)) = (nI (sumS F n)) from by rw [ein]))
        have hl : lv_has ls 23 [(11, .int (nI i)), (10, .int (nI (apS F n n))), (9, .int (nI (sumS F n))), (8, .int (nI (acS F lim now n))), (7, .int (nI n)), (5, .long (digS F n now lim)), (4, .int x), (3, .int (nI t)), (2, .ref (b 0)), (1, .ref (a 0)), (0, .ref bs)] := lv_rep hl 3 rfl (congrArg Value.int (show (nI (acS F lim now i)) = (nI (acS F lim now n)) from by rw [ein]))
        refine W.widen (k := cc) (n := ss) (by omega) (by omega) ?_
        exact join496 lt f9 _ _ ls hP hD hS (lv_sub hl [1, 2, 3, 4, 5, 6, 7, 8, 9, 10] rfl)
      · skip
        have hi9 := hO4 i (by omega)
        have hpl := ph_lt (F := F) (i := i) (b := now) (by omega)
        refine lv_aload_n hx hb dL_law_113 rfl (lv_at hl 8 rfl) ?_
        refine va_get (D := E.1) (ci := 3) (v := .ref (b 1)) (C := RX2) (T := TX2) (N := 3) hx hb hts hiX2 hown hK hP _ SV_end.1 rfl 0 (by decide) (hts (.fieldLink RL 9 "PulseLoomLaw$Sim" "lamps" "[[I") (List.mem_of_getElem? (i := 3) (by rfl))) (fun _ h9 => h9) rfl dL_law_114 ?_
        refine lv_iload hx hb dL_law_117 (lv_at hl 0 rfl) ?_
        refine nz_aald hx hb hK hP _ SV_end.2.1 (by exact vp_in_nI (by omega) (by omega)) dL_law_119 ?_
        refine nq_topv (show va_rf ((arS b n) ((nI i)).toNatClampNeg) = .ref (b (2 + i)) from by rw [nI_clamp (by omega)]; exact congrArg va_rf (arS_at (by omega))) ?_
        refine lv_astore (lv' := [(12, .ref (b (2 + i))), (11, .int (nI i)), (10, .int (nI (apS F n i))), (9, .int (nI (sumS F i))), (8, .int (nI (acS F lim now i))), (7, .int (nI n)), (5, .long (digS F n now lim)), (4, .int x), (3, .int (nI t)), (2, .ref (b 0)), (1, .ref (a 0)), (0, .ref bs)]) hx hb dL_law_120 hl (by decide) rfl (fun ls hl => ?_)
        refine lv_aload_n hx hb dL_law_122 rfl (lv_at hl 10 rfl) ?_
        refine lv_iload hx hb dL_law_123 (lv_at hl 1 rfl) ?_
        refine csV_i (rest := []) (As := [.int (nI i)]) ⟨hx, hb, hml, hown, hts⟩ (c_X1_phaseOf l E _ a n now lim F lt f9 CV_app hO i (by omega)) (cwV 1 hts gL_law_X1_phaseOf rfl rfl rfl (by decide +kernel) ⟨Nat.le_of_ble_eq_true rfl, Nat.le_of_ble_eq_true rfl⟩) (va_recv hK hP (ci := 2) (q0 := 0) rfl (list_app wC_x)) hP hK rfl hl.1 rfl (Nat.le_of_ble_eq_true rfl) dL_law_125 (by show cc ≤ 1064556; omega) (by show ss ≤ 5907956; omega) (fun r125 hr125 => ?_)
        subst hr125
        refine nq_if_lt (tgt := 236) hx hb dL_law_128 (by decide) (by omega) ?_
        refine lv_aload_n hx hb dL_law_131 rfl (lv_at hl 10 rfl) ?_
        refine lv_iload hx hb dL_law_132 (lv_at hl 1 rfl) ?_
        refine csV_i (rest := []) (As := [.int (nI i)]) ⟨hx, hb, hml, hown, hts⟩ (c_X1_phaseOf l E _ a n now lim F lt f9 CV_app hO i (by omega)) (cwV 1 hts gL_law_X1_phaseOf rfl rfl rfl (by decide +kernel) ⟨Nat.le_of_ble_eq_true rfl, Nat.le_of_ble_eq_true rfl⟩) (va_recv hK hP (ci := 2) (q0 := 0) rfl (list_app wC_x)) hP hK rfl hl.1 rfl (Nat.le_of_ble_eq_true rfl) dL_law_134 (by show cc ≤ 1064556; omega) (by show ss ≤ 5907956; omega) (fun r134 hr134 => ?_)
        subst hr134
        refine lv_aload hx hb dL_law_137 (lv_at hl 0 rfl) ?_
        refine lv_iconst (v := (nI 1)) hx hb dL_law_139 (by decide) ?_
        refine va_iald hx hb hK hP ((wC E a mc n now lim (LF F lt f9)).length + (2 + i)) 0 (SV_end.2.2 i (by omega)) rfl (by exact vp_in_nI (by omega) (by omega)) dL_law_140 ?_
        refine nq_top (show (rwF F i (((nI 1)).toNatClampNeg)) = (nI (F i 0)) from by rw [nI_clamp (by omega)]; rfl) ?_
        refine nq_icmp_ge (tgt := 236) hx hb dL_law_141 (by decide) (by omega) (by omega) (fun h141 => ?_) (fun h141 => ?_)
        · skip
          exact absurd h141 (by omega)
        · skip
          have join171 : ∀  (H : Heap) (locs : List Loc) (ls : Array Slot), va_P E.1 vwCl (wC E a mc n now lim (LF F lt f9) ++ wS E b n now lim F) H → va_D A (wC E a mc n now lim (LF F lt f9) ++ wS E b n now lim F) → va_S A s.heap H locs → lv_has ls 23 [(12, .ref (b (2 + i))), (11, .int (nI i)), (10, .int (nI (apS F n i))), (9, .int (nI (sumS F i))), (8, .int (nI (acS F lim now i))), (7, .int (nI n)), (5, .long (digS F n now lim)), (4, .int x), (3, .int (nI t)), (2, .ref (b 0)), (1, .ref (a 0)), (0, .ref bs)] → W p l e room_1 s m args below meth c H locs cc ss QQ (F0 m 171 ls []) := by
            intro H locs ls hP hD hS hl
            refine lv_aload_n hx hb dL_law_171 rfl (lv_at hl 10 rfl) ?_
            refine lv_iload hx hb dL_law_172 (lv_at hl 1 rfl) ?_
            have hP0 := hP
            have hP : va_P E.1 vwCl ([] ++ (wC E a mc n now lim (LF F lt f9) ++ wS E b n now lim F)) H := hP
            have hD : va_D A ([] ++ (wC E a mc n now lim (LF F lt f9) ++ wS E b n now lim F)) := hD
            refine cmX_i (wx := []) (wy := wS E b n now lim F) (rest := []) (As := [.int (nI i)]) ⟨hx, hb, hml, hown, hts⟩ (c_X1_shines l E _ a mc n now lim F lt f9 hO i (by omega)) (cwV 1 hts gL_law_X1_shines rfl rfl rfl (by decide +kernel) ⟨Nat.le_of_ble_eq_true rfl, Nat.le_of_ble_eq_true rfl⟩) (va_recv hK hP0 (ci := 2) (q0 := 0) rfl (list_app wC_x)) hP hK hD hS hA rfl hl.1 rfl (Nat.le_of_ble_eq_true rfl) dL_law_174 ⟨by show cc + 0 ≤ 1064556; omega, by show ss + 0 ≤ 5907956; omega⟩ (fun r174 u174 H locs hr174 hP hD hS => ?_)
            subst hr174
            have hP : va_P E.1 vwCl (wC E a mc n now lim (LF F u174 f9) ++ wS E b n now lim F) H := hP
            have hD : va_D A (wC E a mc n now lim (LF F u174 f9) ++ wS E b n now lim F) := hD
            have join189 : ∀  (H : Heap) (locs : List Loc) (ls : Array Slot), va_P E.1 vwCl (wC E a mc n now lim (LF F u174 f9) ++ wS E b n now lim F) H → va_D A (wC E a mc n now lim (LF F u174 f9) ++ wS E b n now lim F) → va_S A s.heap H locs → lv_has ls 23 [(12, .ref (b (2 + i))), (11, .int (nI i)), (10, .int (nI (apS F n i))), (9, .int (nI (sumS F i))), (8, .int (nI (acS F lim now i))), (7, .int (nI n)), (5, .long (digS F n now lim)), (4, .int x), (3, .int (nI t)), (2, .ref (b 0)), (1, .ref (a 0)), (0, .ref bs)] → W p l e room_1 s m args below meth c H locs cc ss QQ (F0 m 189 ls []) := by
              intro H locs ls hP hD hS hl
              have join221 : ∀ (lt : Nat → Bool) (H : Heap) (locs : List Loc) (ls : Array Slot), va_P E.1 vwCl (wC E a mc n now lim (LF F lt f9) ++ wS E b n now lim F) H → va_D A (wC E a mc n now lim (LF F lt f9) ++ wS E b n now lim F) → va_S A s.heap H locs → lv_has ls 23 [(12, .ref (b (2 + i))), (11, .int (nI i)), (10, .int (nI (apS F n i))), (9, .int (nI (sumS F i))), (8, .int (nI (acS F lim now i))), (7, .int (nI n)), (5, .long (digS F n now lim)), (4, .int x), (3, .int (nI t)), (2, .ref (b 0)), (1, .ref (a 0)), (0, .ref bs)] → W p l e room_1 s m args below meth c H locs cc ss QQ (F0 m 221 ls []) := by
                intro lt H locs ls hP hD hS hl
                have hlc := lcmS_bd (F := F) (n := n) (k := n) (fun i9 hi9 => by have h9 := hO4 i9 hi9; omega) (Nat.le_refl _)
                refine lv_aload_n hx hb dL_law_221 rfl (lv_at hl 10 rfl) ?_
                refine csV_l (rest := []) (As := []) ⟨hx, hb, hml, hown, hts⟩ (c_X1_together l E _ a n now lim F lt f9 CV_app hO) (cwV 0 hts gL_law_X1_together rfl rfl rfl (by decide +kernel) ⟨Nat.le_of_ble_eq_true rfl, Nat.le_of_ble_eq_true rfl⟩) (va_recv hK hP (ci := 2) (q0 := 0) rfl (list_app wC_x)) hP hK rfl hl.1 rfl (Nat.le_of_ble_eq_true rfl) dL_law_222 (by show cc ≤ 1064556; omega) (by show ss ≤ 5907956; omega) (fun r222 hr222 => ?_)
                subst hr222
                refine lv_aload hx hb dL_law_225 (lv_at hl 0 rfl) ?_
                refine lv_iconst (v := (nI 1)) hx hb dL_law_227 (by decide) ?_
                refine va_iald hx hb hK hP ((wC E a mc n now lim (LF F lt f9)).length + (2 + i)) 0 (SV_end.2.2 i (by omega)) rfl (by exact vp_in_nI (by omega) (by omega)) dL_law_228 ?_
                refine nq_top (show (rwF F i (((nI 1)).toNatClampNeg)) = (nI (F i 0)) from by rw [nI_clamp (by omega)]; rfl) ?_
                refine lv_i2l (v := lN (F i 0)) hx hb dL_law_229 (nI_l (by omega)) ?_
                refine lv_lrem hx hb dL_law_230 (fun q => absurd ((lI_eq0 (by omega)).mp ((lI_n _).trans q)) (by omega)) ?_
                refine nq_topl (show (lN (lcmS F n)) - (lN (lcmS F n)) / (lN (F i 0)) * (lN (F i 0)) = 0 from lN_rem0 (by omega) (by omega) (lcm_per F n i (by omega))) ?_
                refine lv_lconst (v := 0) hx hb dL_law_231 (by decide) ?_
                refine W.lcmp hx hb dL_law_232 ?_
                refine lv_if_eq (tgt := 238) hx hb dL_law_233 (by decide) (fun h233 => ?_) (fun h233 => ?_)
                · skip
                  have join260 : ∀ (lt : Nat → Bool) (H : Heap) (locs : List Loc) (ls : Array Slot), va_P E.1 vwCl (wC E a mc n now lim (LF F lt f9) ++ wS E b n now lim F) H → va_D A (wC E a mc n now lim (LF F lt f9) ++ wS E b n now lim F) → va_S A s.heap H locs → lv_has ls 23 [(12, .ref (b (2 + i))), (11, .int (nI i)), (10, .int (nI (apS F n i))), (9, .int (nI (sumS F i))), (8, .int (nI (acS F lim now (i + 1)))), (7, .int (nI n)), (5, .long (digS F n now lim)), (4, .int x), (3, .int (nI t)), (2, .ref (b 0)), (1, .ref (a 0)), (0, .ref bs)] → W p l e room_1 s m args below meth c H locs cc ss QQ (F0 m 260 ls []) := by
                    intro lt H locs ls hP hD hS hl
                    refine lv_iload hx hb dL_law_260 (lv_at hl 3 rfl) ?_
                    refine lv_aload_n hx hb dL_law_262 rfl (lv_at hl 10 rfl) ?_
                    refine lv_iload hx hb dL_law_263 (lv_at hl 1 rfl) ?_
                    refine csV_i (rest := [.int (nI (sumS F i))]) (As := [.int (nI i)]) ⟨hx, hb, hml, hown, hts⟩ (c_X1_shone l E _ a n now lim F lt f9 CV_app hO i (by omega)) (cwV 1 hts gL_law_X1_shone rfl rfl rfl (by decide +kernel) ⟨Nat.le_of_ble_eq_true rfl, Nat.le_of_ble_eq_true rfl⟩) (va_recv hK hP (ci := 2) (q0 := 0) rfl (list_app wC_x)) hP hK rfl hl.1 rfl (Nat.le_of_ble_eq_true rfl) dL_law_265 (by show cc ≤ 1064556; omega) (by show ss ≤ 5907956; omega) (fun r265 hr265 => ?_)
                    subst hr265
                    refine nq_add hx hb dL_law_268 ?_
                    refine lv_istore (lv' := [(9, .int (nI ((sumS F i) + (F i 5)))), (12, .ref (b (2 + i))), (11, .int (nI i)), (10, .int (nI (apS F n i))), (8, .int (nI (acS F lim now (i + 1)))), (7, .int (nI n)), (5, .long (digS F n now lim)), (4, .int x), (3, .int (nI t)), (2, .ref (b 0)), (1, .ref (a 0)), (0, .ref bs)]) hx hb dL_law_269 hl (by decide) rfl (fun ls hl => ?_)
                    refine lv_iconst (v := (nI 0)) hx hb dL_law_271 (by decide) ?_
                    refine lv_istore (lv' := [(13, .int (nI 0)), (9, .int (nI ((sumS F i) + (F i 5)))), (12, .ref (b (2 + i))), (11, .int (nI i)), (10, .int (nI (apS F n i))), (8, .int (nI (acS F lim now (i + 1)))), (7, .int (nI n)), (5, .long (digS F n now lim)), (4, .int x), (3, .int (nI t)), (2, .ref (b 0)), (1, .ref (a 0)), (0, .ref bs)]) hx hb dL_law_272 hl (by decide) rfl (fun ls hl => ?_)
                    refine lv_iconst (v := (nI 0)) hx hb dL_law_274 (by decide) ?_
                    refine lv_istore (lv' := [(14, .int (nI 0)), (13, .int (nI 0)), (9, .int (nI ((sumS F i) + (F i 5)))), (12, .ref (b (2 + i))), (11, .int (nI i)), (10, .int (nI (apS F n i))), (8, .int (nI (acS F lim now (i + 1)))), (7, .int (nI n)), (5, .long (digS F n now lim)), (4, .int x), (3, .int (nI t)), (2, .ref (b 0)), (1, .ref (a 0)), (0, .ref bs)]) hx hb dL_law_275 hl (by decide) rfl (fun ls hl => ?_)
                    have loop277 : ∀ (tk : Nat) (j : Nat) (H : Heap) (locs : List Loc) (ls : Array Slot), (j ≤ n) → (n - j) < tk → va_P E.1 vwCl (wC E a mc n now lim (LF F lt f9) ++ wS E b n now lim F) H → va_D A (wC E a mc n now lim (LF F lt f9) ++ wS E b n now lim F) → va_S A s.heap H locs → lv_has ls 23 [(14, .int (nI j)), (13, .int (nI (mtS F i (F i 3 : Int) j))), (12, .ref (b (2 + i))), (11, .int (nI i)), (10, .int (nI (apS F n i + apI F i j))), (9, .int (nI (sumS F (i + 1)))), (8, .int (nI (acS F lim now (i + 1)))), (7, .int (nI n)), (5, .long (digS F n now lim)), (4, .int x), (3, .int (nI t)), (2, .ref (b 0)), (1, .ref (a 0)), (0, .ref bs)] → W p l e room_1 s m args below meth c H locs cc ss QQ (F0 m 277 ls []) := by
                      intro tk
                      induction tk with
                      | zero => intro j H locs ls hj hk hP hD hS hl; exact absurd hk (Nat.not_lt_zero _)
                      | succ tk ih277 =>
                        intro j H locs ls hj hk hP hD hS hl
                        have hmt := mtS_le F i (F i 3 : Int) j
                        have hai := apI_le F i j
                        refine lv_iload hx hb dL_law_277 (lv_at hl 0 rfl) ?_
                        refine lv_iload hx hb dL_law_279 (lv_at hl 7 rfl) ?_
                        refine nq_icmp_ge (tgt := 455) hx hb dL_law_281 (by decide) (by omega) (by omega) (fun h281 => ?_) (fun h281 => ?_)
                        · skip
                          have ejn : j = n := by omega
                          have hmt9 := mtS_le F i (F i 3 : Int) n
                          have hbe9 := bestS_le F n i (F i 0 - 1)
                          have hl : lv_has ls 23 [(14, .int (nI j)), (13, .int (nI (mtS F i (F i 3 : Int) n))), (12, .ref (b (2 + i))), (11, .int (nI i)), (10, .int (nI (apS F n i + apI F i j))), (9, .int (nI (sumS F (i + 1)))), (8, .int (nI (acS F lim now (i + 1)))), (7, .int (nI n)), (5, .long (digS F n now lim)), (4, .int x), (3, .int (nI t)), (2, .ref (b 0)), (1, .ref (a 0)), (0, .ref bs)] := lv_rep hl 1 rfl (congrArg Value.int (show (nI (mtS F i (F i 3 : Int) j)) = (nI (mtS F i (F i 3 : Int) n)) from congrArg nI (by rw [ejn])))
                          have hl : lv_has ls 23 [(14, .int (nI j)), (13, .int (nI (mtS F i (F i 3 : Int) n))), (12, .ref (b (2 + i))), (11, .int (nI i)), (10, .int (nI (apS F n (i + 1)))), (9, .int (nI (sumS F (i + 1)))), (8, .int (nI (acS F lim now (i + 1)))), (7, .int (nI n)), (5, .long (digS F n now lim)), (4, .int x), (3, .int (nI t)), (2, .ref (b 0)), (1, .ref (a 0)), (0, .ref bs)] := lv_rep hl 4 rfl (congrArg Value.int (show (nI (apS F n i + apI F i j)) = (nI (apS F n (i + 1))) from congrArg nI (by rw [ejn]; rfl)))
                          skip
                          refine lv_aload_n hx hb dL_law_455 rfl (lv_at hl 12 rfl) ?_
                          refine lv_iload hx hb dL_law_456 (lv_at hl 3 rfl) ?_
                          refine csV_i (rest := []) (As := [.int (nI i)]) ⟨hx, hb, hml, hown, hts⟩ (c_X1_meets l E _ a n now lim F lt f9 CV_app hO (wC_inj (va_Dl hD)) i (by omega)) (cwV 1 hts gL_law_X1_meets rfl rfl rfl (by decide +kernel) ⟨Nat.le_of_ble_eq_true rfl, Nat.le_of_ble_eq_true rfl⟩) (va_recv hK hP (ci := 2) (q0 := 0) rfl (list_app wC_x)) hP hK rfl hl.1 rfl (Nat.le_of_ble_eq_true rfl) dL_law_458 (by show cc ≤ 1064556; omega) (by show ss ≤ 5907956; omega) (fun r458 hr458 => ?_)
                          subst hr458
                          refine lv_iload hx hb dL_law_461 (lv_at hl 1 rfl) ?_
                          refine nq_icmp_ne (tgt := 488) hx hb dL_law_463 (by decide) (by omega) (by omega) (fun h463 => ?_) (fun h463 => ?_)
                          · skip
                            exact absurd rfl h463
                          · skip
                            refine lv_aload_n hx hb dL_law_466 rfl (lv_at hl 12 rfl) ?_
                            refine lv_iload hx hb dL_law_467 (lv_at hl 3 rfl) ?_
                            refine csV_i (rest := []) (As := [.int (nI i)]) ⟨hx, hb, hml, hown, hts⟩ (c_X1_bestShift l E _ a n now lim F lt f9 CV_app hO (wC_inj (va_Dl hD)) i (by omega)) (cwV 1 hts gL_law_X1_bestShift rfl rfl rfl (by decide +kernel) ⟨Nat.le_of_ble_eq_true rfl, Nat.le_of_ble_eq_true rfl⟩) (va_recv hK hP (ci := 2) (q0 := 0) rfl (list_app wC_x)) hP hK rfl hl.1 rfl (Nat.le_of_ble_eq_true rfl) dL_law_469 (by show cc ≤ 1064556; omega) (by show ss ≤ 5907956; omega) (fun r469 hr469 => ?_)
                            subst hr469
                            refine nq_if_lt (tgt := 488) hx hb dL_law_472 (by decide) (by omega) ?_
                            refine lv_aload_n hx hb dL_law_475 rfl (lv_at hl 12 rfl) ?_
                            refine lv_iload hx hb dL_law_476 (lv_at hl 3 rfl) ?_
                            refine csV_i (rest := []) (As := [.int (nI i)]) ⟨hx, hb, hml, hown, hts⟩ (c_X1_bestShift l E _ a n now lim F lt f9 CV_app hO (wC_inj (va_Dl hD)) i (by omega)) (cwV 1 hts gL_law_X1_bestShift rfl rfl rfl (by decide +kernel) ⟨Nat.le_of_ble_eq_true rfl, Nat.le_of_ble_eq_true rfl⟩) (va_recv hK hP (ci := 2) (q0 := 0) rfl (list_app wC_x)) hP hK rfl hl.1 rfl (Nat.le_of_ble_eq_true rfl) dL_law_478 (by show cc ≤ 1064556; omega) (by show ss ≤ 5907956; omega) (fun r478 hr478 => ?_)
                            subst hr478
                            refine lv_aload hx hb dL_law_481 (lv_at hl 2 rfl) ?_
                            refine lv_iconst (v := (nI 1)) hx hb dL_law_483 (by decide) ?_
                            refine va_iald hx hb hK hP ((wC E a mc n now lim (LF F lt f9)).length + (2 + i)) 0 (SV_end.2.2 i (by omega)) rfl (by exact vp_in_nI (by omega) (by omega)) dL_law_484 ?_
                            refine nq_top (show (rwF F i (((nI 1)).toNatClampNeg)) = (nI (F i 0)) from by rw [nI_clamp (by omega)]; rfl) ?_
                            refine nq_icmp_lt (tgt := 490) hx hb dL_law_485 (by decide) (by have h9 := bestS_le F n i (F i 0 - 1); omega) (by omega) (fun h485 => ?_) (fun h485 => ?_)
                            · skip
                              refine nq_inc (lv' := [(11, .int (nI (i + 1))), (14, .int (nI j)), (13, .int (nI (mtS F i (F i 3 : Int) n))), (12, .ref (b (2 + i))), (10, .int (nI (apS F n (i + 1)))), (9, .int (nI (sumS F (i + 1)))), (8, .int (nI (acS F lim now (i + 1)))), (7, .int (nI n)), (5, .long (digS F n now lim)), (4, .int x), (3, .int (nI t)), (2, .ref (b 0)), (1, .ref (a 0)), (0, .ref bs)]) hx hb dL_law_490 (d := 1) rfl hl (k := 3) rfl (by decide) rfl (fun ls hl => ?_)
                              refine lv_goto (tgt := 106) hx hb dL_law_493 (by decide) ?_
                              exact ih106 (i + 1) lt _ _ ls (by omega) (by omega) hP hD hS (lv_sub hl [0, 4, 5, 6, 7, 8, 9, 10, 11, 12, 13] rfl)
                            · skip
                              exact absurd h485 (by have h9 := bestS_le F n i (F i 0 - 1); omega)
                        · skip
                          have hj9 := hO4 j (by omega)
                          have hub1 := until_bd (F := F) (now := now) (i := i) (j := j) (by omega) (by omega)
                          have hub2 := until_bd (F := F) (now := now) (i := j) (j := i) (by omega) (by omega)
                          refine lv_aload_n hx hb dL_law_284 rfl (lv_at hl 12 rfl) ?_
                          refine lv_iload hx hb dL_law_285 (lv_at hl 3 rfl) ?_
                          refine lv_iload hx hb dL_law_287 (lv_at hl 0 rfl) ?_
                          refine csV_i (rest := []) (As := [.int (nI i), .int (nI j)]) ⟨hx, hb, hml, hown, hts⟩ (c_X1_beatsUntilMeet l E _ a n now lim F lt f9 CV_app hO i j (by omega) (by omega)) (cwV 2 hts gL_law_X1_beatsUntilMeet rfl rfl rfl (by decide +kernel) ⟨Nat.le_of_ble_eq_true rfl, Nat.le_of_ble_eq_true rfl⟩) (va_recv hK hP (ci := 2) (q0 := 0) rfl (list_app wC_x)) hP hK rfl hl.1 rfl (Nat.le_of_ble_eq_true rfl) dL_law_289 (by show cc ≤ 1064556; omega) (by show ss ≤ 5907956; omega) (fun r289 hr289 => ?_)
                          subst hr289
                          refine lv_istore (lv' := [(15, .int (iI (untilS F now i j))), (14, .int (nI j)), (13, .int (nI (mtS F i (F i 3 : Int) j))), (12, .ref (b (2 + i))), (11, .int (nI i)), (10, .int (nI (apS F n i + apI F i j))), (9, .int (nI (sumS F (i + 1)))), (8, .int (nI (acS F lim now (i + 1)))), (7, .int (nI n)), (5, .long (digS F n now lim)), (4, .int x), (3, .int (nI t)), (2, .ref (b 0)), (1, .ref (a 0)), (0, .ref bs)]) hx hb dL_law_292 hl (by decide) rfl (fun ls hl => ?_)
                          have join322 : ∀  (H : Heap) (locs : List Loc) (ls : Array Slot), va_P E.1 vwCl (wC E a mc n now lim (LF F lt f9) ++ wS E b n now lim F) H → va_D A (wC E a mc n now lim (LF F lt f9) ++ wS E b n now lim F) → va_S A s.heap H locs → lv_has ls 23 [(15, .int (iI (untilS F now i j))), (14, .int (nI j)), (13, .int (nI (mtS F i (F i 3 : Int) (j + 1)))), (12, .ref (b (2 + i))), (11, .int (nI i)), (10, .int (nI (apS F n i + apI F i j))), (9, .int (nI (sumS F (i + 1)))), (8, .int (nI (acS F lim now (i + 1)))), (7, .int (nI n)), (5, .long (digS F n now lim)), (4, .int x), (3, .int (nI t)), (2, .ref (b 0)), (1, .ref (a 0)), (0, .ref bs)] → W p l e room_1 s m args below meth c H locs cc ss QQ (F0 m 322 ls []) := by
                            intro H locs ls hP hD hS hl
                            have join350 : ∀  (H : Heap) (locs : List Loc) (ls : Array Slot), va_P E.1 vwCl (wC E a mc n now lim (LF F lt f9) ++ wS E b n now lim F) H → va_D A (wC E a mc n now lim (LF F lt f9) ++ wS E b n now lim F) → va_S A s.heap H locs → lv_has ls 23 [(15, .int (iI (untilS F now i j))), (14, .int (nI j)), (13, .int (nI (mtS F i (F i 3 : Int) (j + 1)))), (12, .ref (b (2 + i))), (11, .int (nI i)), (10, .int (nI (apS F n i + apI F i (j + 1)))), (9, .int (nI (sumS F (i + 1)))), (8, .int (nI (acS F lim now (i + 1)))), (7, .int (nI n)), (5, .long (digS F n now lim)), (4, .int x), (3, .int (nI t)), (2, .ref (b 0)), (1, .ref (a 0)), (0, .ref bs)] → W p l e room_1 s m args below meth c H locs cc ss QQ (F0 m 350 ls []) := by
                              intro H locs ls hP hD hS hl
                              refine lv_aload_n hx hb dL_law_350 rfl (lv_at hl 13 rfl) ?_
                              refine lv_iload hx hb dL_law_351 (lv_at hl 4 rfl) ?_
                              refine lv_iload hx hb dL_law_353 (lv_at hl 1 rfl) ?_
                              refine csV_i (rest := []) (As := [.int (nI i), .int (nI j)]) ⟨hx, hb, hml, hown, hts⟩ (c_X1_meet l E _ a n now lim F lt f9 CV_app hO i j (by omega) (by omega)) (cwV 2 hts gL_law_X1_meet rfl rfl rfl (by decide +kernel) ⟨Nat.le_of_ble_eq_true rfl, Nat.le_of_ble_eq_true rfl⟩) (va_recv hK hP (ci := 2) (q0 := 0) rfl (list_app wC_x)) hP hK rfl hl.1 rfl (Nat.le_of_ble_eq_true rfl) dL_law_355 (by show cc ≤ 1064556; omega) (by show ss ≤ 5907956; omega) (fun r355 hr355 => ?_)
                              subst hr355
                              refine lv_aload_n hx hb dL_law_358 rfl (lv_at hl 13 rfl) ?_
                              refine lv_iload hx hb dL_law_359 (lv_at hl 1 rfl) ?_
                              refine lv_iload hx hb dL_law_361 (lv_at hl 4 rfl) ?_
                              refine csV_i (rest := [.int (bI (meetS F i (F i 3 : Int) j))]) (As := [.int (nI j), .int (nI i)]) ⟨hx, hb, hml, hown, hts⟩ (c_X1_meet l E _ a n now lim F lt f9 CV_app hO j i (by omega) (by omega)) (cwV 2 hts gL_law_X1_meet rfl rfl rfl (by decide +kernel) ⟨Nat.le_of_ble_eq_true rfl, Nat.le_of_ble_eq_true rfl⟩) (va_recv hK hP (ci := 2) (q0 := 0) rfl (list_app wC_x)) hP hK rfl hl.1 rfl (Nat.le_of_ble_eq_true rfl) dL_law_363 (by show cc ≤ 1064556; omega) (by show ss ≤ 5907956; omega) (fun r363 hr363 => ?_)
                              subst hr363
                              refine lv_icmp_ne (tgt := 447) hx hb dL_law_366 (by decide) (fun h366 => ?_) (fun h366 => ?_)
                              · skip
                                exact absurd (congrArg bI (meetS_symm F i j)) h366
                              · skip
                                have join390 : ∀  (H : Heap) (locs : List Loc) (ls : Array Slot), va_P E.1 vwCl (wC E a mc n now lim (LF F lt f9) ++ wS E b n now lim F) H → va_D A (wC E a mc n now lim (LF F lt f9) ++ wS E b n now lim F) → va_S A s.heap H locs → lv_has ls 23 [(15, .int (iI (untilS F now i j))), (14, .int (nI j)), (13, .int (nI (mtS F i (F i 3 : Int) (j + 1)))), (12, .ref (b (2 + i))), (11, .int (nI i)), (10, .int (nI (apS F n i + apI F i (j + 1)))), (9, .int (nI (sumS F (i + 1)))), (8, .int (nI (acS F lim now (i + 1)))), (7, .int (nI n)), (5, .long (digS F n now lim)), (4, .int x), (3, .int (nI t)), (2, .ref (b 0)), (1, .ref (a 0)), (0, .ref bs)] → W p l e room_1 s m args below meth c H locs cc ss QQ (F0 m 390 ls []) := by
                                  intro H locs ls hP hD hS hl
                                  refine lv_iload hx hb dL_law_390 (lv_at hl 0 rfl) ?_
                                  refine lv_aload_n hx hb dL_law_392 rfl (lv_at hl 13 rfl) ?_
                                  refine lv_iload hx hb dL_law_393 (lv_at hl 1 rfl) ?_
                                  refine lv_iload hx hb dL_law_395 (lv_at hl 4 rfl) ?_
                                  refine csV_i (rest := [.int (iI (untilS F now i j))]) (As := [.int (nI j), .int (nI i)]) ⟨hx, hb, hml, hown, hts⟩ (c_X1_beatsUntilMeet l E _ a n now lim F lt f9 CV_app hO j i (by omega) (by omega)) (cwV 2 hts gL_law_X1_beatsUntilMeet rfl rfl rfl (by decide +kernel) ⟨Nat.le_of_ble_eq_true rfl, Nat.le_of_ble_eq_true rfl⟩) (va_recv hK hP (ci := 2) (q0 := 0) rfl (list_app wC_x)) hP hK rfl hl.1 rfl (Nat.le_of_ble_eq_true rfl) dL_law_397 (by show cc ≤ 1064556; omega) (by show ss ≤ 5907956; omega) (fun r397 hr397 => ?_)
                                  subst hr397
                                  refine iq_icmp_ne (tgt := 447) hx hb dL_law_400 (by decide) (by omega) (by omega) (fun h400 => ?_) (fun h400 => ?_)
                                  · skip
                                    exact absurd (until_symm (by omega) (by omega)) h400
                                  · skip
                                    refine lv_iload hx hb dL_law_403 (lv_at hl 0 rfl) ?_
                                    refine iq_if_lt (tgt := 449) hx hb dL_law_405 (by decide) (by omega) (fun h405 => ?_) (fun h405 => ?_)
                                    · skip
                                      refine nq_inc (lv' := [(14, .int (nI (j + 1))), (15, .int (iI (untilS F now i j))), (13, .int (nI (mtS F i (F i 3 : Int) (j + 1)))), (12, .ref (b (2 + i))), (11, .int (nI i)), (10, .int (nI (apS F n i + apI F i (j + 1)))), (9, .int (nI (sumS F (i + 1)))), (8, .int (nI (acS F lim now (i + 1)))), (7, .int (nI n)), (5, .long (digS F n now lim)), (4, .int x), (3, .int (nI t)), (2, .ref (b 0)), (1, .ref (a 0)), (0, .ref bs)]) hx hb dL_law_449 (d := 1) rfl hl (k := 1) rfl (by decide) rfl (fun ls hl => ?_)
                                      refine lv_goto (tgt := 277) hx hb dL_law_452 (by decide) ?_
                                      exact ih277 (j + 1) _ _ ls (by omega) (by omega) hP hD hS (lv_sub hl [0, 2, 3, 4, 5, 6, 7, 8, 9, 10, 11, 12, 13, 14] rfl)
                                    · skip
                                      obtain ⟨u9, eu9, hu9, hz1, hz2⟩ := until_nat (F := F) (now := now) (i := i) (j := j) (by omega) (by omega) h405
                                      have hl : lv_has ls 23 [(15, .int (nI u9)), (14, .int (nI j)), (13, .int (nI (mtS F i (F i 3 : Int) (j + 1)))), (12, .ref (b (2 + i))), (11, .int (nI i)), (10, .int (nI (apS F n i + apI F i (j + 1)))), (9, .int (nI (sumS F (i + 1)))), (8, .int (nI (acS F lim now (i + 1)))), (7, .int (nI n)), (5, .long (digS F n now lim)), (4, .int x), (3, .int (nI t)), (2, .ref (b 0)), (1, .ref (a 0)), (0, .ref bs)] := lv_rep hl 0 rfl (congrArg Value.int (show iI (untilS F now i j) = nI u9 from by rw [eu9]; exact iI_n u9))
                                      skip
                                      refine lv_aload_n hx hb dL_law_408 rfl (lv_at hl 13 rfl) ?_
                                      refine lv_iload hx hb dL_law_409 (lv_at hl 4 rfl) ?_
                                      refine csV_i (rest := []) (As := [.int (nI i)]) ⟨hx, hb, hml, hown, hts⟩ (c_X1_phaseOf l E _ a n now lim F lt f9 CV_app hO i (by omega)) (cwV 1 hts gL_law_X1_phaseOf rfl rfl rfl (by decide +kernel) ⟨Nat.le_of_ble_eq_true rfl, Nat.le_of_ble_eq_true rfl⟩) (va_recv hK hP (ci := 2) (q0 := 0) rfl (list_app wC_x)) hP hK rfl hl.1 rfl (Nat.le_of_ble_eq_true rfl) dL_law_411 (by show cc ≤ 1064556; omega) (by show ss ≤ 5907956; omega) (fun r411 hr411 => ?_)
                                      subst hr411
                                      refine lv_iload hx hb dL_law_414 (lv_at hl 0 rfl) ?_
                                      refine nq_add hx hb dL_law_416 ?_
                                      refine lv_aload hx hb dL_law_417 (lv_at hl 3 rfl) ?_
                                      refine lv_iconst (v := (nI 1)) hx hb dL_law_419 (by decide) ?_
                                      refine va_iald hx hb hK hP ((wC E a mc n now lim (LF F lt f9)).length + (2 + i)) 0 (SV_end.2.2 i (by omega)) rfl (by exact vp_in_nI (by omega) (by omega)) dL_law_420 ?_
                                      refine nq_top (show (rwF F i (((nI 1)).toNatClampNeg)) = (nI (F i 0)) from by rw [nI_clamp (by omega)]; rfl) ?_
                                      refine nq_rem hx hb dL_law_421 (by omega) (by omega) (by omega) ?_
                                      refine nq_if_ne (tgt := 447) hx hb dL_law_422 (by decide) (by have h9 := Nat.mod_lt (ph F i now + u9) (show 0 < F i 0 by omega); omega) (fun h422 => ?_) (fun h422 => ?_)
                                      · skip
                                        exact absurd hz1 (Nat.ne_of_gt h422)
                                      · skip
                                        have hpj := ph_lt (F := F) (i := j) (b := now) (by omega)
                                        refine lv_aload_n hx hb dL_law_425 rfl (lv_at hl 13 rfl) ?_
                                        refine lv_iload hx hb dL_law_426 (lv_at hl 1 rfl) ?_
                                        refine csV_i (rest := []) (As := [.int (nI j)]) ⟨hx, hb, hml, hown, hts⟩ (c_X1_phaseOf l E _ a n now lim F lt f9 CV_app hO j (by omega)) (cwV 1 hts gL_law_X1_phaseOf rfl rfl rfl (by decide +kernel) ⟨Nat.le_of_ble_eq_true rfl, Nat.le_of_ble_eq_true rfl⟩) (va_recv hK hP (ci := 2) (q0 := 0) rfl (list_app wC_x)) hP hK rfl hl.1 rfl (Nat.le_of_ble_eq_true rfl) dL_law_428 (by show cc ≤ 1064556; omega) (by show ss ≤ 5907956; omega) (fun r428 hr428 => ?_)
                                        subst hr428
                                        refine lv_iload hx hb dL_law_431 (lv_at hl 0 rfl) ?_
                                        refine nq_add hx hb dL_law_433 ?_
                                        refine lv_aload_n hx hb dL_law_434 rfl (lv_at hl 12 rfl) ?_
                                        refine va_get (D := E.1) (ci := 3) (v := .ref (b 1)) (C := RX2) (T := TX2) (N := 3) hx hb hts hiX2 hown hK hP _ SV_end.1 rfl 0 (by decide) (hts (.fieldLink RL 9 "PulseLoomLaw$Sim" "lamps" "[[I") (List.mem_of_getElem? (i := 3) (by rfl))) (fun _ h9 => h9) rfl dL_law_435 ?_
                                        refine lv_iload hx hb dL_law_438 (lv_at hl 1 rfl) ?_
                                        refine nz_aald hx hb hK hP _ SV_end.2.1 (by exact vp_in_nI (by omega) (by omega)) dL_law_440 ?_
                                        refine nq_topv (show va_rf ((arS b n) ((nI j)).toNatClampNeg) = .ref (b (2 + j)) from by rw [nI_clamp (by omega)]; exact congrArg va_rf (arS_at (by omega))) ?_
                                        refine lv_iconst (v := (nI 1)) hx hb dL_law_441 (by decide) ?_
                                        refine va_iald hx hb hK hP ((wC E a mc n now lim (LF F lt f9)).length + (2 + j)) 0 (SV_end.2.2 j (by omega)) rfl (by exact vp_in_nI (by omega) (by omega)) dL_law_442 ?_
                                        refine nq_top (show (rwF F j (((nI 1)).toNatClampNeg)) = (nI (F j 0)) from by rw [nI_clamp (by omega)]; rfl) ?_
                                        refine nq_rem hx hb dL_law_443 (by omega) (by omega) (by omega) ?_
                                        refine nq_if_eq (tgt := 449) hx hb dL_law_444 (by decide) (by have h9 := Nat.mod_lt (ph F j now + u9) (show 0 < F j 0 by omega); omega) (fun h444 => ?_) (fun h444 => ?_)
                                        · skip
                                          refine nq_inc (lv' := [(14, .int (nI (j + 1))), (15, .int (nI u9)), (13, .int (nI (mtS F i (F i 3 : Int) (j + 1)))), (12, .ref (b (2 + i))), (11, .int (nI i)), (10, .int (nI (apS F n i + apI F i (j + 1)))), (9, .int (nI (sumS F (i + 1)))), (8, .int (nI (acS F lim now (i + 1)))), (7, .int (nI n)), (5, .long (digS F n now lim)), (4, .int x), (3, .int (nI t)), (2, .ref (b 0)), (1, .ref (a 0)), (0, .ref bs)]) hx hb dL_law_449 (d := 1) rfl hl (k := 1) rfl (by decide) rfl (fun ls hl => ?_)
                                          refine lv_goto (tgt := 277) hx hb dL_law_452 (by decide) ?_
                                          exact ih277 (j + 1) _ _ ls (by omega) (by omega) hP hD hS (lv_sub hl [0, 2, 3, 4, 5, 6, 7, 8, 9, 10, 11, 12, 13, 14] rfl)
                                        · skip
                                          exact absurd hz2 (Nat.ne_of_gt h444)
                                have hum := until_mt (F := F) (now := now) (i := i) (j := j) (by omega) (by omega)
                                refine lv_aload_n hx hb dL_law_369 rfl (lv_at hl 13 rfl) ?_
                                refine lv_iload hx hb dL_law_370 (lv_at hl 4 rfl) ?_
                                refine lv_iload hx hb dL_law_372 (lv_at hl 1 rfl) ?_
                                refine csV_i (rest := []) (As := [.int (nI i), .int (nI j)]) ⟨hx, hb, hml, hown, hts⟩ (c_X1_meet l E _ a n now lim F lt f9 CV_app hO i j (by omega) (by omega)) (cwV 2 hts gL_law_X1_meet rfl rfl rfl (by decide +kernel) ⟨Nat.le_of_ble_eq_true rfl, Nat.le_of_ble_eq_true rfl⟩) (va_recv hK hP (ci := 2) (q0 := 0) rfl (list_app wC_x)) hP hK rfl hl.1 rfl (Nat.le_of_ble_eq_true rfl) dL_law_374 (by show cc ≤ 1064556; omega) (by show ss ≤ 5907956; omega) (fun r374 hr374 => ?_)
                                subst hr374
                                refine lv_iload hx hb dL_law_377 (lv_at hl 0 rfl) ?_
                                refine iq_if_lt (tgt := 386) hx hb dL_law_379 (by decide) (by omega) (fun h379 => ?_) (fun h379 => ?_)
                                · skip
                                  refine lv_iconst (v := (nI 0)) hx hb dL_law_386 (by decide) ?_
                                  refine lv_icmp_ne (tgt := 447) hx hb dL_law_387 (by decide) (fun h387 => ?_) (fun h387 => ?_)
                                  · skip
                                    exact absurd (by rw [hum, decide_eq_false (show ¬ 0 ≤ untilS F now i j by omega)]; rfl) h387
                                  · skip
                                    exact join390 _ _ ls hP hD hS (lv_sub hl [0, 1, 2, 3, 4, 5, 6, 7, 8, 9, 10, 11, 12, 13, 14] rfl)
                                · skip
                                  refine lv_iconst (v := (nI 1)) hx hb dL_law_382 (by decide) ?_
                                  refine lv_goto (tgt := 387) hx hb dL_law_383 (by decide) ?_
                                  refine lv_icmp_ne (tgt := 447) hx hb dL_law_387 (by decide) (fun h387 => ?_) (fun h387 => ?_)
                                  · skip
                                    exact absurd (by rw [hum, decide_eq_true h379]; rfl) h387
                                  · skip
                                    exact join390 _ _ ls hP hD hS (lv_sub hl [0, 1, 2, 3, 4, 5, 6, 7, 8, 9, 10, 11, 12, 13, 14] rfl)
                            refine lv_iload hx hb dL_law_322 (lv_at hl 5 rfl) ?_
                            refine lv_iload hx hb dL_law_324 (lv_at hl 1 rfl) ?_
                            refine lv_iload hx hb dL_law_326 (lv_at hl 4 rfl) ?_
                            refine nq_icmp_le (tgt := 346) hx hb dL_law_328 (by decide) (by omega) (by omega) (fun h328 => ?_) (fun h328 => ?_)
                            · skip
                              refine lv_iconst (v := (nI 0)) hx hb dL_law_346 (by decide) ?_
                              refine nq_add hx hb dL_law_347 ?_
                              refine lv_istore (lv' := [(10, .int (nI ((apS F n i + apI F i j) + 0))), (15, .int (iI (untilS F now i j))), (14, .int (nI j)), (13, .int (nI (mtS F i (F i 3 : Int) (j + 1)))), (12, .ref (b (2 + i))), (11, .int (nI i)), (9, .int (nI (sumS F (i + 1)))), (8, .int (nI (acS F lim now (i + 1)))), (7, .int (nI n)), (5, .long (digS F n now lim)), (4, .int x), (3, .int (nI t)), (2, .ref (b 0)), (1, .ref (a 0)), (0, .ref bs)]) hx hb dL_law_348 hl (by decide) rfl (fun ls hl => ?_)
                              have hl : lv_has ls 23 [(10, .int (nI (apS F n i + apI F i (j + 1)))), (15, .int (iI (untilS F now i j))), (14, .int (nI j)), (13, .int (nI (mtS F i (F i 3 : Int) (j + 1)))), (12, .ref (b (2 + i))), (11, .int (nI i)), (9, .int (nI (sumS F (i + 1)))), (8, .int (nI (acS F lim now (i + 1)))), (7, .int (nI n)), (5, .long (digS F n now lim)), (4, .int x), (3, .int (nI t)), (2, .ref (b 0)), (1, .ref (a 0)), (0, .ref bs)] := lv_rep hl 0 rfl (congrArg Value.int (show (nI ((apS F n i + apI F i j) + 0)) = (nI (apS F n i + apI F i (j + 1))) from congrArg nI (by rw [apI_s, if_neg (fun q => absurd q.1 (by omega)), Nat.add_assoc])))
                              exact join350 _ _ ls hP hD hS (lv_sub hl [1, 2, 3, 4, 5, 0, 6, 7, 8, 9, 10, 11, 12, 13, 14] rfl)
                            · skip
                              refine lv_aload_n hx hb dL_law_331 rfl (lv_at hl 13 rfl) ?_
                              refine lv_iload hx hb dL_law_332 (lv_at hl 4 rfl) ?_
                              refine lv_iload hx hb dL_law_334 (lv_at hl 1 rfl) ?_
                              refine csV_i (rest := [.int (nI (apS F n i + apI F i j))]) (As := [.int (nI i), .int (nI j)]) ⟨hx, hb, hml, hown, hts⟩ (c_X1_meet l E _ a n now lim F lt f9 CV_app hO i j (by omega) (by omega)) (cwV 2 hts gL_law_X1_meet rfl rfl rfl (by decide +kernel) ⟨Nat.le_of_ble_eq_true rfl, Nat.le_of_ble_eq_true rfl⟩) (va_recv hK hP (ci := 2) (q0 := 0) rfl (list_app wC_x)) hP hK rfl hl.1 rfl (Nat.le_of_ble_eq_true rfl) dL_law_336 (by show cc ≤ 1064556; omega) (by show ss ≤ 5907956; omega) (fun r336 hr336 => ?_)
                              subst hr336
                              refine bq_if_ne (tgt := 346) hx hb dL_law_339 (by decide) (fun h339 => ?_) (fun h339 => ?_)
                              · skip
                                refine lv_iconst (v := (nI 0)) hx hb dL_law_346 (by decide) ?_
                                refine nq_add hx hb dL_law_347 ?_
                                refine lv_istore (lv' := [(10, .int (nI ((apS F n i + apI F i j) + 0))), (15, .int (iI (untilS F now i j))), (14, .int (nI j)), (13, .int (nI (mtS F i (F i 3 : Int) (j + 1)))), (12, .ref (b (2 + i))), (11, .int (nI i)), (9, .int (nI (sumS F (i + 1)))), (8, .int (nI (acS F lim now (i + 1)))), (7, .int (nI n)), (5, .long (digS F n now lim)), (4, .int x), (3, .int (nI t)), (2, .ref (b 0)), (1, .ref (a 0)), (0, .ref bs)]) hx hb dL_law_348 hl (by decide) rfl (fun ls hl => ?_)
                                have hl : lv_has ls 23 [(10, .int (nI (apS F n i + apI F i (j + 1)))), (15, .int (iI (untilS F now i j))), (14, .int (nI j)), (13, .int (nI (mtS F i (F i 3 : Int) (j + 1)))), (12, .ref (b (2 + i))), (11, .int (nI i)), (9, .int (nI (sumS F (i + 1)))), (8, .int (nI (acS F lim now (i + 1)))), (7, .int (nI n)), (5, .long (digS F n now lim)), (4, .int x), (3, .int (nI t)), (2, .ref (b 0)), (1, .ref (a 0)), (0, .ref bs)] := lv_rep hl 0 rfl (congrArg Value.int (show (nI ((apS F n i + apI F i j) + 0)) = (nI (apS F n i + apI F i (j + 1))) from congrArg nI (by rw [apI_s, if_neg (fun q => by rw [h339] at q; exact absurd q.2 (by decide)), Nat.add_assoc])))
                                exact join350 _ _ ls hP hD hS (lv_sub hl [1, 2, 3, 4, 5, 0, 6, 7, 8, 9, 10, 11, 12, 13, 14] rfl)
                              · skip
                                refine lv_iconst (v := (nI 1)) hx hb dL_law_342 (by decide) ?_
                                refine lv_goto (tgt := 347) hx hb dL_law_343 (by decide) ?_
                                refine nq_add hx hb dL_law_347 ?_
                                refine lv_istore (lv' := [(10, .int (nI ((apS F n i + apI F i j) + 1))), (15, .int (iI (untilS F now i j))), (14, .int (nI j)), (13, .int (nI (mtS F i (F i 3 : Int) (j + 1)))), (12, .ref (b (2 + i))), (11, .int (nI i)), (9, .int (nI (sumS F (i + 1)))), (8, .int (nI (acS F lim now (i + 1)))), (7, .int (nI n)), (5, .long (digS F n now lim)), (4, .int x), (3, .int (nI t)), (2, .ref (b 0)), (1, .ref (a 0)), (0, .ref bs)]) hx hb dL_law_348 hl (by decide) rfl (fun ls hl => ?_)
                                have hl : lv_has ls 23 [(10, .int (nI (apS F n i + apI F i (j + 1)))), (15, .int (iI (untilS F now i j))), (14, .int (nI j)), (13, .int (nI (mtS F i (F i 3 : Int) (j + 1)))), (12, .ref (b (2 + i))), (11, .int (nI i)), (9, .int (nI (sumS F (i + 1)))), (8, .int (nI (acS F lim now (i + 1)))), (7, .int (nI n)), (5, .long (digS F n now lim)), (4, .int x), (3, .int (nI t)), (2, .ref (b 0)), (1, .ref (a 0)), (0, .ref bs)] := lv_rep hl 0 rfl (congrArg Value.int (show (nI ((apS F n i + apI F i j) + 1)) = (nI (apS F n i + apI F i (j + 1))) from congrArg nI (by rw [apI_s, if_pos ⟨h328, h339⟩, Nat.add_assoc])))
                                exact join350 _ _ ls hP hD hS (lv_sub hl [1, 2, 3, 4, 5, 0, 6, 7, 8, 9, 10, 11, 12, 13, 14] rfl)
                          refine lv_iload hx hb dL_law_294 (lv_at hl 2 rfl) ?_
                          refine lv_iload hx hb dL_law_296 (lv_at hl 1 rfl) ?_
                          refine lv_iload hx hb dL_law_298 (lv_at hl 4 rfl) ?_
                          refine nq_icmp_eq (tgt := 318) hx hb dL_law_300 (by decide) (by omega) (by omega) (fun h300 => ?_) (fun h300 => ?_)
                          · skip
                            refine lv_iconst (v := (nI 0)) hx hb dL_law_318 (by decide) ?_
                            refine nq_add hx hb dL_law_319 ?_
                            refine lv_istore (lv' := [(13, .int (nI ((mtS F i (F i 3 : Int) j) + 0))), (15, .int (iI (untilS F now i j))), (14, .int (nI j)), (12, .ref (b (2 + i))), (11, .int (nI i)), (10, .int (nI (apS F n i + apI F i j))), (9, .int (nI (sumS F (i + 1)))), (8, .int (nI (acS F lim now (i + 1)))), (7, .int (nI n)), (5, .long (digS F n now lim)), (4, .int x), (3, .int (nI t)), (2, .ref (b 0)), (1, .ref (a 0)), (0, .ref bs)]) hx hb dL_law_320 hl (by decide) rfl (fun ls hl => ?_)
                            have hl : lv_has ls 23 [(13, .int (nI (mtS F i (F i 3 : Int) (j + 1)))), (15, .int (iI (untilS F now i j))), (14, .int (nI j)), (12, .ref (b (2 + i))), (11, .int (nI i)), (10, .int (nI (apS F n i + apI F i j))), (9, .int (nI (sumS F (i + 1)))), (8, .int (nI (acS F lim now (i + 1)))), (7, .int (nI n)), (5, .long (digS F n now lim)), (4, .int x), (3, .int (nI t)), (2, .ref (b 0)), (1, .ref (a 0)), (0, .ref bs)] := lv_rep hl 0 rfl (congrArg Value.int (show (nI ((mtS F i (F i 3 : Int) j) + 0)) = (nI (mtS F i (F i 3 : Int) (j + 1))) from congrArg nI (by rw [mtS_s, if_neg (fun q => q.1 h300)])))
                            exact join322 _ _ ls hP hD hS (lv_sub hl [1, 2, 0, 3, 4, 5, 6, 7, 8, 9, 10, 11, 12, 13, 14] rfl)
                          · skip
                            refine lv_aload_n hx hb dL_law_303 rfl (lv_at hl 13 rfl) ?_
                            refine lv_iload hx hb dL_law_304 (lv_at hl 4 rfl) ?_
                            refine lv_iload hx hb dL_law_306 (lv_at hl 1 rfl) ?_
                            refine csV_i (rest := [.int (nI (mtS F i (F i 3 : Int) j))]) (As := [.int (nI i), .int (nI j)]) ⟨hx, hb, hml, hown, hts⟩ (c_X1_meet l E _ a n now lim F lt f9 CV_app hO i j (by omega) (by omega)) (cwV 2 hts gL_law_X1_meet rfl rfl rfl (by decide +kernel) ⟨Nat.le_of_ble_eq_true rfl, Nat.le_of_ble_eq_true rfl⟩) (va_recv hK hP (ci := 2) (q0 := 0) rfl (list_app wC_x)) hP hK rfl hl.1 rfl (Nat.le_of_ble_eq_true rfl) dL_law_308 (by show cc ≤ 1064556; omega) (by show ss ≤ 5907956; omega) (fun r308 hr308 => ?_)
                            subst hr308
                            refine bq_if_eq (tgt := 318) hx hb dL_law_311 (by decide) (fun h311 => ?_) (fun h311 => ?_)
                            · skip
                              refine lv_iconst (v := (nI 0)) hx hb dL_law_318 (by decide) ?_
                              refine nq_add hx hb dL_law_319 ?_
                              refine lv_istore (lv' := [(13, .int (nI ((mtS F i (F i 3 : Int) j) + 0))), (15, .int (iI (untilS F now i j))), (14, .int (nI j)), (12, .ref (b (2 + i))), (11, .int (nI i)), (10, .int (nI (apS F n i + apI F i j))), (9, .int (nI (sumS F (i + 1)))), (8, .int (nI (acS F lim now (i + 1)))), (7, .int (nI n)), (5, .long (digS F n now lim)), (4, .int x), (3, .int (nI t)), (2, .ref (b 0)), (1, .ref (a 0)), (0, .ref bs)]) hx hb dL_law_320 hl (by decide) rfl (fun ls hl => ?_)
                              have hl : lv_has ls 23 [(13, .int (nI (mtS F i (F i 3 : Int) (j + 1)))), (15, .int (iI (untilS F now i j))), (14, .int (nI j)), (12, .ref (b (2 + i))), (11, .int (nI i)), (10, .int (nI (apS F n i + apI F i j))), (9, .int (nI (sumS F (i + 1)))), (8, .int (nI (acS F lim now (i + 1)))), (7, .int (nI n)), (5, .long (digS F n now lim)), (4, .int x), (3, .int (nI t)), (2, .ref (b 0)), (1, .ref (a 0)), (0, .ref bs)] := lv_rep hl 0 rfl (congrArg Value.int (show (nI ((mtS F i (F i 3 : Int) j) + 0)) = (nI (mtS F i (F i 3 : Int) (j + 1))) from congrArg nI (by rw [mtS_s, if_neg (fun q => by rw [h311] at q; exact absurd q.2 (by decide))])))
                              exact join322 _ _ ls hP hD hS (lv_sub hl [1, 2, 0, 3, 4, 5, 6, 7, 8, 9, 10, 11, 12, 13, 14] rfl)
                            · skip
                              refine lv_iconst (v := (nI 1)) hx hb dL_law_314 (by decide) ?_
                              refine lv_goto (tgt := 319) hx hb dL_law_315 (by decide) ?_
                              refine nq_add hx hb dL_law_319 ?_
                              refine lv_istore (lv' := [(13, .int (nI ((mtS F i (F i 3 : Int) j) + 1))), (15, .int (iI (untilS F now i j))), (14, .int (nI j)), (12, .ref (b (2 + i))), (11, .int (nI i)), (10, .int (nI (apS F n i + apI F i j))), (9, .int (nI (sumS F (i + 1)))), (8, .int (nI (acS F lim now (i + 1)))), (7, .int (nI n)), (5, .long (digS F n now lim)), (4, .int x), (3, .int (nI t)), (2, .ref (b 0)), (1, .ref (a 0)), (0, .ref bs)]) hx hb dL_law_320 hl (by decide) rfl (fun ls hl => ?_)
                              have hl : lv_has ls 23 [(13, .int (nI (mtS F i (F i 3 : Int) (j + 1)))), (15, .int (iI (untilS F now i j))), (14, .int (nI j)), (12, .ref (b (2 + i))), (11, .int (nI i)), (10, .int (nI (apS F n i + apI F i j))), (9, .int (nI (sumS F (i + 1)))), (8, .int (nI (acS F lim now (i + 1)))), (7, .int (nI n)), (5, .long (digS F n now lim)), (4, .int x), (3, .int (nI t)), (2, .ref (b 0)), (1, .ref (a 0)), (0, .ref bs)] := lv_rep hl 0 rfl (congrArg Value.int (show (nI ((mtS F i (F i 3 : Int) j) + 1)) = (nI (mtS F i (F i 3 : Int) (j + 1))) from congrArg nI (by rw [mtS_s, if_pos ⟨h300, h311⟩])))
                              exact join322 _ _ ls hP hD hS (lv_sub hl [1, 2, 0, 3, 4, 5, 6, 7, 8, 9, 10, 11, 12, 13, 14] rfl)
                    have hl : lv_has ls 23 [(14, .int (nI 0)), (13, .int (nI (mtS F i (F i 3 : Int) 0))), (9, .int (nI ((sumS F i) + (F i 5)))), (12, .ref (b (2 + i))), (11, .int (nI i)), (10, .int (nI (apS F n i))), (8, .int (nI (acS F lim now (i + 1)))), (7, .int (nI n)), (5, .long (digS F n now lim)), (4, .int x), (3, .int (nI t)), (2, .ref (b 0)), (1, .ref (a 0)), (0, .ref bs)] := lv_rep hl 1 rfl (congrArg Value.int (show (nI 0) = (nI (mtS F i (F i 3 : Int) 0)) from rfl))
                    have hl : lv_has ls 23 [(14, .int (nI 0)), (13, .int (nI (mtS F i (F i 3 : Int) 0))), (9, .int (nI ((sumS F i) + (F i 5)))), (12, .ref (b (2 + i))), (11, .int (nI i)), (10, .int (nI (apS F n i + apI F i 0))), (8, .int (nI (acS F lim now (i + 1)))), (7, .int (nI n)), (5, .long (digS F n now lim)), (4, .int x), (3, .int (nI t)), (2, .ref (b 0)), (1, .ref (a 0)), (0, .ref bs)] := lv_rep hl 5 rfl (congrArg Value.int (show (nI (apS F n i)) = (nI (apS F n i + apI F i 0)) from rfl))
                    have hl : lv_has ls 23 [(14, .int (nI 0)), (13, .int (nI (mtS F i (F i 3 : Int) 0))), (9, .int (nI (sumS F (i + 1)))), (12, .ref (b (2 + i))), (11, .int (nI i)), (10, .int (nI (apS F n i + apI F i 0))), (8, .int (nI (acS F lim now (i + 1)))), (7, .int (nI n)), (5, .long (digS F n now lim)), (4, .int x), (3, .int (nI t)), (2, .ref (b 0)), (1, .ref (a 0)), (0, .ref bs)] := lv_rep hl 2 rfl (congrArg Value.int (show (nI ((sumS F i) + (F i 5))) = (nI (sumS F (i + 1))) from by first | rfl | (congr 1; omega)))
                    exact loop277 ((n - 0) + 1) 0 _ _ ls (by omega) (Nat.lt_succ_self _) hP hD hS (lv_sub hl [0, 1, 3, 4, 5, 2, 6, 7, 8, 9, 10, 11, 12, 13] rfl)
                  refine lv_iload hx hb dL_law_238 (lv_at hl 4 rfl) ?_
                  refine lv_aload_n hx hb dL_law_240 rfl (lv_at hl 10 rfl) ?_
                  refine lv_iload hx hb dL_law_241 (lv_at hl 1 rfl) ?_
                  have hP0 := hP
                  have hP : va_P E.1 vwCl ([] ++ (wC E a mc n now lim (LF F lt f9) ++ wS E b n now lim F)) H := hP
                  have hD : va_D A ([] ++ (wC E a mc n now lim (LF F lt f9) ++ wS E b n now lim F)) := hD
                  refine cmX_i (wx := []) (wy := wS E b n now lim F) (rest := [.int (nI (acS F lim now i))]) (As := [.int (nI i)]) ⟨hx, hb, hml, hown, hts⟩ (c_X1_shines l E _ a mc n now lim F lt f9 hO i (by omega)) (cwV 1 hts gL_law_X1_shines rfl rfl rfl (by decide +kernel) ⟨Nat.le_of_ble_eq_true rfl, Nat.le_of_ble_eq_true rfl⟩) (va_recv hK hP0 (ci := 2) (q0 := 0) rfl (list_app wC_x)) hP hK hD hS hA rfl hl.1 rfl (Nat.le_of_ble_eq_true rfl) dL_law_243 ⟨by show cc + 0 ≤ 1064556; omega, by show ss + 0 ≤ 5907956; omega⟩ (fun r243 u243 H locs hr243 hP hD hS => ?_)
                  subst hr243
                  have hP : va_P E.1 vwCl (wC E a mc n now lim (LF F u243 f9) ++ wS E b n now lim F) H := hP
                  have hD : va_D A (wC E a mc n now lim (LF F u243 f9) ++ wS E b n now lim F) := hD
                  refine bq_if_eq (tgt := 256) hx hb dL_law_246 (by decide) (fun h246 => ?_) (fun h246 => ?_)
                  · skip
                    refine lv_iconst (v := (nI 0)) hx hb dL_law_256 (by decide) ?_
                    refine nq_add hx hb dL_law_257 ?_
                    refine lv_istore (lv' := [(8, .int (nI ((acS F lim now i) + 0))), (12, .ref (b (2 + i))), (11, .int (nI i)), (10, .int (nI (apS F n i))), (9, .int (nI (sumS F i))), (7, .int (nI n)), (5, .long (digS F n now lim)), (4, .int x), (3, .int (nI t)), (2, .ref (b 0)), (1, .ref (a 0)), (0, .ref bs)]) hx hb dL_law_258 hl (by decide) rfl (fun ls hl => ?_)
                    have hl : lv_has ls 23 [(8, .int (nI (acS F lim now (i + 1)))), (12, .ref (b (2 + i))), (11, .int (nI i)), (10, .int (nI (apS F n i))), (9, .int (nI (sumS F i))), (7, .int (nI n)), (5, .long (digS F n now lim)), (4, .int x), (3, .int (nI t)), (2, .ref (b 0)), (1, .ref (a 0)), (0, .ref bs)] := lv_rep hl 0 rfl (congrArg Value.int (show (nI ((acS F lim now i) + 0)) = (nI (acS F lim now (i + 1))) from congrArg nI (by rw [acS_s, h246]; rfl)))
                    exact join260 u243 _ _ ls hP hD hS (lv_sub hl [1, 2, 3, 4, 0, 5, 6, 7, 8, 9, 10, 11] rfl)
                  · skip
                    refine lv_aload hx hb dL_law_249 (lv_at hl 0 rfl) ?_
                    refine lv_iconst (v := (nI 4)) hx hb dL_law_251 (by decide) ?_
                    refine va_iald hx hb hK hP ((wC E a mc n now lim (LF F u243 f9)).length + (2 + i)) 0 (SV_end.2.2 i (by omega)) rfl (by exact vp_in_nI (by omega) (by omega)) dL_law_252 ?_
                    refine nq_top (show (rwF F i (((nI 4)).toNatClampNeg)) = (nI (F i 1)) from by rw [nI_clamp (by omega)]; rfl) ?_
                    refine lv_goto (tgt := 257) hx hb dL_law_253 (by decide) ?_
                    refine nq_add hx hb dL_law_257 ?_
                    refine lv_istore (lv' := [(8, .int (nI ((acS F lim now i) + (F i 1)))), (12, .ref (b (2 + i))), (11, .int (nI i)), (10, .int (nI (apS F n i))), (9, .int (nI (sumS F i))), (7, .int (nI n)), (5, .long (digS F n now lim)), (4, .int x), (3, .int (nI t)), (2, .ref (b 0)), (1, .ref (a 0)), (0, .ref bs)]) hx hb dL_law_258 hl (by decide) rfl (fun ls hl => ?_)
                    have hl : lv_has ls 23 [(8, .int (nI (acS F lim now (i + 1)))), (12, .ref (b (2 + i))), (11, .int (nI i)), (10, .int (nI (apS F n i))), (9, .int (nI (sumS F i))), (7, .int (nI n)), (5, .long (digS F n now lim)), (4, .int x), (3, .int (nI t)), (2, .ref (b 0)), (1, .ref (a 0)), (0, .ref bs)] := lv_rep hl 0 rfl (congrArg Value.int (show (nI ((acS F lim now i) + (F i 1))) = (nI (acS F lim now (i + 1))) from congrArg nI (by rw [acS_s, h246]; rfl)))
                    exact join260 u243 _ _ ls hP hD hS (lv_sub hl [1, 2, 3, 4, 0, 5, 6, 7, 8, 9, 10, 11] rfl)
                · skip
                  exact absurd (lg_self 0) h233
              refine lv_aload_n hx hb dL_law_189 rfl (lv_at hl 10 rfl) ?_
              refine lv_iload hx hb dL_law_190 (lv_at hl 1 rfl) ?_
              refine csV_i (rest := []) (As := [.int (nI i)]) ⟨hx, hb, hml, hown, hts⟩ (c_X1_isDue l E _ a n now lim F u174 f9 CV_app hO i (by omega)) (cwV 1 hts gL_law_X1_isDue rfl rfl rfl (by decide +kernel) ⟨Nat.le_of_ble_eq_true rfl, Nat.le_of_ble_eq_true rfl⟩) (va_recv hK hP (ci := 2) (q0 := 0) rfl (list_app wC_x)) hP hK rfl hl.1 rfl (Nat.le_of_ble_eq_true rfl) dL_law_192 (by show cc ≤ 1064556; omega) (by show ss ≤ 5907956; omega) (fun r192 hr192 => ?_)
              subst hr192
              refine bq_if_eq (tgt := 221) hx hb dL_law_195 (by decide) (fun h195 => ?_) (fun h195 => ?_)
              · skip
                exact join221 u174 _ _ ls hP hD hS (lv_sub hl [0, 1, 2, 3, 4, 5, 6, 7, 8, 9, 10, 11] rfl)
              · skip
                refine lv_aload_n hx hb dL_law_198 rfl (lv_at hl 10 rfl) ?_
                refine lv_iload hx hb dL_law_199 (lv_at hl 1 rfl) ?_
                have hP0 := hP
                have hP : va_P E.1 vwCl ([] ++ (wC E a mc n now lim (LF F u174 f9) ++ wS E b n now lim F)) H := hP
                have hD : va_D A ([] ++ (wC E a mc n now lim (LF F u174 f9) ++ wS E b n now lim F)) := hD
                refine cmX_i (wx := []) (wy := wS E b n now lim F) (rest := []) (As := [.int (nI i)]) ⟨hx, hb, hml, hown, hts⟩ (c_X1_shines l E _ a mc n now lim F u174 f9 hO i (by omega)) (cwV 1 hts gL_law_X1_shines rfl rfl rfl (by decide +kernel) ⟨Nat.le_of_ble_eq_true rfl, Nat.le_of_ble_eq_true rfl⟩) (va_recv hK hP0 (ci := 2) (q0 := 0) rfl (list_app wC_x)) hP hK hD hS hA rfl hl.1 rfl (Nat.le_of_ble_eq_true rfl) dL_law_201 ⟨by show cc + 0 ≤ 1064556; omega, by show ss + 0 ≤ 5907956; omega⟩ (fun r201 u201 H locs hr201 hP hD hS => ?_)
                subst hr201
                have hP : va_P E.1 vwCl (wC E a mc n now lim (LF F u201 f9) ++ wS E b n now lim F) H := hP
                have hD : va_D A (wC E a mc n now lim (LF F u201 f9) ++ wS E b n now lim F) := hD
                refine bq_if_ne (tgt := 221) hx hb dL_law_204 (by decide) (fun h204 => ?_) (fun h204 => ?_)
                · skip
                  exact join221 u201 _ _ ls hP hD hS (lv_sub hl [0, 1, 2, 3, 4, 5, 6, 7, 8, 9, 10, 11] rfl)
                · skip
                  refine lv_iload hx hb dL_law_207 (lv_at hl 4 rfl) ?_
                  refine lv_aload hx hb dL_law_209 (lv_at hl 0 rfl) ?_
                  refine lv_iconst (v := (nI 4)) hx hb dL_law_211 (by decide) ?_
                  refine va_iald hx hb hK hP ((wC E a mc n now lim (LF F u201 f9)).length + (2 + i)) 0 (SV_end.2.2 i (by omega)) rfl (by exact vp_in_nI (by omega) (by omega)) dL_law_212 ?_
                  refine nq_top (show (rwF F i (((nI 4)).toNatClampNeg)) = (nI (F i 1)) from by rw [nI_clamp (by omega)]; rfl) ?_
                  refine nq_add hx hb dL_law_213 ?_
                  refine lv_aload_n hx hb dL_law_214 rfl (lv_at hl 10 rfl) ?_
                  refine csV_i (rest := [.int (nI ((acS F lim now i) + (F i 1)))]) (As := []) ⟨hx, hb, hml, hown, hts⟩ (c_X1_limit l E _ a n now lim F u201 f9 CV_app hO) (cwV 0 hts gL_law_X1_limit rfl rfl rfl (by decide +kernel) ⟨Nat.le_of_ble_eq_true rfl, Nat.le_of_ble_eq_true rfl⟩) (va_recv hK hP (ci := 2) (q0 := 0) rfl (list_app wC_x)) hP hK rfl hl.1 rfl (Nat.le_of_ble_eq_true rfl) dL_law_215 (by show cc ≤ 1064556; omega) (by show ss ≤ 5907956; omega) (fun r215 hr215 => ?_)
                  subst hr215
                  refine nq_icmp_le (tgt := 236) hx hb dL_law_218 (by decide) (by omega) (by omega) (fun h218 => ?_) (fun h218 => ?_)
                  · skip
                    exact absurd h218 (by have h9 := lit_not h204 h195; omega)
                  · skip
                    exact join221 u201 _ _ ls hP hD hS (lv_sub hl [0, 1, 2, 3, 4, 5, 6, 7, 8, 9, 10, 11] rfl)
            refine bq_if_eq (tgt := 189) hx hb dL_law_177 (by decide) (fun h177 => ?_) (fun h177 => ?_)
            · skip
              exact join189 _ _ ls hP hD hS (lv_sub hl [0, 1, 2, 3, 4, 5, 6, 7, 8, 9, 10, 11] rfl)
            · skip
              refine lv_aload_n hx hb dL_law_180 rfl (lv_at hl 10 rfl) ?_
              refine lv_iload hx hb dL_law_181 (lv_at hl 1 rfl) ?_
              refine csV_i (rest := []) (As := [.int (nI i)]) ⟨hx, hb, hml, hown, hts⟩ (c_X1_isDue l E _ a n now lim F u174 f9 CV_app hO i (by omega)) (cwV 1 hts gL_law_X1_isDue rfl rfl rfl (by decide +kernel) ⟨Nat.le_of_ble_eq_true rfl, Nat.le_of_ble_eq_true rfl⟩) (va_recv hK hP (ci := 2) (q0 := 0) rfl (list_app wC_x)) hP hK rfl hl.1 rfl (Nat.le_of_ble_eq_true rfl) dL_law_183 (by show cc ≤ 1064556; omega) (by show ss ≤ 5907956; omega) (fun r183 hr183 => ?_)
              subst hr183
              refine bq_if_eq (tgt := 236) hx hb dL_law_186 (by decide) (fun h186 => ?_) (fun h186 => ?_)
              · skip
                exact absurd (lit_due h177) (by rw [h186]; decide)
              · skip
                exact join189 _ _ ls hP hD hS (lv_sub hl [0, 1, 2, 3, 4, 5, 6, 7, 8, 9, 10, 11] rfl)
          refine lv_aload_n hx hb dL_law_144 rfl (lv_at hl 10 rfl) ?_
          refine lv_iload hx hb dL_law_145 (lv_at hl 1 rfl) ?_
          refine csV_i (rest := []) (As := [.int (nI i)]) ⟨hx, hb, hml, hown, hts⟩ (c_X1_isDue l E _ a n now lim F lt f9 CV_app hO i (by omega)) (cwV 1 hts gL_law_X1_isDue rfl rfl rfl (by decide +kernel) ⟨Nat.le_of_ble_eq_true rfl, Nat.le_of_ble_eq_true rfl⟩) (va_recv hK hP (ci := 2) (q0 := 0) rfl (list_app wC_x)) hP hK rfl hl.1 rfl (Nat.le_of_ble_eq_true rfl) dL_law_147 (by show cc ≤ 1064556; omega) (by show ss ≤ 5907956; omega) (fun r147 hr147 => ?_)
          subst hr147
          refine lv_aload_n hx hb dL_law_150 rfl (lv_at hl 10 rfl) ?_
          refine lv_iload hx hb dL_law_151 (lv_at hl 1 rfl) ?_
          refine csV_i (rest := [.int (bI (due F i now))]) (As := [.int (nI i)]) ⟨hx, hb, hml, hown, hts⟩ (c_X1_phaseOf l E _ a n now lim F lt f9 CV_app hO i (by omega)) (cwV 1 hts gL_law_X1_phaseOf rfl rfl rfl (by decide +kernel) ⟨Nat.le_of_ble_eq_true rfl, Nat.le_of_ble_eq_true rfl⟩) (va_recv hK hP (ci := 2) (q0 := 0) rfl (list_app wC_x)) hP hK rfl hl.1 rfl (Nat.le_of_ble_eq_true rfl) dL_law_153 (by show cc ≤ 1064556; omega) (by show ss ≤ 5907956; omega) (fun r153 hr153 => ?_)
          subst hr153
          refine lv_aload hx hb dL_law_156 (lv_at hl 0 rfl) ?_
          refine lv_iconst (v := (nI 3)) hx hb dL_law_158 (by decide) ?_
          refine va_iald hx hb hK hP ((wC E a mc n now lim (LF F lt f9)).length + (2 + i)) 0 (SV_end.2.2 i (by omega)) rfl (by exact vp_in_nI (by omega) (by omega)) dL_law_159 ?_
          refine nq_top (show (rwF F i (((nI 3)).toNatClampNeg)) = (nI (F i 4)) from by rw [nI_clamp (by omega)]; rfl) ?_
          refine nq_icmp_ge (tgt := 167) hx hb dL_law_160 (by decide) (by omega) (by omega) (fun h160 => ?_) (fun h160 => ?_)
          · skip
            refine lv_iconst (v := (nI 0)) hx hb dL_law_167 (by decide) ?_
            refine lv_icmp_ne (tgt := 236) hx hb dL_law_168 (by decide) (fun h168 => ?_) (fun h168 => ?_)
            · skip
              exact absurd (by rw [show due F i now = false from decide_eq_false (Nat.not_lt.mpr h160)]; rfl) h168
            · skip
              exact join171 _ _ ls hP hD hS (lv_sub hl [0, 1, 2, 3, 4, 5, 6, 7, 8, 9, 10, 11] rfl)
          · skip
            refine lv_iconst (v := (nI 1)) hx hb dL_law_163 (by decide) ?_
            refine lv_goto (tgt := 168) hx hb dL_law_164 (by decide) ?_
            refine lv_icmp_ne (tgt := 236) hx hb dL_law_168 (by decide) (fun h168 => ?_) (fun h168 => ?_)
            · skip
              exact absurd (by rw [show due F i now = true from decide_eq_true h160]; rfl) h168
            · skip
              exact join171 _ _ ls hP hD hS (lv_sub hl [0, 1, 2, 3, 4, 5, 6, 7, 8, 9, 10, 11] rfl)
  have hl : lv_has ls 23 [(11, .int (nI 0)), (10, .int (nI (apS F n 0))), (9, .int (nI 0)), (8, .int (nI 0)), (7, .int (nI n)), (5, .long (digS F n now lim)), (4, .int x), (0, .ref bs), (1, .ref (a 0)), (2, .ref (b 0)), (3, .int (nI t))] := lv_rep hl 1 rfl (congrArg Value.int (show (nI 0) = (nI (apS F n 0)) from rfl))
  have hl : lv_has ls 23 [(11, .int (nI 0)), (10, .int (nI (apS F n 0))), (9, .int (nI (sumS F 0))), (8, .int (nI 0)), (7, .int (nI n)), (5, .long (digS F n now lim)), (4, .int x), (0, .ref bs), (1, .ref (a 0)), (2, .ref (b 0)), (3, .int (nI t))] := lv_rep hl 2 rfl (congrArg Value.int (show (nI 0) = (nI (sumS F 0)) from rfl))
  have hl : lv_has ls 23 [(11, .int (nI 0)), (10, .int (nI (apS F n 0))), (9, .int (nI (sumS F 0))), (8, .int (nI (acS F lim now 0))), (7, .int (nI n)), (5, .long (digS F n now lim)), (4, .int x), (0, .ref bs), (1, .ref (a 0)), (2, .ref (b 0)), (3, .int (nI t))] := lv_rep hl 3 rfl (congrArg Value.int (show (nI 0) = (nI (acS F lim now 0)) from rfl))
  exact loop106 ((n - 0) + 1) 0 u83.1 _ _ ls (by omega) (Nat.lt_succ_self _) hP hD hS (lv_sub hl [0, 1, 2, 3, 4, 5, 6, 10, 9, 8, 7] rfl)

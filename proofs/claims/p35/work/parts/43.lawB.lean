/-! the law, in pieces: sums and shifts -/
set_option maxHeartbeats 8000000 in
set_option maxRecDepth 100000 in
theorem law_C {p : Program} {l : Launch} {e : Env} {s : State} {m : MethodId} {args : Array Value} {below : List Frame} {meth : Method} {c : Code} {E : GE} {A : Nat → Prop} {z0 bs L : Nat} {xs : Nat → Int32} {QQ : State → Prop} (CC : LC p s m args c E A z0 bs L xs) (hL : L ≤ 260) (a : Nat → Nat) (mc : Int32) (n now lim : Nat) (F : LR) (lit : Nat → Bool) (fo : Nat → Nat) (b : Nat → Nat) (hO : OkS n now lim F) (h2n : 2 ≤ n) (hnow : now ≤ 80000) (t : Nat) (ht : t < 7) (x : Int32) (cc ss : Nat) (hcc : cc + 1200 ≤ 1064556) (hss : ss + 9700 ≤ 5907956) (join674 : ∀ (lt : Nat → Bool) (f9 : Nat → Nat) (H : Heap) (locs : List Loc) (ls : Array Slot), va_P E.1 vwCl (wC E a mc n now lim (LF F lt f9) ++ wS E b n now lim F) H → va_D A (wC E a mc n now lim (LF F lt f9) ++ wS E b n now lim F) → va_S A s.heap H locs → lv_has ls 23 [(7, .int (nI n)), (4, .int x), (3, .int (nI t)), (2, .ref (b 0)), (1, .ref (a 0)), (0, .ref bs)] → W p l e room_1 s m args below meth c H locs (cc) (ss) QQ (F0 m 674 ls [])) (H : Heap) (locs : List Loc) (ls : Array Slot) (hP : va_P E.1 vwCl (wC E a mc n now lim (LF F lit fo) ++ wS E b n now lim F) H) (hD : va_D A (wC E a mc n now lim (LF F lit fo) ++ wS E b n now lim F)) (hS : va_S A s.heap H locs) (hl : lv_has ls 23 [(10, .int (nI (apS F n n))), (9, .int (nI (sumS F n))), (8, .int (nI (acS F lim now n))), (7, .int (nI n)), (5, .long (digS F n now lim)), (4, .int x), (3, .int (nI t)), (2, .ref (b 0)), (1, .ref (a 0)), (0, .ref bs)]) : W p l e room_1 s m args below meth c H locs cc ss QQ (F0 m 496 ls []) := by
  obtain ⟨hx, hb, hml, hown, hts, hK, hZ, hA, hbs, hX, hN⟩ := CC
  have hiX2 : ∀ q ∈ wsX20, q ∈ wsL_law := inlX2
  obtain ⟨hO1, hO2, hO3, hO4, hO5⟩ := id hO
  refine lv_iconst (v := (nI 0)) hx hb dL_law_496 (by decide) ?_
  refine lv_istore (lv' := [(11, .int (nI 0)), (10, .int (nI (apS F n n))), (9, .int (nI (sumS F n))), (8, .int (nI (acS F lim now n))), (7, .int (nI n)), (5, .long (digS F n now lim)), (4, .int x), (3, .int (nI t)), (2, .ref (b 0)), (1, .ref (a 0)), (0, .ref bs)]) hx hb dL_law_497 hl (by decide) rfl (fun ls hl => ?_)
  refine lv_iconst (v := (nI 0)) hx hb dL_law_499 (by decide) ?_
  refine lv_istore (lv' := [(12, .int (nI 0)), (11, .int (nI 0)), (10, .int (nI (apS F n n))), (9, .int (nI (sumS F n))), (8, .int (nI (acS F lim now n))), (7, .int (nI n)), (5, .long (digS F n now lim)), (4, .int x), (3, .int (nI t)), (2, .ref (b 0)), (1, .ref (a 0)), (0, .ref bs)]) hx hb dL_law_500 hl (by decide) rfl (fun ls hl => ?_)
  have loop502 : ∀ (tk : Nat) (k : Nat) (H : Heap) (locs : List Loc) (ls : Array Slot), (k ≤ 6) → (6 - k) < tk → va_P E.1 vwCl (wC E a mc n now lim (LF F lit fo) ++ wS E b n now lim F) H → va_D A (wC E a mc n now lim (LF F lit fo) ++ wS E b n now lim F) → va_S A s.heap H locs → lv_has ls 23 [(12, .int (nI k)), (11, .int (nI (seC F n k))), (10, .int (nI (apS F n n))), (9, .int (nI (sumS F n))), (8, .int (nI (acS F lim now n))), (7, .int (nI n)), (5, .long (digS F n now lim)), (4, .int x), (3, .int (nI t)), (2, .ref (b 0)), (1, .ref (a 0)), (0, .ref bs)] → W p l e room_1 s m args below meth c H locs cc ss QQ (F0 m 502 ls []) := by
    intro tk
    induction tk with
    | zero => intro k H locs ls hk hk hP hD hS hl; exact absurd hk (Nat.not_lt_zero _)
    | succ tk ih502 =>
      intro k H locs ls hk hk hP hD hS hl
      have hse := seC_bd hO (by omega) k
      refine lv_iload hx hb dL_law_502 (lv_at hl 0 rfl) ?_
      refine lv_bipush (v := (nI 6)) hx hb dL_law_504 (by decide) ?_
      refine nq_icmp_ge (tgt := 526) hx hb dL_law_506 (by decide) (by omega) (by omega) (fun h506 => ?_) (fun h506 => ?_)
      · skip
        have hac := acS_le hO lim now n (Nat.le_refl _)
        have hsu := sumS_bd hO (by omega) n (Nat.le_refl _)
        have hsu9 : n * 100000 ≤ 8 * 100000 := Nat.mul_le_mul_right _ (by omega)
        have hap := apS_le F n n
        have hap9 : n * n ≤ 8 * 8 := Nat.mul_le_mul (by omega) (by omega)
        refine lv_iload hx hb dL_law_526 (lv_at hl 4 rfl) ?_
        refine lv_aload_n hx hb dL_law_528 rfl (lv_at hl 10 rfl) ?_
        have hP0 := hP
        have hP : va_P E.1 vwCl ([] ++ (wC E a mc n now lim (LF F lit fo) ++ wS E b n now lim F)) H := hP
        have hD : va_D A ([] ++ (wC E a mc n now lim (LF F lit fo) ++ wS E b n now lim F)) := hD
        refine cmX_i (wx := []) (wy := wS E b n now lim F) (rest := [.int (nI (acS F lim now n))]) (As := []) ⟨hx, hb, hml, hown, hts⟩ (c_X1_power l E _ a mc n now lim F lit fo hO) (cwV 0 hts gL_law_X1_power rfl rfl rfl (by decide +kernel) ⟨Nat.le_of_ble_eq_true rfl, Nat.le_of_ble_eq_true rfl⟩) (va_recv hK hP0 (ci := 2) (q0 := 0) rfl (list_app wC_x)) hP hK hD hS hA rfl hl.1 rfl (Nat.le_of_ble_eq_true rfl) dL_law_529 ⟨by show cc + 0 ≤ 1064556; omega, by show ss + 0 ≤ 5907956; omega⟩ (fun r529 u529 H locs hr529 hP hD hS => ?_)
        subst hr529
        have hP : va_P E.1 vwCl (wC E a mc n now lim (LF F u529 fo) ++ wS E b n now lim F) H := hP
        have hD : va_D A (wC E a mc n now lim (LF F u529 fo) ++ wS E b n now lim F) := hD
        refine nq_icmp_ne (tgt := 570) hx hb dL_law_532 (by decide) (by omega) (by omega) (fun h532 => ?_) (fun h532 => ?_)
        · skip
          exact absurd rfl h532
        · skip
          refine lv_iload hx hb dL_law_535 (lv_at hl 4 rfl) ?_
          refine lv_aload_n hx hb dL_law_537 rfl (lv_at hl 10 rfl) ?_
          refine csV_i (rest := [.int (nI (acS F lim now n))]) (As := []) ⟨hx, hb, hml, hown, hts⟩ (c_X1_limit l E _ a n now lim F u529 fo CV_app hO) (cwV 0 hts gL_law_X1_limit rfl rfl rfl (by decide +kernel) ⟨Nat.le_of_ble_eq_true rfl, Nat.le_of_ble_eq_true rfl⟩) (va_recv hK hP (ci := 2) (q0 := 0) rfl (list_app wC_x)) hP hK rfl hl.1 rfl (Nat.le_of_ble_eq_true rfl) dL_law_538 (by show cc ≤ 1064556; omega) (by show ss ≤ 5907956; omega) (fun r538 hr538 => ?_)
          subst hr538
          refine nq_icmp_gt (tgt := 570) hx hb dL_law_541 (by decide) (by omega) (by omega) (fun h541 => ?_) (fun h541 => ?_)
          · skip
            exact absurd h541 (by have h9 := acS_lim F lim now n; omega)
          · skip
            refine lv_iload hx hb dL_law_544 (lv_at hl 2 rfl) ?_
            refine lv_aload_n hx hb dL_law_546 rfl (lv_at hl 10 rfl) ?_
            refine csV_i (rest := [.int (nI (apS F n n))]) (As := []) ⟨hx, hb, hml, hown, hts⟩ (c_X1_apart l E _ a n now lim F u529 fo CV_app hO) (cwV 0 hts gL_law_X1_apart rfl rfl rfl (by decide +kernel) ⟨Nat.le_of_ble_eq_true rfl, Nat.le_of_ble_eq_true rfl⟩) (va_recv hK hP (ci := 2) (q0 := 0) rfl (list_app wC_x)) hP hK rfl hl.1 rfl (Nat.le_of_ble_eq_true rfl) dL_law_547 (by show cc ≤ 1064556; omega) (by show ss ≤ 5907956; omega) (fun r547 hr547 => ?_)
            subst hr547
            refine nq_icmp_ne (tgt := 570) hx hb dL_law_550 (by decide) (by omega) (by omega) (fun h550 => ?_) (fun h550 => ?_)
            · skip
              exact absurd rfl h550
            · skip
              refine lv_iload hx hb dL_law_553 (lv_at hl 1 rfl) ?_
              refine lv_iload hx hb dL_law_555 (lv_at hl 3 rfl) ?_
              refine nq_icmp_ne (tgt := 570) hx hb dL_law_557 (by decide) (by omega) (by omega) (fun h557 => ?_) (fun h557 => ?_)
              · skip
                exact absurd (by rw [show k = 6 by omega]; exact seC_sum (fun i9 hi9 => by have h9 := hO4 i9 hi9; omega) n (Nat.le_refl _)) h557
              · skip
                refine lv_aload_n hx hb dL_law_560 rfl (lv_at hl 10 rfl) ?_
                have hP0 := hP
                have hP : va_P E.1 vwCl ([] ++ (wC E a mc n now lim (LF F u529 fo) ++ wS E b n now lim F)) H := hP
                have hD : va_D A ([] ++ (wC E a mc n now lim (LF F u529 fo) ++ wS E b n now lim F)) := hD
                refine cmX_l (wx := []) (wy := wS E b n now lim F) (rest := []) (As := []) ⟨hx, hb, hml, hown, hts⟩ (c_X1_digest l E _ a mc n now lim F u529 fo hO  (by omega)) (cwV 0 hts gL_law_X1_digest rfl rfl rfl (by decide +kernel) ⟨Nat.le_of_ble_eq_true rfl, Nat.le_of_ble_eq_true rfl⟩) (va_recv hK hP0 (ci := 2) (q0 := 0) rfl (list_app wC_x)) hP hK hD hS hA rfl hl.1 rfl (Nat.le_of_ble_eq_true rfl) dL_law_561 ⟨by show cc + 0 ≤ 1064556; omega, by show ss + 0 ≤ 5907956; omega⟩ (fun r561 u561 H locs hr561 hP hD hS => ?_)
                subst hr561
                have hP : va_P E.1 vwCl (wC E a mc n now lim (LF F u561.1 u561.2) ++ wS E b n now lim F) H := hP
                have hD : va_D A (wC E a mc n now lim (LF F u561.1 u561.2) ++ wS E b n now lim F) := hD
                refine lv_lload hx hb dL_law_564 (lv_at hl 6 rfl) ?_
                refine W.lcmp hx hb dL_law_566 ?_
                refine lv_if_eq (tgt := 572) hx hb dL_law_567 (by decide) (fun h567 => ?_) (fun h567 => ?_)
                · skip
                  refine lv_iload hx hb dL_law_572 (lv_at hl 7 rfl) ?_
                  refine lv_iconst (v := (nI 4)) hx hb dL_law_574 (by decide) ?_
                  refine lv_ishr hx hb dL_law_575 ?_
                  refine lv_iload hx hb dL_law_576 (lv_at hl 5 rfl) ?_
                  refine csS_i (rest := []) (As := [.int (x >>> ((nI 4) &&& 31)), .int (nI n)]) ⟨hx, hb, hml, hown, hts⟩ (c_L_below l E _ (x >>> ((nI 4) &&& 31)) n (by omega)) (va_cwS 2 hts gL_law_L_below rfl rfl rfl (by decide +kernel) ⟨Nat.le_of_ble_eq_true rfl, Nat.le_of_ble_eq_true rfl⟩) hP hK rfl hl.1 rfl (Nat.le_of_ble_eq_true rfl) dL_law_578 (by show cc ≤ 1064556; omega) (by show ss ≤ 5907956; omega) (fun r578 hr578 => ?_)
                  subst hr578
                  refine lv_istore (lv' := [(12, .int (nI (bl (x >>> ((nI 4) &&& 31)) n))), (11, .int (nI (seC F n k))), (10, .int (nI (apS F n n))), (9, .int (nI (sumS F n))), (8, .int (nI (acS F lim now n))), (7, .int (nI n)), (5, .long (digS F n now lim)), (4, .int x), (3, .int (nI t)), (2, .ref (b 0)), (1, .ref (a 0)), (0, .ref bs)]) hx hb dL_law_581 hl (by decide) rfl (fun ls hl => ?_)
                  have hbk := bl_lt (v := x >>> (nI 4 &&& 31)) (k := n) (by omega)
                  obtain ⟨kl, ekl⟩ : ∃ z9, z9 = bl (x >>> (nI 4 &&& 31)) n := ⟨_, rfl⟩
                  have hl : lv_has ls 23 [(12, .int (nI kl)), (11, .int (nI (seC F n k))), (10, .int (nI (apS F n n))), (9, .int (nI (sumS F n))), (8, .int (nI (acS F lim now n))), (7, .int (nI n)), (5, .long (digS F n now lim)), (4, .int x), (3, .int (nI t)), (2, .ref (b 0)), (1, .ref (a 0)), (0, .ref bs)] := lv_rep hl 0 rfl (congrArg Value.int (show (nI (bl (x >>> ((nI 4) &&& 31)) n)) = (nI kl) from congrArg nI ekl.symm))
                  have hk : kl < n := by omega
                  have hk9 := hO4 kl hk
                  refine lv_aload_n hx hb dL_law_583 rfl (lv_at hl 10 rfl) ?_
                  refine lv_iload hx hb dL_law_584 (lv_at hl 0 rfl) ?_
                  refine csV_i (rest := []) (As := [.int (nI kl)]) ⟨hx, hb, hml, hown, hts⟩ (c_X1_meets l E _ a n now lim F u561.1 u561.2 CV_app hO (wC_inj (va_Dl hD)) kl (by omega)) (cwV 1 hts gL_law_X1_meets rfl rfl rfl (by decide +kernel) ⟨Nat.le_of_ble_eq_true rfl, Nat.le_of_ble_eq_true rfl⟩) (va_recv hK hP (ci := 2) (q0 := 0) rfl (list_app wC_x)) hP hK rfl hl.1 rfl (Nat.le_of_ble_eq_true rfl) dL_law_586 (by show cc ≤ 1064556; omega) (by show ss ≤ 5907956; omega) (fun r586 hr586 => ?_)
                  subst hr586
                  refine lv_istore (lv' := [(13, .int (nI (mtS F kl (F kl 3 : Int) n))), (12, .int (nI kl)), (11, .int (nI (seC F n k))), (10, .int (nI (apS F n n))), (9, .int (nI (sumS F n))), (8, .int (nI (acS F lim now n))), (7, .int (nI n)), (5, .long (digS F n now lim)), (4, .int x), (3, .int (nI t)), (2, .ref (b 0)), (1, .ref (a 0)), (0, .ref bs)]) hx hb dL_law_589 hl (by decide) rfl (fun ls hl => ?_)
                  refine lv_aload_n hx hb dL_law_591 rfl (lv_at hl 11 rfl) ?_
                  refine lv_iload hx hb dL_law_592 (lv_at hl 1 rfl) ?_
                  refine csV_i (rest := []) (As := [.int (nI kl)]) ⟨hx, hb, hml, hown, hts⟩ (c_X1_shiftOf l E _ a n now lim F u561.1 u561.2 CV_app hO kl (by omega)) (cwV 1 hts gL_law_X1_shiftOf rfl rfl rfl (by decide +kernel) ⟨Nat.le_of_ble_eq_true rfl, Nat.le_of_ble_eq_true rfl⟩) (va_recv hK hP (ci := 2) (q0 := 0) rfl (list_app wC_x)) hP hK rfl hl.1 rfl (Nat.le_of_ble_eq_true rfl) dL_law_594 (by show cc ≤ 1064556; omega) (by show ss ≤ 5907956; omega) (fun r594 hr594 => ?_)
                  subst hr594
                  refine lv_istore (lv' := [(14, .int (nI (F kl 3))), (13, .int (nI (mtS F kl (F kl 3 : Int) n))), (12, .int (nI kl)), (11, .int (nI (seC F n k))), (10, .int (nI (apS F n n))), (9, .int (nI (sumS F n))), (8, .int (nI (acS F lim now n))), (7, .int (nI n)), (5, .long (digS F n now lim)), (4, .int x), (3, .int (nI t)), (2, .ref (b 0)), (1, .ref (a 0)), (0, .ref bs)]) hx hb dL_law_597 hl (by decide) rfl (fun ls hl => ?_)
                  refine lv_aload_n hx hb dL_law_599 rfl (lv_at hl 12 rfl) ?_
                  refine lv_iload hx hb dL_law_600 (lv_at hl 2 rfl) ?_
                  refine csV_i (rest := []) (As := [.int (nI kl)]) ⟨hx, hb, hml, hown, hts⟩ (c_X1_bestShift l E _ a n now lim F u561.1 u561.2 CV_app hO (wC_inj (va_Dl hD)) kl (by omega)) (cwV 1 hts gL_law_X1_bestShift rfl rfl rfl (by decide +kernel) ⟨Nat.le_of_ble_eq_true rfl, Nat.le_of_ble_eq_true rfl⟩) (va_recv hK hP (ci := 2) (q0 := 0) rfl (list_app wC_x)) hP hK rfl hl.1 rfl (Nat.le_of_ble_eq_true rfl) dL_law_602 (by show cc ≤ 1064556; omega) (by show ss ≤ 5907956; omega) (fun r602 hr602 => ?_)
                  subst hr602
                  refine lv_istore (lv' := [(15, .int (nI (bestS F n kl (F kl 0 - 1)))), (14, .int (nI (F kl 3))), (13, .int (nI (mtS F kl (F kl 3 : Int) n))), (12, .int (nI kl)), (11, .int (nI (seC F n k))), (10, .int (nI (apS F n n))), (9, .int (nI (sumS F n))), (8, .int (nI (acS F lim now n))), (7, .int (nI n)), (5, .long (digS F n now lim)), (4, .int x), (3, .int (nI t)), (2, .ref (b 0)), (1, .ref (a 0)), (0, .ref bs)]) hx hb dL_law_605 hl (by decide) rfl (fun ls hl => ?_)
                  have hbb := bestS_le F n kl (F kl 0 - 1)
                  have hbm := best_min F n kl (F kl 0 - 1) (F kl 3) (by omega)
                  have hm1 := mtS_le F kl (F kl 3 : Int) n
                  obtain ⟨bv, ebv⟩ : ∃ z9, z9 = bestS F n kl (F kl 0 - 1) := ⟨_, rfl⟩
                  have hl : lv_has ls 23 [(15, .int (nI bv)), (14, .int (nI (F kl 3))), (13, .int (nI (mtS F kl (F kl 3 : Int) n))), (12, .int (nI kl)), (11, .int (nI (seC F n k))), (10, .int (nI (apS F n n))), (9, .int (nI (sumS F n))), (8, .int (nI (acS F lim now n))), (7, .int (nI n)), (5, .long (digS F n now lim)), (4, .int x), (3, .int (nI t)), (2, .ref (b 0)), (1, .ref (a 0)), (0, .ref bs)] := lv_rep hl 0 rfl (congrArg Value.int (show (nI (bestS F n kl (F kl 0 - 1))) = (nI bv) from congrArg nI ebv.symm))
                  rw [← ebv] at hbm hbb
                  have hm2 := mtS_le F kl (bv : Int) n
                  refine lv_aload_n hx hb dL_law_607 rfl (lv_at hl 13 rfl) ?_
                  refine lv_iload hx hb dL_law_608 (lv_at hl 3 rfl) ?_
                  refine lv_iload hx hb dL_law_610 (lv_at hl 0 rfl) ?_
                  have hP0 := hP
                  have hP : va_P E.1 vwCl ([] ++ (wC E a mc n now lim (LF F u561.1 u561.2) ++ wS E b n now lim F)) H := hP
                  have hD : va_D A ([] ++ (wC E a mc n now lim (LF F u561.1 u561.2) ++ wS E b n now lim F)) := hD
                  refine cmX_i (wx := []) (wy := wS E b n now lim F) (rest := []) (As := [.int (nI kl), .int (nI bv)]) ⟨hx, hb, hml, hown, hts⟩ (c_X1_setShift l E _ a mc n now lim F u561.1 u561.2 hO kl bv (by omega) (by omega)) (cwV 2 hts gL_law_X1_setShift rfl rfl rfl (by decide +kernel) ⟨Nat.le_of_ble_eq_true rfl, Nat.le_of_ble_eq_true rfl⟩) (va_recv hK hP0 (ci := 2) (q0 := 0) rfl (list_app wC_x)) hP hK hD hS hA rfl hl.1 rfl (Nat.le_of_ble_eq_true rfl) dL_law_612 ⟨by show cc + 0 ≤ 1064556; omega, by show ss + 0 ≤ 5907956; omega⟩ (fun r612 u612 H locs hr612 hP hD hS => ?_)
                  subst hr612
                  have hP : va_P E.1 vwCl (wC E a mc n now lim (LF (up2 F kl 3 bv) u561.1 u561.2) ++ wS E b n now lim F) H := hP
                  have hD : va_D A (wC E a mc n now lim (LF (up2 F kl 3 bv) u561.1 u561.2) ++ wS E b n now lim F) := hD
                  skip
                  refine lv_iload hx hb dL_law_615 (lv_at hl 1 rfl) ?_
                  refine nq_icmp_ne (tgt := 672) hx hb dL_law_617 (by decide) (by omega) (by omega) (fun h617 => ?_) (fun h617 => ?_)
                  · skip
                    exact absurd rfl h617
                  · skip
                    refine lv_aload_n hx hb dL_law_620 rfl (lv_at hl 13 rfl) ?_
                    refine lv_iload hx hb dL_law_621 (lv_at hl 3 rfl) ?_
                    refine csV_i (rest := []) (As := [.int (nI kl)]) ⟨hx, hb, hml, hown, hts⟩ (c_X1_meets l E _ a n now lim (up2 F kl 3 bv) u561.1 u561.2 CV_app (ok_3 hO hk (by omega)) (wC_inj (va_Dl hD)) kl (by omega)) (cwV 1 hts gL_law_X1_meets rfl rfl rfl (by decide +kernel) ⟨Nat.le_of_ble_eq_true rfl, Nat.le_of_ble_eq_true rfl⟩) (va_recv hK hP (ci := 2) (q0 := 0) rfl (list_app wC_x)) hP hK rfl hl.1 rfl (Nat.le_of_ble_eq_true rfl) dL_law_623 (by show cc ≤ 1064556; omega) (by show ss ≤ 5907956; omega) (fun r623 hr623 => ?_)
                    subst hr623
                    refine nq_top (show (nI (mtS (up2 F kl 3 bv) kl ((up2 F kl 3 bv) kl 3 : Int) n)) = (nI (mtS F kl (bv : Int) n)) from congrArg nI (by rw [up_3, mt_up])) ?_
                    refine lv_iload hx hb dL_law_626 (lv_at hl 2 rfl) ?_
                    refine nq_icmp_gt (tgt := 672) hx hb dL_law_628 (by decide) (by omega) (by omega) (fun h628 => ?_) (fun h628 => ?_)
                    · skip
                      exact absurd h628 (by omega)
                    · skip
                      have join649 : ∀ (lt : Nat → Bool) (f9 : Nat → Nat) (H : Heap) (locs : List Loc) (ls : Array Slot), va_P E.1 vwCl (wC E a mc n now lim (LF (up2 F kl 3 bv) lt f9) ++ wS E b n now lim F) H → va_D A (wC E a mc n now lim (LF (up2 F kl 3 bv) lt f9) ++ wS E b n now lim F) → va_S A s.heap H locs → lv_has ls 23 [(15, .int (nI bv)), (14, .int (nI (F kl 3))), (13, .int (nI (mtS F kl (F kl 3 : Int) n))), (12, .int (nI kl)), (11, .int (nI (seC F n k))), (10, .int (nI (apS F n n))), (9, .int (nI (sumS F n))), (8, .int (nI (acS F lim now n))), (7, .int (nI n)), (5, .long (digS F n now lim)), (4, .int x), (3, .int (nI t)), (2, .ref (b 0)), (1, .ref (a 0)), (0, .ref bs)] → W p l e room_1 s m args below meth c H locs cc ss QQ (F0 m 649 ls []) := by
                        intro lt f9 H locs ls hP hD hS hl
                        refine lv_aload_n hx hb dL_law_649 rfl (lv_at hl 13 rfl) ?_
                        refine lv_iload hx hb dL_law_650 (lv_at hl 3 rfl) ?_
                        refine lv_iload hx hb dL_law_652 (lv_at hl 1 rfl) ?_
                        have hP0 := hP
                        have hP : va_P E.1 vwCl ([] ++ (wC E a mc n now lim (LF (up2 F kl 3 bv) lt f9) ++ wS E b n now lim F)) H := hP
                        have hD : va_D A ([] ++ (wC E a mc n now lim (LF (up2 F kl 3 bv) lt f9) ++ wS E b n now lim F)) := hD
                        refine cmX_i (wx := []) (wy := wS E b n now lim F) (rest := []) (As := [.int (nI kl), .int (nI (F kl 3))]) ⟨hx, hb, hml, hown, hts⟩ (c_X1_setShift l E _ a mc n now lim (up2 F kl 3 bv) lt f9 (ok_3 hO hk (by omega)) kl (F kl 3) (by omega) (by rw [show up2 F kl 3 bv kl 0 = F kl 0 by simp [up2]]; omega)) (cwV 2 hts gL_law_X1_setShift rfl rfl rfl (by decide +kernel) ⟨Nat.le_of_ble_eq_true rfl, Nat.le_of_ble_eq_true rfl⟩) (va_recv hK hP0 (ci := 2) (q0 := 0) rfl (list_app wC_x)) hP hK hD hS hA rfl hl.1 rfl (Nat.le_of_ble_eq_true rfl) dL_law_654 ⟨by show cc + 0 ≤ 1064556; omega, by show ss + 0 ≤ 5907956; omega⟩ (fun r654 u654 H locs hr654 hP hD hS => ?_)
                        subst hr654
                        have hP : va_P E.1 vwCl (wC E a mc n now lim (LF (up2 (up2 F kl 3 bv) kl 3 (F kl 3)) lt f9) ++ wS E b n now lim F) H := hP
                        have hD : va_D A (wC E a mc n now lim (LF (up2 (up2 F kl 3 bv) kl 3 (F kl 3)) lt f9) ++ wS E b n now lim F) := hD
                        rw [up_back] at hP hD
                        have hP : va_P E.1 vwCl (wC E a mc n now lim (LF F lt f9) ++ wS E b n now lim F) _ := hP
                        have hD : va_D A (wC E a mc n now lim (LF F lt f9) ++ wS E b n now lim F) := hD
                        skip
                        refine nq_top (show (nI ((up2 F kl 3 bv) kl 3)) = (nI bv) from congrArg nI (up_3 F kl bv)) ?_
                        refine lv_iload hx hb dL_law_657 (lv_at hl 0 rfl) ?_
                        refine nq_icmp_ne (tgt := 672) hx hb dL_law_659 (by decide) (by omega) (by omega) (fun h659 => ?_) (fun h659 => ?_)
                        · skip
                          exact absurd rfl h659
                        · skip
                          refine lv_aload_n hx hb dL_law_662 rfl (lv_at hl 13 rfl) ?_
                          have hP0 := hP
                          have hP : va_P E.1 vwCl ([] ++ (wC E a mc n now lim (LF F lt f9) ++ wS E b n now lim F)) H := hP
                          have hD : va_D A ([] ++ (wC E a mc n now lim (LF F lt f9) ++ wS E b n now lim F)) := hD
                          refine cmX_l (wx := []) (wy := wS E b n now lim F) (rest := []) (As := []) ⟨hx, hb, hml, hown, hts⟩ (c_X1_digest l E _ a mc n now lim F lt f9 hO  (by omega)) (cwV 0 hts gL_law_X1_digest rfl rfl rfl (by decide +kernel) ⟨Nat.le_of_ble_eq_true rfl, Nat.le_of_ble_eq_true rfl⟩) (va_recv hK hP0 (ci := 2) (q0 := 0) rfl (list_app wC_x)) hP hK hD hS hA rfl hl.1 rfl (Nat.le_of_ble_eq_true rfl) dL_law_663 ⟨by show cc + 0 ≤ 1064556; omega, by show ss + 0 ≤ 5907956; omega⟩ (fun r663 u663 H locs hr663 hP hD hS => ?_)
                          subst hr663
                          have hP : va_P E.1 vwCl (wC E a mc n now lim (LF F u663.1 u663.2) ++ wS E b n now lim F) H := hP
                          have hD : va_D A (wC E a mc n now lim (LF F u663.1 u663.2) ++ wS E b n now lim F) := hD
                          refine lv_lload hx hb dL_law_666 (lv_at hl 9 rfl) ?_
                          refine W.lcmp hx hb dL_law_668 ?_
                          refine lv_if_eq (tgt := 674) hx hb dL_law_669 (by decide) (fun h669 => ?_) (fun h669 => ?_)
                          · skip
                            refine W.widen (k := cc) (n := ss) (by omega) (by omega) ?_
                            exact join674 u663.1 u663.2 _ _ ls hP hD hS (lv_sub hl [8, 10, 11, 12, 13, 14] rfl)
                          · skip
                            exact absurd (lg_self _) h669
                      refine lv_aload_n hx hb dL_law_631 rfl (lv_at hl 13 rfl) ?_
                      refine lv_iload hx hb dL_law_632 (lv_at hl 3 rfl) ?_
                      refine csV_i (rest := []) (As := [.int (nI kl)]) ⟨hx, hb, hml, hown, hts⟩ (c_X1_meets l E _ a n now lim (up2 F kl 3 bv) u561.1 u561.2 CV_app (ok_3 hO hk (by omega)) (wC_inj (va_Dl hD)) kl (by omega)) (cwV 1 hts gL_law_X1_meets rfl rfl rfl (by decide +kernel) ⟨Nat.le_of_ble_eq_true rfl, Nat.le_of_ble_eq_true rfl⟩) (va_recv hK hP (ci := 2) (q0 := 0) rfl (list_app wC_x)) hP hK rfl hl.1 rfl (Nat.le_of_ble_eq_true rfl) dL_law_634 (by show cc ≤ 1064556; omega) (by show ss ≤ 5907956; omega) (fun r634 hr634 => ?_)
                      subst hr634
                      refine nq_top (show (nI (mtS (up2 F kl 3 bv) kl ((up2 F kl 3 bv) kl 3 : Int) n)) = (nI (mtS F kl (bv : Int) n)) from congrArg nI (by rw [up_3, mt_up])) ?_
                      refine lv_iload hx hb dL_law_637 (lv_at hl 2 rfl) ?_
                      refine nq_icmp_ne (tgt := 649) hx hb dL_law_639 (by decide) (by omega) (by omega) (fun h639 => ?_) (fun h639 => ?_)
                      · skip
                        exact join649 u561.1 u561.2 _ _ ls hP hD hS (lv_sub hl [0, 1, 2, 3, 4, 5, 6, 7, 8, 9, 10, 11, 12, 13, 14] rfl)
                      · skip
                        refine lv_iload hx hb dL_law_642 (lv_at hl 0 rfl) ?_
                        refine lv_iload hx hb dL_law_644 (lv_at hl 1 rfl) ?_
                        refine nq_icmp_gt (tgt := 672) hx hb dL_law_646 (by decide) (by omega) (by omega) (fun h646 => ?_) (fun h646 => ?_)
                        · skip
                          exact absurd h646 (by have h9 := hbm.2 h639.symm; omega)
                        · skip
                          exact join649 u561.1 u561.2 _ _ ls hP hD hS (lv_sub hl [0, 1, 2, 3, 4, 5, 6, 7, 8, 9, 10, 11, 12, 13, 14] rfl)
                · skip
                  exact absurd (lg_self _) h567
      · skip
        refine lv_iload hx hb dL_law_509 (lv_at hl 1 rfl) ?_
        refine lv_aload_n hx hb dL_law_511 rfl (lv_at hl 10 rfl) ?_
        refine lv_iload hx hb dL_law_512 (lv_at hl 0 rfl) ?_
        refine csV_i (rest := [.int (nI (seC F n k))]) (As := [.int (nI k)]) ⟨hx, hb, hml, hown, hts⟩ (c_X1_seen l E _ a n now lim F lit fo CV_app hO k (by omega)) (cwV 1 hts gL_law_X1_seen rfl rfl rfl (by decide +kernel) ⟨Nat.le_of_ble_eq_true rfl, Nat.le_of_ble_eq_true rfl⟩) (va_recv hK hP (ci := 2) (q0 := 0) rfl (list_app wC_x)) hP hK rfl hl.1 rfl (Nat.le_of_ble_eq_true rfl) dL_law_514 (by show cc ≤ 1064556; omega) (by show ss ≤ 5907956; omega) (fun r514 hr514 => ?_)
        subst hr514
        refine nq_add hx hb dL_law_517 ?_
        refine lv_istore (lv' := [(11, .int (nI ((seC F n k) + (seenS F k n)))), (12, .int (nI k)), (10, .int (nI (apS F n n))), (9, .int (nI (sumS F n))), (8, .int (nI (acS F lim now n))), (7, .int (nI n)), (5, .long (digS F n now lim)), (4, .int x), (3, .int (nI t)), (2, .ref (b 0)), (1, .ref (a 0)), (0, .ref bs)]) hx hb dL_law_518 hl (by decide) rfl (fun ls hl => ?_)
        refine nq_inc (lv' := [(12, .int (nI (k + 1))), (11, .int (nI ((seC F n k) + (seenS F k n)))), (10, .int (nI (apS F n n))), (9, .int (nI (sumS F n))), (8, .int (nI (acS F lim now n))), (7, .int (nI n)), (5, .long (digS F n now lim)), (4, .int x), (3, .int (nI t)), (2, .ref (b 0)), (1, .ref (a 0)), (0, .ref bs)]) hx hb dL_law_520 (d := 1) rfl hl (k := 1) rfl (by decide) rfl (fun ls hl => ?_)
        refine lv_goto (tgt := 502) hx hb dL_law_523 (by decide) ?_
        have hl : lv_has ls 23 [(12, .int (nI (k + 1))), (11, .int (nI (seC F n (k + 1)))), (10, .int (nI (apS F n n))), (9, .int (nI (sumS F n))), (8, .int (nI (acS F lim now n))), (7, .int (nI n)), (5, .long (digS F n now lim)), (4, .int x), (3, .int (nI t)), (2, .ref (b 0)), (1, .ref (a 0)), (0, .ref bs)] := lv_rep hl 1 rfl (congrArg Value.int (show (nI ((seC F n k) + (seenS F k n))) = (nI (seC F n (k + 1))) from rfl))
        exact ih502 (k + 1) _ _ ls (by omega) (by omega) hP hD hS (lv_sub hl [0, 1, 2, 3, 4, 5, 6, 7, 8, 9, 10, 11] rfl)
  have hl : lv_has ls 23 [(12, .int (nI 0)), (11, .int (nI (seC F n 0))), (10, .int (nI (apS F n n))), (9, .int (nI (sumS F n))), (8, .int (nI (acS F lim now n))), (7, .int (nI n)), (5, .long (digS F n now lim)), (4, .int x), (3, .int (nI t)), (2, .ref (b 0)), (1, .ref (a 0)), (0, .ref bs)] := lv_rep hl 1 rfl (congrArg Value.int (show (nI 0) = (nI (seC F n 0)) from rfl))
  exact loop502 ((6 - 0) + 1) 0 _ _ ls (by omega) (Nat.lt_succ_self _) hP hD hS (lv_sub hl [0, 1, 2, 3, 4, 5, 6, 7, 8, 9, 10, 11] rfl)

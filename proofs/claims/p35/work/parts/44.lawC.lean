/-! the law, in pieces: beats go by; the limit that is wanted -/
set_option maxHeartbeats 8000000 in
set_option maxRecDepth 100000 in
theorem law_D {p : Program} {l : Launch} {e : Env} {s : State} {m : MethodId} {args : Array Value} {below : List Frame} {meth : Method} {c : Code} {E : GE} {A : Nat → Prop} {z0 bs L : Nat} {xs : Nat → Int32} {QQ : State → Prop} (CC : LC p s m args c E A z0 bs L xs) (hL : L ≤ 260) (a : Nat → Nat) (mc : Int32) (n now lim : Nat) (F : LR) (lit : Nat → Bool) (fo : Nat → Nat) (b : Nat → Nat) (hO : OkS n now lim F) (h2n : 2 ≤ n) (hnow : now ≤ 80000) (t : Nat) (ht : t < 7) (x : Int32) (cc ss : Nat) (hcc : cc + 1200 ≤ 1064556) (hss : ss + 9700 ≤ 5907956) (join867 : ∀ (lt : Nat → Bool) (f9 : Nat → Nat) (t9 : Nat) (H : Heap) (locs : List Loc) (ls : Array Slot), (1 ≤ t9 ∧ t9 ≤ 40) → va_P E.1 vwCl (wC E a mc n (now + t9) lim (LF (passF F lim now n t9) lt f9) ++ wS E b n (now + t9) lim (passF F lim now n t9)) H → va_D A (wC E a mc n (now + t9) lim (LF (passF F lim now n t9) lt f9) ++ wS E b n (now + t9) lim (passF F lim now n t9)) → va_S A s.heap H locs → lv_has ls 23 [(7, .int (nI n)), (4, .int x), (3, .int (nI t)), (2, .ref (b 0)), (1, .ref (a 0)), (0, .ref bs)] → W p l e room_1 s m args below meth c H locs (cc + 201) (ss + 1608) QQ (F0 m 867 ls [])) (H : Heap) (locs : List Loc) (ls : Array Slot) (hP : va_P E.1 vwCl (wC E a mc n now lim (LF F lit fo) ++ wS E b n now lim F) H) (hD : va_D A (wC E a mc n now lim (LF F lit fo) ++ wS E b n now lim F)) (hS : va_S A s.heap H locs) (hl : lv_has ls 23 [(7, .int (nI n)), (4, .int x), (3, .int (nI t)), (2, .ref (b 0)), (1, .ref (a 0)), (0, .ref bs)]) : W p l e room_1 s m args below meth c H locs cc ss QQ (F0 m 674 ls []) := by
  obtain ⟨hx, hb, hml, hown, hts, hK, hZ, hA, hbs, hX, hN⟩ := CC
  have hiX2 : ∀ q ∈ wsX20, q ∈ wsL_law := inlX2
  obtain ⟨hO1, hO2, hO3, hO4, hO5⟩ := id hO
  refine lv_iconst (v := (nI 1)) hx hb dL_law_674 (by decide) ?_
  refine lv_iload hx hb dL_law_675 (lv_at hl 1 rfl) ?_
  refine lv_iconst (v := (nI 5)) hx hb dL_law_677 (by decide) ?_
  refine lv_ishr hx hb dL_law_678 ?_
  refine lv_bipush (v := (nI 40)) hx hb dL_law_679 (by decide) ?_
  refine csS_i (rest := [.int (nI 1)]) (As := [.int (x >>> ((nI 5) &&& 31)), .int (nI 40)]) ⟨hx, hb, hml, hown, hts⟩ (c_L_below l E _ (x >>> ((nI 5) &&& 31)) 40 (by omega)) (va_cwS 2 hts gL_law_L_below rfl rfl rfl (by decide +kernel) ⟨Nat.le_of_ble_eq_true rfl, Nat.le_of_ble_eq_true rfl⟩) hP hK rfl hl.1 rfl (Nat.le_of_ble_eq_true rfl) dL_law_681 (by show cc ≤ 1064556; omega) (by show ss ≤ 5907956; omega) (fun r681 hr681 => ?_)
  subst hr681
  refine nq_add hx hb dL_law_684 ?_
  refine lv_istore (lv' := [(16, .int (nI (1 + (bl (x >>> ((nI 5) &&& 31)) 40)))), (7, .int (nI n)), (4, .int x), (3, .int (nI t)), (2, .ref (b 0)), (1, .ref (a 0)), (0, .ref bs)]) hx hb dL_law_685 hl (by decide) rfl (fun ls hl => ?_)
  have hbt := bl_lt (v := x >>> (nI 5 &&& 31)) (k := 40) (by omega)
  obtain ⟨t9, et9⟩ : ∃ z9, z9 = 1 + bl (x >>> (nI 5 &&& 31)) 40 := ⟨_, rfl⟩
  have hl : lv_has ls 23 [(16, .int (nI t9)), (7, .int (nI n)), (4, .int x), (3, .int (nI t)), (2, .ref (b 0)), (1, .ref (a 0)), (0, .ref bs)] := lv_rep hl 0 rfl (congrArg Value.int (show (nI (1 + (bl (x >>> ((nI 5) &&& 31)) 40))) = (nI t9) from congrArg nI et9.symm))
  have ht9 : 1 ≤ t9 ∧ t9 ≤ 40 := by omega
  have hmD := mxD_le hO now t9
  have hmA := mxA_le hO lim now t9
  have hpD := passD_le F lim now n t9
  have hpd := passD_0 F lim now n t9
  refine lv_aload_n hx hb dL_law_687 rfl (lv_at hl 5 rfl) ?_
  refine lv_iload hx hb dL_law_688 (lv_at hl 0 rfl) ?_
  refine csV_i (rest := []) (As := [.int (nI t9)]) ⟨hx, hb, hml, hown, hts⟩ (c_X1_limitWanted l E _ a n now lim F lit fo CV_app hO t9 (by omega)) (cwV 1 hts gL_law_X1_limitWanted rfl rfl rfl (by decide +kernel) ⟨Nat.le_of_ble_eq_true rfl, Nat.le_of_ble_eq_true rfl⟩) (va_recv hK hP (ci := 2) (q0 := 0) rfl (list_app wC_x)) hP hK rfl hl.1 rfl (Nat.le_of_ble_eq_true rfl) dL_law_690 (by show cc ≤ 1064556; omega) (by show ss ≤ 5907956; omega) (fun r690 hr690 => ?_)
  subst hr690
  refine lv_istore (lv' := [(17, .int (nI (mxD F now n t9))), (16, .int (nI t9)), (7, .int (nI n)), (4, .int x), (3, .int (nI t)), (2, .ref (b 0)), (1, .ref (a 0)), (0, .ref bs)]) hx hb dL_law_693 hl (by decide) rfl (fun ls hl => ?_)
  refine lv_aload_n hx hb dL_law_695 rfl (lv_at hl 6 rfl) ?_
  refine lv_iload hx hb dL_law_696 (lv_at hl 1 rfl) ?_
  have hP0 := hP
  have hP : va_P E.1 vwCl ([] ++ (wC E a mc n now lim (LF F lit fo) ++ wS E b n now lim F)) H := hP
  have hD : va_D A ([] ++ (wC E a mc n now lim (LF F lit fo) ++ wS E b n now lim F)) := hD
  refine cmX_i (wx := []) (wy := wS E b n now lim F) (rest := []) (As := [.int (nI t9)]) ⟨hx, hb, hml, hown, hts⟩ (c_X1_brightest l E _ a mc n now lim F lit fo hO t9 (by omega)) (cwV 1 hts gL_law_X1_brightest rfl rfl rfl (by decide +kernel) ⟨Nat.le_of_ble_eq_true rfl, Nat.le_of_ble_eq_true rfl⟩) (va_recv hK hP0 (ci := 2) (q0 := 0) rfl (list_app wC_x)) hP hK hD hS hA rfl hl.1 rfl (Nat.le_of_ble_eq_true rfl) dL_law_698 ⟨by show cc + 0 ≤ 1064556; omega, by show ss + 0 ≤ 5907956; omega⟩ (fun r698 u698 H locs hr698 hP hD hS => ?_)
  subst hr698
  have hP : va_P E.1 vwCl (wC E a mc n now lim (LF F u698 fo) ++ wS E b n now lim F) H := hP
  have hD : va_D A (wC E a mc n now lim (LF F u698 fo) ++ wS E b n now lim F) := hD
  refine lv_istore (lv' := [(18, .int (nI (mxA F lim now n t9))), (17, .int (nI (mxD F now n t9))), (16, .int (nI t9)), (7, .int (nI n)), (4, .int x), (3, .int (nI t)), (2, .ref (b 0)), (1, .ref (a 0)), (0, .ref bs)]) hx hb dL_law_701 hl (by decide) rfl (fun ls hl => ?_)
  refine lv_iload hx hb dL_law_703 (lv_at hl 3 rfl) ?_
  refine nq_newa (atype := .int) (N := n) hx hb (hts (.arrayClass .int) (List.mem_of_getElem? (i := 4) (by rfl))) rfl hK hP hD hS hA (by omega) (by show cc + 1 ≤ 1064556; omega) (by show ss + n ≤ 5907956; omega) dL_law_705 (fun q705 H hP hD hS => ?_)
  rw [List.append_assoc, duF_0 F now t9] at hP hD
  have hP : va_P E.1 vwCl (wC E a mc n now lim (LF F u698 fo) ++ (wS E b n now lim F ++ [(q705, .inl (E.2.1, n, .inl (duF F now t9 0)))])) _ := hP
  have hD : va_D A (wC E a mc n now lim (LF F u698 fo) ++ (wS E b n now lim F ++ [(q705, .inl (E.2.1, n, .inl (duF F now t9 0)))])) := hD
  refine lv_astore (lv' := [(19, .ref q705), (18, .int (nI (mxA F lim now n t9))), (17, .int (nI (mxD F now n t9))), (16, .int (nI t9)), (7, .int (nI n)), (4, .int x), (3, .int (nI t)), (2, .ref (b 0)), (1, .ref (a 0)), (0, .ref bs)]) hx hb dL_law_707 hl (by decide) rfl (fun ls hl => ?_)
  refine lv_iconst (v := (nI 0)) hx hb dL_law_709 (by decide) ?_
  refine lv_istore (lv' := [(20, .int (nI 0)), (19, .ref q705), (18, .int (nI (mxA F lim now n t9))), (17, .int (nI (mxD F now n t9))), (16, .int (nI t9)), (7, .int (nI n)), (4, .int x), (3, .int (nI t)), (2, .ref (b 0)), (1, .ref (a 0)), (0, .ref bs)]) hx hb dL_law_710 hl (by decide) rfl (fun ls hl => ?_)
  have loop712 : ∀ (tk : Nat) (i : Nat) (H : Heap) (locs : List Loc) (ls : Array Slot), (i ≤ n) → (n - i) < tk → va_P E.1 vwCl (wC E a mc n now lim (LF F u698 fo) ++ (wS E b n now lim F ++ [(q705, .inl (E.2.1, n, .inl (duF F now t9 i)))])) H → va_D A (wC E a mc n now lim (LF F u698 fo) ++ (wS E b n now lim F ++ [(q705, .inl (E.2.1, n, .inl (duF F now t9 i)))])) → va_S A s.heap H locs → lv_has ls 23 [(20, .int (nI i)), (19, .ref q705), (18, .int (nI (mxA F lim now n t9))), (17, .int (nI (mxD F now n t9))), (16, .int (nI t9)), (7, .int (nI n)), (4, .int x), (3, .int (nI t)), (2, .ref (b 0)), (1, .ref (a 0)), (0, .ref bs)] → W p l e room_1 s m args below meth c H locs (cc + 1) (ss + n) QQ (F0 m 712 ls []) := by
    intro tk
    induction tk with
    | zero => intro i H locs ls hi hk hP hD hS hl; exact absurd hk (Nat.not_lt_zero _)
    | succ tk ih712 =>
      intro i H locs ls hi hk hP hD hS hl
      refine lv_iload hx hb dL_law_712 (lv_at hl 0 rfl) ?_
      refine lv_iload hx hb dL_law_714 (lv_at hl 5 rfl) ?_
      refine nq_icmp_ge (tgt := 752) hx hb dL_law_716 (by decide) (by omega) (by omega) (fun h716 => ?_) (fun h716 => ?_)
      · skip
        have ein : i = n := by omega
        rw [ein] at hP hD
        have hP : va_P E.1 vwCl (wC E a mc n now lim (LF F u698 fo) ++ (wS E b n now lim F ++ [(q705, .inl (E.2.1, n, .inl (duF F now t9 n)))])) _ := hP
        have hD : va_D A (wC E a mc n now lim (LF F u698 fo) ++ (wS E b n now lim F ++ [(q705, .inl (E.2.1, n, .inl (duF F now t9 n)))])) := hD
        skip
        refine lv_aload_n hx hb dL_law_752 rfl (lv_at hl 9 rfl) ?_
        refine lv_iload hx hb dL_law_753 (lv_at hl 4 rfl) ?_
        have hP0 := hP
        have hP : va_P E.1 vwCl ([] ++ (wC E a mc n now lim (LF F u698 fo) ++ (wS E b n now lim F ++ [(q705, .inl (E.2.1, n, .inl (duF F now t9 n)))]))) H := hP
        have hD : va_D A ([] ++ (wC E a mc n now lim (LF F u698 fo) ++ (wS E b n now lim F ++ [(q705, .inl (E.2.1, n, .inl (duF F now t9 n)))]))) := hD
        refine cmX_i (wx := []) (wy := (wS E b n now lim F ++ [(q705, .inl (E.2.1, n, .inl (duF F now t9 n)))])) (rest := []) (As := [.int (nI t9)]) ⟨hx, hb, hml, hown, hts⟩ (c_X1_pass l E _ a mc n now lim F u698 fo hO t9 (by omega) (by omega)) (cwV 1 hts gL_law_X1_pass rfl rfl rfl (by decide +kernel) ⟨Nat.le_of_ble_eq_true rfl, Nat.le_of_ble_eq_true rfl⟩) (va_recv hK hP0 (ci := 2) (q0 := 0) rfl (list_app wC_x)) hP hK hD hS hA rfl hl.1 rfl (Nat.le_of_ble_eq_true rfl) dL_law_755 ⟨by show (cc + 1) + 0 ≤ 1064556; omega, by show (ss + n) + 0 ≤ 5907956; omega⟩ (fun r755 u755 H locs hr755 hP hD hS => ?_)
        subst hr755
        have hP : va_P E.1 vwCl (wC E a mc n (now + t9) lim (LF (passF F lim now n t9) u755 fo) ++ (wS E b n now lim F ++ [(q705, .inl (E.2.1, n, .inl (duF F now t9 n)))])) H := hP
        have hD : va_D A (wC E a mc n (now + t9) lim (LF (passF F lim now n t9) u755 fo) ++ (wS E b n now lim F ++ [(q705, .inl (E.2.1, n, .inl (duF F now t9 n)))])) := hD
        skip
        refine lv_istore (lv' := [(20, .int (nI (passD F lim now n t9))), (19, .ref q705), (18, .int (nI (mxA F lim now n t9))), (17, .int (nI (mxD F now n t9))), (16, .int (nI t9)), (7, .int (nI n)), (4, .int x), (3, .int (nI t)), (2, .ref (b 0)), (1, .ref (a 0)), (0, .ref bs)]) hx hb dL_law_758 hl (by decide) rfl (fun ls hl => ?_)
        refine lv_iload hx hb dL_law_760 (lv_at hl 0 rfl) ?_
        refine lv_aload_n hx hb dL_law_762 rfl (lv_at hl 8 rfl) ?_
        refine lv_iload hx hb dL_law_763 (lv_at hl 4 rfl) ?_
        have hP0 := hP
        have hP : va_P E.1 vwCl ((wC E a mc n (now + t9) lim (LF (passF F lim now n t9) u755 fo)) ++ ((wS E b n now lim F) ++ ([(q705, .inl (E.2.1, n, .inl (duF F now t9 n)))]))) H := hP
        have hD : va_D A ((wC E a mc n (now + t9) lim (LF (passF F lim now n t9) u755 fo)) ++ ((wS E b n now lim F) ++ ([(q705, .inl (E.2.1, n, .inl (duF F now t9 n)))]))) := hD
        refine cmX_i (wx := (wC E a mc n (now + t9) lim (LF (passF F lim now n t9) u755 fo))) (wy := [(q705, .inl (E.2.1, n, .inl (duF F now t9 n)))]) (rest := [.int (nI (passD F lim now n t9))]) (As := [.int (nI t9)]) ⟨hx, hb, hml, hown, hts⟩ (c_X2_pass_ l E _ b n now lim F hO t9 (by omega) (by omega)) (cwV 1 hts gL_law_X2_pass_ rfl rfl rfl (by decide +kernel) ⟨Nat.le_of_ble_eq_true rfl, Nat.le_of_ble_eq_true rfl⟩) (va_recv hK hP0 (ci := 3) (q0 := _) rfl SV_mid.1) hP hK hD hS hA rfl hl.1 rfl (Nat.le_of_ble_eq_true rfl) dL_law_765 ⟨by show (cc + 1) + 200 ≤ 1064556; omega, by show (ss + n) + 1600 ≤ 5907956; omega⟩ (fun r765 u765 H locs hr765 hP hD hS => ?_)
        subst hr765
        have hP : va_P E.1 vwCl (wC E a mc n (now + t9) lim (LF (passF F lim now n t9) u755 fo) ++ (wS E b n (now + t9) lim (passF F lim now n t9) ++ [(q705, .inl (E.2.1, n, .inl (duF F now t9 n)))])) H := hP
        have hD : va_D A (wC E a mc n (now + t9) lim (LF (passF F lim now n t9) u755 fo) ++ (wS E b n (now + t9) lim (passF F lim now n t9) ++ [(q705, .inl (E.2.1, n, .inl (duF F now t9 n)))])) := hD
        refine nq_icmp_ne (tgt := 826) hx hb dL_law_768 (by decide) (by omega) (by omega) (fun h768 => ?_) (fun h768 => ?_)
        · skip
          exact absurd rfl h768
        · skip
          have join798 : ∀  (H : Heap) (locs : List Loc) (ls : Array Slot), va_P E.1 vwCl (wC E a mc n (now + t9) lim (LF (passF F lim now n t9) u755 fo) ++ (wS E b n (now + t9) lim (passF F lim now n t9) ++ [(q705, .inl (E.2.1, n, .inl (duF F now t9 n)))])) H → va_D A (wC E a mc n (now + t9) lim (LF (passF F lim now n t9) u755 fo) ++ (wS E b n (now + t9) lim (passF F lim now n t9) ++ [(q705, .inl (E.2.1, n, .inl (duF F now t9 n)))])) → va_S A s.heap H locs → lv_has ls 23 [(20, .int (nI (passD F lim now n t9))), (19, .ref q705), (18, .int (nI (mxA F lim now n t9))), (17, .int (nI (mxD F now n t9))), (16, .int (nI t9)), (7, .int (nI n)), (4, .int x), (3, .int (nI t)), (2, .ref (b 0)), (1, .ref (a 0)), (0, .ref bs)] → W p l e room_1 s m args below meth c H locs ((cc + 1) + 200) ((ss + n) + 1600) QQ (F0 m 798 ls []) := by
            intro H locs ls hP hD hS hl
            have join828 : ∀  (H : Heap) (locs : List Loc) (ls : Array Slot), va_P E.1 vwCl (wC E a mc n (now + t9) lim (LF (passF F lim now n t9) u755 fo) ++ (wS E b n (now + t9) lim (passF F lim now n t9) ++ [(q705, .inl (E.2.1, n, .inl (duF F now t9 n)))])) H → va_D A (wC E a mc n (now + t9) lim (LF (passF F lim now n t9) u755 fo) ++ (wS E b n (now + t9) lim (passF F lim now n t9) ++ [(q705, .inl (E.2.1, n, .inl (duF F now t9 n)))])) → va_S A s.heap H locs → lv_has ls 23 [(20, .int (nI (passD F lim now n t9))), (19, .ref q705), (18, .int (nI (mxA F lim now n t9))), (17, .int (nI (mxD F now n t9))), (16, .int (nI t9)), (7, .int (nI n)), (4, .int x), (3, .int (nI t)), (2, .ref (b 0)), (1, .ref (a 0)), (0, .ref bs)] → W p l e room_1 s m args below meth c H locs ((cc + 1) + 200) ((ss + n) + 1600) QQ (F0 m 828 ls []) := by
              intro H locs ls hP hD hS hl
              refine lv_iconst (v := (nI 0)) hx hb dL_law_828 (by decide) ?_
              refine lv_istore (lv' := [(21, .int (nI 0)), (20, .int (nI (passD F lim now n t9))), (19, .ref q705), (18, .int (nI (mxA F lim now n t9))), (17, .int (nI (mxD F now n t9))), (16, .int (nI t9)), (7, .int (nI n)), (4, .int x), (3, .int (nI t)), (2, .ref (b 0)), (1, .ref (a 0)), (0, .ref bs)]) hx hb dL_law_829 hl (by decide) rfl (fun ls hl => ?_)
              have loop831 : ∀ (tk : Nat) (i : Nat) (H : Heap) (locs : List Loc) (ls : Array Slot), (i ≤ n) → (n - i) < tk → va_P E.1 vwCl (wC E a mc n (now + t9) lim (LF (passF F lim now n t9) u755 fo) ++ (wS E b n (now + t9) lim (passF F lim now n t9) ++ [(q705, .inl (E.2.1, n, .inl (duF F now t9 n)))])) H → va_D A (wC E a mc n (now + t9) lim (LF (passF F lim now n t9) u755 fo) ++ (wS E b n (now + t9) lim (passF F lim now n t9) ++ [(q705, .inl (E.2.1, n, .inl (duF F now t9 n)))])) → va_S A s.heap H locs → lv_has ls 23 [(21, .int (nI i)), (19, .ref q705), (7, .int (nI n)), (4, .int x), (3, .int (nI t)), (2, .ref (b 0)), (1, .ref (a 0)), (0, .ref bs)] → W p l e room_1 s m args below meth c H locs ((cc + 1) + 200) ((ss + n) + 1600) QQ (F0 m 831 ls []) := by
                intro tk
                induction tk with
                | zero => intro i H locs ls hi hk hP hD hS hl; exact absurd hk (Nat.not_lt_zero _)
                | succ tk ih831 =>
                  intro i H locs ls hi hk hP hD hS hl
                  refine lv_iload hx hb dL_law_831 (lv_at hl 0 rfl) ?_
                  refine lv_iload hx hb dL_law_833 (lv_at hl 2 rfl) ?_
                  refine nq_icmp_ge (tgt := 867) hx hb dL_law_835 (by decide) (by omega) (by omega) (fun h835 => ?_) (fun h835 => ?_)
                  · skip
                    have hP : va_P E.1 vwCl (wC E a mc n (now + t9) lim (LF (passF F lim now n t9) u755 fo) ++ wS E b n (now + t9) lim (passF F lim now n t9)) _ := va_Pdr hP
                    have hD : va_D A (wC E a mc n (now + t9) lim (LF (passF F lim now n t9) u755 fo) ++ wS E b n (now + t9) lim (passF F lim now n t9)) := va_Ddr hD
                    skip
                    refine W.widen (k := cc + 201) (n := ss + 1608) (by omega) (by omega) ?_
                    exact join867 u755 fo t9 _ _ ls (by omega) hP hD hS (lv_sub hl [2, 3, 4, 5, 6, 7] rfl)
                  · skip
                    have hi9 := hO4 i (by omega)
                    have hp9 := (pass_ok hO t9 (by omega)).2.2.2.1 i (by omega)
                    have hq9 : passF F lim now n t9 i 5 + passF F lim now n t9 i 6 = F i 5 + F i 6 + mdS F i now t9 := (pass_56 (by omega) t9).trans (by rw [md_cnt (by omega)])
                    refine lv_aload_n hx hb dL_law_838 rfl (lv_at hl 6 rfl) ?_
                    refine lv_iload hx hb dL_law_839 (lv_at hl 0 rfl) ?_
                    refine csV_i (rest := []) (As := [.int (nI i)]) ⟨hx, hb, hml, hown, hts⟩ (c_X1_shone l E _ a n (now + t9) lim (passF F lim now n t9) u755 fo CV_app (pass_ok hO t9 (by omega)) i (by omega)) (cwV 1 hts gL_law_X1_shone rfl rfl rfl (by decide +kernel) ⟨Nat.le_of_ble_eq_true rfl, Nat.le_of_ble_eq_true rfl⟩) (va_recv hK hP (ci := 2) (q0 := 0) rfl (list_app wC_x)) hP hK rfl hl.1 rfl (Nat.le_of_ble_eq_true rfl) dL_law_841 (by show ((cc + 1) + 200) ≤ 1064556; omega) (by show ((ss + n) + 1600) ≤ 5907956; omega) (fun r841 hr841 => ?_)
                    subst hr841
                    refine lv_aload_n hx hb dL_law_844 rfl (lv_at hl 6 rfl) ?_
                    refine lv_iload hx hb dL_law_845 (lv_at hl 0 rfl) ?_
                    refine csV_i (rest := [.int (nI ((passF F lim now n t9) i 5))]) (As := [.int (nI i)]) ⟨hx, hb, hml, hown, hts⟩ (c_X1_stayedDark l E _ a n (now + t9) lim (passF F lim now n t9) u755 fo CV_app (pass_ok hO t9 (by omega)) i (by omega)) (cwV 1 hts gL_law_X1_stayedDark rfl rfl rfl (by decide +kernel) ⟨Nat.le_of_ble_eq_true rfl, Nat.le_of_ble_eq_true rfl⟩) (va_recv hK hP (ci := 2) (q0 := 0) rfl (list_app wC_x)) hP hK rfl hl.1 rfl (Nat.le_of_ble_eq_true rfl) dL_law_847 (by show ((cc + 1) + 200) ≤ 1064556; omega) (by show ((ss + n) + 1600) ≤ 5907956; omega) (fun r847 hr847 => ?_)
                    subst hr847
                    refine nq_add hx hb dL_law_850 ?_
                    refine lv_aload hx hb dL_law_851 (lv_at hl 1 rfl) ?_
                    refine lv_iload hx hb dL_law_853 (lv_at hl 0 rfl) ?_
                    refine va_iald hx hb hK hP _ 0 wS_em rfl (by exact vp_in_nI (by omega) (by omega)) dL_law_855 ?_
                    refine nq_top (show (duF F now t9 n (((nI i)).toNatClampNeg)) = (nI (F i 5 + F i 6 + mdS F i now t9)) from duF_at (by omega) (by omega)) ?_
                    refine nq_icmp_eq (tgt := 861) hx hb dL_law_856 (by decide) (by omega) (by omega) (fun h856 => ?_) (fun h856 => ?_)
                    · skip
                      refine nq_inc (lv' := [(21, .int (nI (i + 1))), (19, .ref q705), (7, .int (nI n)), (4, .int x), (3, .int (nI t)), (2, .ref (b 0)), (1, .ref (a 0)), (0, .ref bs)]) hx hb dL_law_861 (d := 1) rfl hl (k := 0) rfl (by decide) rfl (fun ls hl => ?_)
                      refine lv_goto (tgt := 831) hx hb dL_law_864 (by decide) ?_
                      exact ih831 (i + 1) _ _ ls (by omega) (by omega) hP hD hS (lv_sub hl [0, 1, 2, 3, 4, 5, 6, 7] rfl)
                    · skip
                      exact absurd hq9 h856
              exact loop831 ((n - 0) + 1) 0 _ _ ls (by omega) (Nat.lt_succ_self _) hP hD hS (lv_sub hl [0, 2, 6, 7, 8, 9, 10, 11] rfl)
            refine lv_iload hx hb dL_law_798 (lv_at hl 2 rfl) ?_
            refine lv_aload_n hx hb dL_law_800 rfl (lv_at hl 9 rfl) ?_
            refine csV_i (rest := [.int (nI (mxA F lim now n t9))]) (As := []) ⟨hx, hb, hml, hown, hts⟩ (c_X1_limit l E _ a n (now + t9) lim (passF F lim now n t9) u755 fo CV_app (pass_ok hO t9 (by omega))) (cwV 0 hts gL_law_X1_limit rfl rfl rfl (by decide +kernel) ⟨Nat.le_of_ble_eq_true rfl, Nat.le_of_ble_eq_true rfl⟩) (va_recv hK hP (ci := 2) (q0 := 0) rfl (list_app wC_x)) hP hK rfl hl.1 rfl (Nat.le_of_ble_eq_true rfl) dL_law_801 (by show ((cc + 1) + 200) ≤ 1064556; omega) (by show ((ss + n) + 1600) ≤ 5907956; omega) (fun r801 hr801 => ?_)
            subst hr801
            refine nq_icmp_gt (tgt := 826) hx hb dL_law_804 (by decide) (by omega) (by omega) (fun h804 => ?_) (fun h804 => ?_)
            · skip
              exact absurd h804 (by have h9 := mxA_lim F lim now n t9; omega)
            · skip
              refine lv_iload hx hb dL_law_807 (lv_at hl 2 rfl) ?_
              refine lv_iload hx hb dL_law_809 (lv_at hl 3 rfl) ?_
              refine nq_icmp_gt (tgt := 826) hx hb dL_law_811 (by decide) (by omega) (by omega) (fun h811 => ?_) (fun h811 => ?_)
              · skip
                exact absurd h811 (by have h9 := mxA_mxD F lim now n t9; omega)
              · skip
                refine lv_iload hx hb dL_law_814 (lv_at hl 0 rfl) ?_
                refine nq_if_ne (tgt := 828) hx hb dL_law_816 (by decide) (by omega) (fun h816 => ?_) (fun h816 => ?_)
                · skip
                  exact join828 _ _ ls hP hD hS (lv_sub hl [0, 1, 2, 3, 4, 5, 6, 7, 8, 9, 10] rfl)
                · skip
                  refine lv_iload hx hb dL_law_819 (lv_at hl 2 rfl) ?_
                  refine lv_iload hx hb dL_law_821 (lv_at hl 3 rfl) ?_
                  refine nq_icmp_eq (tgt := 828) hx hb dL_law_823 (by decide) (by omega) (by omega) (fun h823 => ?_) (fun h823 => ?_)
                  · skip
                    exact join828 _ _ ls hP hD hS (lv_sub hl [0, 1, 2, 3, 4, 5, 6, 7, 8, 9, 10] rfl)
                  · skip
                    exact absurd (mxA_eq F lim now n t9 (hpd.mp h816)) h823
          refine lv_iload hx hb dL_law_771 (lv_at hl 0 rfl) ?_
          refine nq_if_ne (tgt := 780) hx hb dL_law_773 (by decide) (by omega) (fun h773 => ?_) (fun h773 => ?_)
          · skip
            refine lv_iconst (v := (nI 0)) hx hb dL_law_780 (by decide) ?_
            refine lv_iload hx hb dL_law_781 (lv_at hl 3 rfl) ?_
            refine lv_aload_n hx hb dL_law_783 rfl (lv_at hl 9 rfl) ?_
            refine csV_i (rest := [.int (nI (mxD F now n t9)), .int (nI 0)]) (As := []) ⟨hx, hb, hml, hown, hts⟩ (c_X1_limit l E _ a n (now + t9) lim (passF F lim now n t9) u755 fo CV_app (pass_ok hO t9 (by omega))) (cwV 0 hts gL_law_X1_limit rfl rfl rfl (by decide +kernel) ⟨Nat.le_of_ble_eq_true rfl, Nat.le_of_ble_eq_true rfl⟩) (va_recv hK hP (ci := 2) (q0 := 0) rfl (list_app wC_x)) hP hK rfl hl.1 rfl (Nat.le_of_ble_eq_true rfl) dL_law_784 (by show ((cc + 1) + 200) ≤ 1064556; omega) (by show ((ss + n) + 1600) ≤ 5907956; omega) (fun r784 hr784 => ?_)
            subst hr784
            refine nq_icmp_gt (tgt := 794) hx hb dL_law_787 (by decide) (by omega) (by omega) (fun h787 => ?_) (fun h787 => ?_)
            · skip
              refine lv_iconst (v := (nI 0)) hx hb dL_law_794 (by decide) ?_
              refine nq_icmp_ne (tgt := 826) hx hb dL_law_795 (by decide) (by omega) (by omega) (fun h795 => ?_) (fun h795 => ?_)
              · skip
                exact absurd rfl h795
              · skip
                exact join798 _ _ ls hP hD hS (lv_sub hl [0, 1, 2, 3, 4, 5, 6, 7, 8, 9, 10] rfl)
            · skip
              refine lv_iconst (v := (nI 1)) hx hb dL_law_790 (by decide) ?_
              refine lv_goto (tgt := 795) hx hb dL_law_791 (by decide) ?_
              refine nq_icmp_ne (tgt := 826) hx hb dL_law_795 (by decide) (by omega) (by omega) (fun h795 => ?_) (fun h795 => ?_)
              · skip
                exact absurd (hpd.mpr h787) (by omega)
              · skip
                exact absurd h795 (by decide)
          · skip
            refine lv_iconst (v := (nI 1)) hx hb dL_law_776 (by decide) ?_
            refine lv_goto (tgt := 781) hx hb dL_law_777 (by decide) ?_
            refine lv_iload hx hb dL_law_781 (lv_at hl 3 rfl) ?_
            refine lv_aload_n hx hb dL_law_783 rfl (lv_at hl 9 rfl) ?_
            refine csV_i (rest := [.int (nI (mxD F now n t9)), .int (nI 1)]) (As := []) ⟨hx, hb, hml, hown, hts⟩ (c_X1_limit l E _ a n (now + t9) lim (passF F lim now n t9) u755 fo CV_app (pass_ok hO t9 (by omega))) (cwV 0 hts gL_law_X1_limit rfl rfl rfl (by decide +kernel) ⟨Nat.le_of_ble_eq_true rfl, Nat.le_of_ble_eq_true rfl⟩) (va_recv hK hP (ci := 2) (q0 := 0) rfl (list_app wC_x)) hP hK rfl hl.1 rfl (Nat.le_of_ble_eq_true rfl) dL_law_784 (by show ((cc + 1) + 200) ≤ 1064556; omega) (by show ((ss + n) + 1600) ≤ 5907956; omega) (fun r784 hr784 => ?_)
            subst hr784
            refine nq_icmp_gt (tgt := 794) hx hb dL_law_787 (by decide) (by omega) (by omega) (fun h787 => ?_) (fun h787 => ?_)
            · skip
              refine lv_iconst (v := (nI 0)) hx hb dL_law_794 (by decide) ?_
              refine nq_icmp_ne (tgt := 826) hx hb dL_law_795 (by decide) (by omega) (by omega) (fun h795 => ?_) (fun h795 => ?_)
              · skip
                exact absurd (hpd.mp h773) (by omega)
              · skip
                exact absurd h795 (by decide)
            · skip
              refine lv_iconst (v := (nI 1)) hx hb dL_law_790 (by decide) ?_
              refine lv_goto (tgt := 795) hx hb dL_law_791 (by decide) ?_
              refine nq_icmp_ne (tgt := 826) hx hb dL_law_795 (by decide) (by omega) (by omega) (fun h795 => ?_) (fun h795 => ?_)
              · skip
                exact absurd rfl h795
              · skip
                exact join798 _ _ ls hP hD hS (lv_sub hl [0, 1, 2, 3, 4, 5, 6, 7, 8, 9, 10] rfl)
      · skip
        have hi9 := hO4 i (by omega)
        refine lv_aload hx hb dL_law_719 (lv_at hl 1 rfl) ?_
        refine lv_iload hx hb dL_law_721 (lv_at hl 0 rfl) ?_
        refine lv_aload_n hx hb dL_law_723 rfl (lv_at hl 9 rfl) ?_
        refine lv_iload hx hb dL_law_724 (lv_at hl 0 rfl) ?_
        refine csV_i (rest := [.int (nI i), .ref q705]) (As := [.int (nI i)]) ⟨hx, hb, hml, hown, hts⟩ (c_X1_shone l E _ a n now lim F u698 fo CV_app hO i (by omega)) (cwV 1 hts gL_law_X1_shone rfl rfl rfl (by decide +kernel) ⟨Nat.le_of_ble_eq_true rfl, Nat.le_of_ble_eq_true rfl⟩) (va_recv hK hP (ci := 2) (q0 := 0) rfl (list_app wC_x)) hP hK rfl hl.1 rfl (Nat.le_of_ble_eq_true rfl) dL_law_726 (by show (cc + 1) ≤ 1064556; omega) (by show (ss + n) ≤ 5907956; omega) (fun r726 hr726 => ?_)
        subst hr726
        refine lv_aload_n hx hb dL_law_729 rfl (lv_at hl 9 rfl) ?_
        refine lv_iload hx hb dL_law_730 (lv_at hl 0 rfl) ?_
        refine csV_i (rest := [.int (nI (F i 5)), .int (nI i), .ref q705]) (As := [.int (nI i)]) ⟨hx, hb, hml, hown, hts⟩ (c_X1_stayedDark l E _ a n now lim F u698 fo CV_app hO i (by omega)) (cwV 1 hts gL_law_X1_stayedDark rfl rfl rfl (by decide +kernel) ⟨Nat.le_of_ble_eq_true rfl, Nat.le_of_ble_eq_true rfl⟩) (va_recv hK hP (ci := 2) (q0 := 0) rfl (list_app wC_x)) hP hK rfl hl.1 rfl (Nat.le_of_ble_eq_true rfl) dL_law_732 (by show (cc + 1) ≤ 1064556; omega) (by show (ss + n) ≤ 5907956; omega) (fun r732 hr732 => ?_)
        subst hr732
        refine nq_add hx hb dL_law_735 ?_
        refine lv_aload_n hx hb dL_law_736 rfl (lv_at hl 9 rfl) ?_
        refine lv_iload hx hb dL_law_737 (lv_at hl 0 rfl) ?_
        refine lv_iload hx hb dL_law_739 (lv_at hl 4 rfl) ?_
        refine csV_i (rest := [.int (nI ((F i 5) + (F i 6))), .int (nI i), .ref q705]) (As := [.int (nI i), .int (nI t9)]) ⟨hx, hb, hml, hown, hts⟩ (c_X1_dueIn l E _ a n now lim F u698 fo CV_app hO i t9 (by omega) (by omega)) (cwV 2 hts gL_law_X1_dueIn rfl rfl rfl (by decide +kernel) ⟨Nat.le_of_ble_eq_true rfl, Nat.le_of_ble_eq_true rfl⟩) (va_recv hK hP (ci := 2) (q0 := 0) rfl (list_app wC_x)) hP hK rfl hl.1 rfl (Nat.le_of_ble_eq_true rfl) dL_law_741 (by show (cc + 1) ≤ 1064556; omega) (by show (ss + n) ≤ 5907956; omega) (fun r741 hr741 => ?_)
        subst hr741
        refine nq_add hx hb dL_law_744 ?_
        refine va_iast hx hb hK hP hD hS _ 0 wS_em rfl (by exact vp_in_nI (by omega) (by omega)) dL_law_745 (fun H locs hP hD hS => ?_)
        rw [wS_ems, duF_s (by omega)] at hP hD
        refine nq_inc (lv' := [(20, .int (nI (i + 1))), (19, .ref q705), (18, .int (nI (mxA F lim now n t9))), (17, .int (nI (mxD F now n t9))), (16, .int (nI t9)), (7, .int (nI n)), (4, .int x), (3, .int (nI t)), (2, .ref (b 0)), (1, .ref (a 0)), (0, .ref bs)]) hx hb dL_law_746 (d := 1) rfl hl (k := 0) rfl (by decide) rfl (fun ls hl => ?_)
        refine lv_goto (tgt := 712) hx hb dL_law_749 (by decide) ?_
        exact ih712 (i + 1) _ _ ls (by omega) (by omega) hP hD hS (lv_sub hl [0, 1, 2, 3, 4, 5, 6, 7, 8, 9, 10] rfl)
  exact loop712 ((n - 0) + 1) 0 _ _ ls (by omega) (Nat.lt_succ_self _) hP hD hS (lv_sub hl [0, 1, 2, 3, 4, 5, 6, 7, 8, 9, 10] rfl)

set_option maxHeartbeats 8000000 in
set_option maxRecDepth 100000 in
theorem law_E {p : Program} {l : Launch} {e : Env} {s : State} {m : MethodId} {args : Array Value} {below : List Frame} {meth : Method} {c : Code} {E : GE} {A : Nat → Prop} {z0 bs L : Nat} {xs : Nat → Int32} {QQ : State → Prop} (CC : LC p s m args c E A z0 bs L xs) (hL : L ≤ 260) (a : Nat → Nat) (mc : Int32) (n now lim : Nat) (F : LR) (lit : Nat → Bool) (fo : Nat → Nat) (b : Nat → Nat) (hO : OkS n now lim F) (h2n : 2 ≤ n) (hnow : now ≤ 80000) (t : Nat) (ht : t < 7) (x : Int32) (cc ss : Nat) (hcc : cc + 1200 ≤ 1064556) (hss : ss + 9700 ≤ 5907956) (join968 : ∀ (lt : Nat → Bool) (f9 : Nat → Nat) (v : Nat) (H : Heap) (locs : List Loc) (ls : Array Slot), (v ≤ 99) → va_P E.1 vwCl (wC E a mc n (now + 12) v (LF (passF F v now n 12) lt f9) ++ wS E b n (now + 12) v (passF F v now n 12)) H → va_D A (wC E a mc n (now + 12) v (LF (passF F v now n 12) lt f9) ++ wS E b n (now + 12) v (passF F v now n 12)) → va_S A s.heap H locs → lv_has ls 23 [(3, .int (nI t)), (2, .ref (b 0)), (1, .ref (a 0)), (0, .ref bs)] → W p l e room_1 s m args below meth c H locs (cc + 200) (ss + 1600) QQ (F0 m 968 ls [])) (H : Heap) (locs : List Loc) (ls : Array Slot) (hP : va_P E.1 vwCl (wC E a mc n now lim (LF F lit fo) ++ wS E b n now lim F) H) (hD : va_D A (wC E a mc n now lim (LF F lit fo) ++ wS E b n now lim F)) (hS : va_S A s.heap H locs) (hl : lv_has ls 23 [(7, .int (nI n)), (4, .int x), (3, .int (nI t)), (2, .ref (b 0)), (1, .ref (a 0)), (0, .ref bs)]) : W p l e room_1 s m args below meth c H locs cc ss QQ (F0 m 867 ls []) := by
  obtain ⟨hx, hb, hml, hown, hts, hK, hZ, hA, hbs, hX, hN⟩ := CC
  have hiX2 : ∀ q ∈ wsX20, q ∈ wsL_law := inlX2
  obtain ⟨hO1, hO2, hO3, hO4, hO5⟩ := id hO
  refine lv_aload_n hx hb dL_law_867 rfl (lv_at hl 4 rfl) ?_
  refine csV_i (rest := []) (As := []) ⟨hx, hb, hml, hown, hts⟩ (c_X1_limit l E _ a n now lim F lit fo CV_app hO) (cwV 0 hts gL_law_X1_limit rfl rfl rfl (by decide +kernel) ⟨Nat.le_of_ble_eq_true rfl, Nat.le_of_ble_eq_true rfl⟩) (va_recv hK hP (ci := 2) (q0 := 0) rfl (list_app wC_x)) hP hK rfl hl.1 rfl (Nat.le_of_ble_eq_true rfl) dL_law_868 (by show cc ≤ 1064556; omega) (by show ss ≤ 5907956; omega) (fun r868 hr868 => ?_)
  subst hr868
  refine lv_istore (lv' := [(21, .int (nI lim)), (7, .int (nI n)), (4, .int x), (3, .int (nI t)), (2, .ref (b 0)), (1, .ref (a 0)), (0, .ref bs)]) hx hb dL_law_871 hl (by decide) rfl (fun ls hl => ?_)
  refine lv_aload_n hx hb dL_law_873 rfl (lv_at hl 5 rfl) ?_
  refine lv_bipush (v := (nI 12)) hx hb dL_law_874 (by decide) ?_
  refine csV_i (rest := []) (As := [.int (nI 12)]) ⟨hx, hb, hml, hown, hts⟩ (c_X1_limitWanted l E _ a n now lim F lit fo CV_app hO 12 (by omega)) (cwV 1 hts gL_law_X1_limitWanted rfl rfl rfl (by decide +kernel) ⟨Nat.le_of_ble_eq_true rfl, Nat.le_of_ble_eq_true rfl⟩) (va_recv hK hP (ci := 2) (q0 := 0) rfl (list_app wC_x)) hP hK rfl hl.1 rfl (Nat.le_of_ble_eq_true rfl) dL_law_876 (by show cc ≤ 1064556; omega) (by show ss ≤ 5907956; omega) (fun r876 hr876 => ?_)
  subst hr876
  refine lv_istore (lv' := [(22, .int (nI (mxD F now n 12))), (21, .int (nI lim)), (7, .int (nI n)), (4, .int x), (3, .int (nI t)), (2, .ref (b 0)), (1, .ref (a 0)), (0, .ref bs)]) hx hb dL_law_879 hl (by decide) rfl (fun ls hl => ?_)
  have hmD := mxD_le hO now 12
  obtain ⟨v, ev⟩ : ∃ z9, z9 = mxD F now n 12 := ⟨_, rfl⟩
  have hl : lv_has ls 23 [(22, .int (nI v)), (21, .int (nI lim)), (7, .int (nI n)), (4, .int x), (3, .int (nI t)), (2, .ref (b 0)), (1, .ref (a 0)), (0, .ref bs)] := lv_rep hl 0 rfl (congrArg Value.int (show (nI (mxD F now n 12)) = (nI v) from congrArg nI ev.symm))
  have hvb : v ≤ 72 := by omega
  refine lv_aload_n hx hb dL_law_881 rfl (lv_at hl 6 rfl) ?_
  refine lv_iload hx hb dL_law_882 (lv_at hl 0 rfl) ?_
  have hP0 := hP
  have hP : va_P E.1 vwCl ([] ++ (wC E a mc n now lim (LF F lit fo) ++ wS E b n now lim F)) H := hP
  have hD : va_D A ([] ++ (wC E a mc n now lim (LF F lit fo) ++ wS E b n now lim F)) := hD
  refine cmX_i (wx := []) (wy := wS E b n now lim F) (rest := []) (As := [.int (nI v)]) ⟨hx, hb, hml, hown, hts⟩ (c_X1_setLimit l E _ a mc n now lim F lit fo hO v (by omega)) (cwV 1 hts gL_law_X1_setLimit rfl rfl rfl (by decide +kernel) ⟨Nat.le_of_ble_eq_true rfl, Nat.le_of_ble_eq_true rfl⟩) (va_recv hK hP0 (ci := 2) (q0 := 0) rfl (list_app wC_x)) hP hK hD hS hA rfl hl.1 rfl (Nat.le_of_ble_eq_true rfl) dL_law_884 ⟨by show cc + 0 ≤ 1064556; omega, by show ss + 0 ≤ 5907956; omega⟩ (fun r884 u884 H locs hr884 hP hD hS => ?_)
  subst hr884
  have hP : va_P E.1 vwCl (wC E a mc n now v (LF F lit fo) ++ wS E b n now lim F) H := hP
  have hD : va_D A (wC E a mc n now v (LF F lit fo) ++ wS E b n now lim F) := hD
  skip
  refine lv_iload hx hb dL_law_887 (lv_at hl 1 rfl) ?_
  refine nq_icmp_ne (tgt := 903) hx hb dL_law_889 (by decide) (by omega) (by omega) (fun h889 => ?_) (fun h889 => ?_)
  · skip
    exact absurd rfl h889
  · skip
    refine lv_aload_n hx hb dL_law_892 rfl (lv_at hl 6 rfl) ?_
    refine lv_bipush (v := (nI 12)) hx hb dL_law_893 (by decide) ?_
    have hP0 := hP
    have hP : va_P E.1 vwCl ([] ++ (wC E a mc n now v (LF F lit fo) ++ wS E b n now lim F)) H := hP
    have hD : va_D A ([] ++ (wC E a mc n now v (LF F lit fo) ++ wS E b n now lim F)) := hD
    refine cmX_i (wx := []) (wy := wS E b n now lim F) (rest := []) (As := [.int (nI 12)]) ⟨hx, hb, hml, hown, hts⟩ (c_X1_brightest l E _ a mc n now v F lit fo (ok_lim hO (by omega)) 12 (by omega)) (cwV 1 hts gL_law_X1_brightest rfl rfl rfl (by decide +kernel) ⟨Nat.le_of_ble_eq_true rfl, Nat.le_of_ble_eq_true rfl⟩) (va_recv hK hP0 (ci := 2) (q0 := 0) rfl (list_app wC_x)) hP hK hD hS hA rfl hl.1 rfl (Nat.le_of_ble_eq_true rfl) dL_law_895 ⟨by show cc + 0 ≤ 1064556; omega, by show ss + 0 ≤ 5907956; omega⟩ (fun r895 u895 H locs hr895 hP hD hS => ?_)
    subst hr895
    have hP : va_P E.1 vwCl (wC E a mc n now v (LF F u895 fo) ++ wS E b n now lim F) H := hP
    have hD : va_D A (wC E a mc n now v (LF F u895 fo) ++ wS E b n now lim F) := hD
    refine lv_iload hx hb dL_law_898 (lv_at hl 0 rfl) ?_
    refine nq_icmp_eq (tgt := 905) hx hb dL_law_900 (by decide) (by have h9 := mxA_le hO v now 12; omega) (by omega) (fun h900 => ?_) (fun h900 => ?_)
    · skip
      have join949 : ∀ (lt : Nat → Bool) (f9 : Nat → Nat) (H : Heap) (locs : List Loc) (ls : Array Slot), va_P E.1 vwCl (wC E a mc n (now + 12) (v - 1) (LF (passF F (v - 1) now n 12) lt f9) ++ wS E b n now lim F) H → va_D A (wC E a mc n (now + 12) (v - 1) (LF (passF F (v - 1) now n 12) lt f9) ++ wS E b n now lim F) → va_S A s.heap H locs → lv_has ls 23 [(22, .int (nI v)), (4, .int x), (3, .int (nI t)), (2, .ref (b 0)), (1, .ref (a 0)), (0, .ref bs)] → W p l e room_1 s m args below meth c H locs cc ss QQ (F0 m 949 ls []) := by
        intro lt f9 H locs ls hP hD hS hl
        refine lv_aload_n hx hb dL_law_949 rfl (lv_at hl 3 rfl) ?_
        refine lv_iconst (v := (nI 0)) hx hb dL_law_950 (by decide) ?_
        refine lv_iload hx hb dL_law_951 (lv_at hl 0 rfl) ?_
        refine lv_iconst (v := (nI 1)) hx hb dL_law_953 (by decide) ?_
        refine nq_subi hx hb dL_law_954 ?_
        refine va_mmax hx hb (hml.trans hl.1.symm) hown (hts (.methodLink RL 129 Lib.Math.max.name) (List.mem_of_getElem? (i := 5) (by rfl))) (hts (.static Lib.Math.max.name) (List.mem_of_getElem? (i := 6) (by rfl))) (hts (.initialized "java/lang/Math") (List.mem_of_getElem? (i := 7) (by rfl))) (hts (.code Lib.Math.max.name Lib.Math.max.code 2 (some .int)) (List.mem_of_getElem? (i := 8) (by rfl))) (Nat.le_of_ble_eq_true rfl) (Nat.le_of_ble_eq_true rfl) (by show cc ≤ 1064556; omega) (by show ss ≤ 5907956; omega) dL_law_955 ?_
        refine nq_top (show (if (nI 0) < (iI ((v : Int) - (1 : Int))) then (iI ((v : Int) - (1 : Int))) else (nI 0)) = (nI (v - 1)) from mx0 (by omega)) ?_
        refine va_put (D := E.1) (ci := 3) (v := .int (nI (v - 1))) (ty := .int) (C := RX2) (T := TX2) (N := 3) hx hb hts hiX2 tyX2 tyX2_ok nmX2 hown hK hP hD hS _ SV_end.1 rfl 1 (by decide) (hts (.fieldLink RL 41 "PulseLoomLaw$Sim" "limit" "I") (List.mem_of_getElem? (i := 9) (by rfl))) (fun _ h9 => h9) rfl (by decide +kernel) rfl (by rfl) (Nat.le_of_ble_eq_true rfl) dL_law_958 (fun H locs hP hD hS => ?_)
        have hP : va_P E.1 vwCl ((wC E a mc n (now + 12) (v - 1) (LF (passF F (v - 1) now n 12) lt f9) ++ wS E b n now lim F).set (wC E a mc n (now + 12) (v - 1) (LF (passF F (v - 1) now n 12) lt f9)).length (b 0, .inr (3, [.ref (b 1), .int (nI (v - 1)), .int (nI now)]))) H := hP
        have hD : va_D A ((wC E a mc n (now + 12) (v - 1) (LF (passF F (v - 1) now n 12) lt f9) ++ wS E b n now lim F).set (wC E a mc n (now + 12) (v - 1) (LF (passF F (v - 1) now n 12) lt f9)).length (b 0, .inr (3, [.ref (b 1), .int (nI (v - 1)), .int (nI now)]))) := hD
        rw [wS_l0] at hP hD
        refine lv_aload_n hx hb dL_law_961 rfl (lv_at hl 3 rfl) ?_
        refine lv_bipush (v := (nI 12)) hx hb dL_law_962 (by decide) ?_
        refine cmE_i (wx := (wC E a mc n (now + 12) (v - 1) (LF (passF F (v - 1) now n 12) lt f9))) (rest := []) (As := [.int (nI 12)]) ⟨hx, hb, hml, hown, hts⟩ (c_X2_pass_ l E _ b n now (v - 1) F (ok_lim hO (by omega)) 12 (by omega) (by omega)) (cwV 1 hts gL_law_X2_pass_ rfl rfl rfl (by decide +kernel) ⟨Nat.le_of_ble_eq_true rfl, Nat.le_of_ble_eq_true rfl⟩) (va_recv hK hP (ci := 3) (q0 := _) rfl SV_end.1) hP hK hD hS hA rfl hl.1 rfl (Nat.le_of_ble_eq_true rfl) dL_law_964 ⟨by show cc + 200 ≤ 1064556; omega, by show ss + 1600 ≤ 5907956; omega⟩ (fun r964 u964 H locs hr964 hP hD hS => ?_)
        subst hr964
        have hP : va_P E.1 vwCl (wC E a mc n (now + 12) (v - 1) (LF (passF F (v - 1) now n 12) lt f9) ++ wS E b n (now + 12) (v - 1) (passF F (v - 1) now n 12)) H := hP
        have hD : va_D A (wC E a mc n (now + 12) (v - 1) (LF (passF F (v - 1) now n 12) lt f9) ++ wS E b n (now + 12) (v - 1) (passF F (v - 1) now n 12)) := hD
        refine lv_pop hx hb dL_law_967 rfl ?_
        refine W.widen (k := cc + 200) (n := ss + 1600) (by omega) (by omega) ?_
        exact join968 lt f9 (v - 1) _ _ ls (by omega) hP hD hS (lv_sub hl [2, 3, 4, 5] rfl)
      have hpD1 := passD_le F (v - 1) now n 12
      have hpD2 := passD_le F v now n 12
      refine lv_iload hx hb dL_law_905 (lv_at hl 0 rfl) ?_
      refine nq_if_le (tgt := 933) hx hb dL_law_907 (by decide) (by omega) (fun h907 => ?_) (fun h907 => ?_)
      · skip
        refine lv_iload hx hb dL_law_933 (lv_at hl 0 rfl) ?_
        refine nq_if_ne (tgt := 949) hx hb dL_law_935 (by decide) (by omega) (fun h935 => ?_) (fun h935 => ?_)
        · skip
          exact absurd h935 (by omega)
        · skip
          refine lv_aload_n hx hb dL_law_938 rfl (lv_at hl 6 rfl) ?_
          refine lv_bipush (v := (nI 12)) hx hb dL_law_939 (by decide) ?_
          have hP0 := hP
          have hP : va_P E.1 vwCl ([] ++ (wC E a mc n now v (LF F u895 fo) ++ wS E b n now lim F)) H := hP
          have hD : va_D A ([] ++ (wC E a mc n now v (LF F u895 fo) ++ wS E b n now lim F)) := hD
          refine cmX_i (wx := []) (wy := wS E b n now lim F) (rest := []) (As := [.int (nI 12)]) ⟨hx, hb, hml, hown, hts⟩ (c_X1_pass l E _ a mc n now v F u895 fo (ok_lim hO (by omega)) 12 (by omega) (by omega)) (cwV 1 hts gL_law_X1_pass rfl rfl rfl (by decide +kernel) ⟨Nat.le_of_ble_eq_true rfl, Nat.le_of_ble_eq_true rfl⟩) (va_recv hK hP0 (ci := 2) (q0 := 0) rfl (list_app wC_x)) hP hK hD hS hA rfl hl.1 rfl (Nat.le_of_ble_eq_true rfl) dL_law_941 ⟨by show cc + 0 ≤ 1064556; omega, by show ss + 0 ≤ 5907956; omega⟩ (fun r941 u941 H locs hr941 hP hD hS => ?_)
          subst hr941
          have hP : va_P E.1 vwCl (wC E a mc n (now + 12) v (LF (passF F v now n 12) u941 fo) ++ wS E b n now lim F) H := hP
          have hD : va_D A (wC E a mc n (now + 12) v (LF (passF F v now n 12) u941 fo) ++ wS E b n now lim F) := hD
          refine nq_if_eq (tgt := 949) hx hb dL_law_944 (by decide) (by omega) (fun h944 => ?_) (fun h944 => ?_)
          · skip
            rw [show wC E a mc n (now + 12) v (LF (passF F v now n 12) u941 fo) ++ wS E b n now lim F = wC E a mc n (now + 12) (v - 1) (LF (passF F (v - 1) now n 12) u941 fo) ++ wS E b n now lim F from by rw [show v - 1 = v by omega]] at hP hD
            exact join949 u941 fo _ _ ls hP hD hS (lv_sub hl [0, 3, 4, 5, 6, 7] rfl)
          · skip
            exact absurd ((passD_0 F v now n 12).mpr (by omega)) (by omega)
      · skip
        refine lv_aload_n hx hb dL_law_910 rfl (lv_at hl 6 rfl) ?_
        refine lv_iload hx hb dL_law_911 (lv_at hl 0 rfl) ?_
        refine lv_iconst (v := (nI 1)) hx hb dL_law_913 (by decide) ?_
        refine nq_sub hx hb dL_law_914 (by omega) ?_
        have hP0 := hP
        have hP : va_P E.1 vwCl ([] ++ (wC E a mc n now v (LF F u895 fo) ++ wS E b n now lim F)) H := hP
        have hD : va_D A ([] ++ (wC E a mc n now v (LF F u895 fo) ++ wS E b n now lim F)) := hD
        refine cmX_i (wx := []) (wy := wS E b n now lim F) (rest := []) (As := [.int (nI (v - 1))]) ⟨hx, hb, hml, hown, hts⟩ (c_X1_setLimit l E _ a mc n now v F u895 fo (ok_lim hO (by omega)) (v - 1) (by omega)) (cwV 1 hts gL_law_X1_setLimit rfl rfl rfl (by decide +kernel) ⟨Nat.le_of_ble_eq_true rfl, Nat.le_of_ble_eq_true rfl⟩) (va_recv hK hP0 (ci := 2) (q0 := 0) rfl (list_app wC_x)) hP hK hD hS hA rfl hl.1 rfl (Nat.le_of_ble_eq_true rfl) dL_law_915 ⟨by show cc + 0 ≤ 1064556; omega, by show ss + 0 ≤ 5907956; omega⟩ (fun r915 u915 H locs hr915 hP hD hS => ?_)
        subst hr915
        have hP : va_P E.1 vwCl (wC E a mc n now (v - 1) (LF F u895 fo) ++ wS E b n now lim F) H := hP
        have hD : va_D A (wC E a mc n now (v - 1) (LF F u895 fo) ++ wS E b n now lim F) := hD
        skip
        refine lv_iload hx hb dL_law_918 (lv_at hl 0 rfl) ?_
        refine nq_icmp_ne (tgt := 947) hx hb dL_law_920 (by decide) (by omega) (by omega) (fun h920 => ?_) (fun h920 => ?_)
        · skip
          exact absurd rfl h920
        · skip
          refine lv_aload_n hx hb dL_law_923 rfl (lv_at hl 6 rfl) ?_
          refine lv_bipush (v := (nI 12)) hx hb dL_law_924 (by decide) ?_
          have hP0 := hP
          have hP : va_P E.1 vwCl ([] ++ (wC E a mc n now (v - 1) (LF F u895 fo) ++ wS E b n now lim F)) H := hP
          have hD : va_D A ([] ++ (wC E a mc n now (v - 1) (LF F u895 fo) ++ wS E b n now lim F)) := hD
          refine cmX_i (wx := []) (wy := wS E b n now lim F) (rest := []) (As := [.int (nI 12)]) ⟨hx, hb, hml, hown, hts⟩ (c_X1_pass l E _ a mc n now (v - 1) F u895 fo (ok_lim hO (by omega)) 12 (by omega) (by omega)) (cwV 1 hts gL_law_X1_pass rfl rfl rfl (by decide +kernel) ⟨Nat.le_of_ble_eq_true rfl, Nat.le_of_ble_eq_true rfl⟩) (va_recv hK hP0 (ci := 2) (q0 := 0) rfl (list_app wC_x)) hP hK hD hS hA rfl hl.1 rfl (Nat.le_of_ble_eq_true rfl) dL_law_926 ⟨by show cc + 0 ≤ 1064556; omega, by show ss + 0 ≤ 5907956; omega⟩ (fun r926 u926 H locs hr926 hP hD hS => ?_)
          subst hr926
          have hP : va_P E.1 vwCl (wC E a mc n (now + 12) (v - 1) (LF (passF F (v - 1) now n 12) u926 fo) ++ wS E b n now lim F) H := hP
          have hD : va_D A (wC E a mc n (now + 12) (v - 1) (LF (passF F (v - 1) now n 12) u926 fo) ++ wS E b n now lim F) := hD
          refine lv_iconst (v := (nI 1)) hx hb dL_law_929 (by decide) ?_
          refine nq_icmp_lt (tgt := 947) hx hb dL_law_930 (by decide) (by omega) (by omega) (fun h930 => ?_) (fun h930 => ?_)
          · skip
            exact absurd ((passD_0 F (v - 1) now n 12).mp (by omega)) (by omega)
          · skip
            refine lv_iload hx hb dL_law_933 (lv_at hl 0 rfl) ?_
            refine nq_if_ne (tgt := 949) hx hb dL_law_935 (by decide) (by omega) (fun h935 => ?_) (fun h935 => ?_)
            · skip
              exact join949 u926 fo _ _ ls hP hD hS (lv_sub hl [0, 3, 4, 5, 6, 7] rfl)
            · skip
              exact absurd h935 (by omega)
    · skip
      exact absurd ((mxA_eq F v now n 12 (by omega)).trans ev.symm) h900

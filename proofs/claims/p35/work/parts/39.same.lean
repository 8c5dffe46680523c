/-! in the end all is as by hand -/
theorem va_Pdr {D : va_G} {cl : List vw_C} {wx w wy : va_W} {H : Heap} (h : va_P D cl (wx ++ (w ++ wy)) H) : va_P D cl (wx ++ w) H := by
  rw [← List.append_assoc] at h
  exact va_Pl h
theorem va_Ddr {A0 : Nat → Prop} {wx w wy : va_W} (h : va_D A0 (wx ++ (w ++ wy))) : va_D A0 (wx ++ w) := by
  rw [← List.append_assoc] at h
  exact va_Dl h
set_option maxHeartbeats 4000000 in
set_option maxRecDepth 100000 in
/-- isSame(the class) -/
theorem c_X2_isSame (l : Launch) (E : GE) (sz : Nat) (a : Nat → Nat) (mc : Int32) (n now lim : Nat) (F : LR) (lit : Nat → Bool) (fo : Nat → Nat) (b : Nat → Nat) (hO : OkS n now lim F) (hnow : now ≤ 90000) (h0 : 0 < n) : Met l yX2_isSame wsX2_isSame ({ frames := 7, cells := 2, slots := 16, locals := 155 } : Room) (va_Pc [.ref (b 0), .ref (a 0)] (pcM E (wC E a mc n now lim (LF F lit fo) ++ wS E b n now lim F) sz)) (va_Qi (S := (Nat → Bool) × (Nat → Nat)) (fun r _ => r = bI true) (fun uQ tQ => atM E (va_A (wC E a mc n now lim (LF F lit fo) ++ wS E b n now lim F) sz) ((fun u => wC E a mc n now lim (LF F u.1 u.2) ++ wS E b n now lim F) uQ) tQ) (va_A (wC E a mc n now lim (LF F lit fo) ++ wS E b n now lim F) sz)) 2 16 (va_A (wC E a mc n now lim (LF F lit fo) ++ wS E b n now lim F) sz) := by
  refine metM (by decide) rfl (Nat.le_of_ble_eq_true rfl) ?_
  intro p e s m args below meth c ls A hAe hA hx hb hr hml hts hown hlocks hin hP hK hD hS hl
  rw [hAe]
  have hiX2 : ∀ q ∈ wsX20, q ∈ wsX2_isSame := by decide +kernel
  obtain ⟨QQ, hQ⟩ : ∃ zQ, zQ = MQ below (va_Qi (S := (Nat → Bool) × (Nat → Nat)) (fun r _ => r = bI true) (fun uQ tQ => atM E A ((fun u => wC E a mc n now lim (LF F u.1 u.2) ++ wS E b n now lim F) uQ) tQ) A) args s 2 16 A := ⟨_, rfl⟩
  rw [← hQ]
  obtain ⟨hO1, hO2, hO3, hO4, hO5⟩ := id hO
  refine lv_aload_n hx hb dX2_isSame_0 rfl (lv_at hl 0 rfl) ?_
  refine cmE_r (wx := (wC E a mc n now lim (LF F lit fo))) (rest := []) (As := []) ⟨hx, hb, hml, hown, hts⟩ (c_X2_shining l E _ b n now lim F hO) (cwV 0 hts gX2_isSame_X2_shining rfl rfl rfl (by decide +kernel) ⟨Nat.le_of_ble_eq_true rfl, Nat.le_of_ble_eq_true rfl⟩) (va_recv hK hP (ci := 3) (q0 := _) rfl SV_end.1) hP hK hD hS hA rfl hl.1 rfl (Nat.le_of_ble_eq_true rfl) dX2_isSame_1 ⟨by show 0 + 1 ≤ 2; omega, by show 0 + 8 ≤ 16; omega⟩ (fun q1 H locs hP hD hS => ?_)
  have hP : va_P E.1 vwCl (wC E a mc n now lim (LF F lit fo) ++ (wS E b n now lim F ++ [(q1, .inl (E.2.2.2.1, n, .inl (liF F lim now n)))])) _ := hP
  have hD : va_D A (wC E a mc n now lim (LF F lit fo) ++ (wS E b n now lim F ++ [(q1, .inl (E.2.2.2.1, n, .inl (liF F lim now n)))])) := hD
  refine lv_astore_n (lv' := [(2, .ref q1), (0, .ref (b 0)), (1, .ref (a 0))]) hx hb dX2_isSame_4 rfl hl (by decide) rfl (fun ls hl => ?_)
  refine lv_iconst (v := (nI 0)) hx hb dX2_isSame_5 (by decide) ?_
  refine lv_istore_n (lv' := [(3, .int (nI 0)), (2, .ref q1), (0, .ref (b 0)), (1, .ref (a 0))]) hx hb dX2_isSame_6 rfl hl (by decide) rfl (fun ls hl => ?_)
  refine lv_iconst (v := (nI 0)) hx hb dX2_isSame_7 (by decide) ?_
  refine lv_istore (lv' := [(4, .int (nI 0)), (3, .int (nI 0)), (2, .ref q1), (0, .ref (b 0)), (1, .ref (a 0))]) hx hb dX2_isSame_8 hl (by decide) rfl (fun ls hl => ?_)
  have loop10 : ∀ (tk : Nat) (i : Nat) (lt : Nat → Bool) (H : Heap) (locs : List Loc) (ls : Array Slot), (i ≤ n) → (n - i) < tk → va_P E.1 vwCl (wC E a mc n now lim (LF F lt fo) ++ (wS E b n now lim F ++ [(q1, .inl (E.2.2.2.1, n, .inl (liF F lim now n)))])) H → va_D A (wC E a mc n now lim (LF F lt fo) ++ (wS E b n now lim F ++ [(q1, .inl (E.2.2.2.1, n, .inl (liF F lim now n)))])) → va_S A s.heap H locs → lv_has ls 6 [(4, .int (nI i)), (3, .int (nI (sumS F i))), (2, .ref q1), (0, .ref (b 0)), (1, .ref (a 0))] → W p l e ({ frames := 7, cells := 2, slots := 16, locals := 155 } : Room) s m args below meth c H locs (0 + 1) (0 + 8) QQ (F0 m 10 ls []) := by
    intro tk
    induction tk with
    | zero => intro i lt H locs ls hi hk hP hD hS hl; exact absurd hk (Nat.not_lt_zero _)
    | succ tk ih10 =>
      intro i lt H locs ls hi hk hP hD hS hl
      refine lv_iload hx hb dX2_isSame_10 (lv_at hl 0 rfl) ?_
      refine lv_aload_n hx hb dX2_isSame_12 rfl (lv_at hl 3 rfl) ?_
      refine va_get (D := E.1) (ci := 3) (v := .ref (b 1)) (C := RX2) (T := TX2) (N := 3) hx hb hts hiX2 hown hK hP _ SV_mid.1 rfl 0 (by decide) (hts (.fieldLink RX2 9 "PulseLoomLaw$Sim" "lamps" "[[I") (List.mem_of_getElem? (i := 1) (by rfl))) (fun _ h9 => h9) rfl dX2_isSame_13 ?_
      refine va_alen hx hb hK hP _ 3 SV_mid.2.1 rfl (v := nI n) rfl dX2_isSame_16 ?_
      refine nq_icmp_ge (tgt := 140) hx hb dX2_isSame_17 (by decide) (by omega) (by omega) (fun h17 => ?_) (fun h17 => ?_)
      · skip
        have ein : i = n := by omega
        refine lv_iconst (v := (nI 0)) hx hb dX2_isSame_140 (by decide) ?_
        refine lv_istore (lv' := [(4, .int (nI 0)), (3, .int (nI (sumS F i))), (2, .ref q1), (0, .ref (b 0)), (1, .ref (a 0))]) hx hb dX2_isSame_141 hl (by decide) rfl (fun ls hl => ?_)
        have loop143 : ∀ (tk : Nat) (k : Nat) (H : Heap) (locs : List Loc) (ls : Array Slot), (k ≤ 6) → (6 - k) < tk → va_P E.1 vwCl (wC E a mc n now lim (LF F lt fo) ++ (wS E b n now lim F ++ [(q1, .inl (E.2.2.2.1, n, .inl (liF F lim now n)))])) H → va_D A (wC E a mc n now lim (LF F lt fo) ++ (wS E b n now lim F ++ [(q1, .inl (E.2.2.2.1, n, .inl (liF F lim now n)))])) → va_S A s.heap H locs → lv_has ls 6 [(4, .int (nI k)), (3, .int (nI (sumS F n))), (0, .ref (b 0)), (1, .ref (a 0))] → W p l e ({ frames := 7, cells := 2, slots := 16, locals := 155 } : Room) s m args below meth c H locs (0 + 1) (0 + 8) QQ (F0 m 143 ls []) := by
          intro tk
          induction tk with
          | zero => intro k H locs ls hk hk hP hD hS hl; exact absurd hk (Nat.not_lt_zero _)
          | succ tk ih143 =>
            intro k H locs ls hk hk hP hD hS hl
            refine lv_iload hx hb dX2_isSame_143 (lv_at hl 0 rfl) ?_
            refine lv_bipush (v := (nI 6)) hx hb dX2_isSame_145 (by decide) ?_
            refine nq_icmp_ge (tgt := 173) hx hb dX2_isSame_147 (by decide) (by omega) (by omega) (fun h147 => ?_) (fun h147 => ?_)
            · skip
              have hac := acS_le hO lim now n (Nat.le_refl _)
              have huf := unfS_le hO
              refine lv_aload_n hx hb dX2_isSame_173 rfl (lv_at hl 3 rfl) ?_
              refine csV_i (rest := []) (As := []) ⟨hx, hb, hml, hown, hts⟩ (c_X1_beat l E _ a n now lim F lt fo CV_app hO) (cwV 0 hts gX2_isSame_X1_beat rfl rfl rfl (by decide +kernel) ⟨Nat.le_of_ble_eq_true rfl, Nat.le_of_ble_eq_true rfl⟩) (va_recv hK hP (ci := 2) (q0 := 0) rfl (list_app wC_x)) hP hK rfl hl.1 rfl (Nat.le_of_ble_eq_true rfl) dX2_isSame_174 (Nat.le_of_ble_eq_true rfl) (Nat.le_of_ble_eq_true rfl) (fun r174 hr174 => ?_)
              subst hr174
              refine lv_aload_n hx hb dX2_isSame_177 rfl (lv_at hl 2 rfl) ?_
              refine va_get (D := E.1) (ci := 3) (v := .int (nI now)) (C := RX2) (T := TX2) (N := 3) hx hb hts hiX2 hown hK hP _ SV_mid.1 rfl 2 (by decide) (hts (.fieldLink RX2 24 "PulseLoomLaw$Sim" "beat" "I") (List.mem_of_getElem? (i := 2) (by rfl))) (fun _ h9 => h9) rfl dX2_isSame_178 ?_
              refine nq_icmp_ne (tgt := 262) hx hb dX2_isSame_181 (by decide) (by omega) (by omega) (fun h181 => ?_) (fun h181 => ?_)
              · skip
                exact absurd rfl h181
              · skip
                refine lv_aload_n hx hb dX2_isSame_184 rfl (lv_at hl 3 rfl) ?_
                refine csV_i (rest := []) (As := []) ⟨hx, hb, hml, hown, hts⟩ (c_X1_lamps l E _ a n now lim F lt fo CV_app hO) (cwV 0 hts gX2_isSame_X1_lamps rfl rfl rfl (by decide +kernel) ⟨Nat.le_of_ble_eq_true rfl, Nat.le_of_ble_eq_true rfl⟩) (va_recv hK hP (ci := 2) (q0 := 0) rfl (list_app wC_x)) hP hK rfl hl.1 rfl (Nat.le_of_ble_eq_true rfl) dX2_isSame_185 (Nat.le_of_ble_eq_true rfl) (Nat.le_of_ble_eq_true rfl) (fun r185 hr185 => ?_)
                subst hr185
                refine lv_aload_n hx hb dX2_isSame_188 rfl (lv_at hl 2 rfl) ?_
                refine va_get (D := E.1) (ci := 3) (v := .ref (b 1)) (C := RX2) (T := TX2) (N := 3) hx hb hts hiX2 hown hK hP _ SV_mid.1 rfl 0 (by decide) (hts (.fieldLink RX2 9 "PulseLoomLaw$Sim" "lamps" "[[I") (List.mem_of_getElem? (i := 1) (by rfl))) (fun _ h9 => h9) rfl dX2_isSame_189 ?_
                refine va_alen hx hb hK hP _ 3 SV_mid.2.1 rfl (v := nI n) rfl dX2_isSame_192 ?_
                refine nq_icmp_ne (tgt := 262) hx hb dX2_isSame_193 (by decide) (by omega) (by omega) (fun h193 => ?_) (fun h193 => ?_)
                · skip
                  exact absurd rfl h193
                · skip
                  refine lv_aload_n hx hb dX2_isSame_196 rfl (lv_at hl 3 rfl) ?_
                  refine csV_i (rest := []) (As := []) ⟨hx, hb, hml, hown, hts⟩ (c_X1_limit l E _ a n now lim F lt fo CV_app hO) (cwV 0 hts gX2_isSame_X1_limit rfl rfl rfl (by decide +kernel) ⟨Nat.le_of_ble_eq_true rfl, Nat.le_of_ble_eq_true rfl⟩) (va_recv hK hP (ci := 2) (q0 := 0) rfl (list_app wC_x)) hP hK rfl hl.1 rfl (Nat.le_of_ble_eq_true rfl) dX2_isSame_197 (Nat.le_of_ble_eq_true rfl) (Nat.le_of_ble_eq_true rfl) (fun r197 hr197 => ?_)
                  subst hr197
                  refine lv_aload_n hx hb dX2_isSame_200 rfl (lv_at hl 2 rfl) ?_
                  refine va_get (D := E.1) (ci := 3) (v := .int (nI lim)) (C := RX2) (T := TX2) (N := 3) hx hb hts hiX2 hown hK hP _ SV_mid.1 rfl 1 (by decide) (hts (.fieldLink RX2 15 "PulseLoomLaw$Sim" "limit" "I") (List.mem_of_getElem? (i := 3) (by rfl))) (fun _ h9 => h9) rfl dX2_isSame_201 ?_
                  refine nq_icmp_ne (tgt := 262) hx hb dX2_isSame_204 (by decide) (by omega) (by omega) (fun h204 => ?_) (fun h204 => ?_)
                  · skip
                    exact absurd rfl h204
                  · skip
                    refine lv_aload_n hx hb dX2_isSame_207 rfl (lv_at hl 3 rfl) ?_
                    have hP0 := hP
                    have hP : va_P E.1 vwCl ([] ++ (wC E a mc n now lim (LF F lt fo) ++ (wS E b n now lim F ++ [(q1, .inl (E.2.2.2.1, n, .inl (liF F lim now n)))]))) H := hP
                    have hD : va_D A ([] ++ (wC E a mc n now lim (LF F lt fo) ++ (wS E b n now lim F ++ [(q1, .inl (E.2.2.2.1, n, .inl (liF F lim now n)))]))) := hD
                    refine cmX_i (wx := []) (wy := (wS E b n now lim F ++ [(q1, .inl (E.2.2.2.1, n, .inl (liF F lim now n)))])) (rest := []) (As := []) ⟨hx, hb, hml, hown, hts⟩ (c_X1_power l E _ a mc n now lim F lt fo hO) (cwV 0 hts gX2_isSame_X1_power rfl rfl rfl (by decide +kernel) ⟨Nat.le_of_ble_eq_true rfl, Nat.le_of_ble_eq_true rfl⟩) (va_recv hK hP0 (ci := 2) (q0 := 0) rfl (list_app wC_x)) hP hK hD hS hA rfl hl.1 rfl (Nat.le_of_ble_eq_true rfl) dX2_isSame_208 ⟨Nat.le_of_ble_eq_true rfl, Nat.le_of_ble_eq_true rfl⟩ (fun r208 u208 H locs hr208 hP hD hS => ?_)
                    subst hr208
                    have hP : va_P E.1 vwCl (wC E a mc n now lim (LF F u208 fo) ++ (wS E b n now lim F ++ [(q1, .inl (E.2.2.2.1, n, .inl (liF F lim now n)))])) H := hP
                    have hD : va_D A (wC E a mc n now lim (LF F u208 fo) ++ (wS E b n now lim F ++ [(q1, .inl (E.2.2.2.1, n, .inl (liF F lim now n)))])) := hD
                    refine lv_aload_n hx hb dX2_isSame_211 rfl (lv_at hl 2 rfl) ?_
                    have hP0 := hP
                    have hP : va_P E.1 vwCl ((wC E a mc n now lim (LF F u208 fo)) ++ ((wS E b n now lim F) ++ ([(q1, .inl (E.2.2.2.1, n, .inl (liF F lim now n)))]))) H := hP
                    have hD : va_D A ((wC E a mc n now lim (LF F u208 fo)) ++ ((wS E b n now lim F) ++ ([(q1, .inl (E.2.2.2.1, n, .inl (liF F lim now n)))]))) := hD
                    refine cmX_i (wx := (wC E a mc n now lim (LF F u208 fo))) (wy := [(q1, .inl (E.2.2.2.1, n, .inl (liF F lim now n)))]) (rest := [.int (nI (acS F lim now n))]) (As := []) ⟨hx, hb, hml, hown, hts⟩ (c_X2_power l E _ b n now lim F hO) (cwV 0 hts gX2_isSame_X2_power rfl rfl rfl (by decide +kernel) ⟨Nat.le_of_ble_eq_true rfl, Nat.le_of_ble_eq_true rfl⟩) (va_recv hK hP0 (ci := 3) (q0 := _) rfl SV_mid.1) hP hK hD hS hA rfl hl.1 rfl (Nat.le_of_ble_eq_true rfl) dX2_isSame_212 ⟨by show (0 + 1) + 1 ≤ 2; omega, by show (0 + 8) + 8 ≤ 16; omega⟩ (fun r212 u212 H locs hr212 hP hD hS => ?_)
                    subst hr212
                    have hP : va_P E.1 vwCl (wC E a mc n now lim (LF F u208 fo) ++ (wS E b n now lim F ++ [(q1, .inl (E.2.2.2.1, n, .inl (liF F lim now n)))])) H := hP
                    have hD : va_D A (wC E a mc n now lim (LF F u208 fo) ++ (wS E b n now lim F ++ [(q1, .inl (E.2.2.2.1, n, .inl (liF F lim now n)))])) := hD
                    refine nq_icmp_ne (tgt := 262) hx hb dX2_isSame_215 (by decide) (by omega) (by omega) (fun h215 => ?_) (fun h215 => ?_)
                    · skip
                      exact absurd rfl h215
                    · skip
                      refine lv_aload_n hx hb dX2_isSame_218 rfl (lv_at hl 3 rfl) ?_
                      have hP0 := hP
                      have hP : va_P E.1 vwCl ([] ++ (wC E a mc n now lim (LF F u208 fo) ++ (wS E b n now lim F ++ [(q1, .inl (E.2.2.2.1, n, .inl (liF F lim now n)))]))) H := hP
                      have hD : va_D A ([] ++ (wC E a mc n now lim (LF F u208 fo) ++ (wS E b n now lim F ++ [(q1, .inl (E.2.2.2.1, n, .inl (liF F lim now n)))]))) := hD
                      refine cmX_i (wx := []) (wy := (wS E b n now lim F ++ [(q1, .inl (E.2.2.2.1, n, .inl (liF F lim now n)))])) (rest := []) (As := []) ⟨hx, hb, hml, hown, hts⟩ (c_X1_unfairness l E _ a mc n now lim F u208 fo hO  (by omega)) (cwV 0 hts gX2_isSame_X1_unfairness rfl rfl rfl (by decide +kernel) ⟨Nat.le_of_ble_eq_true rfl, Nat.le_of_ble_eq_true rfl⟩) (va_recv hK hP0 (ci := 2) (q0 := 0) rfl (list_app wC_x)) hP hK hD hS hA rfl hl.1 rfl (Nat.le_of_ble_eq_true rfl) dX2_isSame_219 ⟨Nat.le_of_ble_eq_true rfl, Nat.le_of_ble_eq_true rfl⟩ (fun r219 u219 H locs hr219 hP hD hS => ?_)
                      subst hr219
                      have hP : va_P E.1 vwCl (wC E a mc n now lim (LF F u219.1 u219.2) ++ (wS E b n now lim F ++ [(q1, .inl (E.2.2.2.1, n, .inl (liF F lim now n)))])) H := hP
                      have hD : va_D A (wC E a mc n now lim (LF F u219.1 u219.2) ++ (wS E b n now lim F ++ [(q1, .inl (E.2.2.2.1, n, .inl (liF F lim now n)))])) := hD
                      refine lv_aload_n hx hb dX2_isSame_222 rfl (lv_at hl 2 rfl) ?_
                      refine csV_i (rest := [.int (nI (unfS F n))]) (As := []) ⟨hx, hb, hml, hown, hts⟩ (c_X2_unfairness l E _ _ b n now lim F SV_mid (by omega) hO (by omega)) (cwV 0 hts gX2_isSame_X2_unfairness rfl rfl rfl (by decide +kernel) ⟨Nat.le_of_ble_eq_true rfl, Nat.le_of_ble_eq_true rfl⟩) (va_recv hK hP (ci := 3) (q0 := _) rfl SV_mid.1) hP hK rfl hl.1 rfl (Nat.le_of_ble_eq_true rfl) dX2_isSame_223 (Nat.le_of_ble_eq_true rfl) (Nat.le_of_ble_eq_true rfl) (fun r223 hr223 => ?_)
                      subst hr223
                      refine nq_icmp_ne (tgt := 262) hx hb dX2_isSame_226 (by decide) (by omega) (by omega) (fun h226 => ?_) (fun h226 => ?_)
                      · skip
                        exact absurd rfl h226
                      · skip
                        refine lv_aload_n hx hb dX2_isSame_229 rfl (lv_at hl 3 rfl) ?_
                        have hP0 := hP
                        have hP : va_P E.1 vwCl ([] ++ (wC E a mc n now lim (LF F u219.1 u219.2) ++ (wS E b n now lim F ++ [(q1, .inl (E.2.2.2.1, n, .inl (liF F lim now n)))]))) H := hP
                        have hD : va_D A ([] ++ (wC E a mc n now lim (LF F u219.1 u219.2) ++ (wS E b n now lim F ++ [(q1, .inl (E.2.2.2.1, n, .inl (liF F lim now n)))]))) := hD
                        refine cmX_d (wx := []) (wy := (wS E b n now lim F ++ [(q1, .inl (E.2.2.2.1, n, .inl (liF F lim now n)))])) (rest := []) (As := []) ⟨hx, hb, hml, hown, hts⟩ (c_X1_meanShone l E _ a mc n now lim F u219.1 u219.2 hO) (cwV 0 hts gX2_isSame_X1_meanShone rfl rfl rfl (by decide +kernel) ⟨Nat.le_of_ble_eq_true rfl, Nat.le_of_ble_eq_true rfl⟩) (va_recv hK hP0 (ci := 2) (q0 := 0) rfl (list_app wC_x)) hP hK hD hS hA rfl hl.1 rfl (Nat.le_of_ble_eq_true rfl) dX2_isSame_230 ⟨Nat.le_of_ble_eq_true rfl, Nat.le_of_ble_eq_true rfl⟩ (fun r230 u230 H locs hr230 hP hD hS => ?_)
                        subst hr230
                        have hP : va_P E.1 vwCl (wC E a mc n now lim (LF F u219.1 u219.2) ++ (wS E b n now lim F ++ [(q1, .inl (E.2.2.2.1, n, .inl (liF F lim now n)))])) H := hP
                        have hD : va_D A (wC E a mc n now lim (LF F u219.1 u219.2) ++ (wS E b n now lim F ++ [(q1, .inl (E.2.2.2.1, n, .inl (liF F lim now n)))])) := hD
                        refine nq_topv (show Value.double (mnD F n) = .double (FP.ddiv (FP.i2d (nI (sumS F n))) (FP.i2d (nI n))) from by rw [mnD_pos h0]) ?_
                        skip
                        refine lv_aload_n hx hb dX2_isSame_233 rfl (lv_at hl 2 rfl) ?_
                        refine va_get (D := E.1) (ci := 3) (v := .ref (b 1)) (C := RX2) (T := TX2) (N := 3) hx hb hts hiX2 hown hK hP _ SV_mid.1 rfl 0 (by decide) (hts (.fieldLink RX2 9 "PulseLoomLaw$Sim" "lamps" "[[I") (List.mem_of_getElem? (i := 1) (by rfl))) (fun _ h9 => h9) rfl dX2_isSame_234 ?_
                        refine va_alen hx hb hK hP _ 3 SV_mid.2.1 rfl (v := nI n) rfl dX2_isSame_237 ?_
                        refine nq_if_ne (tgt := 245) hx hb dX2_isSame_238 (by decide) (by omega) (fun h238 => ?_) (fun h238 => ?_)
                        · skip
                          refine lv_iload_n hx hb dX2_isSame_245 rfl (lv_at hl 1 rfl) ?_
                          refine lv_i2d hx hb dX2_isSame_246 ?_
                          refine lv_aload_n hx hb dX2_isSame_247 rfl (lv_at hl 2 rfl) ?_
                          refine va_get (D := E.1) (ci := 3) (v := .ref (b 1)) (C := RX2) (T := TX2) (N := 3) hx hb hts hiX2 hown hK hP _ SV_mid.1 rfl 0 (by decide) (hts (.fieldLink RX2 9 "PulseLoomLaw$Sim" "lamps" "[[I") (List.mem_of_getElem? (i := 1) (by rfl))) (fun _ h9 => h9) rfl dX2_isSame_248 ?_
                          refine va_alen hx hb hK hP _ 3 SV_mid.2.1 rfl (v := nI n) rfl dX2_isSame_251 ?_
                          refine lv_i2d hx hb dX2_isSame_252 ?_
                          refine lv_ddiv hx hb dX2_isSame_253 (dd_ok (by omega)) ?_
                          refine lv_dcmp hx hb dX2_isSame_254 ?_
                          refine nq_top (show (Op.cmpValue (FP.dcmp (FP.ddiv (FP.i2d (nI (sumS F n))) (FP.i2d (nI n))) (FP.ddiv (FP.i2d (nI (sumS F n))) (FP.i2d (nI n)))) .l) = (nI 0) from dcmp_ok (by omega)) ?_
                          refine nq_if_ne (tgt := 262) hx hb dX2_isSame_255 (by decide) (by decide) (fun h255 => ?_) (fun h255 => ?_)
                          · skip
                            exact absurd h255 (by decide)
                          · skip
                            skip
                            have hP : va_P E.1 vwCl (wC E a mc n now lim (LF F u219.1 u219.2) ++ wS E b n now lim F) _ := va_Pdr hP
                            have hD : va_D A (wC E a mc n now lim (LF F u219.1 u219.2) ++ wS E b n now lim F) := va_Ddr hD
                            skip
                            refine lv_iconst (v := (nI 1)) hx hb dX2_isSame_258 (by decide) ?_
                            refine lv_goto (tgt := 263) hx hb dX2_isSame_259 (by decide) ?_
                            rw [hQ]
                            refine W.widen (k := 2) (n := 16) (by omega) (by omega) ?_
                            refine nq_top (show nI 1 = bI true from rfl) ?_
                            exact retM_z (E := E) (A0 := A) (b := true) (post := fun r _ => r = bI true) (u := (u219.1, u219.2)) (W1 := fun u => wC E a mc n now lim (LF F u.1 u.2) ++ wS E b n now lim F) hx hb hr hlocks hP hK hD hS (rfl) dX2_isSame_263
                        · skip
                          exact absurd h238 (by omega)
            · skip
              have hsm := seenS_m hO (by omega) k
              refine lv_aload_n hx hb dX2_isSame_150 rfl (lv_at hl 3 rfl) ?_
              refine lv_iload hx hb dX2_isSame_151 (lv_at hl 0 rfl) ?_
              refine csV_i (rest := []) (As := [.int (nI k)]) ⟨hx, hb, hml, hown, hts⟩ (c_X1_seen l E _ a n now lim F lt fo CV_app hO k (by omega)) (cwV 1 hts gX2_isSame_X1_seen rfl rfl rfl (by decide +kernel) ⟨Nat.le_of_ble_eq_true rfl, Nat.le_of_ble_eq_true rfl⟩) (va_recv hK hP (ci := 2) (q0 := 0) rfl (list_app wC_x)) hP hK rfl hl.1 rfl (Nat.le_of_ble_eq_true rfl) dX2_isSame_153 (Nat.le_of_ble_eq_true rfl) (Nat.le_of_ble_eq_true rfl) (fun r153 hr153 => ?_)
              subst hr153
              refine lv_aload_n hx hb dX2_isSame_156 rfl (lv_at hl 2 rfl) ?_
              refine lv_iload hx hb dX2_isSame_157 (lv_at hl 0 rfl) ?_
              refine csV_i (rest := [.int (nI (seenS F k n))]) (As := [.int (nI k)]) ⟨hx, hb, hml, hown, hts⟩ (c_X2_seen l E _ _ b n now lim F SV_mid (by omega) hO k (by omega)) (cwV 1 hts gX2_isSame_X2_seen rfl rfl rfl (by decide +kernel) ⟨Nat.le_of_ble_eq_true rfl, Nat.le_of_ble_eq_true rfl⟩) (va_recv hK hP (ci := 3) (q0 := _) rfl SV_mid.1) hP hK rfl hl.1 rfl (Nat.le_of_ble_eq_true rfl) dX2_isSame_159 (Nat.le_of_ble_eq_true rfl) (Nat.le_of_ble_eq_true rfl) (fun r159 hr159 => ?_)
              subst hr159
              refine nq_icmp_eq (tgt := 167) hx hb dX2_isSame_162 (by decide) (by omega) (by omega) (fun h162 => ?_) (fun h162 => ?_)
              · skip
                refine nq_inc (lv' := [(4, .int (nI (k + 1))), (3, .int (nI (sumS F n))), (0, .ref (b 0)), (1, .ref (a 0))]) hx hb dX2_isSame_167 (d := 1) rfl hl (k := 0) rfl (by decide) rfl (fun ls hl => ?_)
                refine lv_goto (tgt := 143) hx hb dX2_isSame_170 (by decide) ?_
                exact ih143 (k + 1) _ _ ls (by omega) (by omega) hP hD hS (lv_sub hl [0, 1, 2, 3] rfl)
              · skip
                exact absurd rfl h162
        have hl : lv_has ls 6 [(4, .int (nI 0)), (3, .int (nI (sumS F n))), (2, .ref q1), (0, .ref (b 0)), (1, .ref (a 0))] := lv_rep hl 1 rfl (congrArg Value.int (show (nI (sumS F i)) = (nI (sumS F n)) from by rw [show i = n by omega]))
        exact loop143 ((6 - 0) + 1) 0 _ _ ls (by omega) (Nat.lt_succ_self _) hP hD hS (lv_sub hl [0, 1, 3, 4] rfl)
      · skip
        have hi9 := hO4 i (by omega)
        have hpl := ph_lt (F := F) (i := i) (b := now) (by omega)
        refine lv_aload_n hx hb dX2_isSame_20 rfl (lv_at hl 3 rfl) ?_
        refine va_get (D := E.1) (ci := 3) (v := .ref (b 1)) (C := RX2) (T := TX2) (N := 3) hx hb hts hiX2 hown hK hP _ SV_mid.1 rfl 0 (by decide) (hts (.fieldLink RX2 9 "PulseLoomLaw$Sim" "lamps" "[[I") (List.mem_of_getElem? (i := 1) (by rfl))) (fun _ h9 => h9) rfl dX2_isSame_21 ?_
        refine lv_iload hx hb dX2_isSame_24 (lv_at hl 0 rfl) ?_
        refine nz_aald hx hb hK hP _ SV_mid.2.1 (by exact vp_in_nI (by omega) (by omega)) dX2_isSame_26 ?_
        refine nq_topv (show va_rf ((arS b n) ((nI i)).toNatClampNeg) = .ref (b (2 + i)) from by rw [nI_clamp (by omega)]; exact congrArg va_rf (arS_at (by omega))) ?_
        refine lv_astore (lv' := [(5, .ref (b (2 + i))), (4, .int (nI i)), (3, .int (nI (sumS F i))), (2, .ref q1), (0, .ref (b 0)), (1, .ref (a 0))]) hx hb dX2_isSame_27 hl (by decide) rfl (fun ls hl => ?_)
        refine lv_iload_n hx hb dX2_isSame_29 rfl (lv_at hl 2 rfl) ?_
        refine lv_aload hx hb dX2_isSame_30 (lv_at hl 0 rfl) ?_
        refine lv_iconst (v := (nI 5)) hx hb dX2_isSame_32 (by decide) ?_
        refine va_iald hx hb hK hP ((wC E a mc n now lim (LF F lt fo)).length + (2 + i)) 0 (SV_mid.2.2 i (by omega)) rfl (by exact vp_in_nI (by omega) (by omega)) dX2_isSame_33 ?_
        refine nq_top (show (rwF F i (((nI 5)).toNatClampNeg)) = (nI (F i 5)) from by rw [nI_clamp (by omega)]; rfl) ?_
        refine nq_add hx hb dX2_isSame_34 ?_
        refine lv_istore_n (lv' := [(3, .int (nI ((sumS F i) + (F i 5)))), (5, .ref (b (2 + i))), (4, .int (nI i)), (2, .ref q1), (0, .ref (b 0)), (1, .ref (a 0))]) hx hb dX2_isSame_35 rfl hl (by decide) rfl (fun ls hl => ?_)
        refine lv_aload_n hx hb dX2_isSame_36 rfl (lv_at hl 5 rfl) ?_
        refine lv_iload hx hb dX2_isSame_37 (lv_at hl 2 rfl) ?_
        refine csV_i (rest := []) (As := [.int (nI i)]) ⟨hx, hb, hml, hown, hts⟩ (c_X1_phaseOf l E _ a n now lim F lt fo CV_app hO i (by omega)) (cwV 1 hts gX2_isSame_X1_phaseOf rfl rfl rfl (by decide +kernel) ⟨Nat.le_of_ble_eq_true rfl, Nat.le_of_ble_eq_true rfl⟩) (va_recv hK hP (ci := 2) (q0 := 0) rfl (list_app wC_x)) hP hK rfl hl.1 rfl (Nat.le_of_ble_eq_true rfl) dX2_isSame_39 (Nat.le_of_ble_eq_true rfl) (Nat.le_of_ble_eq_true rfl) (fun r39 hr39 => ?_)
        subst hr39
        refine lv_aload_n hx hb dX2_isSame_42 rfl (lv_at hl 4 rfl) ?_
        refine lv_iload hx hb dX2_isSame_43 (lv_at hl 2 rfl) ?_
        refine csV_i (rest := [.int (nI (ph F i now))]) (As := [.int (nI i)]) ⟨hx, hb, hml, hown, hts⟩ (c_X2_phase l E _ _ b n now lim F SV_mid (by omega) i (by omega) (okp hO (i := i) (by omega)) (by omega)) (cwV 1 hts gX2_isSame_X2_phase rfl rfl rfl (by decide +kernel) ⟨Nat.le_of_ble_eq_true rfl, Nat.le_of_ble_eq_true rfl⟩) (va_recv hK hP (ci := 3) (q0 := _) rfl SV_mid.1) hP hK rfl hl.1 rfl (Nat.le_of_ble_eq_true rfl) dX2_isSame_45 (Nat.le_of_ble_eq_true rfl) (Nat.le_of_ble_eq_true rfl) (fun r45 hr45 => ?_)
        subst hr45
        refine nq_icmp_ne (tgt := 132) hx hb dX2_isSame_48 (by decide) (by omega) (by omega) (fun h48 => ?_) (fun h48 => ?_)
        · skip
          exact absurd rfl h48
        · skip
          refine lv_aload_n hx hb dX2_isSame_51 rfl (lv_at hl 5 rfl) ?_
          refine lv_iload hx hb dX2_isSame_52 (lv_at hl 2 rfl) ?_
          refine csV_i (rest := []) (As := [.int (nI i)]) ⟨hx, hb, hml, hown, hts⟩ (c_X1_isDue l E _ a n now lim F lt fo CV_app hO i (by omega)) (cwV 1 hts gX2_isSame_X1_isDue rfl rfl rfl (by decide +kernel) ⟨Nat.le_of_ble_eq_true rfl, Nat.le_of_ble_eq_true rfl⟩) (va_recv hK hP (ci := 2) (q0 := 0) rfl (list_app wC_x)) hP hK rfl hl.1 rfl (Nat.le_of_ble_eq_true rfl) dX2_isSame_54 (Nat.le_of_ble_eq_true rfl) (Nat.le_of_ble_eq_true rfl) (fun r54 hr54 => ?_)
          subst hr54
          refine lv_aload_n hx hb dX2_isSame_57 rfl (lv_at hl 4 rfl) ?_
          refine lv_iload hx hb dX2_isSame_58 (lv_at hl 2 rfl) ?_
          refine csV_i (rest := [.int (bI (due F i now))]) (As := [.int (nI i)]) ⟨hx, hb, hml, hown, hts⟩ (c_X2_isDue l E _ _ b n now lim F SV_mid (by omega) i (by omega) (okp hO (i := i) (by omega)) (by omega) (okl hO (i := i) (by omega))) (cwV 1 hts gX2_isSame_X2_isDue rfl rfl rfl (by decide +kernel) ⟨Nat.le_of_ble_eq_true rfl, Nat.le_of_ble_eq_true rfl⟩) (va_recv hK hP (ci := 3) (q0 := _) rfl SV_mid.1) hP hK rfl hl.1 rfl (Nat.le_of_ble_eq_true rfl) dX2_isSame_60 (Nat.le_of_ble_eq_true rfl) (Nat.le_of_ble_eq_true rfl) (fun r60 hr60 => ?_)
          subst hr60
          refine lv_icmp_ne (tgt := 132) hx hb dX2_isSame_63 (by decide) (fun h63 => ?_) (fun h63 => ?_)
          · skip
            exact absurd rfl h63
          · skip
            refine lv_aload_n hx hb dX2_isSame_66 rfl (lv_at hl 5 rfl) ?_
            refine lv_iload hx hb dX2_isSame_67 (lv_at hl 2 rfl) ?_
            have hP0 := hP
            have hP : va_P E.1 vwCl ([] ++ (wC E a mc n now lim (LF F lt fo) ++ (wS E b n now lim F ++ [(q1, .inl (E.2.2.2.1, n, .inl (liF F lim now n)))]))) H := hP
            have hD : va_D A ([] ++ (wC E a mc n now lim (LF F lt fo) ++ (wS E b n now lim F ++ [(q1, .inl (E.2.2.2.1, n, .inl (liF F lim now n)))]))) := hD
            refine cmX_i (wx := []) (wy := (wS E b n now lim F ++ [(q1, .inl (E.2.2.2.1, n, .inl (liF F lim now n)))])) (rest := []) (As := [.int (nI i)]) ⟨hx, hb, hml, hown, hts⟩ (c_X1_shines l E _ a mc n now lim F lt fo hO i (by omega)) (cwV 1 hts gX2_isSame_X1_shines rfl rfl rfl (by decide +kernel) ⟨Nat.le_of_ble_eq_true rfl, Nat.le_of_ble_eq_true rfl⟩) (va_recv hK hP0 (ci := 2) (q0 := 0) rfl (list_app wC_x)) hP hK hD hS hA rfl hl.1 rfl (Nat.le_of_ble_eq_true rfl) dX2_isSame_69 ⟨Nat.le_of_ble_eq_true rfl, Nat.le_of_ble_eq_true rfl⟩ (fun r69 u69 H locs hr69 hP hD hS => ?_)
            subst hr69
            have hP : va_P E.1 vwCl (wC E a mc n now lim (LF F u69 fo) ++ (wS E b n now lim F ++ [(q1, .inl (E.2.2.2.1, n, .inl (liF F lim now n)))])) H := hP
            have hD : va_D A (wC E a mc n now lim (LF F u69 fo) ++ (wS E b n now lim F ++ [(q1, .inl (E.2.2.2.1, n, .inl (liF F lim now n)))])) := hD
            refine lv_aload_n hx hb dX2_isSame_72 rfl (lv_at hl 3 rfl) ?_
            refine lv_iload hx hb dX2_isSame_73 (lv_at hl 2 rfl) ?_
            refine va_zald hx hb hK hP _ 2 wS_em rfl (by exact vp_in_nI (by omega) (by omega)) dX2_isSame_75 ?_
            refine nq_top (show (liF F lim now n (((nI i)).toNatClampNeg)) = (bI (litS F lim now i)) from liF_at (by omega) (by omega)) ?_
            refine lv_icmp_ne (tgt := 132) hx hb dX2_isSame_76 (by decide) (fun h76 => ?_) (fun h76 => ?_)
            · skip
              exact absurd rfl h76
            · skip
              refine lv_aload_n hx hb dX2_isSame_79 rfl (lv_at hl 5 rfl) ?_
              refine lv_iload hx hb dX2_isSame_80 (lv_at hl 2 rfl) ?_
              refine csV_i (rest := []) (As := [.int (nI i)]) ⟨hx, hb, hml, hown, hts⟩ (c_X1_colourOf l E _ a n now lim F u69 fo CV_app hO i (by omega)) (cwV 1 hts gX2_isSame_X1_colourOf rfl rfl rfl (by decide +kernel) ⟨Nat.le_of_ble_eq_true rfl, Nat.le_of_ble_eq_true rfl⟩) (va_recv hK hP (ci := 2) (q0 := 0) rfl (list_app wC_x)) hP hK rfl hl.1 rfl (Nat.le_of_ble_eq_true rfl) dX2_isSame_82 (Nat.le_of_ble_eq_true rfl) (Nat.le_of_ble_eq_true rfl) (fun r82 hr82 => ?_)
              subst hr82
              refine lv_aload hx hb dX2_isSame_85 (lv_at hl 1 rfl) ?_
              refine lv_iconst (v := (nI 0)) hx hb dX2_isSame_87 (by decide) ?_
              refine va_iald hx hb hK hP ((wC E a mc n now lim (LF F u69 fo)).length + (2 + i)) 0 (SV_mid.2.2 i (by omega)) rfl (by exact vp_in_nI (by omega) (by omega)) dX2_isSame_88 ?_
              refine nq_top (show (rwF F i (((nI 0)).toNatClampNeg)) = (nI (F i 2)) from by rw [nI_clamp (by omega)]; rfl) ?_
              refine nq_icmp_ne (tgt := 132) hx hb dX2_isSame_89 (by decide) (by omega) (by omega) (fun h89 => ?_) (fun h89 => ?_)
              · skip
                exact absurd rfl h89
              · skip
                refine lv_aload_n hx hb dX2_isSame_92 rfl (lv_at hl 5 rfl) ?_
                refine lv_iload hx hb dX2_isSame_93 (lv_at hl 2 rfl) ?_
                refine csV_i (rest := []) (As := [.int (nI i)]) ⟨hx, hb, hml, hown, hts⟩ (c_X1_shiftOf l E _ a n now lim F u69 fo CV_app hO i (by omega)) (cwV 1 hts gX2_isSame_X1_shiftOf rfl rfl rfl (by decide +kernel) ⟨Nat.le_of_ble_eq_true rfl, Nat.le_of_ble_eq_true rfl⟩) (va_recv hK hP (ci := 2) (q0 := 0) rfl (list_app wC_x)) hP hK rfl hl.1 rfl (Nat.le_of_ble_eq_true rfl) dX2_isSame_95 (Nat.le_of_ble_eq_true rfl) (Nat.le_of_ble_eq_true rfl) (fun r95 hr95 => ?_)
                subst hr95
                refine lv_aload hx hb dX2_isSame_98 (lv_at hl 1 rfl) ?_
                refine lv_iconst (v := (nI 2)) hx hb dX2_isSame_100 (by decide) ?_
                refine va_iald hx hb hK hP ((wC E a mc n now lim (LF F u69 fo)).length + (2 + i)) 0 (SV_mid.2.2 i (by omega)) rfl (by exact vp_in_nI (by omega) (by omega)) dX2_isSame_101 ?_
                refine nq_top (show (rwF F i (((nI 2)).toNatClampNeg)) = (nI (F i 3)) from by rw [nI_clamp (by omega)]; rfl) ?_
                refine nq_icmp_ne (tgt := 132) hx hb dX2_isSame_102 (by decide) (by omega) (by omega) (fun h102 => ?_) (fun h102 => ?_)
                · skip
                  exact absurd rfl h102
                · skip
                  refine lv_aload_n hx hb dX2_isSame_105 rfl (lv_at hl 5 rfl) ?_
                  refine lv_iload hx hb dX2_isSame_106 (lv_at hl 2 rfl) ?_
                  refine csV_i (rest := []) (As := [.int (nI i)]) ⟨hx, hb, hml, hown, hts⟩ (c_X1_shone l E _ a n now lim F u69 fo CV_app hO i (by omega)) (cwV 1 hts gX2_isSame_X1_shone rfl rfl rfl (by decide +kernel) ⟨Nat.le_of_ble_eq_true rfl, Nat.le_of_ble_eq_true rfl⟩) (va_recv hK hP (ci := 2) (q0 := 0) rfl (list_app wC_x)) hP hK rfl hl.1 rfl (Nat.le_of_ble_eq_true rfl) dX2_isSame_108 (Nat.le_of_ble_eq_true rfl) (Nat.le_of_ble_eq_true rfl) (fun r108 hr108 => ?_)
                  subst hr108
                  refine lv_aload hx hb dX2_isSame_111 (lv_at hl 1 rfl) ?_
                  refine lv_iconst (v := (nI 5)) hx hb dX2_isSame_113 (by decide) ?_
                  refine va_iald hx hb hK hP ((wC E a mc n now lim (LF F u69 fo)).length + (2 + i)) 0 (SV_mid.2.2 i (by omega)) rfl (by exact vp_in_nI (by omega) (by omega)) dX2_isSame_114 ?_
                  refine nq_top (show (rwF F i (((nI 5)).toNatClampNeg)) = (nI (F i 5)) from by rw [nI_clamp (by omega)]; rfl) ?_
                  refine nq_icmp_ne (tgt := 132) hx hb dX2_isSame_115 (by decide) (by omega) (by omega) (fun h115 => ?_) (fun h115 => ?_)
                  · skip
                    exact absurd rfl h115
                  · skip
                    refine lv_aload_n hx hb dX2_isSame_118 rfl (lv_at hl 5 rfl) ?_
                    refine lv_iload hx hb dX2_isSame_119 (lv_at hl 2 rfl) ?_
                    refine csV_i (rest := []) (As := [.int (nI i)]) ⟨hx, hb, hml, hown, hts⟩ (c_X1_stayedDark l E _ a n now lim F u69 fo CV_app hO i (by omega)) (cwV 1 hts gX2_isSame_X1_stayedDark rfl rfl rfl (by decide +kernel) ⟨Nat.le_of_ble_eq_true rfl, Nat.le_of_ble_eq_true rfl⟩) (va_recv hK hP (ci := 2) (q0 := 0) rfl (list_app wC_x)) hP hK rfl hl.1 rfl (Nat.le_of_ble_eq_true rfl) dX2_isSame_121 (Nat.le_of_ble_eq_true rfl) (Nat.le_of_ble_eq_true rfl) (fun r121 hr121 => ?_)
                    subst hr121
                    refine lv_aload hx hb dX2_isSame_124 (lv_at hl 1 rfl) ?_
                    refine lv_bipush (v := (nI 6)) hx hb dX2_isSame_126 (by decide) ?_
                    refine va_iald hx hb hK hP ((wC E a mc n now lim (LF F u69 fo)).length + (2 + i)) 0 (SV_mid.2.2 i (by omega)) rfl (by exact vp_in_nI (by omega) (by omega)) dX2_isSame_128 ?_
                    refine nq_top (show (rwF F i (((nI 6)).toNatClampNeg)) = (nI (F i 6)) from by rw [nI_clamp (by omega)]; rfl) ?_
                    refine nq_icmp_eq (tgt := 134) hx hb dX2_isSame_129 (by decide) (by omega) (by omega) (fun h129 => ?_) (fun h129 => ?_)
                    · skip
                      refine nq_inc (lv' := [(4, .int (nI (i + 1))), (3, .int (nI ((sumS F i) + (F i 5)))), (5, .ref (b (2 + i))), (2, .ref q1), (0, .ref (b 0)), (1, .ref (a 0))]) hx hb dX2_isSame_134 (d := 1) rfl hl (k := 2) rfl (by decide) rfl (fun ls hl => ?_)
                      refine lv_goto (tgt := 10) hx hb dX2_isSame_137 (by decide) ?_
                      have hl : lv_has ls 6 [(4, .int (nI (i + 1))), (3, .int (nI (sumS F (i + 1)))), (5, .ref (b (2 + i))), (2, .ref q1), (0, .ref (b 0)), (1, .ref (a 0))] := lv_rep hl 1 rfl (congrArg Value.int (show (nI ((sumS F i) + (F i 5))) = (nI (sumS F (i + 1))) from rfl))
                      exact ih10 (i + 1) u69 _ _ ls (by omega) (by omega) hP hD hS (lv_sub hl [0, 1, 3, 4, 5] rfl)
                    · skip
                      exact absurd rfl h129
  have hl : lv_has ls 6 [(4, .int (nI 0)), (3, .int (nI (sumS F 0))), (2, .ref q1), (0, .ref (b 0)), (1, .ref (a 0))] := lv_rep hl 1 rfl (congrArg Value.int (show (nI 0) = (nI (sumS F 0)) from rfl))
  exact loop10 ((n - 0) + 1) 0 lit _ _ ls (by omega) (Nat.lt_succ_self _) hP hD hS (lv_sub hl [0, 1, 2, 3, 4] rfl)

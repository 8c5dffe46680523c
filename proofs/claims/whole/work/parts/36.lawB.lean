/-! the law, call by call -/
set_option maxHeartbeats 4000000 in
set_option maxRecDepth 100000 in
theorem law_addLamp {p : Program} {l : Launch} {e : Env} {s : State} {m : MethodId} {b : Nat} {below : List Frame} {meth : Method} {c : Code} {E : GE} {A : Nat → Prop} {z0 L o i j : Nat} {xs : Nat → Int32} {Q : State → Prop} (CC : LC p l s m b c E A z0 L xs) (hL9 : L ≤ 2560) (hi9 : i + 5 ≤ L) (hj9 : j ≤ 511) (KK : LK p l e s m b below meth c E A z0 o Q 1763 i (j + 1)) (a : Nat → Nat) (mc : Int32) (n now lim : Nat) (F : LR) (lit : Nat → Bool) (fo : Nat → Nat) (fn : Nat → Int64) (bb : Nat → Nat) (th : Int32) (kp : Nat → Int32) (H : Heap) (locs : List Loc) (ls : Array Slot) (cells slots : Nat) (hst : LSt E A s b z0 i j a mc n now lim F lit fo o fn bb th kp H locs ls cells slots) (k v u z : Nat) (hc9 : k ≤ 5) (hp9 : 2 ≤ v ∧ v ≤ 20) (hl9a : 1 ≤ u ∧ u < v) (hw9 : 1 ≤ z ∧ z ≤ 9) (hn9 : n < 8) (e1 : xs (i + 1) = (nI k)) (e2 : xs (i + 2) = (nI v)) (e3 : xs (i + 3) = (nI u)) (e4 : xs (i + 4) = (nI z)) : W p l e room_1 s m #[Value.ref b] below meth c H locs cells slots Q (F0 m 180 ls []) := by
  obtain ⟨hx, hb, hml, hown, hts, hK, hZ, hT, hA, hbA, hX, hbl, hl9⟩ := CC
  obtain ⟨hO, hnw, hz, hcl, hsl, hP, hD, hS, hl⟩ := hst
  refine lv_aload_n hx hb dL_law_180 rfl (lv_at hl 1 rfl) ?_
  refine lv_aload_n hx hb dL_law_181 rfl (lv_at hl 0 rfl) ?_
  refine lv_iload hx hb dL_law_182 (lv_at hl 4 rfl) ?_
  refine lv_iconst (v := (nI 1)) hx hb dL_law_184 (by decide) ?_
  refine nq_add hx hb dL_law_185 ?_
  refine va_sld hx hb hX hbl hbA hS (i := nI (i + 1)) (by exact vp_in_nI (by omega) (by omega)) dL_law_186 ?_
  refine nq_top (show xs ((nI (i + 1)).toNatClampNeg) = (nI k) from by rw [nI_clamp (by omega)]; exact e1) ?_
  refine lv_aload_n hx hb dL_law_187 rfl (lv_at hl 0 rfl) ?_
  refine lv_iload hx hb dL_law_188 (lv_at hl 4 rfl) ?_
  refine lv_iconst (v := (nI 2)) hx hb dL_law_190 (by decide) ?_
  refine nq_add hx hb dL_law_191 ?_
  refine va_sld hx hb hX hbl hbA hS (i := nI (i + 2)) (by exact vp_in_nI (by omega) (by omega)) dL_law_192 ?_
  refine nq_top (show xs ((nI (i + 2)).toNatClampNeg) = (nI v) from by rw [nI_clamp (by omega)]; exact e2) ?_
  refine lv_aload_n hx hb dL_law_193 rfl (lv_at hl 0 rfl) ?_
  refine lv_iload hx hb dL_law_194 (lv_at hl 4 rfl) ?_
  refine lv_iconst (v := (nI 3)) hx hb dL_law_196 (by decide) ?_
  refine nq_add hx hb dL_law_197 ?_
  refine va_sld hx hb hX hbl hbA hS (i := nI (i + 3)) (by exact vp_in_nI (by omega) (by omega)) dL_law_198 ?_
  refine nq_top (show xs ((nI (i + 3)).toNatClampNeg) = (nI u) from by rw [nI_clamp (by omega)]; exact e3) ?_
  refine lv_aload_n hx hb dL_law_199 rfl (lv_at hl 0 rfl) ?_
  refine lv_iload hx hb dL_law_200 (lv_at hl 4 rfl) ?_
  refine lv_iconst (v := (nI 4)) hx hb dL_law_202 (by decide) ?_
  refine nq_add hx hb dL_law_203 ?_
  refine va_sld hx hb hX hbl hbA hS (i := nI (i + 4)) (by exact vp_in_nI (by omega) (by omega)) dL_law_204 ?_
  refine nq_top (show xs ((nI (i + 4)).toNatClampNeg) = (nI z) from by rw [nI_clamp (by omega)]; exact e4) ?_
  refine lv_aload_n hx hb dL_law_205 rfl (lv_at hl 3 rfl) ?_
  refine lawS (S := Nat → Nat) (W1 := fun uQ => wC E uQ (mc + nI 1) (n + 1) now lim (LF (up2 (up2 (up2 (up2 F n 2 k) n 0 v) n 4 u) n 1 z) (va_up lit n false) (va_up fo n 0))) (f1 := fun uQ => vp_updL fn 0 (((nI n)).toInt64)) (rest := []) (As := [.ref (a 0), .int (nI k), .int (nI v), .int (nI u), .int (nI z), .ref o]) ⟨hx, hb, hml, hown, hts⟩ (w_L_addLamp l hl9 E _ z0 a mc n now lim F lit fo hO o fn hz k v u z hc9 hp9 hl9a hw9 hn9) (vx_cwSW 6 hts gL_law_L_addLamp rfl rfl rfl (by decide +kernel) ⟨Nat.le_of_ble_eq_true rfl, Nat.le_of_ble_eq_true rfl⟩) hP hK hD hZ hT hS hA rfl hl.1 rfl (Nat.le_of_ble_eq_true rfl) dL_law_206 ⟨by show cells + 2 ≤ 601024; omega, by show slots + 19 ≤ 7293034; omega⟩ (fun r1 u1 H locs hr1 hP hD hS => ?_)
  obtain ⟨hr1, hh0⟩ := hr1
  subst hr1
  have hP : va_P E.1 vwCl (wG E (wC E u1 (mc + nI 1) (n + 1) now lim (LF (up2 (up2 (up2 (up2 F n 2 k) n 0 v) n 4 u) n 1 z) (va_up lit n false) (va_up fo n 0))) o (vp_updL fn 0 (((nI n)).toInt64)) (wM E bb (th) n lim F (NW now F) kp)) _ := hP
  have hD : va_D A (wG E (wC E u1 (mc + nI 1) (n + 1) now lim (LF (up2 (up2 (up2 (up2 F n 2 k) n 0 v) n 4 u) n 1 z) (va_up lit n false) (va_up fo n 0))) o (vp_updL fn 0 (((nI n)).toInt64)) (wM E bb (th) n lim F (NW now F) kp)) := hD
  refine lv_istore (lv' := [(5, .int (nI 0)), (0, .ref b), (1, .ref (a 0)), (2, .ref (bb 0)), (3, .ref o), (4, .int (nI i))]) hx hb dL_law_209 hl (by decide) rfl (fun ls hl => ?_)
  refine lv_aload_n hx hb dL_law_211 rfl (lv_at hl 3 rfl) ?_
  refine lv_aload_n hx hb dL_law_212 rfl (lv_at hl 1 rfl) ?_
  refine lv_iload hx hb dL_law_213 (lv_at hl 5 rfl) ?_
  refine lv_iconst (v := (nI 1)) hx hb dL_law_215 (by decide) ?_
  refine nq_add hx hb dL_law_216 ?_
  refine va_sld hx hb hX hbl hbA hS (i := nI (i + 1)) (by exact vp_in_nI (by omega) (by omega)) dL_law_217 ?_
  refine nq_top (show xs ((nI (i + 1)).toNatClampNeg) = (nI k) from by rw [nI_clamp (by omega)]; exact e1) ?_
  refine lv_aload_n hx hb dL_law_218 rfl (lv_at hl 1 rfl) ?_
  refine lv_iload hx hb dL_law_219 (lv_at hl 5 rfl) ?_
  refine lv_iconst (v := (nI 2)) hx hb dL_law_221 (by decide) ?_
  refine nq_add hx hb dL_law_222 ?_
  refine va_sld hx hb hX hbl hbA hS (i := nI (i + 2)) (by exact vp_in_nI (by omega) (by omega)) dL_law_223 ?_
  refine nq_top (show xs ((nI (i + 2)).toNatClampNeg) = (nI v) from by rw [nI_clamp (by omega)]; exact e2) ?_
  refine lv_aload_n hx hb dL_law_224 rfl (lv_at hl 1 rfl) ?_
  refine lv_iload hx hb dL_law_225 (lv_at hl 5 rfl) ?_
  refine lv_iconst (v := (nI 3)) hx hb dL_law_227 (by decide) ?_
  refine nq_add hx hb dL_law_228 ?_
  refine va_sld hx hb hX hbl hbA hS (i := nI (i + 3)) (by exact vp_in_nI (by omega) (by omega)) dL_law_229 ?_
  refine nq_top (show xs ((nI (i + 3)).toNatClampNeg) = (nI u) from by rw [nI_clamp (by omega)]; exact e3) ?_
  refine lv_aload_n hx hb dL_law_230 rfl (lv_at hl 1 rfl) ?_
  refine lv_iload hx hb dL_law_231 (lv_at hl 5 rfl) ?_
  refine lv_iconst (v := (nI 4)) hx hb dL_law_233 (by decide) ?_
  refine nq_add hx hb dL_law_234 ?_
  refine va_sld hx hb hX hbl hbA hS (i := nI (i + 4)) (by exact vp_in_nI (by omega) (by omega)) dL_law_235 ?_
  refine nq_top (show xs ((nI (i + 4)).toNatClampNeg) = (nI z) from by rw [nI_clamp (by omega)]; exact e4) ?_
  refine lawM_i (S := Unit) (W1 := fun kQ => wM E bb (nI 0) (n + 1) lim (up2 (up2 (up2 (up2 F n 2 k) n 0 v) n 4 u) n 1 z) (NW now (up2 (up2 (up2 (up2 F n 2 k) n 0 v) n 4 u) n 1 z)) kp) (rest := []) (As := [.int (nI k), .int (nI v), .int (nI u), .int (nI z)]) ⟨hx, hb, hml, hown, hts⟩ (c_X2_addLamp l E _ bb th n lim now F kp hO k v u z hc9 hp9 hl9a hw9 hn9) (cwV 4 hts gL_law_X2_addLamp rfl rfl rfl (by decide +kernel) ⟨Nat.le_of_ble_eq_true rfl, Nat.le_of_ble_eq_true rfl⟩) (va_recv hK hP (ci := 3) (q0 := (wC E u1 (mc + nI 1) (n + 1) now lim (LF (up2 (up2 (up2 (up2 F n 2 k) n 0 v) n 4 u) n 1 z) (va_up lit n false) (va_up fo n 0))).length + 1) rfl wG_m0) hP hK hD hS hA rfl hl.1 rfl (Nat.le_of_ble_eq_true rfl) dL_law_236 ⟨by show cells + 2 + 0 ≤ 601024; omega, by show slots + 19 + 0 ≤ 7293034; omega⟩ (fun r2 u2 H locs hr2 hP hD hS => ?_)
  subst hr2
  have hP : va_P E.1 vwCl (wG E (wC E u1 (mc + nI 1) (n + 1) now lim (LF (up2 (up2 (up2 (up2 F n 2 k) n 0 v) n 4 u) n 1 z) (va_up lit n false) (va_up fo n 0))) o (vp_updL fn 0 (((nI n)).toInt64)) (wM E bb (nI 0) (n + 1) lim (up2 (up2 (up2 (up2 F n 2 k) n 0 v) n 4 u) n 1 z) (NW now (up2 (up2 (up2 (up2 F n 2 k) n 0 v) n 4 u) n 1 z)) kp)) _ := hP
  have hD : va_D A (wG E (wC E u1 (mc + nI 1) (n + 1) now lim (LF (up2 (up2 (up2 (up2 F n 2 k) n 0 v) n 4 u) n 1 z) (va_up lit n false) (va_up fo n 0))) o (vp_updL fn 0 (((nI n)).toInt64)) (wM E bb (nI 0) (n + 1) lim (up2 (up2 (up2 (up2 F n 2 k) n 0 v) n 4 u) n 1 z) (NW now (up2 (up2 (up2 (up2 F n 2 k) n 0 v) n 4 u) n 1 z)) kp)) := hD
  refine lv_istore (lv' := [(6, .int (nI n)), (5, .int (nI 0)), (0, .ref b), (1, .ref (a 0)), (2, .ref (bb 0)), (3, .ref o), (4, .int (nI i))]) hx hb dL_law_239 hl (by decide) rfl (fun ls hl => ?_)
  refine lv_aload_n hx hb dL_law_241 rfl (lv_at hl 4 rfl) ?_
  refine lawM_i (S := Unit) (W1 := fun kQ => wM E bb (nI 0) (n + 1) lim (up2 (up2 (up2 (up2 F n 2 k) n 0 v) n 4 u) n 1 z) (NW now (up2 (up2 (up2 (up2 F n 2 k) n 0 v) n 4 u) n 1 z)) kp) (rest := []) (As := []) ⟨hx, hb, hml, hown, hts⟩ (c_X2_thrown l E _ bb (nI 0) (n + 1) lim now (up2 (up2 (up2 (up2 F n 2 k) n 0 v) n 4 u) n 1 z) kp) (cwV 0 hts gL_law_X2_thrown rfl rfl rfl (by decide +kernel) ⟨Nat.le_of_ble_eq_true rfl, Nat.le_of_ble_eq_true rfl⟩) (va_recv hK hP (ci := 3) (q0 := (wC E u1 (mc + nI 1) (n + 1) now lim (LF (up2 (up2 (up2 (up2 F n 2 k) n 0 v) n 4 u) n 1 z) (va_up lit n false) (va_up fo n 0))).length + 1) rfl wG_m0) hP hK hD hS hA rfl hl.1 rfl (Nat.le_of_ble_eq_true rfl) dL_law_242 ⟨by show cells + 2 + 0 + 0 ≤ 601024; omega, by show slots + 19 + 0 + 0 ≤ 7293034; omega⟩ (fun r3 u3 H locs hr3 hP hD hS => ?_)
  subst hr3
  have hP : va_P E.1 vwCl (wG E (wC E u1 (mc + nI 1) (n + 1) now lim (LF (up2 (up2 (up2 (up2 F n 2 k) n 0 v) n 4 u) n 1 z) (va_up lit n false) (va_up fo n 0))) o (vp_updL fn 0 (((nI n)).toInt64)) (wM E bb (nI 0) (n + 1) lim (up2 (up2 (up2 (up2 F n 2 k) n 0 v) n 4 u) n 1 z) (NW now (up2 (up2 (up2 (up2 F n 2 k) n 0 v) n 4 u) n 1 z)) kp)) _ := hP
  have hD : va_D A (wG E (wC E u1 (mc + nI 1) (n + 1) now lim (LF (up2 (up2 (up2 (up2 F n 2 k) n 0 v) n 4 u) n 1 z) (va_up lit n false) (va_up fo n 0))) o (vp_updL fn 0 (((nI n)).toInt64)) (wM E bb (nI 0) (n + 1) lim (up2 (up2 (up2 (up2 F n 2 k) n 0 v) n 4 u) n 1 z) (NW now (up2 (up2 (up2 (up2 F n 2 k) n 0 v) n 4 u) n 1 z)) kp)) := hD
  refine lv_iload hx hb dL_law_245 (lv_at hl 1 rfl) ?_
  refine nq_icmp_eq (tgt := 252) hx hb dL_law_247 (by decide) (by omega) (by omega) (fun h247 => ?_) (fun h247 => ?_)
  · skip
    refine lv_iload hx hb dL_law_252 (lv_at hl 1 rfl) ?_
    refine nq_if_ne (tgt := 269) hx hb dL_law_254 (by decide) (by decide) (fun h254 => ?_) (fun h254 => ?_)
    · skip
      exact absurd h254 (by decide)
    · skip
      refine lv_aload_n hx hb dL_law_257 rfl (lv_at hl 5 rfl) ?_
      refine lv_iconst (v := (nI 0)) hx hb dL_law_258 (by decide) ?_
      refine va_lald hx hb hK hP (wC E u1 (mc + nI 1) (n + 1) now lim (LF (up2 (up2 (up2 (up2 F n 2 k) n 0 v) n 4 u) n 1 z) (va_up lit n false) (va_up fo n 0))).length 2 wG_o rfl (i := nI 0) (by exact vp_in_nI (by omega) (by omega)) dL_law_259 ?_
      refine nq_topl (show (vp_updL fn 0 (((nI n)).toInt64)) ((nI 0).toNatClampNeg) = ((nI n)).toInt64 from by rw [nI_clamp (by omega)]; exact if_pos rfl) ?_
      refine lv_iload hx hb dL_law_260 (lv_at hl 0 rfl) ?_
      refine lv_i2l (v := (nI n).toInt64) hx hb dL_law_262 (rfl) ?_
      refine nq_topl (show (nI n).toInt64 = ((nI n)).toInt64 from by first | rfl | (rw [h254]; rfl)) ?_
      refine W.lcmp hx hb dL_law_263 ?_
      refine lv_if_eq (tgt := 269) hx hb dL_law_264 (by decide) (fun h264 => ?_) (fun h264 => ?_)
      · skip
        refine lv_goto (tgt := 1763) hx hb dL_law_269 (by decide) ?_
        exact KK u1 (mc + nI 1) (n + 1) now lim (up2 (up2 (up2 (up2 F n 2 k) n 0 v) n 4 u) n 1 z) (va_up lit n false) (va_up fo n 0) (vp_updL fn 0 (((nI n)).toInt64)) bb (nI 0) kp _ _ _ _ _ ⟨ok_add hO hn9 hc9 hp9 hl9a hw9, by omega, (fun h => absurd h (by omega)), by omega, by omega, hP, hD, hS, (by rw [hh0]; exact lv_sub hl [2, 3, 4, 5, 6] rfl)⟩
      · skip
        exact absurd (lg_self _) h264
  · skip
    exact absurd rfl h247

set_option maxHeartbeats 4000000 in
set_option maxRecDepth 100000 in
theorem law_addLamp_x {p : Program} {l : Launch} {e : Env} {s : State} {m : MethodId} {b : Nat} {below : List Frame} {meth : Method} {c : Code} {E : GE} {A : Nat → Prop} {z0 L o i j : Nat} {xs : Nat → Int32} {Q : State → Prop} (CC : LC p l s m b c E A z0 L xs) (hL9 : L ≤ 2560) (hi9 : i + 5 ≤ L) (hj9 : j ≤ 511) (KK : LK p l e s m b below meth c E A z0 o Q 1763 i (j + 1)) (a : Nat → Nat) (mc : Int32) (n now lim : Nat) (F : LR) (lit : Nat → Bool) (fo : Nat → Nat) (fn : Nat → Int64) (bb : Nat → Nat) (th : Int32) (kp : Nat → Int32) (H : Heap) (locs : List Loc) (ls : Array Slot) (cells slots : Nat) (hst : LSt E A s b z0 i j a mc n now lim F lit fo o fn bb th kp H locs ls cells slots) (x1 x2 x3 x4 : Int32) (hx9 : (inB x1 (nI 0) (nI 5) && inB x2 (nI 2) (nI 20) && inB x3 (nI 1) (x2 - nI 1) && inB x4 (nI 1) (nI 9)) = false) (e1 : xs (i + 1) = x1) (e2 : xs (i + 2) = x2) (e3 : xs (i + 3) = x3) (e4 : xs (i + 4) = x4) : W p l e room_1 s m #[Value.ref b] below meth c H locs cells slots Q (F0 m 180 ls []) := by
  obtain ⟨hx, hb, hml, hown, hts, hK, hZ, hT, hA, hbA, hX, hbl, hl9⟩ := CC
  obtain ⟨hO, hnw, hz, hcl, hsl, hP, hD, hS, hl⟩ := hst
  refine lv_aload_n hx hb dL_law_180 rfl (lv_at hl 1 rfl) ?_
  refine lv_aload_n hx hb dL_law_181 rfl (lv_at hl 0 rfl) ?_
  refine lv_iload hx hb dL_law_182 (lv_at hl 4 rfl) ?_
  refine lv_iconst (v := (nI 1)) hx hb dL_law_184 (by decide) ?_
  refine nq_add hx hb dL_law_185 ?_
  refine va_sld hx hb hX hbl hbA hS (i := nI (i + 1)) (by exact vp_in_nI (by omega) (by omega)) dL_law_186 ?_
  refine nq_top (show xs ((nI (i + 1)).toNatClampNeg) = x1 from by rw [nI_clamp (by omega)]; exact e1) ?_
  refine lv_aload_n hx hb dL_law_187 rfl (lv_at hl 0 rfl) ?_
  refine lv_iload hx hb dL_law_188 (lv_at hl 4 rfl) ?_
  refine lv_iconst (v := (nI 2)) hx hb dL_law_190 (by decide) ?_
  refine nq_add hx hb dL_law_191 ?_
  refine va_sld hx hb hX hbl hbA hS (i := nI (i + 2)) (by exact vp_in_nI (by omega) (by omega)) dL_law_192 ?_
  refine nq_top (show xs ((nI (i + 2)).toNatClampNeg) = x2 from by rw [nI_clamp (by omega)]; exact e2) ?_
  refine lv_aload_n hx hb dL_law_193 rfl (lv_at hl 0 rfl) ?_
  refine lv_iload hx hb dL_law_194 (lv_at hl 4 rfl) ?_
  refine lv_iconst (v := (nI 3)) hx hb dL_law_196 (by decide) ?_
  refine nq_add hx hb dL_law_197 ?_
  refine va_sld hx hb hX hbl hbA hS (i := nI (i + 3)) (by exact vp_in_nI (by omega) (by omega)) dL_law_198 ?_
  refine nq_top (show xs ((nI (i + 3)).toNatClampNeg) = x3 from by rw [nI_clamp (by omega)]; exact e3) ?_
  refine lv_aload_n hx hb dL_law_199 rfl (lv_at hl 0 rfl) ?_
  refine lv_iload hx hb dL_law_200 (lv_at hl 4 rfl) ?_
  refine lv_iconst (v := (nI 4)) hx hb dL_law_202 (by decide) ?_
  refine nq_add hx hb dL_law_203 ?_
  refine va_sld hx hb hX hbl hbA hS (i := nI (i + 4)) (by exact vp_in_nI (by omega) (by omega)) dL_law_204 ?_
  refine nq_top (show xs ((nI (i + 4)).toNatClampNeg) = x4 from by rw [nI_clamp (by omega)]; exact e4) ?_
  refine lv_aload_n hx hb dL_law_205 rfl (lv_at hl 3 rfl) ?_
  refine lawS (S := Unit) (W1 := fun uQ => wC E a mc n now lim (LF F lit fo)) (f1 := fun uQ => fn) (rest := []) (As := [.ref (a 0), .int x1, .int x2, .int x3, .int x4, .ref o]) ⟨hx, hb, hml, hown, hts⟩ (w_L_addLamp_x l hl9 E _ z0 a mc n now lim F lit fo hO o fn x1 x2 x3 x4 hx9) (vx_cwSW 6 hts gL_law_L_addLamp rfl rfl rfl (by decide +kernel) ⟨Nat.le_of_ble_eq_true rfl, Nat.le_of_ble_eq_true rfl⟩) hP hK hD hZ hT hS hA rfl hl.1 rfl (Nat.le_of_ble_eq_true rfl) dL_law_206 ⟨by show cells + 1 ≤ 601024; omega, by show slots + 6 ≤ 7293034; omega⟩ (fun r1 u1 H locs hr1 hP hD hS => ?_)
  subst hr1
  have hP : va_P E.1 vwCl (wG E (wC E a mc n now lim (LF F lit fo)) o (fn) (wM E bb (th) n lim F (NW now F) kp)) _ := hP
  have hD : va_D A (wG E (wC E a mc n now lim (LF F lit fo)) o (fn) (wM E bb (th) n lim F (NW now F) kp)) := hD
  refine lv_istore (lv' := [(5, .int (nI 1)), (0, .ref b), (1, .ref (a 0)), (2, .ref (bb 0)), (3, .ref o), (4, .int (nI i))]) hx hb dL_law_209 hl (by decide) rfl (fun ls hl => ?_)
  refine lv_aload_n hx hb dL_law_211 rfl (lv_at hl 3 rfl) ?_
  refine lv_aload_n hx hb dL_law_212 rfl (lv_at hl 1 rfl) ?_
  refine lv_iload hx hb dL_law_213 (lv_at hl 5 rfl) ?_
  refine lv_iconst (v := (nI 1)) hx hb dL_law_215 (by decide) ?_
  refine nq_add hx hb dL_law_216 ?_
  refine va_sld hx hb hX hbl hbA hS (i := nI (i + 1)) (by exact vp_in_nI (by omega) (by omega)) dL_law_217 ?_
  refine nq_top (show xs ((nI (i + 1)).toNatClampNeg) = x1 from by rw [nI_clamp (by omega)]; exact e1) ?_
  refine lv_aload_n hx hb dL_law_218 rfl (lv_at hl 1 rfl) ?_
  refine lv_iload hx hb dL_law_219 (lv_at hl 5 rfl) ?_
  refine lv_iconst (v := (nI 2)) hx hb dL_law_221 (by decide) ?_
  refine nq_add hx hb dL_law_222 ?_
  refine va_sld hx hb hX hbl hbA hS (i := nI (i + 2)) (by exact vp_in_nI (by omega) (by omega)) dL_law_223 ?_
  refine nq_top (show xs ((nI (i + 2)).toNatClampNeg) = x2 from by rw [nI_clamp (by omega)]; exact e2) ?_
  refine lv_aload_n hx hb dL_law_224 rfl (lv_at hl 1 rfl) ?_
  refine lv_iload hx hb dL_law_225 (lv_at hl 5 rfl) ?_
  refine lv_iconst (v := (nI 3)) hx hb dL_law_227 (by decide) ?_
  refine nq_add hx hb dL_law_228 ?_
  refine va_sld hx hb hX hbl hbA hS (i := nI (i + 3)) (by exact vp_in_nI (by omega) (by omega)) dL_law_229 ?_
  refine nq_top (show xs ((nI (i + 3)).toNatClampNeg) = x3 from by rw [nI_clamp (by omega)]; exact e3) ?_
  refine lv_aload_n hx hb dL_law_230 rfl (lv_at hl 1 rfl) ?_
  refine lv_iload hx hb dL_law_231 (lv_at hl 5 rfl) ?_
  refine lv_iconst (v := (nI 4)) hx hb dL_law_233 (by decide) ?_
  refine nq_add hx hb dL_law_234 ?_
  refine va_sld hx hb hX hbl hbA hS (i := nI (i + 4)) (by exact vp_in_nI (by omega) (by omega)) dL_law_235 ?_
  refine nq_top (show xs ((nI (i + 4)).toNatClampNeg) = x4 from by rw [nI_clamp (by omega)]; exact e4) ?_
  refine lawM_i (S := Unit) (W1 := fun kQ => wM E bb (nI 1) n lim F (NW now F) kp) (rest := []) (As := [.int x1, .int x2, .int x3, .int x4]) ⟨hx, hb, hml, hown, hts⟩ (c_X2_addLamp_x l E _ bb th n lim now F kp hO x1 x2 x3 x4 hx9) (cwV 4 hts gL_law_X2_addLamp rfl rfl rfl (by decide +kernel) ⟨Nat.le_of_ble_eq_true rfl, Nat.le_of_ble_eq_true rfl⟩) (va_recv hK hP (ci := 3) (q0 := (wC E a mc n now lim (LF F lit fo)).length + 1) rfl wG_m0) hP hK hD hS hA rfl hl.1 rfl (Nat.le_of_ble_eq_true rfl) dL_law_236 ⟨by show cells + 1 + 0 ≤ 601024; omega, by show slots + 6 + 0 ≤ 7293034; omega⟩ (fun r2 u2 H locs hr2 hP hD hS => ?_)
  subst hr2
  have hP : va_P E.1 vwCl (wG E (wC E a mc n now lim (LF F lit fo)) o (fn) (wM E bb (nI 1) n lim F (NW now F) kp)) _ := hP
  have hD : va_D A (wG E (wC E a mc n now lim (LF F lit fo)) o (fn) (wM E bb (nI 1) n lim F (NW now F) kp)) := hD
  refine lv_istore (lv' := [(6, .int (nI 0)), (5, .int (nI 1)), (0, .ref b), (1, .ref (a 0)), (2, .ref (bb 0)), (3, .ref o), (4, .int (nI i))]) hx hb dL_law_239 hl (by decide) rfl (fun ls hl => ?_)
  refine lv_aload_n hx hb dL_law_241 rfl (lv_at hl 4 rfl) ?_
  refine lawM_i (S := Unit) (W1 := fun kQ => wM E bb (nI 1) n lim F (NW now F) kp) (rest := []) (As := []) ⟨hx, hb, hml, hown, hts⟩ (c_X2_thrown l E _ bb (nI 1) n lim now F kp) (cwV 0 hts gL_law_X2_thrown rfl rfl rfl (by decide +kernel) ⟨Nat.le_of_ble_eq_true rfl, Nat.le_of_ble_eq_true rfl⟩) (va_recv hK hP (ci := 3) (q0 := (wC E a mc n now lim (LF F lit fo)).length + 1) rfl wG_m0) hP hK hD hS hA rfl hl.1 rfl (Nat.le_of_ble_eq_true rfl) dL_law_242 ⟨by show cells + 1 + 0 + 0 ≤ 601024; omega, by show slots + 6 + 0 + 0 ≤ 7293034; omega⟩ (fun r3 u3 H locs hr3 hP hD hS => ?_)
  subst hr3
  have hP : va_P E.1 vwCl (wG E (wC E a mc n now lim (LF F lit fo)) o (fn) (wM E bb (nI 1) n lim F (NW now F) kp)) _ := hP
  have hD : va_D A (wG E (wC E a mc n now lim (LF F lit fo)) o (fn) (wM E bb (nI 1) n lim F (NW now F) kp)) := hD
  refine lv_iload hx hb dL_law_245 (lv_at hl 1 rfl) ?_
  refine nq_icmp_eq (tgt := 252) hx hb dL_law_247 (by decide) (by omega) (by omega) (fun h247 => ?_) (fun h247 => ?_)
  · skip
    refine lv_iload hx hb dL_law_252 (lv_at hl 1 rfl) ?_
    refine nq_if_ne (tgt := 269) hx hb dL_law_254 (by decide) (by decide) (fun h254 => ?_) (fun h254 => ?_)
    · skip
      refine lv_goto (tgt := 1763) hx hb dL_law_269 (by decide) ?_
      exact KK a mc n now lim F lit fo fn bb (nI 1) kp _ _ _ _ _ ⟨hO, by omega, hz, by omega, by omega, hP, hD, hS, (lv_sub hl [2, 3, 4, 5, 6] rfl)⟩
    · skip
      exact absurd h254 (by decide)
  · skip
    exact absurd rfl h247

set_option maxHeartbeats 4000000 in
set_option maxRecDepth 100000 in
theorem law_addLamp_y {p : Program} {l : Launch} {e : Env} {s : State} {m : MethodId} {b : Nat} {below : List Frame} {meth : Method} {c : Code} {E : GE} {A : Nat → Prop} {z0 L o i j : Nat} {xs : Nat → Int32} {Q : State → Prop} (CC : LC p l s m b c E A z0 L xs) (hL9 : L ≤ 2560) (hi9 : i + 5 ≤ L) (hj9 : j ≤ 511) (KK : LK p l e s m b below meth c E A z0 o Q 1763 i (j + 1)) (a : Nat → Nat) (mc : Int32) (n now lim : Nat) (F : LR) (lit : Nat → Bool) (fo : Nat → Nat) (fn : Nat → Int64) (bb : Nat → Nat) (th : Int32) (kp : Nat → Int32) (H : Heap) (locs : List Loc) (ls : Array Slot) (cells slots : Nat) (hst : LSt E A s b z0 i j a mc n now lim F lit fo o fn bb th kp H locs ls cells slots) (k v u z : Nat) (hc9 : k ≤ 5) (hp9 : 2 ≤ v ∧ v ≤ 20) (hl9a : 1 ≤ u ∧ u < v) (hw9 : 1 ≤ z ∧ z ≤ 9) (hn9 : n = 8) (e1 : xs (i + 1) = (nI k)) (e2 : xs (i + 2) = (nI v)) (e3 : xs (i + 3) = (nI u)) (e4 : xs (i + 4) = (nI z)) : W p l e room_1 s m #[Value.ref b] below meth c H locs cells slots Q (F0 m 180 ls []) := by
  obtain ⟨hx, hb, hml, hown, hts, hK, hZ, hT, hA, hbA, hX, hbl, hl9⟩ := CC
  obtain ⟨hO, hnw, hz, hcl, hsl, hP, hD, hS, hl⟩ := hst
  refine lv_aload_n hx hb dL_law_180 rfl (lv_at hl 1 rfl) ?_
  refine lv_aload_n hx hb dL_law_181 rfl (lv_at hl 0 rfl) ?_
  refine lv_iload hx hb dL_law_182 (lv_at hl 4 rfl) ?_
  refine lv_iconst (v := (nI 1)) hx hb dL_law_184 (by decide) ?_
  refine nq_add hx hb dL_law_185 ?_
  refine va_sld hx hb hX hbl hbA hS (i := nI (i + 1)) (by exact vp_in_nI (by omega) (by omega)) dL_law_186 ?_
  refine nq_top (show xs ((nI (i + 1)).toNatClampNeg) = (nI k) from by rw [nI_clamp (by omega)]; exact e1) ?_
  refine lv_aload_n hx hb dL_law_187 rfl (lv_at hl 0 rfl) ?_
  refine lv_iload hx hb dL_law_188 (lv_at hl 4 rfl) ?_
  refine lv_iconst (v := (nI 2)) hx hb dL_law_190 (by decide) ?_
  refine nq_add hx hb dL_law_191 ?_
  refine va_sld hx hb hX hbl hbA hS (i := nI (i + 2)) (by exact vp_in_nI (by omega) (by omega)) dL_law_192 ?_
  refine nq_top (show xs ((nI (i + 2)).toNatClampNeg) = (nI v) from by rw [nI_clamp (by omega)]; exact e2) ?_
  refine lv_aload_n hx hb dL_law_193 rfl (lv_at hl 0 rfl) ?_
  refine lv_iload hx hb dL_law_194 (lv_at hl 4 rfl) ?_
  refine lv_iconst (v := (nI 3)) hx hb dL_law_196 (by decide) ?_
  refine nq_add hx hb dL_law_197 ?_
  refine va_sld hx hb hX hbl hbA hS (i := nI (i + 3)) (by exact vp_in_nI (by omega) (by omega)) dL_law_198 ?_
  refine nq_top (show xs ((nI (i + 3)).toNatClampNeg) = (nI u) from by rw [nI_clamp (by omega)]; exact e3) ?_
  refine lv_aload_n hx hb dL_law_199 rfl (lv_at hl 0 rfl) ?_
  refine lv_iload hx hb dL_law_200 (lv_at hl 4 rfl) ?_
  refine lv_iconst (v := (nI 4)) hx hb dL_law_202 (by decide) ?_
  refine nq_add hx hb dL_law_203 ?_
  refine va_sld hx hb hX hbl hbA hS (i := nI (i + 4)) (by exact vp_in_nI (by omega) (by omega)) dL_law_204 ?_
  refine nq_top (show xs ((nI (i + 4)).toNatClampNeg) = (nI z) from by rw [nI_clamp (by omega)]; exact e4) ?_
  refine lv_aload_n hx hb dL_law_205 rfl (lv_at hl 3 rfl) ?_
  refine lawS (S := Unit) (W1 := fun uQ => wC E a mc n now lim (LF F lit fo)) (f1 := fun uQ => fn) (rest := []) (As := [.ref (a 0), .int (nI k), .int (nI v), .int (nI u), .int (nI z), .ref o]) ⟨hx, hb, hml, hown, hts⟩ (w_L_addLamp_y l hl9 E _ z0 a mc n now lim F lit fo hO o fn k v u z hc9 hp9 hl9a hw9 hn9) (vx_cwSW 6 hts gL_law_L_addLamp rfl rfl rfl (by decide +kernel) ⟨Nat.le_of_ble_eq_true rfl, Nat.le_of_ble_eq_true rfl⟩) hP hK hD hZ hT hS hA rfl hl.1 rfl (Nat.le_of_ble_eq_true rfl) dL_law_206 ⟨by show cells + 1 ≤ 601024; omega, by show slots + 6 ≤ 7293034; omega⟩ (fun r1 u1 H locs hr1 hP hD hS => ?_)
  subst hr1
  have hP : va_P E.1 vwCl (wG E (wC E a mc n now lim (LF F lit fo)) o (fn) (wM E bb (th) n lim F (NW now F) kp)) _ := hP
  have hD : va_D A (wG E (wC E a mc n now lim (LF F lit fo)) o (fn) (wM E bb (th) n lim F (NW now F) kp)) := hD
  refine lv_istore (lv' := [(5, .int (nI 2)), (0, .ref b), (1, .ref (a 0)), (2, .ref (bb 0)), (3, .ref o), (4, .int (nI i))]) hx hb dL_law_209 hl (by decide) rfl (fun ls hl => ?_)
  refine lv_aload_n hx hb dL_law_211 rfl (lv_at hl 3 rfl) ?_
  refine lv_aload_n hx hb dL_law_212 rfl (lv_at hl 1 rfl) ?_
  refine lv_iload hx hb dL_law_213 (lv_at hl 5 rfl) ?_
  refine lv_iconst (v := (nI 1)) hx hb dL_law_215 (by decide) ?_
  refine nq_add hx hb dL_law_216 ?_
  refine va_sld hx hb hX hbl hbA hS (i := nI (i + 1)) (by exact vp_in_nI (by omega) (by omega)) dL_law_217 ?_
  refine nq_top (show xs ((nI (i + 1)).toNatClampNeg) = (nI k) from by rw [nI_clamp (by omega)]; exact e1) ?_
  refine lv_aload_n hx hb dL_law_218 rfl (lv_at hl 1 rfl) ?_
  refine lv_iload hx hb dL_law_219 (lv_at hl 5 rfl) ?_
  refine lv_iconst (v := (nI 2)) hx hb dL_law_221 (by decide) ?_
  refine nq_add hx hb dL_law_222 ?_
  refine va_sld hx hb hX hbl hbA hS (i := nI (i + 2)) (by exact vp_in_nI (by omega) (by omega)) dL_law_223 ?_
  refine nq_top (show xs ((nI (i + 2)).toNatClampNeg) = (nI v) from by rw [nI_clamp (by omega)]; exact e2) ?_
  refine lv_aload_n hx hb dL_law_224 rfl (lv_at hl 1 rfl) ?_
  refine lv_iload hx hb dL_law_225 (lv_at hl 5 rfl) ?_
  refine lv_iconst (v := (nI 3)) hx hb dL_law_227 (by decide) ?_
  refine nq_add hx hb dL_law_228 ?_
  refine va_sld hx hb hX hbl hbA hS (i := nI (i + 3)) (by exact vp_in_nI (by omega) (by omega)) dL_law_229 ?_
  refine nq_top (show xs ((nI (i + 3)).toNatClampNeg) = (nI u) from by rw [nI_clamp (by omega)]; exact e3) ?_
  refine lv_aload_n hx hb dL_law_230 rfl (lv_at hl 1 rfl) ?_
  refine lv_iload hx hb dL_law_231 (lv_at hl 5 rfl) ?_
  refine lv_iconst (v := (nI 4)) hx hb dL_law_233 (by decide) ?_
  refine nq_add hx hb dL_law_234 ?_
  refine va_sld hx hb hX hbl hbA hS (i := nI (i + 4)) (by exact vp_in_nI (by omega) (by omega)) dL_law_235 ?_
  refine nq_top (show xs ((nI (i + 4)).toNatClampNeg) = (nI z) from by rw [nI_clamp (by omega)]; exact e4) ?_
  refine lawM_i (S := Unit) (W1 := fun kQ => wM E bb (nI 2) n lim F (NW now F) kp) (rest := []) (As := [.int (nI k), .int (nI v), .int (nI u), .int (nI z)]) ⟨hx, hb, hml, hown, hts⟩ (c_X2_addLamp_y l E _ bb th n lim now F kp hO k v u z hc9 hp9 hl9a hw9 hn9) (cwV 4 hts gL_law_X2_addLamp rfl rfl rfl (by decide +kernel) ⟨Nat.le_of_ble_eq_true rfl, Nat.le_of_ble_eq_true rfl⟩) (va_recv hK hP (ci := 3) (q0 := (wC E a mc n now lim (LF F lit fo)).length + 1) rfl wG_m0) hP hK hD hS hA rfl hl.1 rfl (Nat.le_of_ble_eq_true rfl) dL_law_236 ⟨by show cells + 1 + 0 ≤ 601024; omega, by show slots + 6 + 0 ≤ 7293034; omega⟩ (fun r2 u2 H locs hr2 hP hD hS => ?_)
  subst hr2
  have hP : va_P E.1 vwCl (wG E (wC E a mc n now lim (LF F lit fo)) o (fn) (wM E bb (nI 2) n lim F (NW now F) kp)) _ := hP
  have hD : va_D A (wG E (wC E a mc n now lim (LF F lit fo)) o (fn) (wM E bb (nI 2) n lim F (NW now F) kp)) := hD
  refine lv_istore (lv' := [(6, .int (nI 0)), (5, .int (nI 2)), (0, .ref b), (1, .ref (a 0)), (2, .ref (bb 0)), (3, .ref o), (4, .int (nI i))]) hx hb dL_law_239 hl (by decide) rfl (fun ls hl => ?_)
  refine lv_aload_n hx hb dL_law_241 rfl (lv_at hl 4 rfl) ?_
  refine lawM_i (S := Unit) (W1 := fun kQ => wM E bb (nI 2) n lim F (NW now F) kp) (rest := []) (As := []) ⟨hx, hb, hml, hown, hts⟩ (c_X2_thrown l E _ bb (nI 2) n lim now F kp) (cwV 0 hts gL_law_X2_thrown rfl rfl rfl (by decide +kernel) ⟨Nat.le_of_ble_eq_true rfl, Nat.le_of_ble_eq_true rfl⟩) (va_recv hK hP (ci := 3) (q0 := (wC E a mc n now lim (LF F lit fo)).length + 1) rfl wG_m0) hP hK hD hS hA rfl hl.1 rfl (Nat.le_of_ble_eq_true rfl) dL_law_242 ⟨by show cells + 1 + 0 + 0 ≤ 601024; omega, by show slots + 6 + 0 + 0 ≤ 7293034; omega⟩ (fun r3 u3 H locs hr3 hP hD hS => ?_)
  subst hr3
  have hP : va_P E.1 vwCl (wG E (wC E a mc n now lim (LF F lit fo)) o (fn) (wM E bb (nI 2) n lim F (NW now F) kp)) _ := hP
  have hD : va_D A (wG E (wC E a mc n now lim (LF F lit fo)) o (fn) (wM E bb (nI 2) n lim F (NW now F) kp)) := hD
  refine lv_iload hx hb dL_law_245 (lv_at hl 1 rfl) ?_
  refine nq_icmp_eq (tgt := 252) hx hb dL_law_247 (by decide) (by omega) (by omega) (fun h247 => ?_) (fun h247 => ?_)
  · skip
    refine lv_iload hx hb dL_law_252 (lv_at hl 1 rfl) ?_
    refine nq_if_ne (tgt := 269) hx hb dL_law_254 (by decide) (by decide) (fun h254 => ?_) (fun h254 => ?_)
    · skip
      refine lv_goto (tgt := 1763) hx hb dL_law_269 (by decide) ?_
      exact KK a mc n now lim F lit fo fn bb (nI 2) kp _ _ _ _ _ ⟨hO, by omega, hz, by omega, by omega, hP, hD, hS, (lv_sub hl [2, 3, 4, 5, 6] rfl)⟩
    · skip
      exact absurd h254 (by decide)
  · skip
    exact absurd rfl h247

set_option maxHeartbeats 4000000 in
set_option maxRecDepth 100000 in
theorem law_setShift {p : Program} {l : Launch} {e : Env} {s : State} {m : MethodId} {b : Nat} {below : List Frame} {meth : Method} {c : Code} {E : GE} {A : Nat → Prop} {z0 L o i j : Nat} {xs : Nat → Int32} {Q : State → Prop} (CC : LC p l s m b c E A z0 L xs) (hL9 : L ≤ 2560) (hi9 : i + 5 ≤ L) (hj9 : j ≤ 511) (KK : LK p l e s m b below meth c E A z0 o Q 1763 i (j + 1)) (a : Nat → Nat) (mc : Int32) (n now lim : Nat) (F : LR) (lit : Nat → Bool) (fo : Nat → Nat) (fn : Nat → Int64) (bb : Nat → Nat) (th : Int32) (kp : Nat → Int32) (H : Heap) (locs : List Loc) (ls : Array Slot) (cells slots : Nat) (hst : LSt E A s b z0 i j a mc n now lim F lit fo o fn bb th kp H locs ls cells slots) (k v : Nat) (hk : k < n) (hv : v < F k 0) (e1 : xs (i + 1) = (nI k)) (e2 : xs (i + 2) = (nI v)) : W p l e room_1 s m #[Value.ref b] below meth c H locs cells slots Q (F0 m 272 ls []) := by
  obtain ⟨hx, hb, hml, hown, hts, hK, hZ, hT, hA, hbA, hX, hbl, hl9⟩ := CC
  obtain ⟨hO, hnw, hz, hcl, hsl, hP, hD, hS, hl⟩ := hst
  refine lv_aload_n hx hb dL_law_272 rfl (lv_at hl 1 rfl) ?_
  refine lv_aload_n hx hb dL_law_273 rfl (lv_at hl 0 rfl) ?_
  refine lv_iload hx hb dL_law_274 (lv_at hl 4 rfl) ?_
  refine lv_iconst (v := (nI 1)) hx hb dL_law_276 (by decide) ?_
  refine nq_add hx hb dL_law_277 ?_
  refine va_sld hx hb hX hbl hbA hS (i := nI (i + 1)) (by exact vp_in_nI (by omega) (by omega)) dL_law_278 ?_
  refine nq_top (show xs ((nI (i + 1)).toNatClampNeg) = (nI k) from by rw [nI_clamp (by omega)]; exact e1) ?_
  refine lv_aload_n hx hb dL_law_279 rfl (lv_at hl 0 rfl) ?_
  refine lv_iload hx hb dL_law_280 (lv_at hl 4 rfl) ?_
  refine lv_iconst (v := (nI 2)) hx hb dL_law_282 (by decide) ?_
  refine nq_add hx hb dL_law_283 ?_
  refine va_sld hx hb hX hbl hbA hS (i := nI (i + 2)) (by exact vp_in_nI (by omega) (by omega)) dL_law_284 ?_
  refine nq_top (show xs ((nI (i + 2)).toNatClampNeg) = (nI v) from by rw [nI_clamp (by omega)]; exact e2) ?_
  refine lv_aload_n hx hb dL_law_285 rfl (lv_at hl 3 rfl) ?_
  refine lawS (S := Unit) (W1 := fun uQ => wC E a mc n now lim (LF (up2 F k 3 v) lit fo)) (f1 := fun uQ => vp_updL fn 0 (((nI (F k 3))).toInt64)) (rest := []) (As := [.ref (a 0), .int (nI k), .int (nI v), .ref o]) ⟨hx, hb, hml, hown, hts⟩ (w_L_setShift l hl9 E _ z0 a mc n now lim F lit fo hO o fn k v hk hv) (vx_cwSW 4 hts gL_law_L_setShift rfl rfl rfl (by decide +kernel) ⟨Nat.le_of_ble_eq_true rfl, Nat.le_of_ble_eq_true rfl⟩) hP hK hD hZ hT hS hA rfl hl.1 rfl (Nat.le_of_ble_eq_true rfl) dL_law_286 ⟨by show cells + 0 ≤ 601024; omega, by show slots + 0 ≤ 7293034; omega⟩ (fun r1 u1 H locs hr1 hP hD hS => ?_)
  subst hr1
  have hP : va_P E.1 vwCl (wG E (wC E a mc n now lim (LF (up2 F k 3 v) lit fo)) o (vp_updL fn 0 (((nI (F k 3))).toInt64)) (wM E bb (th) n lim F (NW now F) kp)) _ := hP
  have hD : va_D A (wG E (wC E a mc n now lim (LF (up2 F k 3 v) lit fo)) o (vp_updL fn 0 (((nI (F k 3))).toInt64)) (wM E bb (th) n lim F (NW now F) kp)) := hD
  refine lv_istore (lv' := [(5, .int (nI 0)), (0, .ref b), (1, .ref (a 0)), (2, .ref (bb 0)), (3, .ref o), (4, .int (nI i))]) hx hb dL_law_289 hl (by decide) rfl (fun ls hl => ?_)
  refine lv_aload_n hx hb dL_law_291 rfl (lv_at hl 3 rfl) ?_
  refine lv_aload_n hx hb dL_law_292 rfl (lv_at hl 1 rfl) ?_
  refine lv_iload hx hb dL_law_293 (lv_at hl 5 rfl) ?_
  refine lv_iconst (v := (nI 1)) hx hb dL_law_295 (by decide) ?_
  refine nq_add hx hb dL_law_296 ?_
  refine va_sld hx hb hX hbl hbA hS (i := nI (i + 1)) (by exact vp_in_nI (by omega) (by omega)) dL_law_297 ?_
  refine nq_top (show xs ((nI (i + 1)).toNatClampNeg) = (nI k) from by rw [nI_clamp (by omega)]; exact e1) ?_
  refine lv_aload_n hx hb dL_law_298 rfl (lv_at hl 1 rfl) ?_
  refine lv_iload hx hb dL_law_299 (lv_at hl 5 rfl) ?_
  refine lv_iconst (v := (nI 2)) hx hb dL_law_301 (by decide) ?_
  refine nq_add hx hb dL_law_302 ?_
  refine va_sld hx hb hX hbl hbA hS (i := nI (i + 2)) (by exact vp_in_nI (by omega) (by omega)) dL_law_303 ?_
  refine nq_top (show xs ((nI (i + 2)).toNatClampNeg) = (nI v) from by rw [nI_clamp (by omega)]; exact e2) ?_
  refine lawM_i (S := Unit) (W1 := fun kQ => wM E bb (nI 0) n lim (up2 F k 3 v) (NW now (up2 F k 3 v)) kp) (rest := []) (As := [.int (nI k), .int (nI v)]) ⟨hx, hb, hml, hown, hts⟩ (c_X2_setShift l E _ bb th n lim now F kp hO k hk v ⟨Nat.zero_le _, hv⟩) (cwV 2 hts gL_law_X2_setShift rfl rfl rfl (by decide +kernel) ⟨Nat.le_of_ble_eq_true rfl, Nat.le_of_ble_eq_true rfl⟩) (va_recv hK hP (ci := 3) (q0 := (wC E a mc n now lim (LF (up2 F k 3 v) lit fo)).length + 1) rfl wG_m0) hP hK hD hS hA rfl hl.1 rfl (Nat.le_of_ble_eq_true rfl) dL_law_304 ⟨by show cells + 0 + 0 ≤ 601024; omega, by show slots + 0 + 0 ≤ 7293034; omega⟩ (fun r2 u2 H locs hr2 hP hD hS => ?_)
  subst hr2
  have hP : va_P E.1 vwCl (wG E (wC E a mc n now lim (LF (up2 F k 3 v) lit fo)) o (vp_updL fn 0 (((nI (F k 3))).toInt64)) (wM E bb (nI 0) n lim (up2 F k 3 v) (NW now (up2 F k 3 v)) kp)) _ := hP
  have hD : va_D A (wG E (wC E a mc n now lim (LF (up2 F k 3 v) lit fo)) o (vp_updL fn 0 (((nI (F k 3))).toInt64)) (wM E bb (nI 0) n lim (up2 F k 3 v) (NW now (up2 F k 3 v)) kp)) := hD
  refine lv_istore (lv' := [(6, .int (nI (F k 3))), (5, .int (nI 0)), (0, .ref b), (1, .ref (a 0)), (2, .ref (bb 0)), (3, .ref o), (4, .int (nI i))]) hx hb dL_law_307 hl (by decide) rfl (fun ls hl => ?_)
  refine lv_aload_n hx hb dL_law_309 rfl (lv_at hl 4 rfl) ?_
  refine lawM_i (S := Unit) (W1 := fun kQ => wM E bb (nI 0) n lim (up2 F k 3 v) (NW now (up2 F k 3 v)) kp) (rest := []) (As := []) ⟨hx, hb, hml, hown, hts⟩ (c_X2_thrown l E _ bb (nI 0) n lim now (up2 F k 3 v) kp) (cwV 0 hts gL_law_X2_thrown rfl rfl rfl (by decide +kernel) ⟨Nat.le_of_ble_eq_true rfl, Nat.le_of_ble_eq_true rfl⟩) (va_recv hK hP (ci := 3) (q0 := (wC E a mc n now lim (LF (up2 F k 3 v) lit fo)).length + 1) rfl wG_m0) hP hK hD hS hA rfl hl.1 rfl (Nat.le_of_ble_eq_true rfl) dL_law_310 ⟨by show cells + 0 + 0 + 0 ≤ 601024; omega, by show slots + 0 + 0 + 0 ≤ 7293034; omega⟩ (fun r3 u3 H locs hr3 hP hD hS => ?_)
  subst hr3
  have hP : va_P E.1 vwCl (wG E (wC E a mc n now lim (LF (up2 F k 3 v) lit fo)) o (vp_updL fn 0 (((nI (F k 3))).toInt64)) (wM E bb (nI 0) n lim (up2 F k 3 v) (NW now (up2 F k 3 v)) kp)) _ := hP
  have hD : va_D A (wG E (wC E a mc n now lim (LF (up2 F k 3 v) lit fo)) o (vp_updL fn 0 (((nI (F k 3))).toInt64)) (wM E bb (nI 0) n lim (up2 F k 3 v) (NW now (up2 F k 3 v)) kp)) := hD
  refine lv_iload hx hb dL_law_313 (lv_at hl 1 rfl) ?_
  refine nq_icmp_eq (tgt := 320) hx hb dL_law_315 (by decide) (by omega) (by omega) (fun h315 => ?_) (fun h315 => ?_)
  · skip
    refine lv_iload hx hb dL_law_320 (lv_at hl 1 rfl) ?_
    refine nq_if_ne (tgt := 337) hx hb dL_law_322 (by decide) (by decide) (fun h322 => ?_) (fun h322 => ?_)
    · skip
      exact absurd h322 (by decide)
    · skip
      refine lv_aload_n hx hb dL_law_325 rfl (lv_at hl 5 rfl) ?_
      refine lv_iconst (v := (nI 0)) hx hb dL_law_326 (by decide) ?_
      refine va_lald hx hb hK hP (wC E a mc n now lim (LF (up2 F k 3 v) lit fo)).length 2 wG_o rfl (i := nI 0) (by exact vp_in_nI (by omega) (by omega)) dL_law_327 ?_
      refine nq_topl (show (vp_updL fn 0 (((nI (F k 3))).toInt64)) ((nI 0).toNatClampNeg) = ((nI (F k 3))).toInt64 from by rw [nI_clamp (by omega)]; exact if_pos rfl) ?_
      refine lv_iload hx hb dL_law_328 (lv_at hl 0 rfl) ?_
      refine lv_i2l (v := (nI (F k 3)).toInt64) hx hb dL_law_330 (rfl) ?_
      refine nq_topl (show (nI (F k 3)).toInt64 = ((nI (F k 3))).toInt64 from by first | rfl | (rw [h322]; rfl)) ?_
      refine W.lcmp hx hb dL_law_331 ?_
      refine lv_if_eq (tgt := 337) hx hb dL_law_332 (by decide) (fun h332 => ?_) (fun h332 => ?_)
      · skip
        refine lv_goto (tgt := 1763) hx hb dL_law_337 (by decide) ?_
        exact KK a mc n now lim (up2 F k 3 v) lit fo (vp_updL fn 0 (((nI (F k 3))).toInt64)) bb (nI 0) kp _ _ _ _ _ ⟨ok_3 hO hk hv, by omega, hz, by omega, by omega, hP, hD, hS, (lv_sub hl [2, 3, 4, 5, 6] rfl)⟩
      · skip
        exact absurd (lg_self _) h332
  · skip
    exact absurd rfl h315

set_option maxHeartbeats 4000000 in
set_option maxRecDepth 100000 in
theorem law_setShift_x {p : Program} {l : Launch} {e : Env} {s : State} {m : MethodId} {b : Nat} {below : List Frame} {meth : Method} {c : Code} {E : GE} {A : Nat → Prop} {z0 L o i j : Nat} {xs : Nat → Int32} {Q : State → Prop} (CC : LC p l s m b c E A z0 L xs) (hL9 : L ≤ 2560) (hi9 : i + 5 ≤ L) (hj9 : j ≤ 511) (KK : LK p l e s m b below meth c E A z0 o Q 1763 i (j + 1)) (a : Nat → Nat) (mc : Int32) (n now lim : Nat) (F : LR) (lit : Nat → Bool) (fo : Nat → Nat) (fn : Nat → Int64) (bb : Nat → Nat) (th : Int32) (kp : Nat → Int32) (H : Heap) (locs : List Loc) (ls : Array Slot) (cells slots : Nat) (hst : LSt E A s b z0 i j a mc n now lim F lit fo o fn bb th kp H locs ls cells slots) (x : Int32) (hx9 : lpB n x = false) (z : Int32) (e1 : xs (i + 1) = x) (e2 : xs (i + 2) = z) : W p l e room_1 s m #[Value.ref b] below meth c H locs cells slots Q (F0 m 272 ls []) := by
  obtain ⟨hx, hb, hml, hown, hts, hK, hZ, hT, hA, hbA, hX, hbl, hl9⟩ := CC
  obtain ⟨hO, hnw, hz, hcl, hsl, hP, hD, hS, hl⟩ := hst
  refine lv_aload_n hx hb dL_law_272 rfl (lv_at hl 1 rfl) ?_
  refine lv_aload_n hx hb dL_law_273 rfl (lv_at hl 0 rfl) ?_
  refine lv_iload hx hb dL_law_274 (lv_at hl 4 rfl) ?_
  refine lv_iconst (v := (nI 1)) hx hb dL_law_276 (by decide) ?_
  refine nq_add hx hb dL_law_277 ?_
  refine va_sld hx hb hX hbl hbA hS (i := nI (i + 1)) (by exact vp_in_nI (by omega) (by omega)) dL_law_278 ?_
  refine nq_top (show xs ((nI (i + 1)).toNatClampNeg) = x from by rw [nI_clamp (by omega)]; exact e1) ?_
  refine lv_aload_n hx hb dL_law_279 rfl (lv_at hl 0 rfl) ?_
  refine lv_iload hx hb dL_law_280 (lv_at hl 4 rfl) ?_
  refine lv_iconst (v := (nI 2)) hx hb dL_law_282 (by decide) ?_
  refine nq_add hx hb dL_law_283 ?_
  refine va_sld hx hb hX hbl hbA hS (i := nI (i + 2)) (by exact vp_in_nI (by omega) (by omega)) dL_law_284 ?_
  refine nq_top (show xs ((nI (i + 2)).toNatClampNeg) = z from by rw [nI_clamp (by omega)]; exact e2) ?_
  refine lv_aload_n hx hb dL_law_285 rfl (lv_at hl 3 rfl) ?_
  refine lawS (S := Unit) (W1 := fun uQ => wC E a mc n now lim (LF F lit fo)) (f1 := fun uQ => fn) (rest := []) (As := [.ref (a 0), .int x, .int z, .ref o]) ⟨hx, hb, hml, hown, hts⟩ (w_L_setShift_x l hl9 E _ z0 a mc n now lim F lit fo hO o fn x hx9 z) (vx_cwSW 4 hts gL_law_L_setShift rfl rfl rfl (by decide +kernel) ⟨Nat.le_of_ble_eq_true rfl, Nat.le_of_ble_eq_true rfl⟩) hP hK hD hZ hT hS hA rfl hl.1 rfl (Nat.le_of_ble_eq_true rfl) dL_law_286 ⟨by show cells + 1 ≤ 601024; omega, by show slots + 6 ≤ 7293034; omega⟩ (fun r1 u1 H locs hr1 hP hD hS => ?_)
  subst hr1
  have hP : va_P E.1 vwCl (wG E (wC E a mc n now lim (LF F lit fo)) o (fn) (wM E bb (th) n lim F (NW now F) kp)) _ := hP
  have hD : va_D A (wG E (wC E a mc n now lim (LF F lit fo)) o (fn) (wM E bb (th) n lim F (NW now F) kp)) := hD
  refine lv_istore (lv' := [(5, .int (nI 1)), (0, .ref b), (1, .ref (a 0)), (2, .ref (bb 0)), (3, .ref o), (4, .int (nI i))]) hx hb dL_law_289 hl (by decide) rfl (fun ls hl => ?_)
  refine lv_aload_n hx hb dL_law_291 rfl (lv_at hl 3 rfl) ?_
  refine lv_aload_n hx hb dL_law_292 rfl (lv_at hl 1 rfl) ?_
  refine lv_iload hx hb dL_law_293 (lv_at hl 5 rfl) ?_
  refine lv_iconst (v := (nI 1)) hx hb dL_law_295 (by decide) ?_
  refine nq_add hx hb dL_law_296 ?_
  refine va_sld hx hb hX hbl hbA hS (i := nI (i + 1)) (by exact vp_in_nI (by omega) (by omega)) dL_law_297 ?_
  refine nq_top (show xs ((nI (i + 1)).toNatClampNeg) = x from by rw [nI_clamp (by omega)]; exact e1) ?_
  refine lv_aload_n hx hb dL_law_298 rfl (lv_at hl 1 rfl) ?_
  refine lv_iload hx hb dL_law_299 (lv_at hl 5 rfl) ?_
  refine lv_iconst (v := (nI 2)) hx hb dL_law_301 (by decide) ?_
  refine nq_add hx hb dL_law_302 ?_
  refine va_sld hx hb hX hbl hbA hS (i := nI (i + 2)) (by exact vp_in_nI (by omega) (by omega)) dL_law_303 ?_
  refine nq_top (show xs ((nI (i + 2)).toNatClampNeg) = z from by rw [nI_clamp (by omega)]; exact e2) ?_
  refine lawM_i (S := Unit) (W1 := fun kQ => wM E bb (nI 1) n lim F (NW now F) kp) (rest := []) (As := [.int x, .int z]) ⟨hx, hb, hml, hown, hts⟩ (c_X2_setShift_x l E _ bb th n lim now F kp hO x hx9 z) (cwV 2 hts gL_law_X2_setShift rfl rfl rfl (by decide +kernel) ⟨Nat.le_of_ble_eq_true rfl, Nat.le_of_ble_eq_true rfl⟩) (va_recv hK hP (ci := 3) (q0 := (wC E a mc n now lim (LF F lit fo)).length + 1) rfl wG_m0) hP hK hD hS hA rfl hl.1 rfl (Nat.le_of_ble_eq_true rfl) dL_law_304 ⟨by show cells + 1 + 0 ≤ 601024; omega, by show slots + 6 + 0 ≤ 7293034; omega⟩ (fun r2 u2 H locs hr2 hP hD hS => ?_)
  subst hr2
  have hP : va_P E.1 vwCl (wG E (wC E a mc n now lim (LF F lit fo)) o (fn) (wM E bb (nI 1) n lim F (NW now F) kp)) _ := hP
  have hD : va_D A (wG E (wC E a mc n now lim (LF F lit fo)) o (fn) (wM E bb (nI 1) n lim F (NW now F) kp)) := hD
  refine lv_istore (lv' := [(6, .int (nI 0)), (5, .int (nI 1)), (0, .ref b), (1, .ref (a 0)), (2, .ref (bb 0)), (3, .ref o), (4, .int (nI i))]) hx hb dL_law_307 hl (by decide) rfl (fun ls hl => ?_)
  refine lv_aload_n hx hb dL_law_309 rfl (lv_at hl 4 rfl) ?_
  refine lawM_i (S := Unit) (W1 := fun kQ => wM E bb (nI 1) n lim F (NW now F) kp) (rest := []) (As := []) ⟨hx, hb, hml, hown, hts⟩ (c_X2_thrown l E _ bb (nI 1) n lim now F kp) (cwV 0 hts gL_law_X2_thrown rfl rfl rfl (by decide +kernel) ⟨Nat.le_of_ble_eq_true rfl, Nat.le_of_ble_eq_true rfl⟩) (va_recv hK hP (ci := 3) (q0 := (wC E a mc n now lim (LF F lit fo)).length + 1) rfl wG_m0) hP hK hD hS hA rfl hl.1 rfl (Nat.le_of_ble_eq_true rfl) dL_law_310 ⟨by show cells + 1 + 0 + 0 ≤ 601024; omega, by show slots + 6 + 0 + 0 ≤ 7293034; omega⟩ (fun r3 u3 H locs hr3 hP hD hS => ?_)
  subst hr3
  have hP : va_P E.1 vwCl (wG E (wC E a mc n now lim (LF F lit fo)) o (fn) (wM E bb (nI 1) n lim F (NW now F) kp)) _ := hP
  have hD : va_D A (wG E (wC E a mc n now lim (LF F lit fo)) o (fn) (wM E bb (nI 1) n lim F (NW now F) kp)) := hD
  refine lv_iload hx hb dL_law_313 (lv_at hl 1 rfl) ?_
  refine nq_icmp_eq (tgt := 320) hx hb dL_law_315 (by decide) (by omega) (by omega) (fun h315 => ?_) (fun h315 => ?_)
  · skip
    refine lv_iload hx hb dL_law_320 (lv_at hl 1 rfl) ?_
    refine nq_if_ne (tgt := 337) hx hb dL_law_322 (by decide) (by decide) (fun h322 => ?_) (fun h322 => ?_)
    · skip
      refine lv_goto (tgt := 1763) hx hb dL_law_337 (by decide) ?_
      exact KK a mc n now lim F lit fo fn bb (nI 1) kp _ _ _ _ _ ⟨hO, by omega, hz, by omega, by omega, hP, hD, hS, (lv_sub hl [2, 3, 4, 5, 6] rfl)⟩
    · skip
      exact absurd h322 (by decide)
  · skip
    exact absurd rfl h315

set_option maxHeartbeats 4000000 in
set_option maxRecDepth 100000 in
theorem law_setShift_y {p : Program} {l : Launch} {e : Env} {s : State} {m : MethodId} {b : Nat} {below : List Frame} {meth : Method} {c : Code} {E : GE} {A : Nat → Prop} {z0 L o i j : Nat} {xs : Nat → Int32} {Q : State → Prop} (CC : LC p l s m b c E A z0 L xs) (hL9 : L ≤ 2560) (hi9 : i + 5 ≤ L) (hj9 : j ≤ 511) (KK : LK p l e s m b below meth c E A z0 o Q 1763 i (j + 1)) (a : Nat → Nat) (mc : Int32) (n now lim : Nat) (F : LR) (lit : Nat → Bool) (fo : Nat → Nat) (fn : Nat → Int64) (bb : Nat → Nat) (th : Int32) (kp : Nat → Int32) (H : Heap) (locs : List Loc) (ls : Array Slot) (cells slots : Nat) (hst : LSt E A s b z0 i j a mc n now lim F lit fo o fn bb th kp H locs ls cells slots) (k : Nat) (hk : k < n) (z : Int32) (hz9 : inB z (nI 0) (nI (F k 0 - 1)) = false) (e1 : xs (i + 1) = (nI k)) (e2 : xs (i + 2) = z) : W p l e room_1 s m #[Value.ref b] below meth c H locs cells slots Q (F0 m 272 ls []) := by
  obtain ⟨hx, hb, hml, hown, hts, hK, hZ, hT, hA, hbA, hX, hbl, hl9⟩ := CC
  obtain ⟨hO, hnw, hz, hcl, hsl, hP, hD, hS, hl⟩ := hst
  refine lv_aload_n hx hb dL_law_272 rfl (lv_at hl 1 rfl) ?_
  refine lv_aload_n hx hb dL_law_273 rfl (lv_at hl 0 rfl) ?_
  refine lv_iload hx hb dL_law_274 (lv_at hl 4 rfl) ?_
  refine lv_iconst (v := (nI 1)) hx hb dL_law_276 (by decide) ?_
  refine nq_add hx hb dL_law_277 ?_
  refine va_sld hx hb hX hbl hbA hS (i := nI (i + 1)) (by exact vp_in_nI (by omega) (by omega)) dL_law_278 ?_
  refine nq_top (show xs ((nI (i + 1)).toNatClampNeg) = (nI k) from by rw [nI_clamp (by omega)]; exact e1) ?_
  refine lv_aload_n hx hb dL_law_279 rfl (lv_at hl 0 rfl) ?_
  refine lv_iload hx hb dL_law_280 (lv_at hl 4 rfl) ?_
  refine lv_iconst (v := (nI 2)) hx hb dL_law_282 (by decide) ?_
  refine nq_add hx hb dL_law_283 ?_
  refine va_sld hx hb hX hbl hbA hS (i := nI (i + 2)) (by exact vp_in_nI (by omega) (by omega)) dL_law_284 ?_
  refine nq_top (show xs ((nI (i + 2)).toNatClampNeg) = z from by rw [nI_clamp (by omega)]; exact e2) ?_
  refine lv_aload_n hx hb dL_law_285 rfl (lv_at hl 3 rfl) ?_
  refine lawS (S := Unit) (W1 := fun uQ => wC E a mc n now lim (LF F lit fo)) (f1 := fun uQ => fn) (rest := []) (As := [.ref (a 0), .int (nI k), .int z, .ref o]) ⟨hx, hb, hml, hown, hts⟩ (w_L_setShift_y l hl9 E _ z0 a mc n now lim F lit fo hO o fn k hk z hz9) (vx_cwSW 4 hts gL_law_L_setShift rfl rfl rfl (by decide +kernel) ⟨Nat.le_of_ble_eq_true rfl, Nat.le_of_ble_eq_true rfl⟩) hP hK hD hZ hT hS hA rfl hl.1 rfl (Nat.le_of_ble_eq_true rfl) dL_law_286 ⟨by show cells + 1 ≤ 601024; omega, by show slots + 6 ≤ 7293034; omega⟩ (fun r1 u1 H locs hr1 hP hD hS => ?_)
  subst hr1
  have hP : va_P E.1 vwCl (wG E (wC E a mc n now lim (LF F lit fo)) o (fn) (wM E bb (th) n lim F (NW now F) kp)) _ := hP
  have hD : va_D A (wG E (wC E a mc n now lim (LF F lit fo)) o (fn) (wM E bb (th) n lim F (NW now F) kp)) := hD
  refine lv_istore (lv' := [(5, .int (nI 2)), (0, .ref b), (1, .ref (a 0)), (2, .ref (bb 0)), (3, .ref o), (4, .int (nI i))]) hx hb dL_law_289 hl (by decide) rfl (fun ls hl => ?_)
  refine lv_aload_n hx hb dL_law_291 rfl (lv_at hl 3 rfl) ?_
  refine lv_aload_n hx hb dL_law_292 rfl (lv_at hl 1 rfl) ?_
  refine lv_iload hx hb dL_law_293 (lv_at hl 5 rfl) ?_
  refine lv_iconst (v := (nI 1)) hx hb dL_law_295 (by decide) ?_
  refine nq_add hx hb dL_law_296 ?_
  refine va_sld hx hb hX hbl hbA hS (i := nI (i + 1)) (by exact vp_in_nI (by omega) (by omega)) dL_law_297 ?_
  refine nq_top (show xs ((nI (i + 1)).toNatClampNeg) = (nI k) from by rw [nI_clamp (by omega)]; exact e1) ?_
  refine lv_aload_n hx hb dL_law_298 rfl (lv_at hl 1 rfl) ?_
  refine lv_iload hx hb dL_law_299 (lv_at hl 5 rfl) ?_
  refine lv_iconst (v := (nI 2)) hx hb dL_law_301 (by decide) ?_
  refine nq_add hx hb dL_law_302 ?_
  refine va_sld hx hb hX hbl hbA hS (i := nI (i + 2)) (by exact vp_in_nI (by omega) (by omega)) dL_law_303 ?_
  refine nq_top (show xs ((nI (i + 2)).toNatClampNeg) = z from by rw [nI_clamp (by omega)]; exact e2) ?_
  refine lawM_i (S := Unit) (W1 := fun kQ => wM E bb (nI 2) n lim F (NW now F) kp) (rest := []) (As := [.int (nI k), .int z]) ⟨hx, hb, hml, hown, hts⟩ (c_X2_setShift_y l E _ bb th n lim now F kp hO k hk z hz9) (cwV 2 hts gL_law_X2_setShift rfl rfl rfl (by decide +kernel) ⟨Nat.le_of_ble_eq_true rfl, Nat.le_of_ble_eq_true rfl⟩) (va_recv hK hP (ci := 3) (q0 := (wC E a mc n now lim (LF F lit fo)).length + 1) rfl wG_m0) hP hK hD hS hA rfl hl.1 rfl (Nat.le_of_ble_eq_true rfl) dL_law_304 ⟨by show cells + 1 + 0 ≤ 601024; omega, by show slots + 6 + 0 ≤ 7293034; omega⟩ (fun r2 u2 H locs hr2 hP hD hS => ?_)
  subst hr2
  have hP : va_P E.1 vwCl (wG E (wC E a mc n now lim (LF F lit fo)) o (fn) (wM E bb (nI 2) n lim F (NW now F) kp)) _ := hP
  have hD : va_D A (wG E (wC E a mc n now lim (LF F lit fo)) o (fn) (wM E bb (nI 2) n lim F (NW now F) kp)) := hD
  refine lv_istore (lv' := [(6, .int (nI 0)), (5, .int (nI 2)), (0, .ref b), (1, .ref (a 0)), (2, .ref (bb 0)), (3, .ref o), (4, .int (nI i))]) hx hb dL_law_307 hl (by decide) rfl (fun ls hl => ?_)
  refine lv_aload_n hx hb dL_law_309 rfl (lv_at hl 4 rfl) ?_
  refine lawM_i (S := Unit) (W1 := fun kQ => wM E bb (nI 2) n lim F (NW now F) kp) (rest := []) (As := []) ⟨hx, hb, hml, hown, hts⟩ (c_X2_thrown l E _ bb (nI 2) n lim now F kp) (cwV 0 hts gL_law_X2_thrown rfl rfl rfl (by decide +kernel) ⟨Nat.le_of_ble_eq_true rfl, Nat.le_of_ble_eq_true rfl⟩) (va_recv hK hP (ci := 3) (q0 := (wC E a mc n now lim (LF F lit fo)).length + 1) rfl wG_m0) hP hK hD hS hA rfl hl.1 rfl (Nat.le_of_ble_eq_true rfl) dL_law_310 ⟨by show cells + 1 + 0 + 0 ≤ 601024; omega, by show slots + 6 + 0 + 0 ≤ 7293034; omega⟩ (fun r3 u3 H locs hr3 hP hD hS => ?_)
  subst hr3
  have hP : va_P E.1 vwCl (wG E (wC E a mc n now lim (LF F lit fo)) o (fn) (wM E bb (nI 2) n lim F (NW now F) kp)) _ := hP
  have hD : va_D A (wG E (wC E a mc n now lim (LF F lit fo)) o (fn) (wM E bb (nI 2) n lim F (NW now F) kp)) := hD
  refine lv_iload hx hb dL_law_313 (lv_at hl 1 rfl) ?_
  refine nq_icmp_eq (tgt := 320) hx hb dL_law_315 (by decide) (by omega) (by omega) (fun h315 => ?_) (fun h315 => ?_)
  · skip
    refine lv_iload hx hb dL_law_320 (lv_at hl 1 rfl) ?_
    refine nq_if_ne (tgt := 337) hx hb dL_law_322 (by decide) (by decide) (fun h322 => ?_) (fun h322 => ?_)
    · skip
      refine lv_goto (tgt := 1763) hx hb dL_law_337 (by decide) ?_
      exact KK a mc n now lim F lit fo fn bb (nI 2) kp _ _ _ _ _ ⟨hO, by omega, hz, by omega, by omega, hP, hD, hS, (lv_sub hl [2, 3, 4, 5, 6] rfl)⟩
    · skip
      exact absurd h322 (by decide)
  · skip
    exact absurd rfl h315

set_option maxHeartbeats 4000000 in
set_option maxRecDepth 100000 in
theorem law_setLength {p : Program} {l : Launch} {e : Env} {s : State} {m : MethodId} {b : Nat} {below : List Frame} {meth : Method} {c : Code} {E : GE} {A : Nat → Prop} {z0 L o i j : Nat} {xs : Nat → Int32} {Q : State → Prop} (CC : LC p l s m b c E A z0 L xs) (hL9 : L ≤ 2560) (hi9 : i + 5 ≤ L) (hj9 : j ≤ 511) (KK : LK p l e s m b below meth c E A z0 o Q 1763 i (j + 1)) (a : Nat → Nat) (mc : Int32) (n now lim : Nat) (F : LR) (lit : Nat → Bool) (fo : Nat → Nat) (fn : Nat → Int64) (bb : Nat → Nat) (th : Int32) (kp : Nat → Int32) (H : Heap) (locs : List Loc) (ls : Array Slot) (cells slots : Nat) (hst : LSt E A s b z0 i j a mc n now lim F lit fo o fn bb th kp H locs ls cells slots) (k v : Nat) (hk : k < n) (hv : 1 ≤ v ∧ v < F k 0) (e1 : xs (i + 1) = (nI k)) (e2 : xs (i + 2) = (nI v)) : W p l e room_1 s m #[Value.ref b] below meth c H locs cells slots Q (F0 m 340 ls []) := by
  obtain ⟨hx, hb, hml, hown, hts, hK, hZ, hT, hA, hbA, hX, hbl, hl9⟩ := CC
  obtain ⟨hO, hnw, hz, hcl, hsl, hP, hD, hS, hl⟩ := hst
  refine lv_aload_n hx hb dL_law_340 rfl (lv_at hl 1 rfl) ?_
  refine lv_aload_n hx hb dL_law_341 rfl (lv_at hl 0 rfl) ?_
  refine lv_iload hx hb dL_law_342 (lv_at hl 4 rfl) ?_
  refine lv_iconst (v := (nI 1)) hx hb dL_law_344 (by decide) ?_
  refine nq_add hx hb dL_law_345 ?_
  refine va_sld hx hb hX hbl hbA hS (i := nI (i + 1)) (by exact vp_in_nI (by omega) (by omega)) dL_law_346 ?_
  refine nq_top (show xs ((nI (i + 1)).toNatClampNeg) = (nI k) from by rw [nI_clamp (by omega)]; exact e1) ?_
  refine lv_aload_n hx hb dL_law_347 rfl (lv_at hl 0 rfl) ?_
  refine lv_iload hx hb dL_law_348 (lv_at hl 4 rfl) ?_
  refine lv_iconst (v := (nI 2)) hx hb dL_law_350 (by decide) ?_
  refine nq_add hx hb dL_law_351 ?_
  refine va_sld hx hb hX hbl hbA hS (i := nI (i + 2)) (by exact vp_in_nI (by omega) (by omega)) dL_law_352 ?_
  refine nq_top (show xs ((nI (i + 2)).toNatClampNeg) = (nI v) from by rw [nI_clamp (by omega)]; exact e2) ?_
  refine lv_aload_n hx hb dL_law_353 rfl (lv_at hl 3 rfl) ?_
  refine lawS (S := Unit) (W1 := fun uQ => wC E a mc n now lim (LF (up2 F k 4 v) lit fo)) (f1 := fun uQ => vp_updL fn 0 (((nI (F k 4))).toInt64)) (rest := []) (As := [.ref (a 0), .int (nI k), .int (nI v), .ref o]) ⟨hx, hb, hml, hown, hts⟩ (w_L_setLength l hl9 E _ z0 a mc n now lim F lit fo hO o fn k v hk hv) (vx_cwSW 4 hts gL_law_L_setLength rfl rfl rfl (by decide +kernel) ⟨Nat.le_of_ble_eq_true rfl, Nat.le_of_ble_eq_true rfl⟩) hP hK hD hZ hT hS hA rfl hl.1 rfl (Nat.le_of_ble_eq_true rfl) dL_law_354 ⟨by show cells + 0 ≤ 601024; omega, by show slots + 0 ≤ 7293034; omega⟩ (fun r1 u1 H locs hr1 hP hD hS => ?_)
  subst hr1
  have hP : va_P E.1 vwCl (wG E (wC E a mc n now lim (LF (up2 F k 4 v) lit fo)) o (vp_updL fn 0 (((nI (F k 4))).toInt64)) (wM E bb (th) n lim F (NW now F) kp)) _ := hP
  have hD : va_D A (wG E (wC E a mc n now lim (LF (up2 F k 4 v) lit fo)) o (vp_updL fn 0 (((nI (F k 4))).toInt64)) (wM E bb (th) n lim F (NW now F) kp)) := hD
  refine lv_istore (lv' := [(5, .int (nI 0)), (0, .ref b), (1, .ref (a 0)), (2, .ref (bb 0)), (3, .ref o), (4, .int (nI i))]) hx hb dL_law_357 hl (by decide) rfl (fun ls hl => ?_)
  refine lv_aload_n hx hb dL_law_359 rfl (lv_at hl 3 rfl) ?_
  refine lv_aload_n hx hb dL_law_360 rfl (lv_at hl 1 rfl) ?_
  refine lv_iload hx hb dL_law_361 (lv_at hl 5 rfl) ?_
  refine lv_iconst (v := (nI 1)) hx hb dL_law_363 (by decide) ?_
  refine nq_add hx hb dL_law_364 ?_
  refine va_sld hx hb hX hbl hbA hS (i := nI (i + 1)) (by exact vp_in_nI (by omega) (by omega)) dL_law_365 ?_
  refine nq_top (show xs ((nI (i + 1)).toNatClampNeg) = (nI k) from by rw [nI_clamp (by omega)]; exact e1) ?_
  refine lv_aload_n hx hb dL_law_366 rfl (lv_at hl 1 rfl) ?_
  refine lv_iload hx hb dL_law_367 (lv_at hl 5 rfl) ?_
  refine lv_iconst (v := (nI 2)) hx hb dL_law_369 (by decide) ?_
  refine nq_add hx hb dL_law_370 ?_
  refine va_sld hx hb hX hbl hbA hS (i := nI (i + 2)) (by exact vp_in_nI (by omega) (by omega)) dL_law_371 ?_
  refine nq_top (show xs ((nI (i + 2)).toNatClampNeg) = (nI v) from by rw [nI_clamp (by omega)]; exact e2) ?_
  refine lawM_i (S := Unit) (W1 := fun kQ => wM E bb (nI 0) n lim (up2 F k 4 v) (NW now (up2 F k 4 v)) kp) (rest := []) (As := [.int (nI k), .int (nI v)]) ⟨hx, hb, hml, hown, hts⟩ (c_X2_setLength l E _ bb th n lim now F kp hO k hk v hv) (cwV 2 hts gL_law_X2_setLength rfl rfl rfl (by decide +kernel) ⟨Nat.le_of_ble_eq_true rfl, Nat.le_of_ble_eq_true rfl⟩) (va_recv hK hP (ci := 3) (q0 := (wC E a mc n now lim (LF (up2 F k 4 v) lit fo)).length + 1) rfl wG_m0) hP hK hD hS hA rfl hl.1 rfl (Nat.le_of_ble_eq_true rfl) dL_law_372 ⟨by show cells + 0 + 0 ≤ 601024; omega, by show slots + 0 + 0 ≤ 7293034; omega⟩ (fun r2 u2 H locs hr2 hP hD hS => ?_)
  subst hr2
  have hP : va_P E.1 vwCl (wG E (wC E a mc n now lim (LF (up2 F k 4 v) lit fo)) o (vp_updL fn 0 (((nI (F k 4))).toInt64)) (wM E bb (nI 0) n lim (up2 F k 4 v) (NW now (up2 F k 4 v)) kp)) _ := hP
  have hD : va_D A (wG E (wC E a mc n now lim (LF (up2 F k 4 v) lit fo)) o (vp_updL fn 0 (((nI (F k 4))).toInt64)) (wM E bb (nI 0) n lim (up2 F k 4 v) (NW now (up2 F k 4 v)) kp)) := hD
  refine lv_istore (lv' := [(6, .int (nI (F k 4))), (5, .int (nI 0)), (0, .ref b), (1, .ref (a 0)), (2, .ref (bb 0)), (3, .ref o), (4, .int (nI i))]) hx hb dL_law_375 hl (by decide) rfl (fun ls hl => ?_)
  refine lv_aload_n hx hb dL_law_377 rfl (lv_at hl 4 rfl) ?_
  refine lawM_i (S := Unit) (W1 := fun kQ => wM E bb (nI 0) n lim (up2 F k 4 v) (NW now (up2 F k 4 v)) kp) (rest := []) (As := []) ⟨hx, hb, hml, hown, hts⟩ (c_X2_thrown l E _ bb (nI 0) n lim now (up2 F k 4 v) kp) (cwV 0 hts gL_law_X2_thrown rfl rfl rfl (by decide +kernel) ⟨Nat.le_of_ble_eq_true rfl, Nat.le_of_ble_eq_true rfl⟩) (va_recv hK hP (ci := 3) (q0 := (wC E a mc n now lim (LF (up2 F k 4 v) lit fo)).length + 1) rfl wG_m0) hP hK hD hS hA rfl hl.1 rfl (Nat.le_of_ble_eq_true rfl) dL_law_378 ⟨by show cells + 0 + 0 + 0 ≤ 601024; omega, by show slots + 0 + 0 + 0 ≤ 7293034; omega⟩ (fun r3 u3 H locs hr3 hP hD hS => ?_)
  subst hr3
  have hP : va_P E.1 vwCl (wG E (wC E a mc n now lim (LF (up2 F k 4 v) lit fo)) o (vp_updL fn 0 (((nI (F k 4))).toInt64)) (wM E bb (nI 0) n lim (up2 F k 4 v) (NW now (up2 F k 4 v)) kp)) _ := hP
  have hD : va_D A (wG E (wC E a mc n now lim (LF (up2 F k 4 v) lit fo)) o (vp_updL fn 0 (((nI (F k 4))).toInt64)) (wM E bb (nI 0) n lim (up2 F k 4 v) (NW now (up2 F k 4 v)) kp)) := hD
  refine lv_iload hx hb dL_law_381 (lv_at hl 1 rfl) ?_
  refine nq_icmp_eq (tgt := 388) hx hb dL_law_383 (by decide) (by omega) (by omega) (fun h383 => ?_) (fun h383 => ?_)
  · skip
    refine lv_iload hx hb dL_law_388 (lv_at hl 1 rfl) ?_
    refine nq_if_ne (tgt := 405) hx hb dL_law_390 (by decide) (by decide) (fun h390 => ?_) (fun h390 => ?_)
    · skip
      exact absurd h390 (by decide)
    · skip
      refine lv_aload_n hx hb dL_law_393 rfl (lv_at hl 5 rfl) ?_
      refine lv_iconst (v := (nI 0)) hx hb dL_law_394 (by decide) ?_
      refine va_lald hx hb hK hP (wC E a mc n now lim (LF (up2 F k 4 v) lit fo)).length 2 wG_o rfl (i := nI 0) (by exact vp_in_nI (by omega) (by omega)) dL_law_395 ?_
      refine nq_topl (show (vp_updL fn 0 (((nI (F k 4))).toInt64)) ((nI 0).toNatClampNeg) = ((nI (F k 4))).toInt64 from by rw [nI_clamp (by omega)]; exact if_pos rfl) ?_
      refine lv_iload hx hb dL_law_396 (lv_at hl 0 rfl) ?_
      refine lv_i2l (v := (nI (F k 4)).toInt64) hx hb dL_law_398 (rfl) ?_
      refine nq_topl (show (nI (F k 4)).toInt64 = ((nI (F k 4))).toInt64 from by first | rfl | (rw [h390]; rfl)) ?_
      refine W.lcmp hx hb dL_law_399 ?_
      refine lv_if_eq (tgt := 405) hx hb dL_law_400 (by decide) (fun h400 => ?_) (fun h400 => ?_)
      · skip
        refine lv_goto (tgt := 1763) hx hb dL_law_405 (by decide) ?_
        exact KK a mc n now lim (up2 F k 4 v) lit fo (vp_updL fn 0 (((nI (F k 4))).toInt64)) bb (nI 0) kp _ _ _ _ _ ⟨ok_4 hO hk hv, by omega, hz, by omega, by omega, hP, hD, hS, (lv_sub hl [2, 3, 4, 5, 6] rfl)⟩
      · skip
        exact absurd (lg_self _) h400
  · skip
    exact absurd rfl h383

set_option maxHeartbeats 4000000 in
set_option maxRecDepth 100000 in
theorem law_setLength_x {p : Program} {l : Launch} {e : Env} {s : State} {m : MethodId} {b : Nat} {below : List Frame} {meth : Method} {c : Code} {E : GE} {A : Nat → Prop} {z0 L o i j : Nat} {xs : Nat → Int32} {Q : State → Prop} (CC : LC p l s m b c E A z0 L xs) (hL9 : L ≤ 2560) (hi9 : i + 5 ≤ L) (hj9 : j ≤ 511) (KK : LK p l e s m b below meth c E A z0 o Q 1763 i (j + 1)) (a : Nat → Nat) (mc : Int32) (n now lim : Nat) (F : LR) (lit : Nat → Bool) (fo : Nat → Nat) (fn : Nat → Int64) (bb : Nat → Nat) (th : Int32) (kp : Nat → Int32) (H : Heap) (locs : List Loc) (ls : Array Slot) (cells slots : Nat) (hst : LSt E A s b z0 i j a mc n now lim F lit fo o fn bb th kp H locs ls cells slots) (x : Int32) (hx9 : lpB n x = false) (z : Int32) (e1 : xs (i + 1) = x) (e2 : xs (i + 2) = z) : W p l e room_1 s m #[Value.ref b] below meth c H locs cells slots Q (F0 m 340 ls []) := by
  obtain ⟨hx, hb, hml, hown, hts, hK, hZ, hT, hA, hbA, hX, hbl, hl9⟩ := CC
  obtain ⟨hO, hnw, hz, hcl, hsl, hP, hD, hS, hl⟩ := hst
  refine lv_aload_n hx hb dL_law_340 rfl (lv_at hl 1 rfl) ?_
  refine lv_aload_n hx hb dL_law_341 rfl (lv_at hl 0 rfl) ?_
  refine lv_iload hx hb dL_law_342 (lv_at hl 4 rfl) ?_
  refine lv_iconst (v := (nI 1)) hx hb dL_law_344 (by decide) ?_
  refine nq_add hx hb dL_law_345 ?_
  refine va_sld hx hb hX hbl hbA hS (i := nI (i + 1)) (by exact vp_in_nI (by omega) (by omega)) dL_law_346 ?_
  refine nq_top (show xs ((nI (i + 1)).toNatClampNeg) = x from by rw [nI_clamp (by omega)]; exact e1) ?_
  refine lv_aload_n hx hb dL_law_347 rfl (lv_at hl 0 rfl) ?_
  refine lv_iload hx hb dL_law_348 (lv_at hl 4 rfl) ?_
  refine lv_iconst (v := (nI 2)) hx hb dL_law_350 (by decide) ?_
  refine nq_add hx hb dL_law_351 ?_
  refine va_sld hx hb hX hbl hbA hS (i := nI (i + 2)) (by exact vp_in_nI (by omega) (by omega)) dL_law_352 ?_
  refine nq_top (show xs ((nI (i + 2)).toNatClampNeg) = z from by rw [nI_clamp (by omega)]; exact e2) ?_
  refine lv_aload_n hx hb dL_law_353 rfl (lv_at hl 3 rfl) ?_
  refine lawS (S := Unit) (W1 := fun uQ => wC E a mc n now lim (LF F lit fo)) (f1 := fun uQ => fn) (rest := []) (As := [.ref (a 0), .int x, .int z, .ref o]) ⟨hx, hb, hml, hown, hts⟩ (w_L_setLength_x l hl9 E _ z0 a mc n now lim F lit fo hO o fn x hx9 z) (vx_cwSW 4 hts gL_law_L_setLength rfl rfl rfl (by decide +kernel) ⟨Nat.le_of_ble_eq_true rfl, Nat.le_of_ble_eq_true rfl⟩) hP hK hD hZ hT hS hA rfl hl.1 rfl (Nat.le_of_ble_eq_true rfl) dL_law_354 ⟨by show cells + 1 ≤ 601024; omega, by show slots + 6 ≤ 7293034; omega⟩ (fun r1 u1 H locs hr1 hP hD hS => ?_)
  subst hr1
  have hP : va_P E.1 vwCl (wG E (wC E a mc n now lim (LF F lit fo)) o (fn) (wM E bb (th) n lim F (NW now F) kp)) _ := hP
  have hD : va_D A (wG E (wC E a mc n now lim (LF F lit fo)) o (fn) (wM E bb (th) n lim F (NW now F) kp)) := hD
  refine lv_istore (lv' := [(5, .int (nI 1)), (0, .ref b), (1, .ref (a 0)), (2, .ref (bb 0)), (3, .ref o), (4, .int (nI i))]) hx hb dL_law_357 hl (by decide) rfl (fun ls hl => ?_)
  refine lv_aload_n hx hb dL_law_359 rfl (lv_at hl 3 rfl) ?_
  refine lv_aload_n hx hb dL_law_360 rfl (lv_at hl 1 rfl) ?_
  refine lv_iload hx hb dL_law_361 (lv_at hl 5 rfl) ?_
  refine lv_iconst (v := (nI 1)) hx hb dL_law_363 (by decide) ?_
  refine nq_add hx hb dL_law_364 ?_
  refine va_sld hx hb hX hbl hbA hS (i := nI (i + 1)) (by exact vp_in_nI (by omega) (by omega)) dL_law_365 ?_
  refine nq_top (show xs ((nI (i + 1)).toNatClampNeg) = x from by rw [nI_clamp (by omega)]; exact e1) ?_
  refine lv_aload_n hx hb dL_law_366 rfl (lv_at hl 1 rfl) ?_
  refine lv_iload hx hb dL_law_367 (lv_at hl 5 rfl) ?_
  refine lv_iconst (v := (nI 2)) hx hb dL_law_369 (by decide) ?_
  refine nq_add hx hb dL_law_370 ?_
  refine va_sld hx hb hX hbl hbA hS (i := nI (i + 2)) (by exact vp_in_nI (by omega) (by omega)) dL_law_371 ?_
  refine nq_top (show xs ((nI (i + 2)).toNatClampNeg) = z from by rw [nI_clamp (by omega)]; exact e2) ?_
  refine lawM_i (S := Unit) (W1 := fun kQ => wM E bb (nI 1) n lim F (NW now F) kp) (rest := []) (As := [.int x, .int z]) ⟨hx, hb, hml, hown, hts⟩ (c_X2_setLength_x l E _ bb th n lim now F kp hO x hx9 z) (cwV 2 hts gL_law_X2_setLength rfl rfl rfl (by decide +kernel) ⟨Nat.le_of_ble_eq_true rfl, Nat.le_of_ble_eq_true rfl⟩) (va_recv hK hP (ci := 3) (q0 := (wC E a mc n now lim (LF F lit fo)).length + 1) rfl wG_m0) hP hK hD hS hA rfl hl.1 rfl (Nat.le_of_ble_eq_true rfl) dL_law_372 ⟨by show cells + 1 + 0 ≤ 601024; omega, by show slots + 6 + 0 ≤ 7293034; omega⟩ (fun r2 u2 H locs hr2 hP hD hS => ?_)
  subst hr2
  have hP : va_P E.1 vwCl (wG E (wC E a mc n now lim (LF F lit fo)) o (fn) (wM E bb (nI 1) n lim F (NW now F) kp)) _ := hP
  have hD : va_D A (wG E (wC E a mc n now lim (LF F lit fo)) o (fn) (wM E bb (nI 1) n lim F (NW now F) kp)) := hD
  refine lv_istore (lv' := [(6, .int (nI 0)), (5, .int (nI 1)), (0, .ref b), (1, .ref (a 0)), (2, .ref (bb 0)), (3, .ref o), (4, .int (nI i))]) hx hb dL_law_375 hl (by decide) rfl (fun ls hl => ?_)
  refine lv_aload_n hx hb dL_law_377 rfl (lv_at hl 4 rfl) ?_
  refine lawM_i (S := Unit) (W1 := fun kQ => wM E bb (nI 1) n lim F (NW now F) kp) (rest := []) (As := []) ⟨hx, hb, hml, hown, hts⟩ (c_X2_thrown l E _ bb (nI 1) n lim now F kp) (cwV 0 hts gL_law_X2_thrown rfl rfl rfl (by decide +kernel) ⟨Nat.le_of_ble_eq_true rfl, Nat.le_of_ble_eq_true rfl⟩) (va_recv hK hP (ci := 3) (q0 := (wC E a mc n now lim (LF F lit fo)).length + 1) rfl wG_m0) hP hK hD hS hA rfl hl.1 rfl (Nat.le_of_ble_eq_true rfl) dL_law_378 ⟨by show cells + 1 + 0 + 0 ≤ 601024; omega, by show slots + 6 + 0 + 0 ≤ 7293034; omega⟩ (fun r3 u3 H locs hr3 hP hD hS => ?_)
  subst hr3
  have hP : va_P E.1 vwCl (wG E (wC E a mc n now lim (LF F lit fo)) o (fn) (wM E bb (nI 1) n lim F (NW now F) kp)) _ := hP
  have hD : va_D A (wG E (wC E a mc n now lim (LF F lit fo)) o (fn) (wM E bb (nI 1) n lim F (NW now F) kp)) := hD
  refine lv_iload hx hb dL_law_381 (lv_at hl 1 rfl) ?_
  refine nq_icmp_eq (tgt := 388) hx hb dL_law_383 (by decide) (by omega) (by omega) (fun h383 => ?_) (fun h383 => ?_)
  · skip
    refine lv_iload hx hb dL_law_388 (lv_at hl 1 rfl) ?_
    refine nq_if_ne (tgt := 405) hx hb dL_law_390 (by decide) (by decide) (fun h390 => ?_) (fun h390 => ?_)
    · skip
      refine lv_goto (tgt := 1763) hx hb dL_law_405 (by decide) ?_
      exact KK a mc n now lim F lit fo fn bb (nI 1) kp _ _ _ _ _ ⟨hO, by omega, hz, by omega, by omega, hP, hD, hS, (lv_sub hl [2, 3, 4, 5, 6] rfl)⟩
    · skip
      exact absurd h390 (by decide)
  · skip
    exact absurd rfl h383

set_option maxHeartbeats 4000000 in
set_option maxRecDepth 100000 in
theorem law_setLength_y {p : Program} {l : Launch} {e : Env} {s : State} {m : MethodId} {b : Nat} {below : List Frame} {meth : Method} {c : Code} {E : GE} {A : Nat → Prop} {z0 L o i j : Nat} {xs : Nat → Int32} {Q : State → Prop} (CC : LC p l s m b c E A z0 L xs) (hL9 : L ≤ 2560) (hi9 : i + 5 ≤ L) (hj9 : j ≤ 511) (KK : LK p l e s m b below meth c E A z0 o Q 1763 i (j + 1)) (a : Nat → Nat) (mc : Int32) (n now lim : Nat) (F : LR) (lit : Nat → Bool) (fo : Nat → Nat) (fn : Nat → Int64) (bb : Nat → Nat) (th : Int32) (kp : Nat → Int32) (H : Heap) (locs : List Loc) (ls : Array Slot) (cells slots : Nat) (hst : LSt E A s b z0 i j a mc n now lim F lit fo o fn bb th kp H locs ls cells slots) (k : Nat) (hk : k < n) (z : Int32) (hz9 : inB z (nI 1) (nI (F k 0 - 1)) = false) (e1 : xs (i + 1) = (nI k)) (e2 : xs (i + 2) = z) : W p l e room_1 s m #[Value.ref b] below meth c H locs cells slots Q (F0 m 340 ls []) := by
  obtain ⟨hx, hb, hml, hown, hts, hK, hZ, hT, hA, hbA, hX, hbl, hl9⟩ := CC
  obtain ⟨hO, hnw, hz, hcl, hsl, hP, hD, hS, hl⟩ := hst
  refine lv_aload_n hx hb dL_law_340 rfl (lv_at hl 1 rfl) ?_
  refine lv_aload_n hx hb dL_law_341 rfl (lv_at hl 0 rfl) ?_
  refine lv_iload hx hb dL_law_342 (lv_at hl 4 rfl) ?_
  refine lv_iconst (v := (nI 1)) hx hb dL_law_344 (by decide) ?_
  refine nq_add hx hb dL_law_345 ?_
  refine va_sld hx hb hX hbl hbA hS (i := nI (i + 1)) (by exact vp_in_nI (by omega) (by omega)) dL_law_346 ?_
  refine nq_top (show xs ((nI (i + 1)).toNatClampNeg) = (nI k) from by rw [nI_clamp (by omega)]; exact e1) ?_
  refine lv_aload_n hx hb dL_law_347 rfl (lv_at hl 0 rfl) ?_
  refine lv_iload hx hb dL_law_348 (lv_at hl 4 rfl) ?_
  refine lv_iconst (v := (nI 2)) hx hb dL_law_350 (by decide) ?_
  refine nq_add hx hb dL_law_351 ?_
  refine va_sld hx hb hX hbl hbA hS (i := nI (i + 2)) (by exact vp_in_nI (by omega) (by omega)) dL_law_352 ?_
  refine nq_top (show xs ((nI (i + 2)).toNatClampNeg) = z from by rw [nI_clamp (by omega)]; exact e2) ?_
  refine lv_aload_n hx hb dL_law_353 rfl (lv_at hl 3 rfl) ?_
  refine lawS (S := Unit) (W1 := fun uQ => wC E a mc n now lim (LF F lit fo)) (f1 := fun uQ => fn) (rest := []) (As := [.ref (a 0), .int (nI k), .int z, .ref o]) ⟨hx, hb, hml, hown, hts⟩ (w_L_setLength_y l hl9 E _ z0 a mc n now lim F lit fo hO o fn k hk z hz9) (vx_cwSW 4 hts gL_law_L_setLength rfl rfl rfl (by decide +kernel) ⟨Nat.le_of_ble_eq_true rfl, Nat.le_of_ble_eq_true rfl⟩) hP hK hD hZ hT hS hA rfl hl.1 rfl (Nat.le_of_ble_eq_true rfl) dL_law_354 ⟨by show cells + 1 ≤ 601024; omega, by show slots + 6 ≤ 7293034; omega⟩ (fun r1 u1 H locs hr1 hP hD hS => ?_)
  subst hr1
  have hP : va_P E.1 vwCl (wG E (wC E a mc n now lim (LF F lit fo)) o (fn) (wM E bb (th) n lim F (NW now F) kp)) _ := hP
  have hD : va_D A (wG E (wC E a mc n now lim (LF F lit fo)) o (fn) (wM E bb (th) n lim F (NW now F) kp)) := hD
  refine lv_istore (lv' := [(5, .int (nI 2)), (0, .ref b), (1, .ref (a 0)), (2, .ref (bb 0)), (3, .ref o), (4, .int (nI i))]) hx hb dL_law_357 hl (by decide) rfl (fun ls hl => ?_)
  refine lv_aload_n hx hb dL_law_359 rfl (lv_at hl 3 rfl) ?_
  refine lv_aload_n hx hb dL_law_360 rfl (lv_at hl 1 rfl) ?_
  refine lv_iload hx hb dL_law_361 (lv_at hl 5 rfl) ?_
  refine lv_iconst (v := (nI 1)) hx hb dL_law_363 (by decide) ?_
  refine nq_add hx hb dL_law_364 ?_
  refine va_sld hx hb hX hbl hbA hS (i := nI (i + 1)) (by exact vp_in_nI (by omega) (by omega)) dL_law_365 ?_
  refine nq_top (show xs ((nI (i + 1)).toNatClampNeg) = (nI k) from by rw [nI_clamp (by omega)]; exact e1) ?_
  refine lv_aload_n hx hb dL_law_366 rfl (lv_at hl 1 rfl) ?_
  refine lv_iload hx hb dL_law_367 (lv_at hl 5 rfl) ?_
  refine lv_iconst (v := (nI 2)) hx hb dL_law_369 (by decide) ?_
  refine nq_add hx hb dL_law_370 ?_
  refine va_sld hx hb hX hbl hbA hS (i := nI (i + 2)) (by exact vp_in_nI (by omega) (by omega)) dL_law_371 ?_
  refine nq_top (show xs ((nI (i + 2)).toNatClampNeg) = z from by rw [nI_clamp (by omega)]; exact e2) ?_
  refine lawM_i (S := Unit) (W1 := fun kQ => wM E bb (nI 2) n lim F (NW now F) kp) (rest := []) (As := [.int (nI k), .int z]) ⟨hx, hb, hml, hown, hts⟩ (c_X2_setLength_y l E _ bb th n lim now F kp hO k hk z hz9) (cwV 2 hts gL_law_X2_setLength rfl rfl rfl (by decide +kernel) ⟨Nat.le_of_ble_eq_true rfl, Nat.le_of_ble_eq_true rfl⟩) (va_recv hK hP (ci := 3) (q0 := (wC E a mc n now lim (LF F lit fo)).length + 1) rfl wG_m0) hP hK hD hS hA rfl hl.1 rfl (Nat.le_of_ble_eq_true rfl) dL_law_372 ⟨by show cells + 1 + 0 ≤ 601024; omega, by show slots + 6 + 0 ≤ 7293034; omega⟩ (fun r2 u2 H locs hr2 hP hD hS => ?_)
  subst hr2
  have hP : va_P E.1 vwCl (wG E (wC E a mc n now lim (LF F lit fo)) o (fn) (wM E bb (nI 2) n lim F (NW now F) kp)) _ := hP
  have hD : va_D A (wG E (wC E a mc n now lim (LF F lit fo)) o (fn) (wM E bb (nI 2) n lim F (NW now F) kp)) := hD
  refine lv_istore (lv' := [(6, .int (nI 0)), (5, .int (nI 2)), (0, .ref b), (1, .ref (a 0)), (2, .ref (bb 0)), (3, .ref o), (4, .int (nI i))]) hx hb dL_law_375 hl (by decide) rfl (fun ls hl => ?_)
  refine lv_aload_n hx hb dL_law_377 rfl (lv_at hl 4 rfl) ?_
  refine lawM_i (S := Unit) (W1 := fun kQ => wM E bb (nI 2) n lim F (NW now F) kp) (rest := []) (As := []) ⟨hx, hb, hml, hown, hts⟩ (c_X2_thrown l E _ bb (nI 2) n lim now F kp) (cwV 0 hts gL_law_X2_thrown rfl rfl rfl (by decide +kernel) ⟨Nat.le_of_ble_eq_true rfl, Nat.le_of_ble_eq_true rfl⟩) (va_recv hK hP (ci := 3) (q0 := (wC E a mc n now lim (LF F lit fo)).length + 1) rfl wG_m0) hP hK hD hS hA rfl hl.1 rfl (Nat.le_of_ble_eq_true rfl) dL_law_378 ⟨by show cells + 1 + 0 + 0 ≤ 601024; omega, by show slots + 6 + 0 + 0 ≤ 7293034; omega⟩ (fun r3 u3 H locs hr3 hP hD hS => ?_)
  subst hr3
  have hP : va_P E.1 vwCl (wG E (wC E a mc n now lim (LF F lit fo)) o (fn) (wM E bb (nI 2) n lim F (NW now F) kp)) _ := hP
  have hD : va_D A (wG E (wC E a mc n now lim (LF F lit fo)) o (fn) (wM E bb (nI 2) n lim F (NW now F) kp)) := hD
  refine lv_iload hx hb dL_law_381 (lv_at hl 1 rfl) ?_
  refine nq_icmp_eq (tgt := 388) hx hb dL_law_383 (by decide) (by omega) (by omega) (fun h383 => ?_) (fun h383 => ?_)
  · skip
    refine lv_iload hx hb dL_law_388 (lv_at hl 1 rfl) ?_
    refine nq_if_ne (tgt := 405) hx hb dL_law_390 (by decide) (by decide) (fun h390 => ?_) (fun h390 => ?_)
    · skip
      refine lv_goto (tgt := 1763) hx hb dL_law_405 (by decide) ?_
      exact KK a mc n now lim F lit fo fn bb (nI 2) kp _ _ _ _ _ ⟨hO, by omega, hz, by omega, by omega, hP, hD, hS, (lv_sub hl [2, 3, 4, 5, 6] rfl)⟩
    · skip
      exact absurd h390 (by decide)
  · skip
    exact absurd rfl h383

set_option maxHeartbeats 4000000 in
set_option maxRecDepth 100000 in
theorem law_swapColours {p : Program} {l : Launch} {e : Env} {s : State} {m : MethodId} {b : Nat} {below : List Frame} {meth : Method} {c : Code} {E : GE} {A : Nat → Prop} {z0 L o i j : Nat} {xs : Nat → Int32} {Q : State → Prop} (CC : LC p l s m b c E A z0 L xs) (hL9 : L ≤ 2560) (hi9 : i + 5 ≤ L) (hj9 : j ≤ 511) (KK : LK p l e s m b below meth c E A z0 o Q 1763 i (j + 1)) (a : Nat → Nat) (mc : Int32) (n now lim : Nat) (F : LR) (lit : Nat → Bool) (fo : Nat → Nat) (fn : Nat → Int64) (bb : Nat → Nat) (th : Int32) (kp : Nat → Int32) (H : Heap) (locs : List Loc) (ls : Array Slot) (cells slots : Nat) (hst : LSt E A s b z0 i j a mc n now lim F lit fo o fn bb th kp H locs ls cells slots) (k j0 : Nat) (hk : k < n) (hj : j0 < n) (hkj : k ≠ j0) (e1 : xs (i + 1) = (nI k)) (e2 : xs (i + 2) = (nI j0)) : W p l e room_1 s m #[Value.ref b] below meth c H locs cells slots Q (F0 m 408 ls []) := by
  obtain ⟨hx, hb, hml, hown, hts, hK, hZ, hT, hA, hbA, hX, hbl, hl9⟩ := CC
  obtain ⟨hO, hnw, hz, hcl, hsl, hP, hD, hS, hl⟩ := hst
  refine lv_aload_n hx hb dL_law_408 rfl (lv_at hl 1 rfl) ?_
  refine lv_aload_n hx hb dL_law_409 rfl (lv_at hl 0 rfl) ?_
  refine lv_iload hx hb dL_law_410 (lv_at hl 4 rfl) ?_
  refine lv_iconst (v := (nI 1)) hx hb dL_law_412 (by decide) ?_
  refine nq_add hx hb dL_law_413 ?_
  refine va_sld hx hb hX hbl hbA hS (i := nI (i + 1)) (by exact vp_in_nI (by omega) (by omega)) dL_law_414 ?_
  refine nq_top (show xs ((nI (i + 1)).toNatClampNeg) = (nI k) from by rw [nI_clamp (by omega)]; exact e1) ?_
  refine lv_aload_n hx hb dL_law_415 rfl (lv_at hl 0 rfl) ?_
  refine lv_iload hx hb dL_law_416 (lv_at hl 4 rfl) ?_
  refine lv_iconst (v := (nI 2)) hx hb dL_law_418 (by decide) ?_
  refine nq_add hx hb dL_law_419 ?_
  refine va_sld hx hb hX hbl hbA hS (i := nI (i + 2)) (by exact vp_in_nI (by omega) (by omega)) dL_law_420 ?_
  refine nq_top (show xs ((nI (i + 2)).toNatClampNeg) = (nI j0) from by rw [nI_clamp (by omega)]; exact e2) ?_
  refine lv_aload_n hx hb dL_law_421 rfl (lv_at hl 3 rfl) ?_
  refine lawS (S := Unit) (W1 := fun uQ => wC E a mc n now lim (LF (up2 (up2 F k 2 (F j0 2)) j0 2 (F k 2)) lit fo)) (f1 := fun uQ => vp_updL fn 0 (bL (decide (F j0 2 ≠ F k 2)))) (rest := []) (As := [.ref (a 0), .int (nI k), .int (nI j0), .ref o]) ⟨hx, hb, hml, hown, hts⟩ (w_L_swapColours l hl9 E _ z0 a mc n now lim F lit fo hO o fn k j0 hk hj hkj) (vx_cwSW 4 hts gL_law_L_swapColours rfl rfl rfl (by decide +kernel) ⟨Nat.le_of_ble_eq_true rfl, Nat.le_of_ble_eq_true rfl⟩) hP hK hD hZ hT hS hA rfl hl.1 rfl (Nat.le_of_ble_eq_true rfl) dL_law_422 ⟨by show cells + 0 ≤ 601024; omega, by show slots + 0 ≤ 7293034; omega⟩ (fun r1 u1 H locs hr1 hP hD hS => ?_)
  subst hr1
  have hP : va_P E.1 vwCl (wG E (wC E a mc n now lim (LF (up2 (up2 F k 2 (F j0 2)) j0 2 (F k 2)) lit fo)) o (vp_updL fn 0 (bL (decide (F j0 2 ≠ F k 2)))) (wM E bb (th) n lim F (NW now F) kp)) _ := hP
  have hD : va_D A (wG E (wC E a mc n now lim (LF (up2 (up2 F k 2 (F j0 2)) j0 2 (F k 2)) lit fo)) o (vp_updL fn 0 (bL (decide (F j0 2 ≠ F k 2)))) (wM E bb (th) n lim F (NW now F) kp)) := hD
  refine lv_istore (lv' := [(5, .int (nI 0)), (0, .ref b), (1, .ref (a 0)), (2, .ref (bb 0)), (3, .ref o), (4, .int (nI i))]) hx hb dL_law_425 hl (by decide) rfl (fun ls hl => ?_)
  refine lv_aload_n hx hb dL_law_427 rfl (lv_at hl 3 rfl) ?_
  refine lv_aload_n hx hb dL_law_428 rfl (lv_at hl 1 rfl) ?_
  refine lv_iload hx hb dL_law_429 (lv_at hl 5 rfl) ?_
  refine lv_iconst (v := (nI 1)) hx hb dL_law_431 (by decide) ?_
  refine nq_add hx hb dL_law_432 ?_
  refine va_sld hx hb hX hbl hbA hS (i := nI (i + 1)) (by exact vp_in_nI (by omega) (by omega)) dL_law_433 ?_
  refine nq_top (show xs ((nI (i + 1)).toNatClampNeg) = (nI k) from by rw [nI_clamp (by omega)]; exact e1) ?_
  refine lv_aload_n hx hb dL_law_434 rfl (lv_at hl 1 rfl) ?_
  refine lv_iload hx hb dL_law_435 (lv_at hl 5 rfl) ?_
  refine lv_iconst (v := (nI 2)) hx hb dL_law_437 (by decide) ?_
  refine nq_add hx hb dL_law_438 ?_
  refine va_sld hx hb hX hbl hbA hS (i := nI (i + 2)) (by exact vp_in_nI (by omega) (by omega)) dL_law_439 ?_
  refine nq_top (show xs ((nI (i + 2)).toNatClampNeg) = (nI j0) from by rw [nI_clamp (by omega)]; exact e2) ?_
  refine lawM_i (S := Unit) (W1 := fun kQ => wM E bb (nI 0) n lim (up2 (up2 F k 2 (F j0 2)) j0 2 (F k 2)) (NW now (up2 (up2 F k 2 (F j0 2)) j0 2 (F k 2))) kp) (rest := []) (As := [.int (nI k), .int (nI j0)]) ⟨hx, hb, hml, hown, hts⟩ (c_X2_swapColours l E _ bb th n lim now F kp hO k j0 hk hj hkj) (cwV 2 hts gL_law_X2_swapColours rfl rfl rfl (by decide +kernel) ⟨Nat.le_of_ble_eq_true rfl, Nat.le_of_ble_eq_true rfl⟩) (va_recv hK hP (ci := 3) (q0 := (wC E a mc n now lim (LF (up2 (up2 F k 2 (F j0 2)) j0 2 (F k 2)) lit fo)).length + 1) rfl wG_m0) hP hK hD hS hA rfl hl.1 rfl (Nat.le_of_ble_eq_true rfl) dL_law_440 ⟨by show cells + 0 + 0 ≤ 601024; omega, by show slots + 0 + 0 ≤ 7293034; omega⟩ (fun r2 u2 H locs hr2 hP hD hS => ?_)
  subst hr2
  have hP : va_P E.1 vwCl (wG E (wC E a mc n now lim (LF (up2 (up2 F k 2 (F j0 2)) j0 2 (F k 2)) lit fo)) o (vp_updL fn 0 (bL (decide (F j0 2 ≠ F k 2)))) (wM E bb (nI 0) n lim (up2 (up2 F k 2 (F j0 2)) j0 2 (F k 2)) (NW now (up2 (up2 F k 2 (F j0 2)) j0 2 (F k 2))) kp)) _ := hP
  have hD : va_D A (wG E (wC E a mc n now lim (LF (up2 (up2 F k 2 (F j0 2)) j0 2 (F k 2)) lit fo)) o (vp_updL fn 0 (bL (decide (F j0 2 ≠ F k 2)))) (wM E bb (nI 0) n lim (up2 (up2 F k 2 (F j0 2)) j0 2 (F k 2)) (NW now (up2 (up2 F k 2 (F j0 2)) j0 2 (F k 2))) kp)) := hD
  refine lv_istore (lv' := [(6, .int (bI (decide (F j0 2 ≠ F k 2)))), (5, .int (nI 0)), (0, .ref b), (1, .ref (a 0)), (2, .ref (bb 0)), (3, .ref o), (4, .int (nI i))]) hx hb dL_law_443 hl (by decide) rfl (fun ls hl => ?_)
  refine lv_aload_n hx hb dL_law_445 rfl (lv_at hl 4 rfl) ?_
  refine lawM_i (S := Unit) (W1 := fun kQ => wM E bb (nI 0) n lim (up2 (up2 F k 2 (F j0 2)) j0 2 (F k 2)) (NW now (up2 (up2 F k 2 (F j0 2)) j0 2 (F k 2))) kp) (rest := []) (As := []) ⟨hx, hb, hml, hown, hts⟩ (c_X2_thrown l E _ bb (nI 0) n lim now (up2 (up2 F k 2 (F j0 2)) j0 2 (F k 2)) kp) (cwV 0 hts gL_law_X2_thrown rfl rfl rfl (by decide +kernel) ⟨Nat.le_of_ble_eq_true rfl, Nat.le_of_ble_eq_true rfl⟩) (va_recv hK hP (ci := 3) (q0 := (wC E a mc n now lim (LF (up2 (up2 F k 2 (F j0 2)) j0 2 (F k 2)) lit fo)).length + 1) rfl wG_m0) hP hK hD hS hA rfl hl.1 rfl (Nat.le_of_ble_eq_true rfl) dL_law_446 ⟨by show cells + 0 + 0 + 0 ≤ 601024; omega, by show slots + 0 + 0 + 0 ≤ 7293034; omega⟩ (fun r3 u3 H locs hr3 hP hD hS => ?_)
  subst hr3
  have hP : va_P E.1 vwCl (wG E (wC E a mc n now lim (LF (up2 (up2 F k 2 (F j0 2)) j0 2 (F k 2)) lit fo)) o (vp_updL fn 0 (bL (decide (F j0 2 ≠ F k 2)))) (wM E bb (nI 0) n lim (up2 (up2 F k 2 (F j0 2)) j0 2 (F k 2)) (NW now (up2 (up2 F k 2 (F j0 2)) j0 2 (F k 2))) kp)) _ := hP
  have hD : va_D A (wG E (wC E a mc n now lim (LF (up2 (up2 F k 2 (F j0 2)) j0 2 (F k 2)) lit fo)) o (vp_updL fn 0 (bL (decide (F j0 2 ≠ F k 2)))) (wM E bb (nI 0) n lim (up2 (up2 F k 2 (F j0 2)) j0 2 (F k 2)) (NW now (up2 (up2 F k 2 (F j0 2)) j0 2 (F k 2))) kp)) := hD
  refine lv_iload hx hb dL_law_449 (lv_at hl 1 rfl) ?_
  refine nq_icmp_eq (tgt := 456) hx hb dL_law_451 (by decide) (by omega) (by omega) (fun h451 => ?_) (fun h451 => ?_)
  · skip
    refine lv_iload hx hb dL_law_456 (lv_at hl 1 rfl) ?_
    refine nq_if_ne (tgt := 480) hx hb dL_law_458 (by decide) (by decide) (fun h458 => ?_) (fun h458 => ?_)
    · skip
      exact absurd h458 (by decide)
    · skip
      refine lv_aload_n hx hb dL_law_461 rfl (lv_at hl 5 rfl) ?_
      refine lv_iconst (v := (nI 0)) hx hb dL_law_462 (by decide) ?_
      refine va_lald hx hb hK hP (wC E a mc n now lim (LF (up2 (up2 F k 2 (F j0 2)) j0 2 (F k 2)) lit fo)).length 2 wG_o rfl (i := nI 0) (by exact vp_in_nI (by omega) (by omega)) dL_law_463 ?_
      refine nq_topl (show (vp_updL fn 0 (bL (decide (F j0 2 ≠ F k 2)))) ((nI 0).toNatClampNeg) = bL (decide (F j0 2 ≠ F k 2)) from by rw [nI_clamp (by omega)]; exact if_pos rfl) ?_
      refine lv_iload hx hb dL_law_464 (lv_at hl 0 rfl) ?_
      refine bq_if_eq (tgt := 473) hx hb dL_law_466 (by decide) (fun h466 => ?_) (fun h466 => ?_)
      · skip
        refine lv_lconst (v := 0) hx hb dL_law_473 (by decide) ?_
        refine nq_topl (show 0 = bL (decide (F j0 2 ≠ F k 2)) from by first | rfl | (rw [h466]; rfl)) ?_
        refine W.lcmp hx hb dL_law_474 ?_
        refine lv_if_eq (tgt := 480) hx hb dL_law_475 (by decide) (fun h475 => ?_) (fun h475 => ?_)
        · skip
          refine lv_goto (tgt := 1763) hx hb dL_law_480 (by decide) ?_
          exact KK a mc n now lim (up2 (up2 F k 2 (F j0 2)) j0 2 (F k 2)) lit fo (vp_updL fn 0 (bL (decide (F j0 2 ≠ F k 2)))) bb (nI 0) kp _ _ _ _ _ ⟨ok_2 (ok_2 hO hk (hO.2.2.2.1 j0 hj).2.2.2.2.1) hj (hO.2.2.2.1 k hk).2.2.2.2.1, by omega, hz, by omega, by omega, hP, hD, hS, (lv_sub hl [2, 3, 4, 5, 6] rfl)⟩
        · skip
          exact absurd (lg_self _) h475
      · skip
        refine lv_lconst (v := 1) hx hb dL_law_469 (by decide) ?_
        refine lv_goto (tgt := 474) hx hb dL_law_470 (by decide) ?_
        refine nq_topl (show 1 = bL (decide (F j0 2 ≠ F k 2)) from by first | rfl | (rw [h466]; rfl)) ?_
        refine W.lcmp hx hb dL_law_474 ?_
        refine lv_if_eq (tgt := 480) hx hb dL_law_475 (by decide) (fun h475 => ?_) (fun h475 => ?_)
        · skip
          refine lv_goto (tgt := 1763) hx hb dL_law_480 (by decide) ?_
          exact KK a mc n now lim (up2 (up2 F k 2 (F j0 2)) j0 2 (F k 2)) lit fo (vp_updL fn 0 (bL (decide (F j0 2 ≠ F k 2)))) bb (nI 0) kp _ _ _ _ _ ⟨ok_2 (ok_2 hO hk (hO.2.2.2.1 j0 hj).2.2.2.2.1) hj (hO.2.2.2.1 k hk).2.2.2.2.1, by omega, hz, by omega, by omega, hP, hD, hS, (lv_sub hl [2, 3, 4, 5, 6] rfl)⟩
        · skip
          exact absurd (lg_self _) h475
  · skip
    exact absurd rfl h451

set_option maxHeartbeats 4000000 in
set_option maxRecDepth 100000 in
theorem law_swapColours_x {p : Program} {l : Launch} {e : Env} {s : State} {m : MethodId} {b : Nat} {below : List Frame} {meth : Method} {c : Code} {E : GE} {A : Nat → Prop} {z0 L o i j : Nat} {xs : Nat → Int32} {Q : State → Prop} (CC : LC p l s m b c E A z0 L xs) (hL9 : L ≤ 2560) (hi9 : i + 5 ≤ L) (hj9 : j ≤ 511) (KK : LK p l e s m b below meth c E A z0 o Q 1763 i (j + 1)) (a : Nat → Nat) (mc : Int32) (n now lim : Nat) (F : LR) (lit : Nat → Bool) (fo : Nat → Nat) (fn : Nat → Int64) (bb : Nat → Nat) (th : Int32) (kp : Nat → Int32) (H : Heap) (locs : List Loc) (ls : Array Slot) (cells slots : Nat) (hst : LSt E A s b z0 i j a mc n now lim F lit fo o fn bb th kp H locs ls cells slots) (x z : Int32) (hx9 : (lpB n x && lpB n z) = false) (e1 : xs (i + 1) = x) (e2 : xs (i + 2) = z) : W p l e room_1 s m #[Value.ref b] below meth c H locs cells slots Q (F0 m 408 ls []) := by
  obtain ⟨hx, hb, hml, hown, hts, hK, hZ, hT, hA, hbA, hX, hbl, hl9⟩ := CC
  obtain ⟨hO, hnw, hz, hcl, hsl, hP, hD, hS, hl⟩ := hst
  refine lv_aload_n hx hb dL_law_408 rfl (lv_at hl 1 rfl) ?_
  refine lv_aload_n hx hb dL_law_409 rfl (lv_at hl 0 rfl) ?_
  refine lv_iload hx hb dL_law_410 (lv_at hl 4 rfl) ?_
  refine lv_iconst (v := (nI 1)) hx hb dL_law_412 (by decide) ?_
  refine nq_add hx hb dL_law_413 ?_
  refine va_sld hx hb hX hbl hbA hS (i := nI (i + 1)) (by exact vp_in_nI (by omega) (by omega)) dL_law_414 ?_
  refine nq_top (show xs ((nI (i + 1)).toNatClampNeg) = x from by rw [nI_clamp (by omega)]; exact e1) ?_
  refine lv_aload_n hx hb dL_law_415 rfl (lv_at hl 0 rfl) ?_
  refine lv_iload hx hb dL_law_416 (lv_at hl 4 rfl) ?_
  refine lv_iconst (v := (nI 2)) hx hb dL_law_418 (by decide) ?_
  refine nq_add hx hb dL_law_419 ?_
  refine va_sld hx hb hX hbl hbA hS (i := nI (i + 2)) (by exact vp_in_nI (by omega) (by omega)) dL_law_420 ?_
  refine nq_top (show xs ((nI (i + 2)).toNatClampNeg) = z from by rw [nI_clamp (by omega)]; exact e2) ?_
  refine lv_aload_n hx hb dL_law_421 rfl (lv_at hl 3 rfl) ?_
  refine lawS (S := Unit) (W1 := fun uQ => wC E a mc n now lim (LF F lit fo)) (f1 := fun uQ => fn) (rest := []) (As := [.ref (a 0), .int x, .int z, .ref o]) ⟨hx, hb, hml, hown, hts⟩ (w_L_swapColours_x l hl9 E _ z0 a mc n now lim F lit fo hO o fn x z hx9) (vx_cwSW 4 hts gL_law_L_swapColours rfl rfl rfl (by decide +kernel) ⟨Nat.le_of_ble_eq_true rfl, Nat.le_of_ble_eq_true rfl⟩) hP hK hD hZ hT hS hA rfl hl.1 rfl (Nat.le_of_ble_eq_true rfl) dL_law_422 ⟨by show cells + 1 ≤ 601024; omega, by show slots + 6 ≤ 7293034; omega⟩ (fun r1 u1 H locs hr1 hP hD hS => ?_)
  subst hr1
  have hP : va_P E.1 vwCl (wG E (wC E a mc n now lim (LF F lit fo)) o (fn) (wM E bb (th) n lim F (NW now F) kp)) _ := hP
  have hD : va_D A (wG E (wC E a mc n now lim (LF F lit fo)) o (fn) (wM E bb (th) n lim F (NW now F) kp)) := hD
  refine lv_istore (lv' := [(5, .int (nI 1)), (0, .ref b), (1, .ref (a 0)), (2, .ref (bb 0)), (3, .ref o), (4, .int (nI i))]) hx hb dL_law_425 hl (by decide) rfl (fun ls hl => ?_)
  refine lv_aload_n hx hb dL_law_427 rfl (lv_at hl 3 rfl) ?_
  refine lv_aload_n hx hb dL_law_428 rfl (lv_at hl 1 rfl) ?_
  refine lv_iload hx hb dL_law_429 (lv_at hl 5 rfl) ?_
  refine lv_iconst (v := (nI 1)) hx hb dL_law_431 (by decide) ?_
  refine nq_add hx hb dL_law_432 ?_
  refine va_sld hx hb hX hbl hbA hS (i := nI (i + 1)) (by exact vp_in_nI (by omega) (by omega)) dL_law_433 ?_
  refine nq_top (show xs ((nI (i + 1)).toNatClampNeg) = x from by rw [nI_clamp (by omega)]; exact e1) ?_
  refine lv_aload_n hx hb dL_law_434 rfl (lv_at hl 1 rfl) ?_
  refine lv_iload hx hb dL_law_435 (lv_at hl 5 rfl) ?_
  refine lv_iconst (v := (nI 2)) hx hb dL_law_437 (by decide) ?_
  refine nq_add hx hb dL_law_438 ?_
  refine va_sld hx hb hX hbl hbA hS (i := nI (i + 2)) (by exact vp_in_nI (by omega) (by omega)) dL_law_439 ?_
  refine nq_top (show xs ((nI (i + 2)).toNatClampNeg) = z from by rw [nI_clamp (by omega)]; exact e2) ?_
  refine lawM_i (S := Unit) (W1 := fun kQ => wM E bb (nI 1) n lim F (NW now F) kp) (rest := []) (As := [.int x, .int z]) ⟨hx, hb, hml, hown, hts⟩ (c_X2_swapColours_x l E _ bb th n lim now F kp hO x z hx9) (cwV 2 hts gL_law_X2_swapColours rfl rfl rfl (by decide +kernel) ⟨Nat.le_of_ble_eq_true rfl, Nat.le_of_ble_eq_true rfl⟩) (va_recv hK hP (ci := 3) (q0 := (wC E a mc n now lim (LF F lit fo)).length + 1) rfl wG_m0) hP hK hD hS hA rfl hl.1 rfl (Nat.le_of_ble_eq_true rfl) dL_law_440 ⟨by show cells + 1 + 0 ≤ 601024; omega, by show slots + 6 + 0 ≤ 7293034; omega⟩ (fun r2 u2 H locs hr2 hP hD hS => ?_)
  subst hr2
  have hP : va_P E.1 vwCl (wG E (wC E a mc n now lim (LF F lit fo)) o (fn) (wM E bb (nI 1) n lim F (NW now F) kp)) _ := hP
  have hD : va_D A (wG E (wC E a mc n now lim (LF F lit fo)) o (fn) (wM E bb (nI 1) n lim F (NW now F) kp)) := hD
  refine lv_istore (lv' := [(6, .int (bI false)), (5, .int (nI 1)), (0, .ref b), (1, .ref (a 0)), (2, .ref (bb 0)), (3, .ref o), (4, .int (nI i))]) hx hb dL_law_443 hl (by decide) rfl (fun ls hl => ?_)
  refine lv_aload_n hx hb dL_law_445 rfl (lv_at hl 4 rfl) ?_
  refine lawM_i (S := Unit) (W1 := fun kQ => wM E bb (nI 1) n lim F (NW now F) kp) (rest := []) (As := []) ⟨hx, hb, hml, hown, hts⟩ (c_X2_thrown l E _ bb (nI 1) n lim now F kp) (cwV 0 hts gL_law_X2_thrown rfl rfl rfl (by decide +kernel) ⟨Nat.le_of_ble_eq_true rfl, Nat.le_of_ble_eq_true rfl⟩) (va_recv hK hP (ci := 3) (q0 := (wC E a mc n now lim (LF F lit fo)).length + 1) rfl wG_m0) hP hK hD hS hA rfl hl.1 rfl (Nat.le_of_ble_eq_true rfl) dL_law_446 ⟨by show cells + 1 + 0 + 0 ≤ 601024; omega, by show slots + 6 + 0 + 0 ≤ 7293034; omega⟩ (fun r3 u3 H locs hr3 hP hD hS => ?_)
  subst hr3
  have hP : va_P E.1 vwCl (wG E (wC E a mc n now lim (LF F lit fo)) o (fn) (wM E bb (nI 1) n lim F (NW now F) kp)) _ := hP
  have hD : va_D A (wG E (wC E a mc n now lim (LF F lit fo)) o (fn) (wM E bb (nI 1) n lim F (NW now F) kp)) := hD
  refine lv_iload hx hb dL_law_449 (lv_at hl 1 rfl) ?_
  refine nq_icmp_eq (tgt := 456) hx hb dL_law_451 (by decide) (by omega) (by omega) (fun h451 => ?_) (fun h451 => ?_)
  · skip
    refine lv_iload hx hb dL_law_456 (lv_at hl 1 rfl) ?_
    refine nq_if_ne (tgt := 480) hx hb dL_law_458 (by decide) (by decide) (fun h458 => ?_) (fun h458 => ?_)
    · skip
      refine lv_goto (tgt := 1763) hx hb dL_law_480 (by decide) ?_
      exact KK a mc n now lim F lit fo fn bb (nI 1) kp _ _ _ _ _ ⟨hO, by omega, hz, by omega, by omega, hP, hD, hS, (lv_sub hl [2, 3, 4, 5, 6] rfl)⟩
    · skip
      exact absurd h458 (by decide)
  · skip
    exact absurd rfl h451

set_option maxHeartbeats 4000000 in
set_option maxRecDepth 100000 in
theorem law_swapColours_y {p : Program} {l : Launch} {e : Env} {s : State} {m : MethodId} {b : Nat} {below : List Frame} {meth : Method} {c : Code} {E : GE} {A : Nat → Prop} {z0 L o i j : Nat} {xs : Nat → Int32} {Q : State → Prop} (CC : LC p l s m b c E A z0 L xs) (hL9 : L ≤ 2560) (hi9 : i + 5 ≤ L) (hj9 : j ≤ 511) (KK : LK p l e s m b below meth c E A z0 o Q 1763 i (j + 1)) (a : Nat → Nat) (mc : Int32) (n now lim : Nat) (F : LR) (lit : Nat → Bool) (fo : Nat → Nat) (fn : Nat → Int64) (bb : Nat → Nat) (th : Int32) (kp : Nat → Int32) (H : Heap) (locs : List Loc) (ls : Array Slot) (cells slots : Nat) (hst : LSt E A s b z0 i j a mc n now lim F lit fo o fn bb th kp H locs ls cells slots) (k : Nat) (hk : k < n) (e1 : xs (i + 1) = (nI k)) (e2 : xs (i + 2) = (nI k)) : W p l e room_1 s m #[Value.ref b] below meth c H locs cells slots Q (F0 m 408 ls []) := by
  obtain ⟨hx, hb, hml, hown, hts, hK, hZ, hT, hA, hbA, hX, hbl, hl9⟩ := CC
  obtain ⟨hO, hnw, hz, hcl, hsl, hP, hD, hS, hl⟩ := hst
  refine lv_aload_n hx hb dL_law_408 rfl (lv_at hl 1 rfl) ?_
  refine lv_aload_n hx hb dL_law_409 rfl (lv_at hl 0 rfl) ?_
  refine lv_iload hx hb dL_law_410 (lv_at hl 4 rfl) ?_
  refine lv_iconst (v := (nI 1)) hx hb dL_law_412 (by decide) ?_
  refine nq_add hx hb dL_law_413 ?_
  refine va_sld hx hb hX hbl hbA hS (i := nI (i + 1)) (by exact vp_in_nI (by omega) (by omega)) dL_law_414 ?_
  refine nq_top (show xs ((nI (i + 1)).toNatClampNeg) = (nI k) from by rw [nI_clamp (by omega)]; exact e1) ?_
  refine lv_aload_n hx hb dL_law_415 rfl (lv_at hl 0 rfl) ?_
  refine lv_iload hx hb dL_law_416 (lv_at hl 4 rfl) ?_
  refine lv_iconst (v := (nI 2)) hx hb dL_law_418 (by decide) ?_
  refine nq_add hx hb dL_law_419 ?_
  refine va_sld hx hb hX hbl hbA hS (i := nI (i + 2)) (by exact vp_in_nI (by omega) (by omega)) dL_law_420 ?_
  refine nq_top (show xs ((nI (i + 2)).toNatClampNeg) = (nI k) from by rw [nI_clamp (by omega)]; exact e2) ?_
  refine lv_aload_n hx hb dL_law_421 rfl (lv_at hl 3 rfl) ?_
  refine lawS (S := Unit) (W1 := fun uQ => wC E a mc n now lim (LF F lit fo)) (f1 := fun uQ => fn) (rest := []) (As := [.ref (a 0), .int (nI k), .int (nI k), .ref o]) ⟨hx, hb, hml, hown, hts⟩ (w_L_swapColours_y l hl9 E _ z0 a mc n now lim F lit fo hO o fn k hk) (vx_cwSW 4 hts gL_law_L_swapColours rfl rfl rfl (by decide +kernel) ⟨Nat.le_of_ble_eq_true rfl, Nat.le_of_ble_eq_true rfl⟩) hP hK hD hZ hT hS hA rfl hl.1 rfl (Nat.le_of_ble_eq_true rfl) dL_law_422 ⟨by show cells + 1 ≤ 601024; omega, by show slots + 6 ≤ 7293034; omega⟩ (fun r1 u1 H locs hr1 hP hD hS => ?_)
  subst hr1
  have hP : va_P E.1 vwCl (wG E (wC E a mc n now lim (LF F lit fo)) o (fn) (wM E bb (th) n lim F (NW now F) kp)) _ := hP
  have hD : va_D A (wG E (wC E a mc n now lim (LF F lit fo)) o (fn) (wM E bb (th) n lim F (NW now F) kp)) := hD
  refine lv_istore (lv' := [(5, .int (nI 2)), (0, .ref b), (1, .ref (a 0)), (2, .ref (bb 0)), (3, .ref o), (4, .int (nI i))]) hx hb dL_law_425 hl (by decide) rfl (fun ls hl => ?_)
  refine lv_aload_n hx hb dL_law_427 rfl (lv_at hl 3 rfl) ?_
  refine lv_aload_n hx hb dL_law_428 rfl (lv_at hl 1 rfl) ?_
  refine lv_iload hx hb dL_law_429 (lv_at hl 5 rfl) ?_
  refine lv_iconst (v := (nI 1)) hx hb dL_law_431 (by decide) ?_
  refine nq_add hx hb dL_law_432 ?_
  refine va_sld hx hb hX hbl hbA hS (i := nI (i + 1)) (by exact vp_in_nI (by omega) (by omega)) dL_law_433 ?_
  refine nq_top (show xs ((nI (i + 1)).toNatClampNeg) = (nI k) from by rw [nI_clamp (by omega)]; exact e1) ?_
  refine lv_aload_n hx hb dL_law_434 rfl (lv_at hl 1 rfl) ?_
  refine lv_iload hx hb dL_law_435 (lv_at hl 5 rfl) ?_
  refine lv_iconst (v := (nI 2)) hx hb dL_law_437 (by decide) ?_
  refine nq_add hx hb dL_law_438 ?_
  refine va_sld hx hb hX hbl hbA hS (i := nI (i + 2)) (by exact vp_in_nI (by omega) (by omega)) dL_law_439 ?_
  refine nq_top (show xs ((nI (i + 2)).toNatClampNeg) = (nI k) from by rw [nI_clamp (by omega)]; exact e2) ?_
  refine lawM_i (S := Unit) (W1 := fun kQ => wM E bb (nI 2) n lim F (NW now F) kp) (rest := []) (As := [.int (nI k), .int (nI k)]) ⟨hx, hb, hml, hown, hts⟩ (c_X2_swapColours_y l E _ bb th n lim now F kp hO k hk) (cwV 2 hts gL_law_X2_swapColours rfl rfl rfl (by decide +kernel) ⟨Nat.le_of_ble_eq_true rfl, Nat.le_of_ble_eq_true rfl⟩) (va_recv hK hP (ci := 3) (q0 := (wC E a mc n now lim (LF F lit fo)).length + 1) rfl wG_m0) hP hK hD hS hA rfl hl.1 rfl (Nat.le_of_ble_eq_true rfl) dL_law_440 ⟨by show cells + 1 + 0 ≤ 601024; omega, by show slots + 6 + 0 ≤ 7293034; omega⟩ (fun r2 u2 H locs hr2 hP hD hS => ?_)
  subst hr2
  have hP : va_P E.1 vwCl (wG E (wC E a mc n now lim (LF F lit fo)) o (fn) (wM E bb (nI 2) n lim F (NW now F) kp)) _ := hP
  have hD : va_D A (wG E (wC E a mc n now lim (LF F lit fo)) o (fn) (wM E bb (nI 2) n lim F (NW now F) kp)) := hD
  refine lv_istore (lv' := [(6, .int (bI false)), (5, .int (nI 2)), (0, .ref b), (1, .ref (a 0)), (2, .ref (bb 0)), (3, .ref o), (4, .int (nI i))]) hx hb dL_law_443 hl (by decide) rfl (fun ls hl => ?_)
  refine lv_aload_n hx hb dL_law_445 rfl (lv_at hl 4 rfl) ?_
  refine lawM_i (S := Unit) (W1 := fun kQ => wM E bb (nI 2) n lim F (NW now F) kp) (rest := []) (As := []) ⟨hx, hb, hml, hown, hts⟩ (c_X2_thrown l E _ bb (nI 2) n lim now F kp) (cwV 0 hts gL_law_X2_thrown rfl rfl rfl (by decide +kernel) ⟨Nat.le_of_ble_eq_true rfl, Nat.le_of_ble_eq_true rfl⟩) (va_recv hK hP (ci := 3) (q0 := (wC E a mc n now lim (LF F lit fo)).length + 1) rfl wG_m0) hP hK hD hS hA rfl hl.1 rfl (Nat.le_of_ble_eq_true rfl) dL_law_446 ⟨by show cells + 1 + 0 + 0 ≤ 601024; omega, by show slots + 6 + 0 + 0 ≤ 7293034; omega⟩ (fun r3 u3 H locs hr3 hP hD hS => ?_)
  subst hr3
  have hP : va_P E.1 vwCl (wG E (wC E a mc n now lim (LF F lit fo)) o (fn) (wM E bb (nI 2) n lim F (NW now F) kp)) _ := hP
  have hD : va_D A (wG E (wC E a mc n now lim (LF F lit fo)) o (fn) (wM E bb (nI 2) n lim F (NW now F) kp)) := hD
  refine lv_iload hx hb dL_law_449 (lv_at hl 1 rfl) ?_
  refine nq_icmp_eq (tgt := 456) hx hb dL_law_451 (by decide) (by omega) (by omega) (fun h451 => ?_) (fun h451 => ?_)
  · skip
    refine lv_iload hx hb dL_law_456 (lv_at hl 1 rfl) ?_
    refine nq_if_ne (tgt := 480) hx hb dL_law_458 (by decide) (by decide) (fun h458 => ?_) (fun h458 => ?_)
    · skip
      refine lv_goto (tgt := 1763) hx hb dL_law_480 (by decide) ?_
      exact KK a mc n now lim F lit fo fn bb (nI 2) kp _ _ _ _ _ ⟨hO, by omega, hz, by omega, by omega, hP, hD, hS, (lv_sub hl [2, 3, 4, 5, 6] rfl)⟩
    · skip
      exact absurd h458 (by decide)
  · skip
    exact absurd rfl h451

set_option maxHeartbeats 4000000 in
set_option maxRecDepth 100000 in
theorem law_setLimit {p : Program} {l : Launch} {e : Env} {s : State} {m : MethodId} {b : Nat} {below : List Frame} {meth : Method} {c : Code} {E : GE} {A : Nat → Prop} {z0 L o i j : Nat} {xs : Nat → Int32} {Q : State → Prop} (CC : LC p l s m b c E A z0 L xs) (hL9 : L ≤ 2560) (hi9 : i + 5 ≤ L) (hj9 : j ≤ 511) (KK : LK p l e s m b below meth c E A z0 o Q 1763 i (j + 1)) (a : Nat → Nat) (mc : Int32) (n now lim : Nat) (F : LR) (lit : Nat → Bool) (fo : Nat → Nat) (fn : Nat → Int64) (bb : Nat → Nat) (th : Int32) (kp : Nat → Int32) (H : Heap) (locs : List Loc) (ls : Array Slot) (cells slots : Nat) (hst : LSt E A s b z0 i j a mc n now lim F lit fo o fn bb th kp H locs ls cells slots) (v : Nat) (hv : v ≤ 99) (e1 : xs (i + 1) = (nI v)) : W p l e room_1 s m #[Value.ref b] below meth c H locs cells slots Q (F0 m 483 ls []) := by
  obtain ⟨hx, hb, hml, hown, hts, hK, hZ, hT, hA, hbA, hX, hbl, hl9⟩ := CC
  obtain ⟨hO, hnw, hz, hcl, hsl, hP, hD, hS, hl⟩ := hst
  refine lv_aload_n hx hb dL_law_483 rfl (lv_at hl 1 rfl) ?_
  refine lv_aload_n hx hb dL_law_484 rfl (lv_at hl 0 rfl) ?_
  refine lv_iload hx hb dL_law_485 (lv_at hl 4 rfl) ?_
  refine lv_iconst (v := (nI 1)) hx hb dL_law_487 (by decide) ?_
  refine nq_add hx hb dL_law_488 ?_
  refine va_sld hx hb hX hbl hbA hS (i := nI (i + 1)) (by exact vp_in_nI (by omega) (by omega)) dL_law_489 ?_
  refine nq_top (show xs ((nI (i + 1)).toNatClampNeg) = (nI v) from by rw [nI_clamp (by omega)]; exact e1) ?_
  refine lv_aload_n hx hb dL_law_490 rfl (lv_at hl 3 rfl) ?_
  refine lawS (S := Unit) (W1 := fun uQ => wC E a mc n now v (LF F lit fo)) (f1 := fun uQ => vp_updL fn 0 (((nI lim)).toInt64)) (rest := []) (As := [.ref (a 0), .int (nI v), .ref o]) ⟨hx, hb, hml, hown, hts⟩ (w_L_setLimit l hl9 E _ z0 a mc n now lim F lit fo hO o fn v hv) (vx_cwSW 3 hts gL_law_L_setLimit rfl rfl rfl (by decide +kernel) ⟨Nat.le_of_ble_eq_true rfl, Nat.le_of_ble_eq_true rfl⟩) hP hK hD hZ hT hS hA rfl hl.1 rfl (Nat.le_of_ble_eq_true rfl) dL_law_491 ⟨by show cells + 0 ≤ 601024; omega, by show slots + 0 ≤ 7293034; omega⟩ (fun r1 u1 H locs hr1 hP hD hS => ?_)
  subst hr1
  have hP : va_P E.1 vwCl (wG E (wC E a mc n now v (LF F lit fo)) o (vp_updL fn 0 (((nI lim)).toInt64)) (wM E bb (th) n lim F (NW now F) kp)) _ := hP
  have hD : va_D A (wG E (wC E a mc n now v (LF F lit fo)) o (vp_updL fn 0 (((nI lim)).toInt64)) (wM E bb (th) n lim F (NW now F) kp)) := hD
  refine lv_istore (lv' := [(5, .int (nI 0)), (0, .ref b), (1, .ref (a 0)), (2, .ref (bb 0)), (3, .ref o), (4, .int (nI i))]) hx hb dL_law_494 hl (by decide) rfl (fun ls hl => ?_)
  refine lv_aload_n hx hb dL_law_496 rfl (lv_at hl 3 rfl) ?_
  refine lv_aload_n hx hb dL_law_497 rfl (lv_at hl 1 rfl) ?_
  refine lv_iload hx hb dL_law_498 (lv_at hl 5 rfl) ?_
  refine lv_iconst (v := (nI 1)) hx hb dL_law_500 (by decide) ?_
  refine nq_add hx hb dL_law_501 ?_
  refine va_sld hx hb hX hbl hbA hS (i := nI (i + 1)) (by exact vp_in_nI (by omega) (by omega)) dL_law_502 ?_
  refine nq_top (show xs ((nI (i + 1)).toNatClampNeg) = (nI v) from by rw [nI_clamp (by omega)]; exact e1) ?_
  refine lawM_i (S := Unit) (W1 := fun kQ => wM E bb (nI 0) n v F (NW now F) kp) (rest := []) (As := [.int (nI v)]) ⟨hx, hb, hml, hown, hts⟩ (c_X2_setLimit l E _ bb th n lim now F kp hO v hv) (cwV 1 hts gL_law_X2_setLimit rfl rfl rfl (by decide +kernel) ⟨Nat.le_of_ble_eq_true rfl, Nat.le_of_ble_eq_true rfl⟩) (va_recv hK hP (ci := 3) (q0 := (wC E a mc n now v (LF F lit fo)).length + 1) rfl wG_m0) hP hK hD hS hA rfl hl.1 rfl (Nat.le_of_ble_eq_true rfl) dL_law_503 ⟨by show cells + 0 + 0 ≤ 601024; omega, by show slots + 0 + 0 ≤ 7293034; omega⟩ (fun r2 u2 H locs hr2 hP hD hS => ?_)
  subst hr2
  have hP : va_P E.1 vwCl (wG E (wC E a mc n now v (LF F lit fo)) o (vp_updL fn 0 (((nI lim)).toInt64)) (wM E bb (nI 0) n v F (NW now F) kp)) _ := hP
  have hD : va_D A (wG E (wC E a mc n now v (LF F lit fo)) o (vp_updL fn 0 (((nI lim)).toInt64)) (wM E bb (nI 0) n v F (NW now F) kp)) := hD
  refine lv_istore (lv' := [(6, .int (nI lim)), (5, .int (nI 0)), (0, .ref b), (1, .ref (a 0)), (2, .ref (bb 0)), (3, .ref o), (4, .int (nI i))]) hx hb dL_law_506 hl (by decide) rfl (fun ls hl => ?_)
  refine lv_aload_n hx hb dL_law_508 rfl (lv_at hl 4 rfl) ?_
  refine lawM_i (S := Unit) (W1 := fun kQ => wM E bb (nI 0) n v F (NW now F) kp) (rest := []) (As := []) ⟨hx, hb, hml, hown, hts⟩ (c_X2_thrown l E _ bb (nI 0) n v now F kp) (cwV 0 hts gL_law_X2_thrown rfl rfl rfl (by decide +kernel) ⟨Nat.le_of_ble_eq_true rfl, Nat.le_of_ble_eq_true rfl⟩) (va_recv hK hP (ci := 3) (q0 := (wC E a mc n now v (LF F lit fo)).length + 1) rfl wG_m0) hP hK hD hS hA rfl hl.1 rfl (Nat.le_of_ble_eq_true rfl) dL_law_509 ⟨by show cells + 0 + 0 + 0 ≤ 601024; omega, by show slots + 0 + 0 + 0 ≤ 7293034; omega⟩ (fun r3 u3 H locs hr3 hP hD hS => ?_)
  subst hr3
  have hP : va_P E.1 vwCl (wG E (wC E a mc n now v (LF F lit fo)) o (vp_updL fn 0 (((nI lim)).toInt64)) (wM E bb (nI 0) n v F (NW now F) kp)) _ := hP
  have hD : va_D A (wG E (wC E a mc n now v (LF F lit fo)) o (vp_updL fn 0 (((nI lim)).toInt64)) (wM E bb (nI 0) n v F (NW now F) kp)) := hD
  refine lv_iload hx hb dL_law_512 (lv_at hl 1 rfl) ?_
  refine nq_icmp_eq (tgt := 519) hx hb dL_law_514 (by decide) (by omega) (by omega) (fun h514 => ?_) (fun h514 => ?_)
  · skip
    refine lv_iload hx hb dL_law_519 (lv_at hl 1 rfl) ?_
    refine nq_if_ne (tgt := 536) hx hb dL_law_521 (by decide) (by decide) (fun h521 => ?_) (fun h521 => ?_)
    · skip
      exact absurd h521 (by decide)
    · skip
      refine lv_aload_n hx hb dL_law_524 rfl (lv_at hl 5 rfl) ?_
      refine lv_iconst (v := (nI 0)) hx hb dL_law_525 (by decide) ?_
      refine va_lald hx hb hK hP (wC E a mc n now v (LF F lit fo)).length 2 wG_o rfl (i := nI 0) (by exact vp_in_nI (by omega) (by omega)) dL_law_526 ?_
      refine nq_topl (show (vp_updL fn 0 (((nI lim)).toInt64)) ((nI 0).toNatClampNeg) = ((nI lim)).toInt64 from by rw [nI_clamp (by omega)]; exact if_pos rfl) ?_
      refine lv_iload hx hb dL_law_527 (lv_at hl 0 rfl) ?_
      refine lv_i2l (v := (nI lim).toInt64) hx hb dL_law_529 (rfl) ?_
      refine nq_topl (show (nI lim).toInt64 = ((nI lim)).toInt64 from by first | rfl | (rw [h521]; rfl)) ?_
      refine W.lcmp hx hb dL_law_530 ?_
      refine lv_if_eq (tgt := 536) hx hb dL_law_531 (by decide) (fun h531 => ?_) (fun h531 => ?_)
      · skip
        refine lv_goto (tgt := 1763) hx hb dL_law_536 (by decide) ?_
        exact KK a mc n now v F lit fo (vp_updL fn 0 (((nI lim)).toInt64)) bb (nI 0) kp _ _ _ _ _ ⟨ok_lim hO hv, by omega, hz, by omega, by omega, hP, hD, hS, (lv_sub hl [2, 3, 4, 5, 6] rfl)⟩
      · skip
        exact absurd (lg_self _) h531
  · skip
    exact absurd rfl h514

set_option maxHeartbeats 4000000 in
set_option maxRecDepth 100000 in
theorem law_setLimit_x {p : Program} {l : Launch} {e : Env} {s : State} {m : MethodId} {b : Nat} {below : List Frame} {meth : Method} {c : Code} {E : GE} {A : Nat → Prop} {z0 L o i j : Nat} {xs : Nat → Int32} {Q : State → Prop} (CC : LC p l s m b c E A z0 L xs) (hL9 : L ≤ 2560) (hi9 : i + 5 ≤ L) (hj9 : j ≤ 511) (KK : LK p l e s m b below meth c E A z0 o Q 1763 i (j + 1)) (a : Nat → Nat) (mc : Int32) (n now lim : Nat) (F : LR) (lit : Nat → Bool) (fo : Nat → Nat) (fn : Nat → Int64) (bb : Nat → Nat) (th : Int32) (kp : Nat → Int32) (H : Heap) (locs : List Loc) (ls : Array Slot) (cells slots : Nat) (hst : LSt E A s b z0 i j a mc n now lim F lit fo o fn bb th kp H locs ls cells slots) (x : Int32) (hx9 : inB x (nI 0) (nI 99) = false) (e1 : xs (i + 1) = x) : W p l e room_1 s m #[Value.ref b] below meth c H locs cells slots Q (F0 m 483 ls []) := by
  obtain ⟨hx, hb, hml, hown, hts, hK, hZ, hT, hA, hbA, hX, hbl, hl9⟩ := CC
  obtain ⟨hO, hnw, hz, hcl, hsl, hP, hD, hS, hl⟩ := hst
  refine lv_aload_n hx hb dL_law_483 rfl (lv_at hl 1 rfl) ?_
  refine lv_aload_n hx hb dL_law_484 rfl (lv_at hl 0 rfl) ?_
  refine lv_iload hx hb dL_law_485 (lv_at hl 4 rfl) ?_
  refine lv_iconst (v := (nI 1)) hx hb dL_law_487 (by decide) ?_
  refine nq_add hx hb dL_law_488 ?_
  refine va_sld hx hb hX hbl hbA hS (i := nI (i + 1)) (by exact vp_in_nI (by omega) (by omega)) dL_law_489 ?_
  refine nq_top (show xs ((nI (i + 1)).toNatClampNeg) = x from by rw [nI_clamp (by omega)]; exact e1) ?_
  refine lv_aload_n hx hb dL_law_490 rfl (lv_at hl 3 rfl) ?_
  refine lawS (S := Unit) (W1 := fun uQ => wC E a mc n now lim (LF F lit fo)) (f1 := fun uQ => fn) (rest := []) (As := [.ref (a 0), .int x, .ref o]) ⟨hx, hb, hml, hown, hts⟩ (w_L_setLimit_x l hl9 E _ z0 a mc n now lim F lit fo hO o fn x hx9) (vx_cwSW 3 hts gL_law_L_setLimit rfl rfl rfl (by decide +kernel) ⟨Nat.le_of_ble_eq_true rfl, Nat.le_of_ble_eq_true rfl⟩) hP hK hD hZ hT hS hA rfl hl.1 rfl (Nat.le_of_ble_eq_true rfl) dL_law_491 ⟨by show cells + 1 ≤ 601024; omega, by show slots + 6 ≤ 7293034; omega⟩ (fun r1 u1 H locs hr1 hP hD hS => ?_)
  subst hr1
  have hP : va_P E.1 vwCl (wG E (wC E a mc n now lim (LF F lit fo)) o (fn) (wM E bb (th) n lim F (NW now F) kp)) _ := hP
  have hD : va_D A (wG E (wC E a mc n now lim (LF F lit fo)) o (fn) (wM E bb (th) n lim F (NW now F) kp)) := hD
  refine lv_istore (lv' := [(5, .int (nI 1)), (0, .ref b), (1, .ref (a 0)), (2, .ref (bb 0)), (3, .ref o), (4, .int (nI i))]) hx hb dL_law_494 hl (by decide) rfl (fun ls hl => ?_)
  refine lv_aload_n hx hb dL_law_496 rfl (lv_at hl 3 rfl) ?_
  refine lv_aload_n hx hb dL_law_497 rfl (lv_at hl 1 rfl) ?_
  refine lv_iload hx hb dL_law_498 (lv_at hl 5 rfl) ?_
  refine lv_iconst (v := (nI 1)) hx hb dL_law_500 (by decide) ?_
  refine nq_add hx hb dL_law_501 ?_
  refine va_sld hx hb hX hbl hbA hS (i := nI (i + 1)) (by exact vp_in_nI (by omega) (by omega)) dL_law_502 ?_
  refine nq_top (show xs ((nI (i + 1)).toNatClampNeg) = x from by rw [nI_clamp (by omega)]; exact e1) ?_
  refine lawM_i (S := Unit) (W1 := fun kQ => wM E bb (nI 1) n lim F (NW now F) kp) (rest := []) (As := [.int x]) ⟨hx, hb, hml, hown, hts⟩ (c_X2_setLimit_x l E _ bb th n lim now F kp hO x hx9) (cwV 1 hts gL_law_X2_setLimit rfl rfl rfl (by decide +kernel) ⟨Nat.le_of_ble_eq_true rfl, Nat.le_of_ble_eq_true rfl⟩) (va_recv hK hP (ci := 3) (q0 := (wC E a mc n now lim (LF F lit fo)).length + 1) rfl wG_m0) hP hK hD hS hA rfl hl.1 rfl (Nat.le_of_ble_eq_true rfl) dL_law_503 ⟨by show cells + 1 + 0 ≤ 601024; omega, by show slots + 6 + 0 ≤ 7293034; omega⟩ (fun r2 u2 H locs hr2 hP hD hS => ?_)
  subst hr2
  have hP : va_P E.1 vwCl (wG E (wC E a mc n now lim (LF F lit fo)) o (fn) (wM E bb (nI 1) n lim F (NW now F) kp)) _ := hP
  have hD : va_D A (wG E (wC E a mc n now lim (LF F lit fo)) o (fn) (wM E bb (nI 1) n lim F (NW now F) kp)) := hD
  refine lv_istore (lv' := [(6, .int (nI 0)), (5, .int (nI 1)), (0, .ref b), (1, .ref (a 0)), (2, .ref (bb 0)), (3, .ref o), (4, .int (nI i))]) hx hb dL_law_506 hl (by decide) rfl (fun ls hl => ?_)
  refine lv_aload_n hx hb dL_law_508 rfl (lv_at hl 4 rfl) ?_
  refine lawM_i (S := Unit) (W1 := fun kQ => wM E bb (nI 1) n lim F (NW now F) kp) (rest := []) (As := []) ⟨hx, hb, hml, hown, hts⟩ (c_X2_thrown l E _ bb (nI 1) n lim now F kp) (cwV 0 hts gL_law_X2_thrown rfl rfl rfl (by decide +kernel) ⟨Nat.le_of_ble_eq_true rfl, Nat.le_of_ble_eq_true rfl⟩) (va_recv hK hP (ci := 3) (q0 := (wC E a mc n now lim (LF F lit fo)).length + 1) rfl wG_m0) hP hK hD hS hA rfl hl.1 rfl (Nat.le_of_ble_eq_true rfl) dL_law_509 ⟨by show cells + 1 + 0 + 0 ≤ 601024; omega, by show slots + 6 + 0 + 0 ≤ 7293034; omega⟩ (fun r3 u3 H locs hr3 hP hD hS => ?_)
  subst hr3
  have hP : va_P E.1 vwCl (wG E (wC E a mc n now lim (LF F lit fo)) o (fn) (wM E bb (nI 1) n lim F (NW now F) kp)) _ := hP
  have hD : va_D A (wG E (wC E a mc n now lim (LF F lit fo)) o (fn) (wM E bb (nI 1) n lim F (NW now F) kp)) := hD
  refine lv_iload hx hb dL_law_512 (lv_at hl 1 rfl) ?_
  refine nq_icmp_eq (tgt := 519) hx hb dL_law_514 (by decide) (by omega) (by omega) (fun h514 => ?_) (fun h514 => ?_)
  · skip
    refine lv_iload hx hb dL_law_519 (lv_at hl 1 rfl) ?_
    refine nq_if_ne (tgt := 536) hx hb dL_law_521 (by decide) (by decide) (fun h521 => ?_) (fun h521 => ?_)
    · skip
      refine lv_goto (tgt := 1763) hx hb dL_law_536 (by decide) ?_
      exact KK a mc n now lim F lit fo fn bb (nI 1) kp _ _ _ _ _ ⟨hO, by omega, hz, by omega, by omega, hP, hD, hS, (lv_sub hl [2, 3, 4, 5, 6] rfl)⟩
    · skip
      exact absurd h521 (by decide)
  · skip
    exact absurd rfl h514

set_option maxHeartbeats 4000000 in
set_option maxRecDepth 100000 in
theorem law_pass {p : Program} {l : Launch} {e : Env} {s : State} {m : MethodId} {b : Nat} {below : List Frame} {meth : Method} {c : Code} {E : GE} {A : Nat → Prop} {z0 L o i j : Nat} {xs : Nat → Int32} {Q : State → Prop} (CC : LC p l s m b c E A z0 L xs) (hL9 : L ≤ 2560) (hi9 : i + 5 ≤ L) (hj9 : j ≤ 511) (KK : LK p l e s m b below meth c E A z0 o Q 1763 i (j + 1)) (a : Nat → Nat) (mc : Int32) (n now lim : Nat) (F : LR) (lit : Nat → Bool) (fo : Nat → Nat) (fn : Nat → Int64) (bb : Nat → Nat) (th : Int32) (kp : Nat → Int32) (H : Heap) (locs : List Loc) (ls : Array Slot) (cells slots : Nat) (hst : LSt E A s b z0 i j a mc n now lim F lit fo o fn bb th kp H locs ls cells slots) (k : Nat) (hk : 1 ≤ k ∧ k ≤ 200) (e1 : xs (i + 1) = (nI k)) : W p l e room_1 s m #[Value.ref b] below meth c H locs cells slots Q (F0 m 539 ls []) := by
  obtain ⟨hx, hb, hml, hown, hts, hK, hZ, hT, hA, hbA, hX, hbl, hl9⟩ := CC
  obtain ⟨hO, hnw, hz, hcl, hsl, hP, hD, hS, hl⟩ := hst
  refine lv_aload_n hx hb dL_law_539 rfl (lv_at hl 1 rfl) ?_
  refine lv_aload_n hx hb dL_law_540 rfl (lv_at hl 0 rfl) ?_
  refine lv_iload hx hb dL_law_541 (lv_at hl 4 rfl) ?_
  refine lv_iconst (v := (nI 1)) hx hb dL_law_543 (by decide) ?_
  refine nq_add hx hb dL_law_544 ?_
  refine va_sld hx hb hX hbl hbA hS (i := nI (i + 1)) (by exact vp_in_nI (by omega) (by omega)) dL_law_545 ?_
  refine nq_top (show xs ((nI (i + 1)).toNatClampNeg) = (nI k) from by rw [nI_clamp (by omega)]; exact e1) ?_
  refine lv_aload_n hx hb dL_law_546 rfl (lv_at hl 3 rfl) ?_
  refine lawS (S := Nat → Bool) (W1 := fun uQ => wC E a mc n (now + k) lim (LF (passF F lim now n k) uQ fo)) (f1 := fun uQ => vp_updL fn 0 (((nI (passD F lim now n k))).toInt64)) (rest := []) (As := [.ref (a 0), .int (nI k), .ref o]) ⟨hx, hb, hml, hown, hts⟩ (w_L_pass l hl9 E _ z0 a mc n now lim F lit fo hO o fn k hk (by omega)) (vx_cwSW 3 hts gL_law_L_pass rfl rfl rfl (by decide +kernel) ⟨Nat.le_of_ble_eq_true rfl, Nat.le_of_ble_eq_true rfl⟩) hP hK hD hZ hT hS hA rfl hl.1 rfl (Nat.le_of_ble_eq_true rfl) dL_law_547 ⟨by show cells + 0 ≤ 601024; omega, by show slots + 0 ≤ 7293034; omega⟩ (fun r1 u1 H locs hr1 hP hD hS => ?_)
  subst hr1
  have hP : va_P E.1 vwCl (wG E (wC E a mc n (now + k) lim (LF (passF F lim now n k) u1 fo)) o (vp_updL fn 0 (((nI (passD F lim now n k))).toInt64)) (wM E bb (th) n lim F (NW now F) kp)) _ := hP
  have hD : va_D A (wG E (wC E a mc n (now + k) lim (LF (passF F lim now n k) u1 fo)) o (vp_updL fn 0 (((nI (passD F lim now n k))).toInt64)) (wM E bb (th) n lim F (NW now F) kp)) := hD
  refine lv_istore (lv' := [(5, .int (nI 0)), (0, .ref b), (1, .ref (a 0)), (2, .ref (bb 0)), (3, .ref o), (4, .int (nI i))]) hx hb dL_law_550 hl (by decide) rfl (fun ls hl => ?_)
  refine lv_aload_n hx hb dL_law_552 rfl (lv_at hl 3 rfl) ?_
  refine lv_aload_n hx hb dL_law_553 rfl (lv_at hl 1 rfl) ?_
  refine lv_iload hx hb dL_law_554 (lv_at hl 5 rfl) ?_
  refine lv_iconst (v := (nI 1)) hx hb dL_law_556 (by decide) ?_
  refine nq_add hx hb dL_law_557 ?_
  refine va_sld hx hb hX hbl hbA hS (i := nI (i + 1)) (by exact vp_in_nI (by omega) (by omega)) dL_law_558 ?_
  refine nq_top (show xs ((nI (i + 1)).toNatClampNeg) = (nI k) from by rw [nI_clamp (by omega)]; exact e1) ?_
  refine lawM_i (S := Unit) (W1 := fun kQ => wM E bb (nI 0) n lim (passF F lim now n k) (NW (now + k) (passF F lim now n k)) kp) (rest := []) (As := [.int (nI k)]) ⟨hx, hb, hml, hown, hts⟩ (c_X2_pass l E _ bb th n lim now F kp hO k hk (by omega)) (cwV 1 hts gL_law_X2_pass rfl rfl rfl (by decide +kernel) ⟨Nat.le_of_ble_eq_true rfl, Nat.le_of_ble_eq_true rfl⟩) (va_recv hK hP (ci := 3) (q0 := (wC E a mc n (now + k) lim (LF (passF F lim now n k) u1 fo)).length + 1) rfl wG_m0) hP hK hD hS hA rfl hl.1 rfl (Nat.le_of_ble_eq_true rfl) dL_law_559 ⟨by show cells + 0 + 0 ≤ 601024; omega, by show slots + 0 + 0 ≤ 7293034; omega⟩ (fun r2 u2 H locs hr2 hP hD hS => ?_)
  subst hr2
  have hP : va_P E.1 vwCl (wG E (wC E a mc n (now + k) lim (LF (passF F lim now n k) u1 fo)) o (vp_updL fn 0 (((nI (passD F lim now n k))).toInt64)) (wM E bb (nI 0) n lim (passF F lim now n k) (NW (now + k) (passF F lim now n k)) kp)) _ := hP
  have hD : va_D A (wG E (wC E a mc n (now + k) lim (LF (passF F lim now n k) u1 fo)) o (vp_updL fn 0 (((nI (passD F lim now n k))).toInt64)) (wM E bb (nI 0) n lim (passF F lim now n k) (NW (now + k) (passF F lim now n k)) kp)) := hD
  refine lv_istore (lv' := [(6, .int (nI (passD F lim now n k))), (5, .int (nI 0)), (0, .ref b), (1, .ref (a 0)), (2, .ref (bb 0)), (3, .ref o), (4, .int (nI i))]) hx hb dL_law_562 hl (by decide) rfl (fun ls hl => ?_)
  refine lv_aload_n hx hb dL_law_564 rfl (lv_at hl 4 rfl) ?_
  refine lawM_i (S := Unit) (W1 := fun kQ => wM E bb (nI 0) n lim (passF F lim now n k) (NW (now + k) (passF F lim now n k)) kp) (rest := []) (As := []) ⟨hx, hb, hml, hown, hts⟩ (c_X2_thrown l E _ bb (nI 0) n lim (now + k) (passF F lim now n k) kp) (cwV 0 hts gL_law_X2_thrown rfl rfl rfl (by decide +kernel) ⟨Nat.le_of_ble_eq_true rfl, Nat.le_of_ble_eq_true rfl⟩) (va_recv hK hP (ci := 3) (q0 := (wC E a mc n (now + k) lim (LF (passF F lim now n k) u1 fo)).length + 1) rfl wG_m0) hP hK hD hS hA rfl hl.1 rfl (Nat.le_of_ble_eq_true rfl) dL_law_565 ⟨by show cells + 0 + 0 + 0 ≤ 601024; omega, by show slots + 0 + 0 + 0 ≤ 7293034; omega⟩ (fun r3 u3 H locs hr3 hP hD hS => ?_)
  subst hr3
  have hP : va_P E.1 vwCl (wG E (wC E a mc n (now + k) lim (LF (passF F lim now n k) u1 fo)) o (vp_updL fn 0 (((nI (passD F lim now n k))).toInt64)) (wM E bb (nI 0) n lim (passF F lim now n k) (NW (now + k) (passF F lim now n k)) kp)) _ := hP
  have hD : va_D A (wG E (wC E a mc n (now + k) lim (LF (passF F lim now n k) u1 fo)) o (vp_updL fn 0 (((nI (passD F lim now n k))).toInt64)) (wM E bb (nI 0) n lim (passF F lim now n k) (NW (now + k) (passF F lim now n k)) kp)) := hD
  refine lv_iload hx hb dL_law_568 (lv_at hl 1 rfl) ?_
  refine nq_icmp_eq (tgt := 575) hx hb dL_law_570 (by decide) (by omega) (by omega) (fun h570 => ?_) (fun h570 => ?_)
  · skip
    refine lv_iload hx hb dL_law_575 (lv_at hl 1 rfl) ?_
    refine nq_if_ne (tgt := 592) hx hb dL_law_577 (by decide) (by decide) (fun h577 => ?_) (fun h577 => ?_)
    · skip
      exact absurd h577 (by decide)
    · skip
      refine lv_aload_n hx hb dL_law_580 rfl (lv_at hl 5 rfl) ?_
      refine lv_iconst (v := (nI 0)) hx hb dL_law_581 (by decide) ?_
      refine va_lald hx hb hK hP (wC E a mc n (now + k) lim (LF (passF F lim now n k) u1 fo)).length 2 wG_o rfl (i := nI 0) (by exact vp_in_nI (by omega) (by omega)) dL_law_582 ?_
      refine nq_topl (show (vp_updL fn 0 (((nI (passD F lim now n k))).toInt64)) ((nI 0).toNatClampNeg) = ((nI (passD F lim now n k))).toInt64 from by rw [nI_clamp (by omega)]; exact if_pos rfl) ?_
      refine lv_iload hx hb dL_law_583 (lv_at hl 0 rfl) ?_
      refine lv_i2l (v := (nI (passD F lim now n k)).toInt64) hx hb dL_law_585 (rfl) ?_
      refine nq_topl (show (nI (passD F lim now n k)).toInt64 = ((nI (passD F lim now n k))).toInt64 from by first | rfl | (rw [h577]; rfl)) ?_
      refine W.lcmp hx hb dL_law_586 ?_
      refine lv_if_eq (tgt := 592) hx hb dL_law_587 (by decide) (fun h587 => ?_) (fun h587 => ?_)
      · skip
        refine lv_goto (tgt := 1763) hx hb dL_law_592 (by decide) ?_
        exact KK a mc n (now + k) lim (passF F lim now n k) u1 fo (vp_updL fn 0 (((nI (passD F lim now n k))).toInt64)) bb (nI 0) kp _ _ _ _ _ ⟨pass_ok hO k (by omega), by omega, hz, by omega, by omega, hP, hD, hS, (lv_sub hl [2, 3, 4, 5, 6] rfl)⟩
      · skip
        exact absurd (lg_self _) h587
  · skip
    exact absurd rfl h570

set_option maxHeartbeats 4000000 in
set_option maxRecDepth 100000 in
theorem law_pass_x {p : Program} {l : Launch} {e : Env} {s : State} {m : MethodId} {b : Nat} {below : List Frame} {meth : Method} {c : Code} {E : GE} {A : Nat → Prop} {z0 L o i j : Nat} {xs : Nat → Int32} {Q : State → Prop} (CC : LC p l s m b c E A z0 L xs) (hL9 : L ≤ 2560) (hi9 : i + 5 ≤ L) (hj9 : j ≤ 511) (KK : LK p l e s m b below meth c E A z0 o Q 1763 i (j + 1)) (a : Nat → Nat) (mc : Int32) (n now lim : Nat) (F : LR) (lit : Nat → Bool) (fo : Nat → Nat) (fn : Nat → Int64) (bb : Nat → Nat) (th : Int32) (kp : Nat → Int32) (H : Heap) (locs : List Loc) (ls : Array Slot) (cells slots : Nat) (hst : LSt E A s b z0 i j a mc n now lim F lit fo o fn bb th kp H locs ls cells slots) (x : Int32) (hx9 : inB x (nI 1) (nI 200) = false) (e1 : xs (i + 1) = x) : W p l e room_1 s m #[Value.ref b] below meth c H locs cells slots Q (F0 m 539 ls []) := by
  obtain ⟨hx, hb, hml, hown, hts, hK, hZ, hT, hA, hbA, hX, hbl, hl9⟩ := CC
  obtain ⟨hO, hnw, hz, hcl, hsl, hP, hD, hS, hl⟩ := hst
  refine lv_aload_n hx hb dL_law_539 rfl (lv_at hl 1 rfl) ?_
  refine lv_aload_n hx hb dL_law_540 rfl (lv_at hl 0 rfl) ?_
  refine lv_iload hx hb dL_law_541 (lv_at hl 4 rfl) ?_
  refine lv_iconst (v := (nI 1)) hx hb dL_law_543 (by decide) ?_
  refine nq_add hx hb dL_law_544 ?_
  refine va_sld hx hb hX hbl hbA hS (i := nI (i + 1)) (by exact vp_in_nI (by omega) (by omega)) dL_law_545 ?_
  refine nq_top (show xs ((nI (i + 1)).toNatClampNeg) = x from by rw [nI_clamp (by omega)]; exact e1) ?_
  refine lv_aload_n hx hb dL_law_546 rfl (lv_at hl 3 rfl) ?_
  refine lawS (S := Unit) (W1 := fun uQ => wC E a mc n now lim (LF F lit fo)) (f1 := fun uQ => fn) (rest := []) (As := [.ref (a 0), .int x, .ref o]) ⟨hx, hb, hml, hown, hts⟩ (w_L_pass_x l hl9 E _ z0 a mc n now lim F lit fo hO o fn x hx9) (vx_cwSW 3 hts gL_law_L_pass rfl rfl rfl (by decide +kernel) ⟨Nat.le_of_ble_eq_true rfl, Nat.le_of_ble_eq_true rfl⟩) hP hK hD hZ hT hS hA rfl hl.1 rfl (Nat.le_of_ble_eq_true rfl) dL_law_547 ⟨by show cells + 1 ≤ 601024; omega, by show slots + 6 ≤ 7293034; omega⟩ (fun r1 u1 H locs hr1 hP hD hS => ?_)
  subst hr1
  have hP : va_P E.1 vwCl (wG E (wC E a mc n now lim (LF F lit fo)) o (fn) (wM E bb (th) n lim F (NW now F) kp)) _ := hP
  have hD : va_D A (wG E (wC E a mc n now lim (LF F lit fo)) o (fn) (wM E bb (th) n lim F (NW now F) kp)) := hD
  refine lv_istore (lv' := [(5, .int (nI 1)), (0, .ref b), (1, .ref (a 0)), (2, .ref (bb 0)), (3, .ref o), (4, .int (nI i))]) hx hb dL_law_550 hl (by decide) rfl (fun ls hl => ?_)
  refine lv_aload_n hx hb dL_law_552 rfl (lv_at hl 3 rfl) ?_
  refine lv_aload_n hx hb dL_law_553 rfl (lv_at hl 1 rfl) ?_
  refine lv_iload hx hb dL_law_554 (lv_at hl 5 rfl) ?_
  refine lv_iconst (v := (nI 1)) hx hb dL_law_556 (by decide) ?_
  refine nq_add hx hb dL_law_557 ?_
  refine va_sld hx hb hX hbl hbA hS (i := nI (i + 1)) (by exact vp_in_nI (by omega) (by omega)) dL_law_558 ?_
  refine nq_top (show xs ((nI (i + 1)).toNatClampNeg) = x from by rw [nI_clamp (by omega)]; exact e1) ?_
  refine lawM_i (S := Unit) (W1 := fun kQ => wM E bb (nI 1) n lim F (NW now F) kp) (rest := []) (As := [.int x]) ⟨hx, hb, hml, hown, hts⟩ (c_X2_pass_x l E _ bb th n lim now F kp hO x hx9) (cwV 1 hts gL_law_X2_pass rfl rfl rfl (by decide +kernel) ⟨Nat.le_of_ble_eq_true rfl, Nat.le_of_ble_eq_true rfl⟩) (va_recv hK hP (ci := 3) (q0 := (wC E a mc n now lim (LF F lit fo)).length + 1) rfl wG_m0) hP hK hD hS hA rfl hl.1 rfl (Nat.le_of_ble_eq_true rfl) dL_law_559 ⟨by show cells + 1 + 0 ≤ 601024; omega, by show slots + 6 + 0 ≤ 7293034; omega⟩ (fun r2 u2 H locs hr2 hP hD hS => ?_)
  subst hr2
  have hP : va_P E.1 vwCl (wG E (wC E a mc n now lim (LF F lit fo)) o (fn) (wM E bb (nI 1) n lim F (NW now F) kp)) _ := hP
  have hD : va_D A (wG E (wC E a mc n now lim (LF F lit fo)) o (fn) (wM E bb (nI 1) n lim F (NW now F) kp)) := hD
  refine lv_istore (lv' := [(6, .int (nI 0)), (5, .int (nI 1)), (0, .ref b), (1, .ref (a 0)), (2, .ref (bb 0)), (3, .ref o), (4, .int (nI i))]) hx hb dL_law_562 hl (by decide) rfl (fun ls hl => ?_)
  refine lv_aload_n hx hb dL_law_564 rfl (lv_at hl 4 rfl) ?_
  refine lawM_i (S := Unit) (W1 := fun kQ => wM E bb (nI 1) n lim F (NW now F) kp) (rest := []) (As := []) ⟨hx, hb, hml, hown, hts⟩ (c_X2_thrown l E _ bb (nI 1) n lim now F kp) (cwV 0 hts gL_law_X2_thrown rfl rfl rfl (by decide +kernel) ⟨Nat.le_of_ble_eq_true rfl, Nat.le_of_ble_eq_true rfl⟩) (va_recv hK hP (ci := 3) (q0 := (wC E a mc n now lim (LF F lit fo)).length + 1) rfl wG_m0) hP hK hD hS hA rfl hl.1 rfl (Nat.le_of_ble_eq_true rfl) dL_law_565 ⟨by show cells + 1 + 0 + 0 ≤ 601024; omega, by show slots + 6 + 0 + 0 ≤ 7293034; omega⟩ (fun r3 u3 H locs hr3 hP hD hS => ?_)
  subst hr3
  have hP : va_P E.1 vwCl (wG E (wC E a mc n now lim (LF F lit fo)) o (fn) (wM E bb (nI 1) n lim F (NW now F) kp)) _ := hP
  have hD : va_D A (wG E (wC E a mc n now lim (LF F lit fo)) o (fn) (wM E bb (nI 1) n lim F (NW now F) kp)) := hD
  refine lv_iload hx hb dL_law_568 (lv_at hl 1 rfl) ?_
  refine nq_icmp_eq (tgt := 575) hx hb dL_law_570 (by decide) (by omega) (by omega) (fun h570 => ?_) (fun h570 => ?_)
  · skip
    refine lv_iload hx hb dL_law_575 (lv_at hl 1 rfl) ?_
    refine nq_if_ne (tgt := 592) hx hb dL_law_577 (by decide) (by decide) (fun h577 => ?_) (fun h577 => ?_)
    · skip
      refine lv_goto (tgt := 1763) hx hb dL_law_592 (by decide) ?_
      exact KK a mc n now lim F lit fo fn bb (nI 1) kp _ _ _ _ _ ⟨hO, by omega, hz, by omega, by omega, hP, hD, hS, (lv_sub hl [2, 3, 4, 5, 6] rfl)⟩
    · skip
      exact absurd h577 (by decide)
  · skip
    exact absurd rfl h570

/-! the law, its pieces put together: one round, seven rounds -/
theorem law_step {p : Program} {l : Launch} {e : Env} {s : State} {m : MethodId} {args : Array Value} {below : List Frame} {meth : Method} {c : Code} {E : GE} {A : Nat → Prop} {z0 bs L : Nat} {xs : Nat → Int32} {QQ : State → Prop} (CC : LC p s m args c E A z0 bs L xs) (hL : L ≤ 260) (a : Nat → Nat) (mc : Int32) (n now lim : Nat) (F : LR) (lit : Nat → Bool) (fo : Nat → Nat) (b : Nat → Nat) (hO : OkS n now lim F) (h2n : 2 ≤ n) (hnow : now ≤ 70000) (t : Nat) (ht : t < 7) (cc ss : Nat) (hcc : cc + 2400 ≤ 1064556) (hss : ss + 20000 ≤ 5907956)
    (K : ∀ (u : STT) (H : Heap) (locs : List Loc) (ls : Array Slot), (OkS u.2.2.1 u.2.2.2.1 u.2.2.2.2.1 u.2.2.2.2.2.1 ∧ 2 ≤ u.2.2.1 ∧ u.2.2.2.1 ≤ now + 652 ∧ u.1 0 = a 0 ∧ u.2.2.2.2.2.2.2.2 0 = b 0) → va_P E.1 vwCl (wU E u) H → va_D A (wU E u) → va_S A s.heap H locs → lv_has ls 23 [(3, .int (nI t)), (2, .ref (b 0)), (1, .ref (a 0)), (0, .ref bs)] → W p l e room_1 s m args below meth c H locs (cc + 1001) (ss + 8008) QQ (F0 m 968 ls []))
    (H : Heap) (locs : List Loc) (ls : Array Slot) (hP : va_P E.1 vwCl (wC E a mc n now lim (LF F lit fo) ++ wS E b n now lim F) H) (hD : va_D A (wC E a mc n now lim (LF F lit fo) ++ wS E b n now lim F)) (hS : va_S A s.heap H locs) (hl : lv_has ls 23 [(0, .ref bs), (1, .ref (a 0)), (2, .ref (b 0)), (3, .int (nI t))]) : W p l e room_1 s m args below meth c H locs cc ss QQ (F0 m 28 ls []) := by
  refine law_A CC hL a mc n now lim F lit fo b hO h2n (by omega) t ht cc ss (by omega) (by omega) ?_ H locs ls hP hD hS hl
  intro x u H locs ls hU hP hD hS hl
  obtain ⟨a1, mc1, n1, now1, lim1, F1, lit1, fo1, b1⟩ := u
  obtain ⟨hO1, h2n1, hnw1, ha1, hb1⟩ := hU
  have hO1 : OkS n1 now1 lim1 F1 := hO1
  have h2n1 : 2 ≤ n1 := h2n1
  have hnw1 : now1 ≤ now + 600 := hnw1
  have ha1 : a1 0 = a 0 := ha1
  have hb1 : b1 0 = b 0 := hb1
  have hl : lv_has ls 23 [(4, .int x), (0, .ref bs), (1, .ref (a1 0)), (2, .ref (b1 0)), (3, .int (nI t))] := by rw [ha1, hb1]; exact hl
  refine law_B CC hL a1 mc1 n1 now1 lim1 F1 lit1 fo1 b1 hO1 h2n1 (by omega) t ht x (cc + 600) (ss + 4800) (by omega) (by omega) ?_ H locs ls hP hD hS hl
  intro lt f9 H locs ls hP hD hS hl
  refine law_C CC hL a1 mc1 n1 now1 lim1 F1 lt f9 b1 hO1 h2n1 (by omega) t ht x (cc + 600) (ss + 4800) (by omega) (by omega) ?_ H locs ls hP hD hS hl
  intro lt f9 H locs ls hP hD hS hl
  refine law_D CC hL a1 mc1 n1 now1 lim1 F1 lt f9 b1 hO1 h2n1 (by omega) t ht x (cc + 600) (ss + 4800) (by omega) (by omega) ?_ H locs ls hP hD hS hl
  intro lt f9 t9 H locs ls ht9 hP hD hS hl
  have hO2 := pass_ok hO1 t9 (by omega)
  refine law_E CC hL a1 mc1 n1 (now1 + t9) lim1 (passF F1 lim1 now1 n1 t9) lt f9 b1 hO2 h2n1 (by omega) t ht x (cc + 600 + 201) (ss + 4800 + 1608) (by omega) (by omega) ?_ H locs ls hP hD hS hl
  intro lt f9 v H locs ls hv hP hD hS hl
  refine W.widen (k := cc + 1001) (n := ss + 8008) (by omega) (by omega) ?_
  exact K (a1, mc1, n1, now1 + t9 + 12, v, passF (passF F1 lim1 now1 n1 t9) v (now1 + t9) n1 12, lt, f9, b1) H locs ls ⟨pass_ok (ok_lim (v := v) hO2 hv) 12 (by omega), h2n1, (by show now1 + t9 + 12 ≤ now + 652; omega), ha1, hb1⟩ hP hD hS (by rw [← ha1, ← hb1]; exact hl)
theorem law_loop {p : Program} {l : Launch} {e : Env} {s : State} {m : MethodId} {args : Array Value} {below : List Frame} {meth : Method} {c : Code} {E : GE} {A : Nat → Prop} {z0 bs L : Nat} {xs : Nat → Int32} {QQ : State → Prop} (CC : LC p s m args c E A z0 bs L xs) (hL : L ≤ 260) {a0 b0 : Nat} (KE : ∀ (u : STT) (H : Heap) (locs : List Loc) (ls : Array Slot) (cells slots : Nat), (OkS u.2.2.1 u.2.2.2.1 u.2.2.2.2.1 u.2.2.2.2.2.1 ∧ 2 ≤ u.2.2.1 ∧ u.2.2.2.1 ≤ 9000 ∧ u.1 0 = a0 ∧ u.2.2.2.2.2.2.2.2 0 = b0) → cells ≤ 20000 → slots ≤ 200000 → va_P E.1 vwCl (wU E u) H → va_D A (wU E u) → va_S A s.heap H locs → lv_has ls 23 [(2, .ref b0), (1, .ref a0)] → W p l e room_1 s m args below meth c H locs cells slots QQ (F0 m 974 ls [])) : ∀ (tk t : Nat), 7 - t < tk → t ≤ 7 → ∀ (u : STT) (H : Heap) (locs : List Loc) (ls : Array Slot), (OkS u.2.2.1 u.2.2.2.1 u.2.2.2.2.1 u.2.2.2.2.2.1 ∧ 2 ≤ u.2.2.1 ∧ u.2.2.2.1 ≤ 4000 + 652 * t ∧ u.1 0 = a0 ∧ u.2.2.2.2.2.2.2.2 0 = b0) → va_P E.1 vwCl (wU E u) H → va_D A (wU E u) → va_S A s.heap H locs → lv_has ls 23 [(3, .int (nI t)), (2, .ref b0), (1, .ref a0), (0, .ref bs)] → W p l e room_1 s m args below meth c H locs (5000 + 1001 * t) (40000 + 8008 * t) QQ (F0 m 22 ls [])
  | 0, t, h, _ => absurd h (Nat.not_lt_zero _)
  | tk + 1, t, htk, ht => by
    intro u H locs ls hU hP hD hS hl
    obtain ⟨hx, hb, hml, hown, hts, hK, hZ, hA, hbs, hX, hN⟩ := id CC
    refine lv_iload_n hx hb dL_law_22 rfl (lv_at hl 0 rfl) ?_
    refine lv_bipush (v := (nI 7)) hx hb dL_law_23 (by decide) ?_
    refine nq_icmp_ge (tgt := 974) hx hb dL_law_25 (by decide) (by omega) (by omega) (fun h25 => ?_) (fun h25 => ?_)
    · obtain ⟨g1, g2, g3, g4, g5⟩ := hU
      exact KE u H locs ls _ _ ⟨g1, g2, Nat.le_trans g3 (by omega), g4, g5⟩ (by omega) (by omega) hP hD hS (lv_sub hl [1, 2] rfl)
    · obtain ⟨a, mc, n, now, lim, F, lit, fo, b⟩ := u
      obtain ⟨hO, h2n, hnow, ha, hb0⟩ := hU
      have hO : OkS n now lim F := hO
      have h2n : 2 ≤ n := h2n
      have hnow : now ≤ 4000 + 652 * t := hnow
      have ha : a 0 = a0 := ha
      have hb0 : b 0 = b0 := hb0
      have hl : lv_has ls 23 [(0, .ref bs), (1, .ref (a 0)), (2, .ref (b 0)), (3, .int (nI t))] := by rw [ha, hb0]; exact lv_sub hl [3, 2, 1, 0] rfl
      refine law_step CC hL a mc n now lim F lit fo b hO h2n (by omega) t (by omega) (5000 + 1001 * t) (40000 + 8008 * t) (by omega) (by omega) ?_ H locs ls hP hD hS hl
      intro u H locs ls hU hP hD hS hl
      obtain ⟨g1, g2, g3, g4, g5⟩ := hU
      refine nq_inc (lv' := [(3, .int (nI (t + 1))), (2, .ref (b 0)), (1, .ref (a 0)), (0, .ref bs)]) hx hb dL_law_968 (d := 1) rfl hl (k := 0) rfl (by decide) rfl (fun ls hl => ?_)
      refine lv_goto (tgt := 22) hx hb dL_law_971 (by decide) ?_
      refine W.widen (k := 5000 + 1001 * (t + 1)) (n := 40000 + 8008 * (t + 1)) (by omega) (by omega) ?_
      exact law_loop CC hL KE tk (t + 1) (by omega) (by omega) u H locs ls ⟨g1, g2, Nat.le_trans g3 (by omega), g4.trans ha, g5.trans hb0⟩ hP hD hS (by rw [← ha, ← hb0]; exact hl)

/-! the law's loop: one call after another -/
theorem law_addLamp_all {p : Program} {l : Launch} {e : Env} {s : State} {m : MethodId} {b : Nat} {below : List Frame} {meth : Method} {c : Code} {E : GE} {A : Nat → Prop} {z0 L o i j : Nat} {xs : Nat → Int32} {Q : State → Prop} (CC : LC p l s m b c E A z0 L xs) (hL9 : L ≤ 2560) (hi9 : i + 5 ≤ L) (hj9 : j ≤ 511) (KK : LK p l e s m b below meth c E A z0 o Q 1763 i (j + 1)) (a : Nat → Nat) (mc : Int32) (n now lim : Nat) (F : LR) (lit : Nat → Bool) (fo : Nat → Nat) (fn : Nat → Int64) (bb : Nat → Nat) (th : Int32) (kp : Nat → Int32) (H : Heap) (locs : List Loc) (ls : Array Slot) (cells slots : Nat) (hst : LSt E A s b z0 i j a mc n now lim F lit fo o fn bb th kp H locs ls cells slots) : W p l e room_1 s m #[Value.ref b] below meth c H locs cells slots Q (F0 m 180 ls []) := by
  have hO := hst.1
  cases h0 : (inB (xs (i + 1)) (nI 0) (nI 5) && inB (xs (i + 2)) (nI 2) (nI 20) && inB (xs (i + 3)) (nI 1) ((xs (i + 2)) - nI 1) && inB (xs (i + 4)) (nI 1) (nI 9)) with
  | false => exact law_addLamp_x CC hL9 hi9 hj9 KK a mc n now lim F lit fo fn bb th kp H locs ls cells slots hst _ _ _ _ h0 rfl rfl rfl rfl
  | true =>
    simp only [Bool.and_eq_true] at h0
    obtain ⟨⟨⟨h1, h2⟩, h3⟩, h4⟩ := h0
    obtain ⟨k, e1, hk1, hk2⟩ := inB_ex (by omega) h1
    obtain ⟨v, e2, hv1, hv2⟩ := inB_ex (by omega) h2
    rw [e2, pk_sub (by omega)] at h3
    obtain ⟨u, e3, hu1, hu2⟩ := inB_ex (by omega) h3
    obtain ⟨z, e4, hw1, hw2⟩ := inB_ex (by omega) h4
    rcases Nat.lt_or_ge n 8 with hn9 | hn9
    · exact law_addLamp CC hL9 hi9 hj9 KK a mc n now lim F lit fo fn bb th kp H locs ls cells slots hst k v u z (by omega) (by omega) (by omega) (by omega) hn9 e1 e2 e3 e4
    · exact law_addLamp_y CC hL9 hi9 hj9 KK a mc n now lim F lit fo fn bb th kp H locs ls cells slots hst k v u z (by omega) (by omega) (by omega) (by omega) (by have := hO.1; omega) e1 e2 e3 e4

theorem law_setShift_all {p : Program} {l : Launch} {e : Env} {s : State} {m : MethodId} {b : Nat} {below : List Frame} {meth : Method} {c : Code} {E : GE} {A : Nat → Prop} {z0 L o i j : Nat} {xs : Nat → Int32} {Q : State → Prop} (CC : LC p l s m b c E A z0 L xs) (hL9 : L ≤ 2560) (hi9 : i + 5 ≤ L) (hj9 : j ≤ 511) (KK : LK p l e s m b below meth c E A z0 o Q 1763 i (j + 1)) (a : Nat → Nat) (mc : Int32) (n now lim : Nat) (F : LR) (lit : Nat → Bool) (fo : Nat → Nat) (fn : Nat → Int64) (bb : Nat → Nat) (th : Int32) (kp : Nat → Int32) (H : Heap) (locs : List Loc) (ls : Array Slot) (cells slots : Nat) (hst : LSt E A s b z0 i j a mc n now lim F lit fo o fn bb th kp H locs ls cells slots) : W p l e room_1 s m #[Value.ref b] below meth c H locs cells slots Q (F0 m 272 ls []) := by
  have hO := hst.1
  cases h1 : lpB n (xs (i + 1)) with
  | false => exact law_setShift_x CC hL9 hi9 hj9 KK a mc n now lim F lit fo fn bb th kp H locs ls cells slots hst _ h1 _ rfl rfl
  | true =>
    obtain ⟨k, e1, hk⟩ := lpB_ex hO.1 h1
    have hk9 := hO.2.2.2.1 k hk
    cases h2 : inB (xs (i + 2)) (nI 0) (nI (F k 0 - 1)) with
    | false => exact law_setShift_y CC hL9 hi9 hj9 KK a mc n now lim F lit fo fn bb th kp H locs ls cells slots hst k hk _ h2 e1 rfl
    | true =>
      obtain ⟨v, e2, hv1, hv2⟩ := inB_ex (by omega) h2
      exact law_setShift CC hL9 hi9 hj9 KK a mc n now lim F lit fo fn bb th kp H locs ls cells slots hst k v hk (by omega) e1 e2

theorem law_setLength_all {p : Program} {l : Launch} {e : Env} {s : State} {m : MethodId} {b : Nat} {below : List Frame} {meth : Method} {c : Code} {E : GE} {A : Nat → Prop} {z0 L o i j : Nat} {xs : Nat → Int32} {Q : State → Prop} (CC : LC p l s m b c E A z0 L xs) (hL9 : L ≤ 2560) (hi9 : i + 5 ≤ L) (hj9 : j ≤ 511) (KK : LK p l e s m b below meth c E A z0 o Q 1763 i (j + 1)) (a : Nat → Nat) (mc : Int32) (n now lim : Nat) (F : LR) (lit : Nat → Bool) (fo : Nat → Nat) (fn : Nat → Int64) (bb : Nat → Nat) (th : Int32) (kp : Nat → Int32) (H : Heap) (locs : List Loc) (ls : Array Slot) (cells slots : Nat) (hst : LSt E A s b z0 i j a mc n now lim F lit fo o fn bb th kp H locs ls cells slots) : W p l e room_1 s m #[Value.ref b] below meth c H locs cells slots Q (F0 m 340 ls []) := by
  have hO := hst.1
  cases h1 : lpB n (xs (i + 1)) with
  | false => exact law_setLength_x CC hL9 hi9 hj9 KK a mc n now lim F lit fo fn bb th kp H locs ls cells slots hst _ h1 _ rfl rfl
  | true =>
    obtain ⟨k, e1, hk⟩ := lpB_ex hO.1 h1
    have hk9 := hO.2.2.2.1 k hk
    cases h2 : inB (xs (i + 2)) (nI 1) (nI (F k 0 - 1)) with
    | false => exact law_setLength_y CC hL9 hi9 hj9 KK a mc n now lim F lit fo fn bb th kp H locs ls cells slots hst k hk _ h2 e1 rfl
    | true =>
      obtain ⟨v, e2, hv1, hv2⟩ := inB_ex (by omega) h2
      exact law_setLength CC hL9 hi9 hj9 KK a mc n now lim F lit fo fn bb th kp H locs ls cells slots hst k v hk (by omega) e1 e2

theorem law_swapColours_all {p : Program} {l : Launch} {e : Env} {s : State} {m : MethodId} {b : Nat} {below : List Frame} {meth : Method} {c : Code} {E : GE} {A : Nat → Prop} {z0 L o i j : Nat} {xs : Nat → Int32} {Q : State → Prop} (CC : LC p l s m b c E A z0 L xs) (hL9 : L ≤ 2560) (hi9 : i + 5 ≤ L) (hj9 : j ≤ 511) (KK : LK p l e s m b below meth c E A z0 o Q 1763 i (j + 1)) (a : Nat → Nat) (mc : Int32) (n now lim : Nat) (F : LR) (lit : Nat → Bool) (fo : Nat → Nat) (fn : Nat → Int64) (bb : Nat → Nat) (th : Int32) (kp : Nat → Int32) (H : Heap) (locs : List Loc) (ls : Array Slot) (cells slots : Nat) (hst : LSt E A s b z0 i j a mc n now lim F lit fo o fn bb th kp H locs ls cells slots) : W p l e room_1 s m #[Value.ref b] below meth c H locs cells slots Q (F0 m 408 ls []) := by
  have hO := hst.1
  cases h1 : (lpB n (xs (i + 1)) && lpB n (xs (i + 2))) with
  | false => exact law_swapColours_x CC hL9 hi9 hj9 KK a mc n now lim F lit fo fn bb th kp H locs ls cells slots hst _ _ h1 rfl rfl
  | true =>
    rw [Bool.and_eq_true] at h1
    obtain ⟨k, e1, hk⟩ := lpB_ex hO.1 h1.1
    obtain ⟨j0, e2, hj⟩ := lpB_ex hO.1 h1.2
    by_cases hkj : k = j0
    · subst hkj
      exact law_swapColours_y CC hL9 hi9 hj9 KK a mc n now lim F lit fo fn bb th kp H locs ls cells slots hst k hk e1 e2
    · exact law_swapColours CC hL9 hi9 hj9 KK a mc n now lim F lit fo fn bb th kp H locs ls cells slots hst k j0 hk hj hkj e1 e2

theorem law_setLimit_all {p : Program} {l : Launch} {e : Env} {s : State} {m : MethodId} {b : Nat} {below : List Frame} {meth : Method} {c : Code} {E : GE} {A : Nat → Prop} {z0 L o i j : Nat} {xs : Nat → Int32} {Q : State → Prop} (CC : LC p l s m b c E A z0 L xs) (hL9 : L ≤ 2560) (hi9 : i + 5 ≤ L) (hj9 : j ≤ 511) (KK : LK p l e s m b below meth c E A z0 o Q 1763 i (j + 1)) (a : Nat → Nat) (mc : Int32) (n now lim : Nat) (F : LR) (lit : Nat → Bool) (fo : Nat → Nat) (fn : Nat → Int64) (bb : Nat → Nat) (th : Int32) (kp : Nat → Int32) (H : Heap) (locs : List Loc) (ls : Array Slot) (cells slots : Nat) (hst : LSt E A s b z0 i j a mc n now lim F lit fo o fn bb th kp H locs ls cells slots) : W p l e room_1 s m #[Value.ref b] below meth c H locs cells slots Q (F0 m 483 ls []) := by
  have hO := hst.1
  cases h1 : inB (xs (i + 1)) (nI 0) (nI 99) with
  | false => exact law_setLimit_x CC hL9 hi9 hj9 KK a mc n now lim F lit fo fn bb th kp H locs ls cells slots hst _ h1 rfl
  | true =>
    obtain ⟨k, e1, hk1, hk2⟩ := inB_ex (by omega) h1
    exact law_setLimit CC hL9 hi9 hj9 KK a mc n now lim F lit fo fn bb th kp H locs ls cells slots hst k hk2 e1

theorem law_pass_all {p : Program} {l : Launch} {e : Env} {s : State} {m : MethodId} {b : Nat} {below : List Frame} {meth : Method} {c : Code} {E : GE} {A : Nat → Prop} {z0 L o i j : Nat} {xs : Nat → Int32} {Q : State → Prop} (CC : LC p l s m b c E A z0 L xs) (hL9 : L ≤ 2560) (hi9 : i + 5 ≤ L) (hj9 : j ≤ 511) (KK : LK p l e s m b below meth c E A z0 o Q 1763 i (j + 1)) (a : Nat → Nat) (mc : Int32) (n now lim : Nat) (F : LR) (lit : Nat → Bool) (fo : Nat → Nat) (fn : Nat → Int64) (bb : Nat → Nat) (th : Int32) (kp : Nat → Int32) (H : Heap) (locs : List Loc) (ls : Array Slot) (cells slots : Nat) (hst : LSt E A s b z0 i j a mc n now lim F lit fo o fn bb th kp H locs ls cells slots) : W p l e room_1 s m #[Value.ref b] below meth c H locs cells slots Q (F0 m 539 ls []) := by
  have hO := hst.1
  cases h1 : inB (xs (i + 1)) (nI 1) (nI 200) with
  | false => exact law_pass_x CC hL9 hi9 hj9 KK a mc n now lim F lit fo fn bb th kp H locs ls cells slots hst _ h1 rfl
  | true =>
    obtain ⟨k, e1, hk1, hk2⟩ := inB_ex (by omega) h1
    exact law_pass CC hL9 hi9 hj9 KK a mc n now lim F lit fo fn bb th kp H locs ls cells slots hst k (by omega) e1

theorem law_phaseOf_all {p : Program} {l : Launch} {e : Env} {s : State} {m : MethodId} {b : Nat} {below : List Frame} {meth : Method} {c : Code} {E : GE} {A : Nat → Prop} {z0 L o i j : Nat} {xs : Nat → Int32} {Q : State → Prop} (CC : LC p l s m b c E A z0 L xs) (hL9 : L ≤ 2560) (hi9 : i + 5 ≤ L) (hj9 : j ≤ 511) (KK : LK p l e s m b below meth c E A z0 o Q 1763 i (j + 1)) (a : Nat → Nat) (mc : Int32) (n now lim : Nat) (F : LR) (lit : Nat → Bool) (fo : Nat → Nat) (fn : Nat → Int64) (bb : Nat → Nat) (th : Int32) (kp : Nat → Int32) (H : Heap) (locs : List Loc) (ls : Array Slot) (cells slots : Nat) (hst : LSt E A s b z0 i j a mc n now lim F lit fo o fn bb th kp H locs ls cells slots) : W p l e room_1 s m #[Value.ref b] below meth c H locs cells slots Q (F0 m 647 ls []) := by
  have hO := hst.1
  cases h1 : lpB n (xs (i + 1)) with
  | false => exact law_phaseOf_x CC hL9 hi9 hj9 KK a mc n now lim F lit fo fn bb th kp H locs ls cells slots hst _ h1 rfl
  | true =>
    obtain ⟨k, e1, hk⟩ := lpB_ex hO.1 h1
    have hk9 := hO.2.2.2.1 k hk
    exact law_phaseOf CC hL9 hi9 hj9 KK a mc n now lim F lit fo fn bb th kp H locs ls cells slots hst k hk e1

theorem law_isDue_all {p : Program} {l : Launch} {e : Env} {s : State} {m : MethodId} {b : Nat} {below : List Frame} {meth : Method} {c : Code} {E : GE} {A : Nat → Prop} {z0 L o i j : Nat} {xs : Nat → Int32} {Q : State → Prop} (CC : LC p l s m b c E A z0 L xs) (hL9 : L ≤ 2560) (hi9 : i + 5 ≤ L) (hj9 : j ≤ 511) (KK : LK p l e s m b below meth c E A z0 o Q 1763 i (j + 1)) (a : Nat → Nat) (mc : Int32) (n now lim : Nat) (F : LR) (lit : Nat → Bool) (fo : Nat → Nat) (fn : Nat → Int64) (bb : Nat → Nat) (th : Int32) (kp : Nat → Int32) (H : Heap) (locs : List Loc) (ls : Array Slot) (cells slots : Nat) (hst : LSt E A s b z0 i j a mc n now lim F lit fo o fn bb th kp H locs ls cells slots) : W p l e room_1 s m #[Value.ref b] below meth c H locs cells slots Q (F0 m 703 ls []) := by
  have hO := hst.1
  cases h1 : lpB n (xs (i + 1)) with
  | false => exact law_isDue_x CC hL9 hi9 hj9 KK a mc n now lim F lit fo fn bb th kp H locs ls cells slots hst _ h1 rfl
  | true =>
    obtain ⟨k, e1, hk⟩ := lpB_ex hO.1 h1
    have hk9 := hO.2.2.2.1 k hk
    exact law_isDue CC hL9 hi9 hj9 KK a mc n now lim F lit fo fn bb th kp H locs ls cells slots hst k hk e1

theorem law_shines_all {p : Program} {l : Launch} {e : Env} {s : State} {m : MethodId} {b : Nat} {below : List Frame} {meth : Method} {c : Code} {E : GE} {A : Nat → Prop} {z0 L o i j : Nat} {xs : Nat → Int32} {Q : State → Prop} (CC : LC p l s m b c E A z0 L xs) (hL9 : L ≤ 2560) (hi9 : i + 5 ≤ L) (hj9 : j ≤ 511) (KK : LK p l e s m b below meth c E A z0 o Q 1763 i (j + 1)) (a : Nat → Nat) (mc : Int32) (n now lim : Nat) (F : LR) (lit : Nat → Bool) (fo : Nat → Nat) (fn : Nat → Int64) (bb : Nat → Nat) (th : Int32) (kp : Nat → Int32) (H : Heap) (locs : List Loc) (ls : Array Slot) (cells slots : Nat) (hst : LSt E A s b z0 i j a mc n now lim F lit fo o fn bb th kp H locs ls cells slots) : W p l e room_1 s m #[Value.ref b] below meth c H locs cells slots Q (F0 m 766 ls []) := by
  have hO := hst.1
  cases h1 : lpB n (xs (i + 1)) with
  | false => exact law_shines_x CC hL9 hi9 hj9 KK a mc n now lim F lit fo fn bb th kp H locs ls cells slots hst _ h1 rfl
  | true =>
    obtain ⟨k, e1, hk⟩ := lpB_ex hO.1 h1
    have hk9 := hO.2.2.2.1 k hk
    exact law_shines CC hL9 hi9 hj9 KK a mc n now lim F lit fo fn bb th kp H locs ls cells slots hst k hk e1

theorem law_colourOf_all {p : Program} {l : Launch} {e : Env} {s : State} {m : MethodId} {b : Nat} {below : List Frame} {meth : Method} {c : Code} {E : GE} {A : Nat → Prop} {z0 L o i j : Nat} {xs : Nat → Int32} {Q : State → Prop} (CC : LC p l s m b c E A z0 L xs) (hL9 : L ≤ 2560) (hi9 : i + 5 ≤ L) (hj9 : j ≤ 511) (KK : LK p l e s m b below meth c E A z0 o Q 1763 i (j + 1)) (a : Nat → Nat) (mc : Int32) (n now lim : Nat) (F : LR) (lit : Nat → Bool) (fo : Nat → Nat) (fn : Nat → Int64) (bb : Nat → Nat) (th : Int32) (kp : Nat → Int32) (H : Heap) (locs : List Loc) (ls : Array Slot) (cells slots : Nat) (hst : LSt E A s b z0 i j a mc n now lim F lit fo o fn bb th kp H locs ls cells slots) : W p l e room_1 s m #[Value.ref b] below meth c H locs cells slots Q (F0 m 829 ls []) := by
  have hO := hst.1
  cases h1 : lpB n (xs (i + 1)) with
  | false => exact law_colourOf_x CC hL9 hi9 hj9 KK a mc n now lim F lit fo fn bb th kp H locs ls cells slots hst _ h1 rfl
  | true =>
    obtain ⟨k, e1, hk⟩ := lpB_ex hO.1 h1
    have hk9 := hO.2.2.2.1 k hk
    exact law_colourOf CC hL9 hi9 hj9 KK a mc n now lim F lit fo fn bb th kp H locs ls cells slots hst k hk e1

theorem law_shiftOf_all {p : Program} {l : Launch} {e : Env} {s : State} {m : MethodId} {b : Nat} {below : List Frame} {meth : Method} {c : Code} {E : GE} {A : Nat → Prop} {z0 L o i j : Nat} {xs : Nat → Int32} {Q : State → Prop} (CC : LC p l s m b c E A z0 L xs) (hL9 : L ≤ 2560) (hi9 : i + 5 ≤ L) (hj9 : j ≤ 511) (KK : LK p l e s m b below meth c E A z0 o Q 1763 i (j + 1)) (a : Nat → Nat) (mc : Int32) (n now lim : Nat) (F : LR) (lit : Nat → Bool) (fo : Nat → Nat) (fn : Nat → Int64) (bb : Nat → Nat) (th : Int32) (kp : Nat → Int32) (H : Heap) (locs : List Loc) (ls : Array Slot) (cells slots : Nat) (hst : LSt E A s b z0 i j a mc n now lim F lit fo o fn bb th kp H locs ls cells slots) : W p l e room_1 s m #[Value.ref b] below meth c H locs cells slots Q (F0 m 885 ls []) := by
  have hO := hst.1
  cases h1 : lpB n (xs (i + 1)) with
  | false => exact law_shiftOf_x CC hL9 hi9 hj9 KK a mc n now lim F lit fo fn bb th kp H locs ls cells slots hst _ h1 rfl
  | true =>
    obtain ⟨k, e1, hk⟩ := lpB_ex hO.1 h1
    have hk9 := hO.2.2.2.1 k hk
    exact law_shiftOf CC hL9 hi9 hj9 KK a mc n now lim F lit fo fn bb th kp H locs ls cells slots hst k hk e1

theorem law_shone_all {p : Program} {l : Launch} {e : Env} {s : State} {m : MethodId} {b : Nat} {below : List Frame} {meth : Method} {c : Code} {E : GE} {A : Nat → Prop} {z0 L o i j : Nat} {xs : Nat → Int32} {Q : State → Prop} (CC : LC p l s m b c E A z0 L xs) (hL9 : L ≤ 2560) (hi9 : i + 5 ≤ L) (hj9 : j ≤ 511) (KK : LK p l e s m b below meth c E A z0 o Q 1763 i (j + 1)) (a : Nat → Nat) (mc : Int32) (n now lim : Nat) (F : LR) (lit : Nat → Bool) (fo : Nat → Nat) (fn : Nat → Int64) (bb : Nat → Nat) (th : Int32) (kp : Nat → Int32) (H : Heap) (locs : List Loc) (ls : Array Slot) (cells slots : Nat) (hst : LSt E A s b z0 i j a mc n now lim F lit fo o fn bb th kp H locs ls cells slots) : W p l e room_1 s m #[Value.ref b] below meth c H locs cells slots Q (F0 m 941 ls []) := by
  have hO := hst.1
  cases h1 : lpB n (xs (i + 1)) with
  | false => exact law_shone_x CC hL9 hi9 hj9 KK a mc n now lim F lit fo fn bb th kp H locs ls cells slots hst _ h1 rfl
  | true =>
    obtain ⟨k, e1, hk⟩ := lpB_ex hO.1 h1
    have hk9 := hO.2.2.2.1 k hk
    exact law_shone CC hL9 hi9 hj9 KK a mc n now lim F lit fo fn bb th kp H locs ls cells slots hst k hk e1

theorem law_stayedDark_all {p : Program} {l : Launch} {e : Env} {s : State} {m : MethodId} {b : Nat} {below : List Frame} {meth : Method} {c : Code} {E : GE} {A : Nat → Prop} {z0 L o i j : Nat} {xs : Nat → Int32} {Q : State → Prop} (CC : LC p l s m b c E A z0 L xs) (hL9 : L ≤ 2560) (hi9 : i + 5 ≤ L) (hj9 : j ≤ 511) (KK : LK p l e s m b below meth c E A z0 o Q 1763 i (j + 1)) (a : Nat → Nat) (mc : Int32) (n now lim : Nat) (F : LR) (lit : Nat → Bool) (fo : Nat → Nat) (fn : Nat → Int64) (bb : Nat → Nat) (th : Int32) (kp : Nat → Int32) (H : Heap) (locs : List Loc) (ls : Array Slot) (cells slots : Nat) (hst : LSt E A s b z0 i j a mc n now lim F lit fo o fn bb th kp H locs ls cells slots) : W p l e room_1 s m #[Value.ref b] below meth c H locs cells slots Q (F0 m 997 ls []) := by
  have hO := hst.1
  cases h1 : lpB n (xs (i + 1)) with
  | false => exact law_stayedDark_x CC hL9 hi9 hj9 KK a mc n now lim F lit fo fn bb th kp H locs ls cells slots hst _ h1 rfl
  | true =>
    obtain ⟨k, e1, hk⟩ := lpB_ex hO.1 h1
    have hk9 := hO.2.2.2.1 k hk
    exact law_stayedDark CC hL9 hi9 hj9 KK a mc n now lim F lit fo fn bb th kp H locs ls cells slots hst k hk e1

theorem law_seen_all {p : Program} {l : Launch} {e : Env} {s : State} {m : MethodId} {b : Nat} {below : List Frame} {meth : Method} {c : Code} {E : GE} {A : Nat → Prop} {z0 L o i j : Nat} {xs : Nat → Int32} {Q : State → Prop} (CC : LC p l s m b c E A z0 L xs) (hL9 : L ≤ 2560) (hi9 : i + 5 ≤ L) (hj9 : j ≤ 511) (KK : LK p l e s m b below meth c E A z0 o Q 1763 i (j + 1)) (a : Nat → Nat) (mc : Int32) (n now lim : Nat) (F : LR) (lit : Nat → Bool) (fo : Nat → Nat) (fn : Nat → Int64) (bb : Nat → Nat) (th : Int32) (kp : Nat → Int32) (H : Heap) (locs : List Loc) (ls : Array Slot) (cells slots : Nat) (hst : LSt E A s b z0 i j a mc n now lim F lit fo o fn bb th kp H locs ls cells slots) : W p l e room_1 s m #[Value.ref b] below meth c H locs cells slots Q (F0 m 1053 ls []) := by
  have hO := hst.1
  cases h1 : inB (xs (i + 1)) (nI 0) (nI 5) with
  | false => exact law_seen_x CC hL9 hi9 hj9 KK a mc n now lim F lit fo fn bb th kp H locs ls cells slots hst _ h1 rfl
  | true =>
    obtain ⟨k, e1, hk1, hk2⟩ := inB_ex (by omega) h1
    exact law_seen CC hL9 hi9 hj9 KK a mc n now lim F lit fo fn bb th kp H locs ls cells slots hst k hk2 e1

theorem law_divisor_all {p : Program} {l : Launch} {e : Env} {s : State} {m : MethodId} {b : Nat} {below : List Frame} {meth : Method} {c : Code} {E : GE} {A : Nat → Prop} {z0 L o i j : Nat} {xs : Nat → Int32} {Q : State → Prop} (CC : LC p l s m b c E A z0 L xs) (hL9 : L ≤ 2560) (hi9 : i + 5 ≤ L) (hj9 : j ≤ 511) (KK : LK p l e s m b below meth c E A z0 o Q 1763 i (j + 1)) (a : Nat → Nat) (mc : Int32) (n now lim : Nat) (F : LR) (lit : Nat → Bool) (fo : Nat → Nat) (fn : Nat → Int64) (bb : Nat → Nat) (th : Int32) (kp : Nat → Int32) (H : Heap) (locs : List Loc) (ls : Array Slot) (cells slots : Nat) (hst : LSt E A s b z0 i j a mc n now lim F lit fo o fn bb th kp H locs ls cells slots) : W p l e room_1 s m #[Value.ref b] below meth c H locs cells slots Q (F0 m 1136 ls []) := by
  have hO := hst.1
  cases h1 : (lpB n (xs (i + 1)) && lpB n (xs (i + 2))) with
  | false => exact law_divisor_x CC hL9 hi9 hj9 KK a mc n now lim F lit fo fn bb th kp H locs ls cells slots hst _ _ h1 rfl rfl
  | true =>
    rw [Bool.and_eq_true] at h1
    obtain ⟨k, e1, hk⟩ := lpB_ex hO.1 h1.1
    obtain ⟨j0, e2, hj⟩ := lpB_ex hO.1 h1.2
    exact law_divisor CC hL9 hi9 hj9 KK a mc n now lim F lit fo fn bb th kp H locs ls cells slots hst k j0 hk hj e1 e2

theorem law_meet_all {p : Program} {l : Launch} {e : Env} {s : State} {m : MethodId} {b : Nat} {below : List Frame} {meth : Method} {c : Code} {E : GE} {A : Nat → Prop} {z0 L o i j : Nat} {xs : Nat → Int32} {Q : State → Prop} (CC : LC p l s m b c E A z0 L xs) (hL9 : L ≤ 2560) (hi9 : i + 5 ≤ L) (hj9 : j ≤ 511) (KK : LK p l e s m b below meth c E A z0 o Q 1763 i (j + 1)) (a : Nat → Nat) (mc : Int32) (n now lim : Nat) (F : LR) (lit : Nat → Bool) (fo : Nat → Nat) (fn : Nat → Int64) (bb : Nat → Nat) (th : Int32) (kp : Nat → Int32) (H : Heap) (locs : List Loc) (ls : Array Slot) (cells slots : Nat) (hst : LSt E A s b z0 i j a mc n now lim F lit fo o fn bb th kp H locs ls cells slots) : W p l e room_1 s m #[Value.ref b] below meth c H locs cells slots Q (F0 m 1204 ls []) := by
  have hO := hst.1
  cases h1 : (lpB n (xs (i + 1)) && lpB n (xs (i + 2))) with
  | false => exact law_meet_x CC hL9 hi9 hj9 KK a mc n now lim F lit fo fn bb th kp H locs ls cells slots hst _ _ h1 rfl rfl
  | true =>
    rw [Bool.and_eq_true] at h1
    obtain ⟨k, e1, hk⟩ := lpB_ex hO.1 h1.1
    obtain ⟨j0, e2, hj⟩ := lpB_ex hO.1 h1.2
    exact law_meet CC hL9 hi9 hj9 KK a mc n now lim F lit fo fn bb th kp H locs ls cells slots hst k j0 hk hj e1 e2

theorem law_beatsUntilMeet_all {p : Program} {l : Launch} {e : Env} {s : State} {m : MethodId} {b : Nat} {below : List Frame} {meth : Method} {c : Code} {E : GE} {A : Nat → Prop} {z0 L o i j : Nat} {xs : Nat → Int32} {Q : State → Prop} (CC : LC p l s m b c E A z0 L xs) (hL9 : L ≤ 2560) (hi9 : i + 5 ≤ L) (hj9 : j ≤ 511) (KK : LK p l e s m b below meth c E A z0 o Q 1763 i (j + 1)) (a : Nat → Nat) (mc : Int32) (n now lim : Nat) (F : LR) (lit : Nat → Bool) (fo : Nat → Nat) (fn : Nat → Int64) (bb : Nat → Nat) (th : Int32) (kp : Nat → Int32) (H : Heap) (locs : List Loc) (ls : Array Slot) (cells slots : Nat) (hst : LSt E A s b z0 i j a mc n now lim F lit fo o fn bb th kp H locs ls cells slots) : W p l e room_1 s m #[Value.ref b] below meth c H locs cells slots Q (F0 m 1279 ls []) := by
  have hO := hst.1
  cases h1 : (lpB n (xs (i + 1)) && lpB n (xs (i + 2))) with
  | false => exact law_beatsUntilMeet_x CC hL9 hi9 hj9 KK a mc n now lim F lit fo fn bb th kp H locs ls cells slots hst _ _ h1 rfl rfl
  | true =>
    rw [Bool.and_eq_true] at h1
    obtain ⟨k, e1, hk⟩ := lpB_ex hO.1 h1.1
    obtain ⟨j0, e2, hj⟩ := lpB_ex hO.1 h1.2
    exact law_beatsUntilMeet CC hL9 hi9 hj9 KK a mc n now lim F lit fo fn bb th kp H locs ls cells slots hst k j0 hk hj e1 e2

theorem law_meets_all {p : Program} {l : Launch} {e : Env} {s : State} {m : MethodId} {b : Nat} {below : List Frame} {meth : Method} {c : Code} {E : GE} {A : Nat → Prop} {z0 L o i j : Nat} {xs : Nat → Int32} {Q : State → Prop} (CC : LC p l s m b c E A z0 L xs) (hL9 : L ≤ 2560) (hi9 : i + 5 ≤ L) (hj9 : j ≤ 511) (KK : LK p l e s m b below meth c E A z0 o Q 1763 i (j + 1)) (a : Nat → Nat) (mc : Int32) (n now lim : Nat) (F : LR) (lit : Nat → Bool) (fo : Nat → Nat) (fn : Nat → Int64) (bb : Nat → Nat) (th : Int32) (kp : Nat → Int32) (H : Heap) (locs : List Loc) (ls : Array Slot) (cells slots : Nat) (hst : LSt E A s b z0 i j a mc n now lim F lit fo o fn bb th kp H locs ls cells slots) : W p l e room_1 s m #[Value.ref b] below meth c H locs cells slots Q (F0 m 1347 ls []) := by
  have hO := hst.1
  cases h1 : lpB n (xs (i + 1)) with
  | false => exact law_meets_x CC hL9 hi9 hj9 KK a mc n now lim F lit fo fn bb th kp H locs ls cells slots hst _ h1 rfl
  | true =>
    obtain ⟨k, e1, hk⟩ := lpB_ex hO.1 h1
    have hk9 := hO.2.2.2.1 k hk
    exact law_meets CC hL9 hi9 hj9 KK a mc n now lim F lit fo fn bb th kp H locs ls cells slots hst k hk e1

theorem law_bestShift_all {p : Program} {l : Launch} {e : Env} {s : State} {m : MethodId} {b : Nat} {below : List Frame} {meth : Method} {c : Code} {E : GE} {A : Nat → Prop} {z0 L o i j : Nat} {xs : Nat → Int32} {Q : State → Prop} (CC : LC p l s m b c E A z0 L xs) (hL9 : L ≤ 2560) (hi9 : i + 5 ≤ L) (hj9 : j ≤ 511) (KK : LK p l e s m b below meth c E A z0 o Q 1763 i (j + 1)) (a : Nat → Nat) (mc : Int32) (n now lim : Nat) (F : LR) (lit : Nat → Bool) (fo : Nat → Nat) (fn : Nat → Int64) (bb : Nat → Nat) (th : Int32) (kp : Nat → Int32) (H : Heap) (locs : List Loc) (ls : Array Slot) (cells slots : Nat) (hst : LSt E A s b z0 i j a mc n now lim F lit fo o fn bb th kp H locs ls cells slots) : W p l e room_1 s m #[Value.ref b] below meth c H locs cells slots Q (F0 m 1416 ls []) := by
  have hO := hst.1
  cases h1 : lpB n (xs (i + 1)) with
  | false => exact law_bestShift_x CC hL9 hi9 hj9 KK a mc n now lim F lit fo fn bb th kp H locs ls cells slots hst _ h1 rfl
  | true =>
    obtain ⟨k, e1, hk⟩ := lpB_ex hO.1 h1
    have hk9 := hO.2.2.2.1 k hk
    exact law_bestShift CC hL9 hi9 hj9 KK a mc n now lim F lit fo fn bb th kp H locs ls cells slots hst k hk e1

theorem law_dueIn_all {p : Program} {l : Launch} {e : Env} {s : State} {m : MethodId} {b : Nat} {below : List Frame} {meth : Method} {c : Code} {E : GE} {A : Nat → Prop} {z0 L o i j : Nat} {xs : Nat → Int32} {Q : State → Prop} (CC : LC p l s m b c E A z0 L xs) (hL9 : L ≤ 2560) (hi9 : i + 5 ≤ L) (hj9 : j ≤ 511) (KK : LK p l e s m b below meth c E A z0 o Q 1763 i (j + 1)) (a : Nat → Nat) (mc : Int32) (n now lim : Nat) (F : LR) (lit : Nat → Bool) (fo : Nat → Nat) (fn : Nat → Int64) (bb : Nat → Nat) (th : Int32) (kp : Nat → Int32) (H : Heap) (locs : List Loc) (ls : Array Slot) (cells slots : Nat) (hst : LSt E A s b z0 i j a mc n now lim F lit fo o fn bb th kp H locs ls cells slots) : W p l e room_1 s m #[Value.ref b] below meth c H locs cells slots Q (F0 m 1472 ls []) := by
  have hO := hst.1
  cases h1 : lpB n (xs (i + 1)) with
  | false => exact law_dueIn_x CC hL9 hi9 hj9 KK a mc n now lim F lit fo fn bb th kp H locs ls cells slots hst _ h1 _ rfl rfl
  | true =>
    obtain ⟨k, e1, hk⟩ := lpB_ex hO.1 h1
    have hk9 := hO.2.2.2.1 k hk
    cases h2 : inB (xs (i + 2)) (nI 1) (nI 100000) with
    | false => exact law_dueIn_y CC hL9 hi9 hj9 KK a mc n now lim F lit fo fn bb th kp H locs ls cells slots hst k hk _ h2 e1 rfl
    | true =>
      obtain ⟨j0, e2, hj1, hj2⟩ := inB_ex (by omega) h2
      exact law_dueIn CC hL9 hi9 hj9 KK a mc n now lim F lit fo fn bb th kp H locs ls cells slots hst k hk j0 (by omega) e1 e2

theorem law_brightest_all {p : Program} {l : Launch} {e : Env} {s : State} {m : MethodId} {b : Nat} {below : List Frame} {meth : Method} {c : Code} {E : GE} {A : Nat → Prop} {z0 L o i j : Nat} {xs : Nat → Int32} {Q : State → Prop} (CC : LC p l s m b c E A z0 L xs) (hL9 : L ≤ 2560) (hi9 : i + 5 ≤ L) (hj9 : j ≤ 511) (KK : LK p l e s m b below meth c E A z0 o Q 1763 i (j + 1)) (a : Nat → Nat) (mc : Int32) (n now lim : Nat) (F : LR) (lit : Nat → Bool) (fo : Nat → Nat) (fn : Nat → Int64) (bb : Nat → Nat) (th : Int32) (kp : Nat → Int32) (H : Heap) (locs : List Loc) (ls : Array Slot) (cells slots : Nat) (hst : LSt E A s b z0 i j a mc n now lim F lit fo o fn bb th kp H locs ls cells slots) : W p l e room_1 s m #[Value.ref b] below meth c H locs cells slots Q (F0 m 1540 ls []) := by
  have hO := hst.1
  cases h1 : inB (xs (i + 1)) (nI 1) (nI 200) with
  | false => exact law_brightest_x CC hL9 hi9 hj9 KK a mc n now lim F lit fo fn bb th kp H locs ls cells slots hst _ h1 rfl
  | true =>
    obtain ⟨k, e1, hk1, hk2⟩ := inB_ex (by omega) h1
    exact law_brightest CC hL9 hi9 hj9 KK a mc n now lim F lit fo fn bb th kp H locs ls cells slots hst k (by omega) e1

theorem law_unfairnessIn_all {p : Program} {l : Launch} {e : Env} {s : State} {m : MethodId} {b : Nat} {below : List Frame} {meth : Method} {c : Code} {E : GE} {A : Nat → Prop} {z0 L o i j : Nat} {xs : Nat → Int32} {Q : State → Prop} (CC : LC p l s m b c E A z0 L xs) (hL9 : L ≤ 2560) (hi9 : i + 5 ≤ L) (hj9 : j ≤ 511) (KK : LK p l e s m b below meth c E A z0 o Q 1763 i (j + 1)) (a : Nat → Nat) (mc : Int32) (n now lim : Nat) (F : LR) (lit : Nat → Bool) (fo : Nat → Nat) (fn : Nat → Int64) (bb : Nat → Nat) (th : Int32) (kp : Nat → Int32) (H : Heap) (locs : List Loc) (ls : Array Slot) (cells slots : Nat) (hst : LSt E A s b z0 i j a mc n now lim F lit fo o fn bb th kp H locs ls cells slots) : W p l e room_1 s m #[Value.ref b] below meth c H locs cells slots Q (F0 m 1596 ls []) := by
  have hO := hst.1
  cases h1 : inB (xs (i + 1)) (nI 1) (nI 200) with
  | false => exact law_unfairnessIn_x CC hL9 hi9 hj9 KK a mc n now lim F lit fo fn bb th kp H locs ls cells slots hst _ h1 rfl
  | true =>
    obtain ⟨k, e1, hk1, hk2⟩ := inB_ex (by omega) h1
    exact law_unfairnessIn CC hL9 hi9 hj9 KK a mc n now lim F lit fo fn bb th kp H locs ls cells slots hst k (by omega) e1

theorem law_limitWanted_all {p : Program} {l : Launch} {e : Env} {s : State} {m : MethodId} {b : Nat} {below : List Frame} {meth : Method} {c : Code} {E : GE} {A : Nat → Prop} {z0 L o i j : Nat} {xs : Nat → Int32} {Q : State → Prop} (CC : LC p l s m b c E A z0 L xs) (hL9 : L ≤ 2560) (hi9 : i + 5 ≤ L) (hj9 : j ≤ 511) (KK : LK p l e s m b below meth c E A z0 o Q 1763 i (j + 1)) (a : Nat → Nat) (mc : Int32) (n now lim : Nat) (F : LR) (lit : Nat → Bool) (fo : Nat → Nat) (fn : Nat → Int64) (bb : Nat → Nat) (th : Int32) (kp : Nat → Int32) (H : Heap) (locs : List Loc) (ls : Array Slot) (cells slots : Nat) (hst : LSt E A s b z0 i j a mc n now lim F lit fo o fn bb th kp H locs ls cells slots) : W p l e room_1 s m #[Value.ref b] below meth c H locs cells slots Q (F0 m 1652 ls []) := by
  have hO := hst.1
  cases h1 : inB (xs (i + 1)) (nI 1) (nI 200) with
  | false => exact law_limitWanted_x CC hL9 hi9 hj9 KK a mc n now lim F lit fo fn bb th kp H locs ls cells slots hst _ h1 rfl
  | true =>
    obtain ⟨k, e1, hk1, hk2⟩ := inB_ex (by omega) h1
    exact law_limitWanted CC hL9 hi9 hj9 KK a mc n now lim F lit fo fn bb th kp H locs ls cells slots hst k (by omega) e1

set_option maxRecDepth 100000 in
theorem law_step {p : Program} {l : Launch} {e : Env} {s : State} {m : MethodId} {b : Nat} {below : List Frame} {meth : Method} {c : Code} {E : GE} {A : Nat → Prop} {z0 L o i j : Nat} {xs : Nat → Int32} {Q : State → Prop} (CC : LC p l s m b c E A z0 L xs) (hL9 : L ≤ 2560) (hi9 : i + 5 ≤ L) (hj9 : j ≤ 511) (KK : LK p l e s m b below meth c E A z0 o Q 1763 i (j + 1)) (a : Nat → Nat) (mc : Int32) (n now lim : Nat) (F : LR) (lit : Nat → Bool) (fo : Nat → Nat) (fn : Nat → Int64) (bb : Nat → Nat) (th : Int32) (kp : Nat → Int32) (H : Heap) (locs : List Loc) (ls : Array Slot) (cells slots : Nat) (hst : LSt E A s b z0 i j a mc n now lim F lit fo o fn bb th kp H locs ls cells slots) : W p l e room_1 s m #[Value.ref b] below meth c H locs cells slots Q (F0 m 32 ls []) := by
  obtain ⟨hx, hb, hml, hown, hts, hK, hZ, hT, hA, hbA, hX, hbl, hl9⟩ := id CC
  obtain ⟨hO, hnw, hz, hcl, hsl, hP, hD, hS, hl⟩ := id hst
  refine lv_aload_n hx hb dL_law_32 rfl (lv_at hl 0 rfl) ?_
  refine lv_iload hx hb dL_law_33 (lv_at hl 4 rfl) ?_
  refine va_sld hx hb hX hbl hbA hS (i := nI i) (by exact vp_in_nI (by omega) (by omega)) dL_law_35 ?_
  refine lv_bipush (v := (nI 31)) hx hb dL_law_36 (by decide) ?_
  refine lv_iand hx hb dL_law_38 ?_
  obtain ⟨q, hq, eq⟩ := pk_andE (xs ((nI i).toNatClampNeg)) (m := nI 31) 5 (by decide)
  refine nq_top eq ?_
  match q, hq with
  | 0, _ => exact lv_tableIn (x := nI 0) (off := 141) (tgt := 180) hx hb dL_law_39 (by decide) (by decide) (by rfl) (by decide) (law_addLamp_all CC hL9 hi9 hj9 KK a mc n now lim F lit fo fn bb th kp H locs ls cells slots hst)
  | 1, _ => exact lv_tableIn (x := nI 1) (off := 233) (tgt := 272) hx hb dL_law_39 (by decide) (by decide) (by rfl) (by decide) (law_setShift_all CC hL9 hi9 hj9 KK a mc n now lim F lit fo fn bb th kp H locs ls cells slots hst)
  | 2, _ => exact lv_tableIn (x := nI 2) (off := 301) (tgt := 340) hx hb dL_law_39 (by decide) (by decide) (by rfl) (by decide) (law_setLength_all CC hL9 hi9 hj9 KK a mc n now lim F lit fo fn bb th kp H locs ls cells slots hst)
  | 3, _ => exact lv_tableIn (x := nI 3) (off := 369) (tgt := 408) hx hb dL_law_39 (by decide) (by decide) (by rfl) (by decide) (law_swapColours_all CC hL9 hi9 hj9 KK a mc n now lim F lit fo fn bb th kp H locs ls cells slots hst)
  | 4, _ => exact lv_tableIn (x := nI 4) (off := 444) (tgt := 483) hx hb dL_law_39 (by decide) (by decide) (by rfl) (by decide) (law_setLimit_all CC hL9 hi9 hj9 KK a mc n now lim F lit fo fn bb th kp H locs ls cells slots hst)
  | 5, _ => exact lv_tableIn (x := nI 5) (off := 500) (tgt := 539) hx hb dL_law_39 (by decide) (by decide) (by rfl) (by decide) (law_pass_all CC hL9 hi9 hj9 KK a mc n now lim F lit fo fn bb th kp H locs ls cells slots hst)
  | 6, _ => exact lv_tableIn (x := nI 6) (off := 556) (tgt := 595) hx hb dL_law_39 (by decide) (by decide) (by rfl) (by decide) (law_beat CC hL9 hi9 hj9 KK a mc n now lim F lit fo fn bb th kp H locs ls cells slots hst)
  | 7, _ => exact lv_tableIn (x := nI 7) (off := 569) (tgt := 608) hx hb dL_law_39 (by decide) (by decide) (by rfl) (by decide) (law_lamps CC hL9 hi9 hj9 KK a mc n now lim F lit fo fn bb th kp H locs ls cells slots hst)
  | 8, _ => exact lv_tableIn (x := nI 8) (off := 582) (tgt := 621) hx hb dL_law_39 (by decide) (by decide) (by rfl) (by decide) (law_limit CC hL9 hi9 hj9 KK a mc n now lim F lit fo fn bb th kp H locs ls cells slots hst)
  | 9, _ => exact lv_tableIn (x := nI 9) (off := 595) (tgt := 634) hx hb dL_law_39 (by decide) (by decide) (by rfl) (by decide) (law_power CC hL9 hi9 hj9 KK a mc n now lim F lit fo fn bb th kp H locs ls cells slots hst)
  | 10, _ => exact lv_tableIn (x := nI 10) (off := 608) (tgt := 647) hx hb dL_law_39 (by decide) (by decide) (by rfl) (by decide) (law_phaseOf_all CC hL9 hi9 hj9 KK a mc n now lim F lit fo fn bb th kp H locs ls cells slots hst)
  | 11, _ => exact lv_tableIn (x := nI 11) (off := 664) (tgt := 703) hx hb dL_law_39 (by decide) (by decide) (by rfl) (by decide) (law_isDue_all CC hL9 hi9 hj9 KK a mc n now lim F lit fo fn bb th kp H locs ls cells slots hst)
  | 12, _ => exact lv_tableIn (x := nI 12) (off := 727) (tgt := 766) hx hb dL_law_39 (by decide) (by decide) (by rfl) (by decide) (law_shines_all CC hL9 hi9 hj9 KK a mc n now lim F lit fo fn bb th kp H locs ls cells slots hst)
  | 13, _ => exact lv_tableIn (x := nI 13) (off := 790) (tgt := 829) hx hb dL_law_39 (by decide) (by decide) (by rfl) (by decide) (law_colourOf_all CC hL9 hi9 hj9 KK a mc n now lim F lit fo fn bb th kp H locs ls cells slots hst)
  | 14, _ => exact lv_tableIn (x := nI 14) (off := 846) (tgt := 885) hx hb dL_law_39 (by decide) (by decide) (by rfl) (by decide) (law_shiftOf_all CC hL9 hi9 hj9 KK a mc n now lim F lit fo fn bb th kp H locs ls cells slots hst)
  | 15, _ => exact lv_tableIn (x := nI 15) (off := 902) (tgt := 941) hx hb dL_law_39 (by decide) (by decide) (by rfl) (by decide) (law_shone_all CC hL9 hi9 hj9 KK a mc n now lim F lit fo fn bb th kp H locs ls cells slots hst)
  | 16, _ => exact lv_tableIn (x := nI 16) (off := 958) (tgt := 997) hx hb dL_law_39 (by decide) (by decide) (by rfl) (by decide) (law_stayedDark_all CC hL9 hi9 hj9 KK a mc n now lim F lit fo fn bb th kp H locs ls cells slots hst)
  | 17, _ => exact lv_tableIn (x := nI 17) (off := 1014) (tgt := 1053) hx hb dL_law_39 (by decide) (by decide) (by rfl) (by decide) (law_seen_all CC hL9 hi9 hj9 KK a mc n now lim F lit fo fn bb th kp H locs ls cells slots hst)
  | 18, _ => exact lv_tableIn (x := nI 18) (off := 1070) (tgt := 1109) hx hb dL_law_39 (by decide) (by decide) (by rfl) (by decide) (law_unfairness CC hL9 hi9 hj9 KK a mc n now lim F lit fo fn bb th kp H locs ls cells slots hst)
  | 19, _ => exact lv_tableIn (x := nI 19) (off := 1083) (tgt := 1122) hx hb dL_law_39 (by decide) (by decide) (by rfl) (by decide) (law_together CC hL9 hi9 hj9 KK a mc n now lim F lit fo fn bb th kp H locs ls cells slots hst)
  | 20, _ => exact lv_tableIn (x := nI 20) (off := 1097) (tgt := 1136) hx hb dL_law_39 (by decide) (by decide) (by rfl) (by decide) (law_divisor_all CC hL9 hi9 hj9 KK a mc n now lim F lit fo fn bb th kp H locs ls cells slots hst)
  | 21, _ => exact lv_tableIn (x := nI 21) (off := 1165) (tgt := 1204) hx hb dL_law_39 (by decide) (by decide) (by rfl) (by decide) (law_meet_all CC hL9 hi9 hj9 KK a mc n now lim F lit fo fn bb th kp H locs ls cells slots hst)
  | 22, _ => exact lv_tableIn (x := nI 22) (off := 1240) (tgt := 1279) hx hb dL_law_39 (by decide) (by decide) (by rfl) (by decide) (law_beatsUntilMeet_all CC hL9 hi9 hj9 KK a mc n now lim F lit fo fn bb th kp H locs ls cells slots hst)
  | 23, _ => exact lv_tableIn (x := nI 23) (off := 1308) (tgt := 1347) hx hb dL_law_39 (by decide) (by decide) (by rfl) (by decide) (law_meets_all CC hL9 hi9 hj9 KK a mc n now lim F lit fo fn bb th kp H locs ls cells slots hst)
  | 24, _ => exact lv_tableIn (x := nI 24) (off := 1364) (tgt := 1403) hx hb dL_law_39 (by decide) (by decide) (by rfl) (by decide) (law_apart CC hL9 hi9 hj9 KK a mc n now lim F lit fo fn bb th kp H locs ls cells slots hst)
  | 25, _ => exact lv_tableIn (x := nI 25) (off := 1377) (tgt := 1416) hx hb dL_law_39 (by decide) (by decide) (by rfl) (by decide) (law_bestShift_all CC hL9 hi9 hj9 KK a mc n now lim F lit fo fn bb th kp H locs ls cells slots hst)
  | 26, _ => exact lv_tableIn (x := nI 26) (off := 1433) (tgt := 1472) hx hb dL_law_39 (by decide) (by decide) (by rfl) (by decide) (law_dueIn_all CC hL9 hi9 hj9 KK a mc n now lim F lit fo fn bb th kp H locs ls cells slots hst)
  | 27, _ => exact lv_tableIn (x := nI 27) (off := 1501) (tgt := 1540) hx hb dL_law_39 (by decide) (by decide) (by rfl) (by decide) (law_brightest_all CC hL9 hi9 hj9 KK a mc n now lim F lit fo fn bb th kp H locs ls cells slots hst)
  | 28, _ => exact lv_tableIn (x := nI 28) (off := 1557) (tgt := 1596) hx hb dL_law_39 (by decide) (by decide) (by rfl) (by decide) (law_unfairnessIn_all CC hL9 hi9 hj9 KK a mc n now lim F lit fo fn bb th kp H locs ls cells slots hst)
  | 29, _ => exact lv_tableIn (x := nI 29) (off := 1613) (tgt := 1652) hx hb dL_law_39 (by decide) (by decide) (by rfl) (by decide) (law_limitWanted_all CC hL9 hi9 hj9 KK a mc n now lim F lit fo fn bb th kp H locs ls cells slots hst)
  | 30, _ => exact lv_tableIn (x := nI 30) (off := 1669) (tgt := 1708) hx hb dL_law_39 (by decide) (by decide) (by rfl) (by decide) (law_meanShone CC hL9 hi9 hj9 KK a mc n now lim F lit fo fn bb th kp H locs ls cells slots hst)
  | 31, _ => exact lv_tableIn (x := nI 31) (off := 1710) (tgt := 1749) hx hb dL_law_39 (by decide) (by decide) (by rfl) (by decide) (law_digest CC hL9 hi9 hj9 KK a mc n now lim F lit fo fn bb th kp H locs ls cells slots hst)
  | q9 + 32, hq => exact absurd hq (by omega)

theorem law_loop {p : Program} {l : Launch} {e : Env} {s : State} {m : MethodId} {b : Nat} {below : List Frame} {meth : Method} {c : Code} {E : GE} {A : Nat → Prop} {z0 L o : Nat} {xs : Nat → Int32} {Q : State → Prop} (CC : LC p l s m b c E A z0 L xs) (hL9 : L ≤ 2560) (KE : ∀ j, j ≤ 512 → LK p l e s m b below meth c E A z0 o Q 1769 (5 * j) j) : ∀ tk j : Nat, 512 - j < tk → j ≤ 512 → LK p l e s m b below meth c E A z0 o Q 23 (5 * j) j
  | 0, j, h, _ => absurd h (Nat.not_lt_zero _)
  | tk + 1, j, htk, hj => by
    intro a mc n now lim F lit fo fn bb th kp H locs ls cells slots hst
    obtain ⟨hx, hb, hml, hown, hts, hK, hZ, hT, hA, hbA, hX, hbl, hl9⟩ := id CC
    obtain ⟨hO, hnw, hz, hcl, hsl, hP, hD, hS, hl⟩ := id hst
    refine lv_iload hx hb dL_law_23 (lv_at hl 4 rfl) ?_
    refine lv_aload_n hx hb dL_law_25 rfl (lv_at hl 0 rfl) ?_
    refine va_slen hx hb hX hbl hbA hS dL_law_26 ?_
    refine nq_top (show Int32.ofNat L = nI L from rfl) ?_
    refine lv_iconst (v := (nI 5)) hx hb dL_law_27 (by decide) ?_
    refine nq_subi hx hb dL_law_28 ?_
    refine nq_top2 (show nI (5 * j) = iI ((5 * j : Nat) : Int) from (iI_n _).symm) ?_
    refine iq_icmp_gt (tgt := 1769) hx hb dL_law_29 (by decide) (by omega) (by omega) (fun h29 => ?_) (fun h29 => ?_)
    · exact KE j hj a mc n now lim F lit fo fn bb th kp H locs ls cells slots hst
    · refine law_step CC hL9 (i := 5 * j) (by omega) (j := j) (by omega) ?_ a mc n now lim F lit fo fn bb th kp H locs ls cells slots hst
      intro a mc n now lim F lit fo fn bb th kp H locs ls cells slots hst
      obtain ⟨hO, hnw, hz, hcl, hsl, hP, hD, hS, hl⟩ := hst
      refine nq_inc (lv' := [(4, .int (nI (5 * j + 5))), (0, .ref b), (1, .ref (a 0)), (2, .ref (bb 0)), (3, .ref o)]) hx hb dL_law_1763 (d := 5) rfl hl (k := 4) rfl (by decide) rfl (fun ls hl => ?_)
      refine lv_goto (tgt := 23) hx hb dL_law_1766 (by decide) ?_
      exact law_loop CC hL9 KE tk (j + 1) (by omega) (by omega) a mc n now lim F lit fo fn bb th kp H locs ls cells slots ⟨hO, hnw, hz, hcl, hsl, hP, hD, hS, by rw [show 5 * (j + 1) = 5 * j + 5 by omega]; exact lv_sub hl [1, 2, 3, 4, 0] rfl⟩

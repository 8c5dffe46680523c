/-! how fair: both ways come to the same -/
theorem drkS_s (F : LR) (lim b k : Nat) : drkS F lim b (k + 1) = (drkS F lim b k || (due F k b && !litS F lim b k)) := rfl
/-- the reference's way: over the lamps' colours -/
def mxS (F : LR) (n : Nat) : Nat → Nat | 0 => seenS F (F 0 2) n | k + 1 => max (mxS F n k) (seenS F (F (k + 1) 2) n)
def mnS (F : LR) (n : Nat) : Nat → Nat | 0 => seenS F (F 0 2) n | k + 1 => min (mnS F n k) (seenS F (F (k + 1) 2) n)
/-- of n lamps: the places 0 .. n-1 -/
def unfS (F : LR) (n : Nat) : Nat := if n = 0 then 0 else mxS F n (n - 1) - mnS F n (n - 1)
theorem mxS_s (F : LR) (n k : Nat) : mxS F n (k + 1) = max (mxS F n k) (seenS F (F (k + 1) 2) n) := rfl
theorem mnS_s (F : LR) (n k : Nat) : mnS F n (k + 1) = min (mnS F n k) (seenS F (F (k + 1) 2) n) := rfl
theorem mx_ge (F : LR) (n : Nat) : ∀ k j, j ≤ k → mnS F n k ≤ seenS F (F j 2) n ∧ seenS F (F j 2) n ≤ mxS F n k
  | 0, j, hj => by rw [show j = 0 by omega]; exact ⟨Nat.le_refl _, Nat.le_refl _⟩
  | k + 1, j, hj => by
    rw [mxS_s, mnS_s]
    rcases Nat.lt_or_ge k j with z | z
    · rw [show j = k + 1 by omega]; omega
    · have h := mx_ge F n k j z
      omega
theorem mx_is (F : LR) (n : Nat) : ∀ k, (∃ j, j ≤ k ∧ mxS F n k = seenS F (F j 2) n) ∧ ∃ j, j ≤ k ∧ mnS F n k = seenS F (F j 2) n
  | 0 => ⟨⟨0, Nat.le_refl _, rfl⟩, 0, Nat.le_refl _, rfl⟩
  | k + 1 => by
    obtain ⟨⟨j, h1, h2⟩, i, h3, h4⟩ := mx_is F n k
    rw [mxS_s, mnS_s]
    refine ⟨?_, ?_⟩
    · rcases Nat.le_total (mxS F n k) (seenS F (F (k + 1) 2) n) with z | z
      · exact ⟨k + 1, Nat.le_refl _, Nat.max_eq_right z⟩
      · exact ⟨j, by omega, by rw [Nat.max_eq_left z]; exact h2⟩
    · rcases Nat.le_total (mnS F n k) (seenS F (F (k + 1) 2) n) with z | z
      · exact ⟨i, by omega, by rw [Nat.min_eq_left z]; exact h4⟩
      · exact ⟨k + 1, Nat.le_refl _, Nat.min_eq_right z⟩
/-- where some lamp has the colour the class's sum is the sum; else it is -1 -/
theorem foOf_seen {F G : LR} {fo : Nat → Nat} {n : Nat} (h : ∀ j, j < n → fo j = G j 5) (h2' : ∀ j, G j 2 = F j 2) (c : Nat) : ∀ k, k ≤ n → ((∃ j, j < k ∧ F j 2 = c) → foOf F fo c k = (seenS G c k : Int)) ∧ ((∀ j, j < k → F j 2 ≠ c) → foOf F fo c k = -1)
  | 0, _ => ⟨fun q => by obtain ⟨j, hj, -⟩ := q; omega, fun _ => rfl⟩
  | k + 1, hk => by
    obtain ⟨h1, h2⟩ := foOf_seen h h2' c k (by omega)
    have h3 : seenS G c (k + 1) = seenS G c k + (if F k 2 = c then G k 5 else 0) := by
      show seenS G c k + (if G k 2 = c then G k 5 else 0) = _
      rw [h2']
    have h4 := h k (by omega)
    rw [foOf_s]
    refine ⟨fun q => ?_, fun q => ?_⟩
    · by_cases hc : F k 2 = c
      · rw [if_pos hc, h3, if_pos hc]
        by_cases he : ∃ j, j < k ∧ F j 2 = c
        · rw [h1 he]; omega
        · have h5 : ∀ j, j < k → F j 2 ≠ c := fun j hj hq => he ⟨j, hj, hq⟩
          have h6 : ∀ i, i ≤ k → seenS G c i = 0 := by
            intro i
            induction i with
            | zero => intro _; rfl
            | succ i ih =>
              intro hi
              show seenS G c i + (if G i 2 = c then G i 5 else 0) = 0
              rw [ih (by omega), if_neg (by rw [h2']; exact h5 i (by omega))]
          rw [h2 h5, h6 k (Nat.le_refl _)]; omega
      · rw [if_neg hc, h3, if_neg hc]
        obtain ⟨j, hj, hq⟩ := q
        have hjk : j < k := by
          rcases Nat.lt_or_ge j k with z | z
          · exact z
          · exact absurd hq (by rw [show j = k by omega]; exact hc)
        rw [h1 ⟨j, hjk, hq⟩]; omega
    · rw [if_neg (q k (by omega))]
      exact h2 (fun j hj => q j (by omega))
/-- most and least over the colours up to c, by what they are of -/
theorem mst_spec {F : LR} {fo : Nat → Nat} {n : Nat} : ∀ c, ((∀ k, k < c → foOf F fo k n < 0) → mstS F fo n c = -1 ∧ lstS F fo n c = -1) ∧ (∀ k, k < c → 0 ≤ foOf F fo k n → foOf F fo k n ≤ mstS F fo n c ∧ lstS F fo n c ≤ foOf F fo k n) ∧ ((∃ k, k < c ∧ 0 ≤ foOf F fo k n) → (∃ k, k < c ∧ 0 ≤ foOf F fo k n ∧ mstS F fo n c = foOf F fo k n) ∧ ∃ k, k < c ∧ 0 ≤ foOf F fo k n ∧ lstS F fo n c = foOf F fo k n)
  | 0 => ⟨fun _ => ⟨rfl, rfl⟩, fun k hk => absurd hk (by omega), fun q => by obtain ⟨k, hk, -⟩ := q; omega⟩
  | c + 1 => by
    obtain ⟨h1, h2, h3⟩ := mst_spec (F := F) (fo := fo) (n := n) c
    rw [mstS_s, lstS_s]
    by_cases hc : 0 ≤ foOf F fo c n
    · rw [if_pos hc, if_pos hc]
      by_cases he : ∃ k, k < c ∧ 0 ≤ foOf F fo k n
      · obtain ⟨⟨k1, g1, g2, g3⟩, k2, g4, g5, g6⟩ := h3 he
        have hl : ¬ lstS F fo n c < 0 := by omega
        rw [if_neg hl]
        refine ⟨fun q => absurd (q c (by omega)) (by omega), fun k hk hk0 => ?_, fun _ => ⟨?_, ?_⟩⟩
        · rcases Nat.lt_or_ge k c with z | z
          · have := h2 k z hk0
            omega
          · rw [show k = c by omega]; omega
        · rcases Int.le_total (mstS F fo n c) (foOf F fo c n) with z | z
          · exact ⟨c, by omega, hc, by omega⟩
          · exact ⟨k1, by omega, g2, by omega⟩
        · rcases Int.le_total (lstS F fo n c) (foOf F fo c n) with z | z
          · exact ⟨k2, by omega, g5, by omega⟩
          · exact ⟨c, by omega, hc, by omega⟩
      · have h5 : ∀ k, k < c → foOf F fo k n < 0 := fun k hk => by
          rcases Int.lt_or_le (foOf F fo k n) 0 with z | z
          · exact z
          · exact absurd ⟨k, hk, z⟩ he
        obtain ⟨g1, g2⟩ := h1 h5
        rw [if_pos (by omega)]
        refine ⟨fun q => absurd (q c (by omega)) (by omega), fun k hk hk0 => ?_, fun _ => ⟨⟨c, by omega, hc, by omega⟩, c, by omega, hc, rfl⟩⟩
        rcases Nat.lt_or_ge k c with z | z
        · exact absurd (h5 k z) (by omega)
        · rw [show k = c by omega]; omega
    · rw [if_neg hc, if_neg hc]
      refine ⟨fun q => h1 (fun k hk => q k (by omega)), fun k hk hk0 => ?_, fun q => ?_⟩
      · rcases Nat.lt_or_ge k c with z | z
        · exact h2 k z hk0
        · exact absurd hk0 (by rw [show k = c by omega]; exact hc)
      · obtain ⟨k, hk, hk0⟩ := q
        have hkc : k < c := by
          rcases Nat.lt_or_ge k c with z | z
          · exact z
          · exact absurd hk0 (by rw [show k = c by omega]; exact hc)
        obtain ⟨⟨k1, g1, g2, g3⟩, k2, g4, g5, g6⟩ := h3 ⟨k, hkc, hk0⟩
        exact ⟨⟨k1, by omega, g2, g3⟩, k2, by omega, g5, g6⟩
/-- both ways come to the same -/
theorem spread_unf {F G : LR} {fo : Nat → Nat} {n : Nat} (h : ∀ j, j < n → fo j = G j 5) (hg : ∀ j, G j 2 = F j 2) (hc : ∀ j, j < n → F j 2 ≤ 5) : mstS F fo n 6 - lstS F fo n 6 = ((unfS G n : Nat) : Int) := by
  unfold unfS
  by_cases hn : n = 0
  · rw [if_pos hn]
    have h1 := (mst_spec (F := F) (fo := fo) (n := n) 6).1 (fun k _ => by rw [hn]; show (-1 : Int) < 0; decide)
    omega
  · rw [if_neg hn]
    obtain ⟨-, h2, h3⟩ := mst_spec (F := F) (fo := fo) (n := n) 6
    have key : ∀ j, j < n → foOf F fo (F j 2) n = (seenS G (F j 2) n : Int) := fun j hj => (foOf_seen h hg (F j 2) n (Nat.le_refl _)).1 ⟨j, hj, rfl⟩
    have back : ∀ k, 0 ≤ foOf F fo k n → ∃ j, j < n ∧ F j 2 = k := fun k hk => by
      by_cases he : ∃ j, j < n ∧ F j 2 = k
      · exact he
      · have := (foOf_seen h hg k n (Nat.le_refl _)).2 (fun j hj hq => he ⟨j, hj, hq⟩)
        omega
    have h0 : 0 ≤ foOf F fo (F 0 2) n := by rw [key 0 (by omega)]; omega
    obtain ⟨⟨k1, g1, g2, g3⟩, k2, g4, g5, g6⟩ := h3 ⟨F 0 2, by have := hc 0 (by omega); omega, h0⟩
    obtain ⟨j1, a1, a2⟩ := back k1 g2
    obtain ⟨j2, b1, b2⟩ := back k2 g5
    obtain ⟨⟨i1, c1, c2⟩, i2, d1, d2⟩ := mx_is G n (n - 1)
    have e1 := mx_ge G n (n - 1) j1 (by omega)
    have e2 := mx_ge G n (n - 1) j2 (by omega)
    have f1 := h2 (F i1 2) (by have := hc i1 (by omega); omega) (by rw [key i1 (by omega)]; omega)
    have f2 := h2 (F i2 2) (by have := hc i2 (by omega); omega) (by rw [key i2 (by omega)]; omega)
    rw [key i1 (by omega)] at f1
    rw [key i2 (by omega)] at f2
    rw [hg] at e1 e2 c2 d2
    have x1 := key j1 a1
    have x2 := key j2 b1
    rw [a2] at x1 e1
    rw [b2] at x2 e2
    omega
/-- what shone of a lamp after k beats -/
theorem pass_5 {F : LR} {lim now n j : Nat} (hj : j < n) (k : Nat) : passF F lim now n (k + 1) j 5 = passF F lim now n k j 5 + (litS F lim (now + k) j).toNat := by
  show stepF (passF F lim now n k) lim (now + k) n j 5 = _
  unfold stepF
  rw [if_pos ⟨hj, rfl⟩, pass_litS]

/-! what the law says, in plain numbers -/
theorem lit_due {F : LR} {lim b k : Nat} (h : litS F lim b k = true) : due F k b = true := by
  simp only [litS, Bool.and_eq_true] at h
  exact h.1
theorem lit_le {F : LR} {lim b k : Nat} (h : litS F lim b k = true) : acS F lim b k + F k 1 ≤ lim := by
  simp only [litS, Bool.and_eq_true, decide_eq_true_eq] at h
  exact h.2
theorem lit_not {F : LR} {lim b k : Nat} (h : litS F lim b k = false) (hd : due F k b = true) : lim < acS F lim b k + F k 1 := by
  rcases Nat.lt_or_ge lim (acS F lim b k + F k 1) with q | q
  · exact q
  · have : litS F lim b k = true := by simp only [litS, Bool.and_eq_true, decide_eq_true_eq]; exact ⟨hd, q⟩
    rw [this] at h
    cases h
theorem lcm_per (F : LR) : ∀ n i, i < n → F i 0 ∣ lcmS F n
  | 0, i, h => absurd h (Nat.not_lt_zero _)
  | n + 1, i, h => by
    show F i 0 ∣ Nat.lcm (lcmS F n) (F n 0)
    rcases Nat.lt_or_ge i n with q | q
    · exact Nat.dvd_trans (lcm_per F n i q) (Nat.dvd_lcm_left _ _)
    · have e : i = n := by omega
      subst e
      exact Nat.dvd_lcm_right _ _
theorem sumS_s (F : LR) (k : Nat) : sumS F (k + 1) = sumS F k + F k 5 := rfl
set_option maxRecDepth 100000 in
theorem sumS_bd {n now lim : Nat} {F : LR} (h : OkS n now lim F) (hn : now ≤ 100000) : ∀ k, k ≤ n → sumS F k ≤ k * 100000
  | 0, _ => Nat.zero_le _
  | k + 1, hk => by
    have h1 := sumS_bd h hn k (by omega)
    have h2 := h.2.2.2.1 k (by omega)
    rw [sumS_s, Nat.succ_mul]
    omega
def seC (F : LR) (n : Nat) : Nat → Nat | 0 => 0 | c + 1 => seC F n c + seenS F c n
theorem seC_s (F : LR) (n c : Nat) : seC F n (c + 1) = seC F n c + seenS F c n := rfl
theorem seC_6 (F : LR) (n : Nat) : seC F n 6 = seenS F 0 n + seenS F 1 n + seenS F 2 n + seenS F 3 n + seenS F 4 n + seenS F 5 n := by
  rw [seC_s, seC_s, seC_s, seC_s, seC_s, seC_s, show seC F n 0 = 0 from rfl, Nat.zero_add]
theorem seC_sum {F : LR} {n : Nat} (h : ∀ i, i < n → F i 2 ≤ 5) : ∀ k, k ≤ n → seC F k 6 = sumS F k
  | 0, _ => rfl
  | k + 1, hk => by
    have h1 := seC_sum h k (by omega)
    have h2 := h k (by omega)
    rw [seC_6] at h1
    rw [seC_6, seenS_s, seenS_s, seenS_s, seenS_s, seenS_s, seenS_s, sumS_s, ← h1]
    have h3 : F k 2 = 0 ∨ F k 2 = 1 ∨ F k 2 = 2 ∨ F k 2 = 3 ∨ F k 2 = 4 ∨ F k 2 = 5 := by omega
    rcases h3 with e | e | e | e | e | e <;> rw [e] <;> simp <;> omega
set_option maxRecDepth 100000 in
theorem seC_bd {n now lim : Nat} {F : LR} (h : OkS n now lim F) (hn : now ≤ 100000) : ∀ c, seC F n c ≤ c * 800000
  | 0 => Nat.zero_le _
  | c + 1 => by
    have h1 := seC_bd h hn c
    have h2 := seenS_m h hn c
    rw [seC_s, Nat.succ_mul]
    omega
/-! when two light up together -/
theorem least {P : Nat → Prop} : ∀ n, P n → ∃ m, P m ∧ ∀ k, k < m → ¬ P k := by
  intro n
  induction n using Nat.strongRecOn with
  | ind n ih =>
    intro h
    by_cases q : ∃ k, k < n ∧ P k
    · obtain ⟨k, h1, h2⟩ := q
      exact ih k h1 h2
    · exact ⟨n, h, fun k hk hp => q ⟨k, hk, hp⟩⟩
def bothZ (F : LR) (now i j u : Nat) : Prop := ph F i (now + u) = 0 ∧ ph F j (now + u) = 0
theorem zero_wait {F : LR} {now i u : Nat} (h : 2 ≤ F i 0) (hu : ph F i (now + u) = 0) : ∃ q, u = wait F i now + q * F i 0 := by
  unfold ph at hu
  have h1 : (now + F i 3) % F i 0 < F i 0 := Nat.mod_lt _ (by omega)
  have h2 := Nat.div_add_mod (now + F i 3) (F i 0)
  have h3 := Nat.div_add_mod (now + u + F i 3) (F i 0)
  rw [hu] at h3
  unfold wait
  have hp : ph F i now = (now + F i 3) % F i 0 := rfl
  rw [hp]
  generalize (now + F i 3) % F i 0 = r at h1 h2
  generalize (now + F i 3) / F i 0 = A at h2
  generalize (now + u + F i 3) / F i 0 = B at h3
  have hAB : A ≤ B := by
    rcases Nat.lt_or_ge B A with q | q
    · have h4 : F i 0 * (B + 1) ≤ F i 0 * A := Nat.mul_le_mul_left _ q
      rw [Nat.mul_succ] at h4
      omega
    · exact q
  obtain ⟨D, rfl⟩ : ∃ D, B = A + D := ⟨B - A, by omega⟩
  rw [Nat.mul_add] at h3
  by_cases hr : r = 0
  · rw [if_pos hr]
    exact ⟨D, by rw [Nat.mul_comm D]; omega⟩
  · rw [if_neg hr]
    rcases D with _ | D
    · rw [Nat.mul_zero] at h3
      omega
    · refine ⟨D, ?_⟩
      rw [Nat.mul_succ] at h3
      rw [Nat.mul_comm D]
      omega
theorem until_least {F : LR} {now i j : Nat} (h : 2 ≤ F i 0 ∧ F i 0 ≤ 20) (h2 : 2 ≤ F j 0 ∧ F j 0 ≤ 20) : (untilS F now i j = -1 ∧ ∀ u, ¬ bothZ F now i j u) ∨ ∃ u : Nat, untilS F now i j = (u : Int) ∧ bothZ F now i j u ∧ ∀ v, bothZ F now i j v → u ≤ v := by
  by_cases hq : ∃ q, ph F j (now + (wait F i now + q * F i 0)) = 0
  · obtain ⟨q, hq⟩ := hq
    have hm := until_meet (by omega) hq
    obtain ⟨k, hk, hk0⟩ := meet_until (now := now) h h2 hm
    obtain ⟨m9, hm9, hmin⟩ := least (P := fun q => ph F j (now + (wait F i now + q * F i 0)) = 0) k hk0
    have hmk : m9 < F j 0 := by
      rcases Nat.lt_or_ge k m9 with z | z
      · exact absurd hk0 (hmin k z)
      · omega
    refine Or.inr ⟨wait F i now + m9 * F i 0, ufind_at hmk hm9 hmin, ⟨wait_ph (by omega) m9, hm9⟩, fun v hv => ?_⟩
    obtain ⟨q2, rfl⟩ := zero_wait (by omega) hv.1
    rcases Nat.lt_or_ge q2 m9 with z | z
    · exact absurd hv.2 (hmin q2 z)
    · have := Nat.mul_le_mul_right (F i 0) z
      omega
  · refine Or.inl ⟨ufind_no _ _ (fun q e => hq ⟨q, e⟩), fun u hu => ?_⟩
    obtain ⟨q2, rfl⟩ := zero_wait (by omega) hu.1
    exact hq ⟨q2, hu.2⟩
theorem until_symm {F : LR} {now i j : Nat} (h : 2 ≤ F i 0 ∧ F i 0 ≤ 20) (h2 : 2 ≤ F j 0 ∧ F j 0 ≤ 20) : untilS F now i j = untilS F now j i := by
  rcases until_least (now := now) h h2 with ⟨e1, n1⟩ | ⟨u, e1, z1, l1⟩
  · rcases until_least (now := now) h2 h with ⟨e2, n2⟩ | ⟨v, e2, z2, l2⟩
    · rw [e1, e2]
    · exact absurd ⟨z2.2, z2.1⟩ (n1 v)
  · rcases until_least (now := now) h2 h with ⟨e2, n2⟩ | ⟨v, e2, z2, l2⟩
    · exact absurd ⟨z1.2, z1.1⟩ (n2 u)
    · have a := l1 v ⟨z2.2, z2.1⟩
      have b := l2 u ⟨z1.2, z1.1⟩
      rw [e1, e2]
      omega
theorem until_mt {F : LR} {now i j : Nat} (h : 2 ≤ F i 0 ∧ F i 0 ≤ 20) (h2 : 2 ≤ F j 0 ∧ F j 0 ≤ 20) : meetS F i (F i 3 : Int) j = decide (0 ≤ untilS F now i j) := by
  rcases until_least (now := now) h h2 with ⟨e1, n1⟩ | ⟨u, e1, z1, l1⟩
  · rw [e1, show decide ((0 : Int) ≤ -1) = false from by decide]
    cases hm : meetS F i (F i 3 : Int) j with
    | false => rfl
    | true =>
      obtain ⟨k, hk, hk0⟩ := meet_until (now := now) h h2 hm
      exact absurd ⟨wait_ph (by omega) k, hk0⟩ (n1 _)
  · rw [e1, show decide ((0 : Int) ≤ (u : Int)) = true from decide_eq_true (by omega)]
    obtain ⟨q2, rfl⟩ := zero_wait (by omega) z1.1
    exact until_meet (by omega) z1.2
theorem ph_add (F : LR) (i now u : Nat) : (ph F i now + u) % F i 0 = ph F i (now + u) := by
  unfold ph
  rw [Nat.mod_add_mod]
  congr 1
  omega
theorem until_nat {F : LR} {now i j : Nat} (h : 2 ≤ F i 0 ∧ F i 0 ≤ 20) (h2 : 2 ≤ F j 0 ∧ F j 0 ≤ 20) (h0 : 0 ≤ untilS F now i j) : ∃ u : Nat, untilS F now i j = (u : Int) ∧ u ≤ 1000 ∧ (ph F i now + u) % F i 0 = 0 ∧ (ph F j now + u) % F j 0 = 0 := by
  have hb := until_bd (now := now) h h2.2
  rcases until_least (now := now) h h2 with ⟨e1, -⟩ | ⟨u, e1, z1, -⟩
  · omega
  · exact ⟨u, e1, by omega, by rw [ph_add]; exact z1.1, by rw [ph_add]; exact z1.2⟩
/-! the best shift -/
theorem best_min (F : LR) (n i : Nat) : ∀ s t, t ≤ s → mtS F i ((bestS F n i s : Nat) : Int) n ≤ mtS F i ((t : Nat) : Int) n ∧ (mtS F i ((t : Nat) : Int) n = mtS F i ((bestS F n i s : Nat) : Int) n → bestS F n i s ≤ t)
  | 0, t, h => by
    have e : t = 0 := by omega
    subst e
    exact ⟨Nat.le_refl _, fun _ => Nat.le_refl _⟩
  | s + 1, t, h => by
    rw [bestS_s]
    by_cases q : mtS F i ((s + 1 : Nat) : Int) n < mtS F i ((bestS F n i s : Nat) : Int) n
    · rw [if_pos q]
      rcases Nat.lt_or_ge s t with z | z
      · have e : t = s + 1 := by omega
        subst e
        exact ⟨Nat.le_refl _, fun _ => Nat.le_refl _⟩
      · have h1 := best_min F n i s t z
        exact ⟨by omega, fun e => by omega⟩
    · rw [if_neg q]
      rcases Nat.lt_or_ge s t with z | z
      · have e : t = s + 1 := by omega
        subst e
        have h1 := bestS_le F n i s
        exact ⟨by omega, fun e => by omega⟩
      · exact best_min F n i s t z
theorem mt_up (F : LR) (i v : Nat) (z : Int) : ∀ k, mtS (up2 F i 3 v) i z k = mtS F i z k
  | 0 => rfl
  | k + 1 => by
    rw [mtS_s, mtS_s, mt_up F i v z k]
    by_cases hk : k = i
    · rw [if_neg (fun q => q.1 hk), if_neg (fun q => q.1 hk)]
    · have e : meetS (up2 F i 3 v) i z k = meetS F i z k := by
        unfold meetS
        have e1 : up2 F i 3 v k 3 = F k 3 := by simp [up2, hk]
        have e2 : up2 F i 3 v i 0 = F i 0 := by simp [up2]
        have e3 : up2 F i 3 v k 0 = F k 0 := by simp [up2]
        rw [e1, e2, e3]
      rw [e]
theorem up_back (F : LR) (i v : Nat) : up2 (up2 F i 3 v) i 3 (F i 3) = F := by
  funext j q
  unfold up2
  by_cases h : j = i ∧ q = 3
  · rw [if_pos h, h.1, h.2]
  · rw [if_neg h, if_neg h]
theorem up_3 (F : LR) (i v : Nat) : up2 F i 3 v i 3 = v := by simp [up2]
/-! none stays dark, if the limit is wide enough -/
theorem ac_dp (F : LR) (lim b : Nat) : ∀ k, acS F lim b k ≤ dpS F b k
  | 0 => Nat.le_refl _
  | k + 1 => by
    have h1 := ac_dp F lim b k
    rw [acS_s, dpS_s]
    by_cases h : litS F lim b k = true
    · rw [if_pos h, if_pos (lit_due h)]
      omega
    · rw [if_neg h]
      omega
theorem drk_iff (F : LR) (lim b : Nat) : ∀ k, (drkS F lim b k = false ↔ dpS F b k ≤ lim) ∧ (dpS F b k ≤ lim → acS F lim b k = dpS F b k)
  | 0 => ⟨⟨fun _ => Nat.zero_le _, fun _ => rfl⟩, fun _ => rfl⟩
  | k + 1 => by
    obtain ⟨h1, h2⟩ := drk_iff F lim b k
    rw [drkS_s, acS_s, dpS_s]
    cases hd : due F k b with
    | false =>
      have hl : litS F lim b k = false := by simp [litS, hd]
      rw [hl]
      simp only [Bool.false_and, Bool.or_false, Bool.false_eq_true, if_false, Nat.add_zero]
      exact ⟨h1, h2⟩
    | true =>
      cases hl : litS F lim b k with
      | true =>
        have h3 := lit_le hl
        simp only [Bool.not_true, Bool.and_false, Bool.or_false, if_true]
        by_cases h4 : dpS F b k ≤ lim
        · have h5 := h2 h4
          exact ⟨⟨fun _ => by omega, fun _ => h1.mpr h4⟩, fun _ => by omega⟩
        · refine ⟨⟨fun q => absurd (h1.mp q) h4, fun q => by omega⟩, fun q => by omega⟩
      | false =>
        have h3 := lit_not hl hd
        have h6 := ac_dp F lim b k
        simp only [Bool.not_false, Bool.and_true, Bool.or_true, if_true, Bool.false_eq_true, if_false]
        exact ⟨⟨fun q => (by cases q), fun q => (by omega)⟩, fun q => by omega⟩
theorem pass_drk (F : LR) (lim now n lm c k : Nat) : ∀ i, drkS (passF F lim now n k) lm c i = drkS F lm c i
  | 0 => rfl
  | i + 1 => by rw [drkS_s, drkS_s, pass_drk F lim now n lm c k i, pass_due, pass_litS]
theorem passD_0 (F : LR) (lim now n : Nat) : ∀ k, passD F lim now n k = 0 ↔ mxD F now n k ≤ lim
  | 0 => ⟨fun _ => Nat.zero_le _, fun _ => rfl⟩
  | k + 1 => by
    have h1 := passD_0 F lim now n k
    have h2 := (drk_iff F lim (now + k) n).1
    rw [passD_s, mxD_s, pass_drk]
    cases hd : drkS F lim (now + k) n with
    | false =>
      have h3 := h2.mp hd
      simp only [Bool.toNat_false, Nat.add_zero]
      exact ⟨fun q => by have := h1.mp q; omega, fun q => h1.mpr (by omega)⟩
    | true =>
      have h3 : ¬ dpS F (now + k) n ≤ lim := fun q => by rw [h2.mpr q] at hd; cases hd
      simp only [Bool.toNat_true]
      exact ⟨fun q => by omega, fun q => by omega⟩
theorem mxA_lim (F : LR) (lim now n : Nat) : ∀ k, mxA F lim now n k ≤ lim
  | 0 => Nat.zero_le _
  | k + 1 => by
    have h1 := mxA_lim F lim now n k
    have h2 := acS_lim F lim (now + k) n
    rw [mxA_s]
    omega
theorem mxA_mxD (F : LR) (lim now n : Nat) : ∀ k, mxA F lim now n k ≤ mxD F now n k
  | 0 => Nat.le_refl _
  | k + 1 => by
    have h1 := mxA_mxD F lim now n k
    have h2 := ac_dp F lim (now + k) n
    rw [mxA_s, mxD_s]
    omega
theorem mxA_eq (F : LR) (lim now n : Nat) : ∀ k, mxD F now n k ≤ lim → mxA F lim now n k = mxD F now n k
  | 0, _ => rfl
  | k + 1, h => by
    rw [mxD_s] at h
    have h1 := mxA_eq F lim now n k (by omega)
    have h2 := (drk_iff F lim (now + k) n).2 (by omega)
    rw [mxA_s, mxD_s, h1, h2]
/-! beats in which a lamp is due -/
def dwN (p len c : Nat) : Nat → Nat | 0 => 0 | k + 1 => dwN p len c k + (if (c + k) % p < len then 1 else 0)
theorem dwN_s (p len c k : Nat) : dwN p len c (k + 1) = dwN p len c k + (if (c + k) % p < len then 1 else 0) := rfl
theorem dwN_h (p len c : Nat) : ∀ k, dwN p len c (k + 1) = (if c % p < len then 1 else 0) + dwN p len (c + 1) k
  | 0 => by
    rw [dwN_s]
    show 0 + _ = _ + 0
    rw [Nat.add_zero, Nat.add_zero, Nat.zero_add]
  | k + 1 => by
    rw [dwN_s, dwN_h p len c k, dwN_s p len (c + 1) k, show c + 1 + k = c + (k + 1) by omega, Nat.add_assoc]
theorem dwN_1 (p len c : Nat) : dwN p len (c + 1) p = dwN p len c p := by
  have h1 := dwN_h p len c p
  have h2 := dwN_s p len c p
  have h3 : (c + p) % p = c % p := Nat.add_mod_right c p
  rw [h3] at h2
  omega
theorem dwN_0 {p len : Nat} (hl : len ≤ p) : ∀ k, k ≤ p → dwN p len 0 k = min k len
  | 0, _ => by rw [Nat.zero_min]; rfl
  | k + 1, hk => by
    have h1 := dwN_0 hl k (by omega)
    rw [dwN_s, h1, Nat.zero_add, Nat.mod_eq_of_lt (by omega)]
    split <;> omega
theorem dwN_p {p len : Nat} (hl : len ≤ p) : ∀ c, dwN p len c p = len
  | 0 => by
    have h := dwN_0 hl p (Nat.le_refl _)
    omega
  | c + 1 => by rw [dwN_1, dwN_p hl c]
theorem dwN_add (p len c a : Nat) : ∀ k, dwN p len c (a + k) = dwN p len c a + dwN p len (c + a) k
  | 0 => rfl
  | k + 1 => by rw [show a + (k + 1) = (a + k) + 1 by omega, dwN_s, dwN_s, dwN_add p len c a k, Nat.add_assoc, Nat.add_assoc c a k]
theorem dwN_mod (p len : Nat) : ∀ k c, dwN p len (c + p) k = dwN p len c k
  | 0, _ => rfl
  | k + 1, c => by rw [dwN_s, dwN_s, dwN_mod p len k c, show c + p + k = (c + k) + p by omega, Nat.add_mod_right]
theorem dwN_mul {p len : Nat} (hl : len ≤ p) (r c : Nat) : ∀ q, dwN p len c (p * q + r) = q * len + dwN p len c r
  | 0 => by rw [Nat.mul_zero, Nat.zero_add, Nat.zero_mul, Nat.zero_add]
  | q + 1 => by
    rw [show p * (q + 1) + r = p + (p * q + r) by rw [Nat.mul_succ]; omega, dwN_add, dwN_p hl, dwN_mod, dwN_mul hl r c q, Nat.succ_mul]
    omega
theorem cnt_cw (F : LR) (i b : Nat) : ∀ k, cntDue F i b k = dwN (F i 0) (F i 4) (b + F i 3) k
  | 0 => rfl
  | k + 1 => by
    rw [cntDue_s, dwN_s, cnt_cw F i b k]
    unfold due ph
    rw [show b + k + F i 3 = b + F i 3 + k by omega]
    simp only [decide_eq_true_eq]
theorem md_cnt {F : LR} {i : Nat} (h : F i 4 < F i 0) (b k : Nat) : mdS F i b k = cntDue F i b k := by
  have h1 := Nat.div_add_mod k (F i 0)
  unfold mdS
  rw [cnt_cw, cnt_cw]
  have h2 := dwN_mul (p := F i 0) (len := F i 4) (by omega) (k % F i 0) (b + F i 3) (k / F i 0)
  rw [h1] at h2
  exact h2.symm
theorem step_56 {F : LR} {lim b n i : Nat} (hi : i < n) : stepF F lim b n i 5 + stepF F lim b n i 6 = F i 5 + F i 6 + (if due F i b = true then 1 else 0) := by
  have e5 : stepF F lim b n i 5 = F i 5 + (litS F lim b i).toNat := by simp [stepF, hi]
  have e6 : stepF F lim b n i 6 = F i 6 + (due F i b && !litS F lim b i).toNat := by simp [stepF, hi]
  rw [e5, e6]
  cases hd : due F i b with
  | false =>
    have hl : litS F lim b i = false := by simp [litS, hd]
    rw [hl]
    simp
  | true => cases hl : litS F lim b i <;> simp <;> omega
theorem pass_56 {F : LR} {lim now n i : Nat} (hi : i < n) : ∀ k, passF F lim now n k i 5 + passF F lim now n k i 6 = F i 5 + F i 6 + cntDue F i now k
  | 0 => rfl
  | k + 1 => by
    show stepF _ _ _ _ i 5 + stepF _ _ _ _ i 6 = _
    rw [step_56 hi, pass_56 hi k, pass_due, cntDue_s, Nat.add_assoc]

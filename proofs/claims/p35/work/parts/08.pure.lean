/-! what both sides come to, in plain numbers -/
def lI (z : Int) : Int64 := Int64.ofInt z
theorem lI_n (a : Nat) : lI (a : Int) = lN a := Int64.ofInt_eq_ofNat
theorem nI_lI {a : Nat} (h : a < 2147483648) : (nI a).toInt64 = lI (a : Int) := by rw [lI_n]; exact nI_l h
theorem iI_lI {z : Int} (h : -2147483648 ≤ z ∧ z < 2147483648) : (iI z).toInt64 = lI z := by
  have h2 : (iI z).toInt = z := iI_toInt h
  refine Int64.toInt_inj.mp ?_
  unfold lI
  rw [Int32.toInt_toInt64, h2]
  exact (Int64.toInt_ofInt_of_le (by omega) (by omega)).symm
theorem lI_rem {z d : Int} (hz : -4611686018427387904 ≤ z ∧ z < 4611686018427387904) (hd : -4611686018427387904 ≤ d ∧ d < 4611686018427387904) : lI z - lI z / lI d * lI d = lI (z.tmod d) := by
  unfold lI
  rw [← Int64.ofInt_tdiv (by rw [Int64.toInt_minValue]; omega) (by rw [Int64.toInt_maxValue]; omega) (by rw [Int64.toInt_minValue]; omega) (by rw [Int64.toInt_maxValue]; omega), ← Int64.ofInt_mul, ← Int64.ofInt_sub, Int.tmod_def, Int.mul_comm]
theorem iI_rem {z d : Int} (hz : -2147483648 ≤ z ∧ z < 2147483648) (hd : -2147483648 ≤ d ∧ d < 2147483648) : iI z - iI z / iI d * iI d = iI (z.tmod d) := by
  unfold iI
  rw [← Int32.ofInt_tdiv (by rw [Int32.toInt_minValue]; omega) (by rw [Int32.toInt_maxValue]; omega) (by rw [Int32.toInt_minValue]; omega) (by rw [Int32.toInt_maxValue]; omega), ← Int32.ofInt_mul, ← Int32.ofInt_sub, Int.tmod_def, Int.mul_comm]
theorem lI_eq0 {z : Int} (hz : -4611686018427387904 ≤ z ∧ z < 4611686018427387904) : lI z = 0 ↔ z = 0 := by
  have h0 : (0 : Int64) = lI 0 := rfl
  rw [h0, ← Int64.toInt_inj]
  unfold lI
  rw [Int64.toInt_ofInt_of_le (by omega) (by omega), Int64.toInt_ofInt_of_le (by omega) (by omega)]
theorem lg_cmp0 (x y : Int64) : lg_cmp x y = 0 ↔ x = y := by
  unfold lg_cmp
  constructor
  · intro h
    split at h
    · exact absurd h (by decide)
    · split at h
      · assumption
      · exact absurd h (by decide)
  · intro h
    subst h
    have : ¬ x > x := Int64.lt_irrefl
    rw [if_neg this, if_pos rfl]
theorem tmod_bd {z d : Int} (hd : 0 < d) : -d < z.tmod d ∧ z.tmod d < d := by
  refine ⟨?_, Int.tmod_lt_of_pos z hd⟩
  have h : (-z).tmod d < d := Int.tmod_lt_of_pos (-z) hd
  rw [Int.neg_tmod] at h
  omega
/-- does d divide z, as the class asks -/
def divB (d : Nat) (z : Int) : Bool := decide (0 < d ∧ z.tmod d = 0)
theorem divB_dvd {d : Nat} (hd : 0 < d) (z : Int) : divB d z = true ↔ (d : Int) ∣ z := by
  unfold divB
  rw [decide_eq_true_eq, Int.dvd_iff_tmod_eq_zero]
  exact ⟨fun h => h.2, fun h => ⟨hd, h⟩⟩
theorem divB_nat {d : Nat} (hd : 0 < d) (a : Nat) : divB d (a : Int) = true ↔ d ∣ a := by
  rw [divB_dvd hd]
  exact Int.ofNat_dvd
theorem divB_natF {d : Nat} (hd : 0 < d) (a : Nat) : divB d (a : Int) = false ↔ ¬ d ∣ a := by
  rw [← divB_nat hd]
  cases divB d (a : Int) <;> simp
/-- the greatest common divisor, found from above -/
theorem gcd_found {p q d : Nat} (hp : 0 < p) (h1 : 0 < d) (hdp : d ∣ p) (hdq : d ∣ q) (hg : ∀ k, d < k → k ≤ p → ¬ (k ∣ p ∧ k ∣ q)) : d = Nat.gcd p q := by
  have h2 : d ∣ Nat.gcd p q := Nat.dvd_gcd hdp hdq
  have h3 : 0 < Nat.gcd p q := Nat.gcd_pos_of_pos_left q hp
  have h4 : d ≤ Nat.gcd p q := Nat.le_of_dvd h3 h2
  have h5 : Nat.gcd p q ≤ p := Nat.le_of_dvd hp (Nat.gcd_dvd_left p q)
  rcases Nat.lt_or_ge d (Nat.gcd p q) with h | h
  · exact absurd ⟨Nat.gcd_dvd_left p q, Nat.gcd_dvd_right p q⟩ (hg _ h h5)
  · omega
theorem gcd_bd {p q : Nat} (hp : 0 < p) : 0 < Nat.gcd p q ∧ Nat.gcd p q ≤ p := ⟨Nat.gcd_pos_of_pos_left q hp, Nat.le_of_dvd hp (Nat.gcd_dvd_left p q)⟩
/-- the smallest multiple, found from below -/
theorem lcm_found {m p t : Nat} (hm : 0 < m) (hp : 0 < p) (ht : 0 < t) (h : p ∣ m * t) (hn : ∀ k, 0 < k → k < t → ¬ p ∣ m * k) : m * t = Nat.lcm m p := by
  have h1 : Nat.lcm m p ∣ m * t := Nat.lcm_dvd (Nat.dvd_mul_right m t) h
  obtain ⟨s, hs⟩ := Nat.dvd_lcm_left m p
  have h2 : p ∣ m * s := by rw [← hs]; exact Nat.dvd_lcm_right m p
  have h3 : 0 < Nat.lcm m p := Nat.lcm_pos hm hp
  have hs0 : 0 < s := by
    rcases Nat.eq_zero_or_pos s with h | h
    · rw [h, Nat.mul_zero] at hs; omega
    · exact h
  have h4 : t ≤ s := by
    rcases Nat.lt_or_ge s t with h5 | h5
    · exact absurd h2 (hn s hs0 h5)
    · exact h5
  have h5 : m * s ≤ m * t := by rw [← hs]; exact Nat.le_of_dvd (Nat.mul_pos hm ht) h1
  have h6 : s ≤ t := Nat.le_of_mul_le_mul_left h5 hm
  have h7 : s = t := by omega
  rw [hs, h7]
def lcmS (F : LR) : Nat → Nat | 0 => 1 | n + 1 => Nat.lcm (lcmS F n) (F n 0)
theorem per_dvd : ∀ p, p < 21 → 2 ≤ p → p ∣ 232792560 := by decide
theorem lcmS_dvd {F : LR} {n : Nat} (h : ∀ i, i < n → 2 ≤ F i 0 ∧ F i 0 ≤ 20) : ∀ k, k ≤ n → lcmS F k ∣ 232792560 ∧ 0 < lcmS F k
  | 0, _ => ⟨Nat.one_dvd _, Nat.one_pos⟩
  | k + 1, hk => by
    obtain ⟨h1, h2⟩ := lcmS_dvd h k (by omega)
    have h3 := h k (by omega)
    exact ⟨Nat.lcm_dvd h1 (per_dvd _ (by omega) h3.1), Nat.lcm_pos h2 (by omega)⟩
theorem lcmS_bd {F : LR} {n k : Nat} (h : ∀ i, i < n → 2 ≤ F i 0 ∧ F i 0 ≤ 20) (hk : k ≤ n) : 0 < lcmS F k ∧ lcmS F k ≤ 232792560 := ⟨(lcmS_dvd h k hk).2, Nat.le_of_dvd (by decide) (lcmS_dvd h k hk).1⟩
/-- lamp i with the shift z meets lamp j, sooner or later -/
def meetS (F : LR) (i : Nat) (z : Int) (j : Nat) : Bool := decide ((z - (F j 3 : Int)).tmod (Nat.gcd (F i 0) (F j 0) : Nat) = 0)
theorem meetS_dvd (F : LR) (i : Nat) (z : Int) (j : Nat) : meetS F i z j = true ↔ ((Nat.gcd (F i 0) (F j 0) : Nat) : Int) ∣ z - (F j 3 : Int) := by
  unfold meetS
  rw [decide_eq_true_eq, Int.dvd_iff_tmod_eq_zero]
theorem meetS_symm (F : LR) (i j : Nat) : meetS F i (F i 3 : Int) j = meetS F j (F j 3 : Int) i := by
  have h : meetS F i (F i 3 : Int) j = true ↔ meetS F j (F j 3 : Int) i = true := by
    rw [meetS_dvd, meetS_dvd, Nat.gcd_comm (F j 0), ← Int.dvd_neg, Int.neg_sub]
  cases h1 : meetS F i (F i 3 : Int) j <;> cases h2 : meetS F j (F j 3 : Int) i <;> simp_all
/-- how many others lamp i meets with the shift z, of the first k -/
def mtS (F : LR) (i : Nat) (z : Int) : Nat → Nat | 0 => 0 | k + 1 => mtS F i z k + (if k ≠ i ∧ meetS F i z k = true then 1 else 0)
theorem mtS_le (F : LR) (i : Nat) (z : Int) : ∀ k, mtS F i z k ≤ k
  | 0 => Nat.le_refl _
  | k + 1 => by
    have h := mtS_le F i z k
    unfold mtS
    split <;> omega
/-- the shift with which lamp i meets the fewest, of the shifts 0 .. s -/
def bestS (F : LR) (n i : Nat) : Nat → Nat | 0 => 0 | s + 1 => if mtS F i ((s + 1 : Nat) : Int) n < mtS F i ((bestS F n i s : Nat) : Int) n then s + 1 else bestS F n i s
theorem bestS_le (F : LR) (n i : Nat) : ∀ s, bestS F n i s ≤ s
  | 0 => Nat.le_refl _
  | s + 1 => by
    have h := bestS_le F n i s
    unfold bestS
    split <;> omega
/-- pairs that never meet: of lamp i and the lamps behind it (up to k), and of all -/
def apI (F : LR) (i : Nat) : Nat → Nat | 0 => 0 | k + 1 => apI F i k + (if i < k ∧ meetS F i (F i 3 : Int) k = false then 1 else 0)
def apS (F : LR) (n : Nat) : Nat → Nat | 0 => 0 | k + 1 => apS F n k + apI F k n
theorem apI_le (F : LR) (i : Nat) : ∀ k, apI F i k ≤ k
  | 0 => Nat.le_refl _
  | k + 1 => by
    have h := apI_le F i k
    unfold apI
    split <;> omega
theorem apS_le (F : LR) (n : Nat) : ∀ k, apS F n k ≤ k * n
  | 0 => by simp [apS]
  | k + 1 => by
    have h := apS_le F n k
    have h2 := apI_le F k n
    unfold apS
    rw [Nat.succ_mul]
    omega
/-- the reference's way: of each lamp those that it does not meet, all, halved -/
def strS (F : LR) (n : Nat) : Nat → Nat | 0 => 0 | k + 1 => strS F n k + (n - 1 - mtS F k (F k 3 : Int) n)
def nmS (F : LR) (i : Nat) : Nat → Nat | 0 => 0 | k + 1 => nmS F i k + (if k ≠ i ∧ meetS F i (F i 3 : Int) k = false then 1 else 0)
theorem nm_met (F : LR) (i : Nat) : ∀ k, nmS F i k + mtS F i (F i 3 : Int) k + (if i < k then 1 else 0) = k
  | 0 => by simp [nmS, mtS]
  | k + 1 => by
    have h := nm_met F i k
    unfold nmS mtS
    by_cases h1 : k = i
    · subst h1
      simp at h ⊢
      omega
    · cases h2 : meetS F i (F i 3 : Int) k
      · simp [h1] at h ⊢
        by_cases h3 : i < k
        · rw [if_pos h3] at h; rw [if_pos (show i < k + 1 by omega)]; omega
        · rw [if_neg h3] at h; rw [if_neg (show ¬ i < k + 1 by omega)]; omega
      · simp [h1] at h ⊢
        by_cases h3 : i < k
        · rw [if_pos h3] at h; rw [if_pos (show i < k + 1 by omega)]; omega
        · rw [if_neg h3] at h; rw [if_neg (show ¬ i < k + 1 by omega)]; omega
/-- what lamps 0 .. k-1 do not meet among the first n, twice counted -/
def nmA (F : LR) (n : Nat) : Nat → Nat | 0 => 0 | k + 1 => nmA F n k + nmS F k n
theorem nmA_str {F : LR} {n : Nat} : ∀ k, k ≤ n → strS F n k = nmA F n k
  | 0, _ => rfl
  | k + 1, hk => by
    have h := nmA_str (F := F) (n := n) k (by omega)
    have h2 := nm_met F k n
    rw [if_pos (by omega)] at h2
    unfold strS nmA
    omega
/-- the columns: one lamp more is looked at -/
def colS (F : LR) (j : Nat) : Nat → Nat | 0 => 0 | k + 1 => colS F j k + (if j ≠ k ∧ meetS F k (F k 3 : Int) j = false then 1 else 0)
theorem nmA_succ (F : LR) (n : Nat) : ∀ k, nmA F (n + 1) k = nmA F n k + colS F n k
  | 0 => rfl
  | k + 1 => by
    have h := nmA_succ F n k
    unfold nmA colS
    rw [h]
    show _ + (nmS F k n + _) = _
    by_cases h1 : n ≠ k ∧ meetS F k (F k 3 : Int) n = false
    · rw [if_pos h1]; omega
    · rw [if_neg h1]; omega
theorem col_nm (F : LR) (j : Nat) : ∀ k, colS F j k = nmS F j k
  | 0 => rfl
  | k + 1 => by
    have h := col_nm F j k
    unfold colS nmS
    rw [h, meetS_symm F k j]
    by_cases h1 : j = k
    · subst h1; simp
    · have h2 : ¬ k = j := fun q => h1 q.symm
      simp [h1, h2]
theorem apI_ge (F : LR) (i : Nat) : ∀ k, k ≤ i + 1 → apI F i k = 0
  | 0, _ => rfl
  | k + 1, h => by
    unfold apI
    rw [apI_ge F i k (by omega), if_neg (by omega)]
def apC (F : LR) (j : Nat) : Nat → Nat | 0 => 0 | k + 1 => apC F j k + (if k < j ∧ meetS F k (F k 3 : Int) j = false then 1 else 0)
theorem apS_succ (F : LR) (n : Nat) : ∀ k, apS F (n + 1) k = apS F n k + apC F n k
  | 0 => rfl
  | k + 1 => by
    have h := apS_succ F n k
    unfold apS apC
    rw [h]
    show _ + (apI F k n + _) = _
    by_cases h1 : k < n ∧ meetS F k (F k 3 : Int) n = false
    · rw [if_pos h1]; omega
    · rw [if_neg h1]; omega
theorem apC_nm (F : LR) (j : Nat) : ∀ k, k ≤ j → apC F j k = nmS F j k
  | 0, _ => rfl
  | k + 1, hk => by
    have h := apC_nm F j k (by omega)
    unfold apC nmS
    rw [h, meetS_symm F k j]
    have h1 : k < j := by omega
    have h2 : ¬ k = j := by omega
    simp [h1, h2]
theorem ap_twice (F : LR) : ∀ n, nmA F n n = 2 * apS F n n
  | 0 => rfl
  | n + 1 => by
    have h := ap_twice F n
    show nmA F (n + 1) n + nmS F n (n + 1) = 2 * (apS F (n + 1) n + apI F n (n + 1))
    rw [nmA_succ, apS_succ, apI_ge F n (n + 1) (Nat.le_refl _), col_nm, apC_nm F n n (Nat.le_refl _), h]
    show _ + (nmS F n n + (if n ≠ n ∧ _ then 1 else 0)) = _
    rw [if_neg (by simp)]
    omega
theorem str_ap (F : LR) (n : Nat) : strS F n n / 2 = apS F n n := by
  rw [nmA_str n (Nat.le_refl _), ap_twice]
  omega
/-- in how many beats they meet, looked for as the class does: f more tries from the k-th on -/
def ufind (F : LR) (now i j : Nat) : Nat → Nat → Int
  | 0, _ => -1
  | f + 1, k => if ph F j (now + (wait F i now + k * F i 0)) = 0 then ((wait F i now + k * F i 0 : Nat) : Int) else ufind F now i j f (k + 1)
def untilS (F : LR) (now i j : Nat) : Int := ufind F now i j (F j 0) 0
theorem ufind_no {F : LR} {now i j : Nat} : ∀ f k, (∀ q, ph F j (now + (wait F i now + q * F i 0)) ≠ 0) → ufind F now i j f k = -1
  | 0, _, _ => rfl
  | f + 1, k, h => by
    unfold ufind
    rw [if_neg (h k)]
    exact ufind_no f (k + 1) h
theorem wait_ph {F : LR} {now i : Nat} (h : 2 ≤ F i 0) (q : Nat) : (now + (wait F i now + q * F i 0) + F i 3) % F i 0 = 0 := by
  have h1 : (now + wait F i now + F i 3) % F i 0 = 0 := by
    unfold wait
    have h2 := ph_lt (b := now) h
    split
    · assumption
    · unfold ph at *
      have h3 := Nat.div_add_mod (now + F i 3) (F i 0)
      have h4 : now + (F i 0 - (now + F i 3) % F i 0) + F i 3 = F i 0 * ((now + F i 3) / F i 0 + 1) := by
        rw [Nat.mul_succ]
        omega
      rw [h4]
      exact Nat.mul_mod_right _ _
  have h5 : now + (wait F i now + q * F i 0) + F i 3 = (now + wait F i now + F i 3) + q * F i 0 := by omega
  rw [h5, Nat.add_mul_mod_self_right]
  exact h1
theorem until_meet {F : LR} {now i j q : Nat} (h : 2 ≤ F i 0) (hq : ph F j (now + (wait F i now + q * F i 0)) = 0) : meetS F i (F i 3 : Int) j = true := by
  rw [meetS_dvd]
  have h1 := wait_ph (now := now) h q
  unfold ph at hq
  generalize now + (wait F i now + q * F i 0) = B at h1 hq
  have h2 : Nat.gcd (F i 0) (F j 0) ∣ B + F i 3 := Nat.dvd_trans (Nat.gcd_dvd_left _ _) (Nat.dvd_of_mod_eq_zero h1)
  have h3 : Nat.gcd (F i 0) (F j 0) ∣ B + F j 3 := Nat.dvd_trans (Nat.gcd_dvd_right _ _) (Nat.dvd_of_mod_eq_zero hq)
  have h4 : (F i 3 : Int) - (F j 3 : Int) = ((B + F i 3 : Nat) : Int) - ((B + F j 3 : Nat) : Int) := by omega
  rw [h4]
  exact Int.dvd_sub (Int.ofNat_dvd.mpr h2) (Int.ofNat_dvd.mpr h3)
theorem crt20 : ∀ p, p < 21 → ∀ q, q < 21 → ∀ c, c < q → c % Nat.gcd p q = 0 → ∃ k, k < q ∧ (c + k * p) % q = 0 := by
  intro p hp q hq c hc hg
  have h : (List.range 21).all (fun p => (List.range 21).all (fun q => (List.range q).all (fun c => !(c % Nat.gcd p q == 0) || (List.range q).any (fun k => (c + k * p) % q == 0)))) = true := by decide +kernel
  have h1 := List.all_eq_true.mp h p (List.mem_range.mpr hp)
  have h2 := List.all_eq_true.mp h1 q (List.mem_range.mpr hq)
  have h3 := List.all_eq_true.mp h2 c (List.mem_range.mpr hc)
  simp only [hg, beq_self_eq_true, Bool.not_true, Bool.false_or] at h3
  obtain ⟨k, hk, hk2⟩ := List.any_eq_true.mp h3
  exact ⟨k, List.mem_range.mp hk, by simpa using hk2⟩
theorem meet_until {F : LR} {now i j : Nat} (h : 2 ≤ F i 0 ∧ F i 0 ≤ 20) (h2 : 2 ≤ F j 0 ∧ F j 0 ≤ 20) (hm : meetS F i (F i 3 : Int) j = true) : ∃ k, k < F j 0 ∧ ph F j (now + (wait F i now + k * F i 0)) = 0 := by
  rw [meetS_dvd] at hm
  have h1 := wait_ph (now := now) h.1 0
  rw [Nat.zero_mul, Nat.add_zero] at h1
  have h3 : Nat.gcd (F i 0) (F j 0) ∣ now + wait F i now + F i 3 := Nat.dvd_trans (Nat.gcd_dvd_left _ _) (Nat.dvd_of_mod_eq_zero h1)
  have h4 : ((Nat.gcd (F i 0) (F j 0) : Nat) : Int) ∣ ((now + wait F i now + F j 3 : Nat) : Int) := by
    have h5 : ((now + wait F i now + F j 3 : Nat) : Int) = ((now + wait F i now + F i 3 : Nat) : Int) - ((F i 3 : Int) - (F j 3 : Int)) := by omega
    rw [h5]
    exact Int.dvd_sub (Int.ofNat_dvd.mpr h3) hm
  have h6 : Nat.gcd (F i 0) (F j 0) ∣ now + wait F i now + F j 3 := Int.ofNat_dvd.mp h4
  have h7 : Nat.gcd (F i 0) (F j 0) ∣ (now + wait F i now + F j 3) % F j 0 := (Nat.dvd_mod_iff (Nat.gcd_dvd_right _ _)).mpr h6
  obtain ⟨k, hk, hk2⟩ := crt20 (F i 0) (by omega) (F j 0) (by omega) _ (Nat.mod_lt _ (by omega)) (Nat.mod_eq_zero_of_dvd h7)
  refine ⟨k, hk, ?_⟩
  unfold ph
  have h8 : now + (wait F i now + k * F i 0) + F j 3 = (now + wait F i now + F j 3) + k * F i 0 := by omega
  rw [h8, Nat.add_mod]
  rw [Nat.add_mod, Nat.mod_mod] at hk2
  exact hk2
theorem ufind_succ (F : LR) (now i j f k : Nat) : ufind F now i j (f + 1) k = if ph F j (now + (wait F i now + k * F i 0)) = 0 then ((wait F i now + k * F i 0 : Nat) : Int) else ufind F now i j f (k + 1) := rfl
/-- the tries before the first that serves add nothing -/
theorem ufind_skip {F : LR} {now i j : Nat} : ∀ (d f k : Nat), (∀ q, k ≤ q → q < k + d → ph F j (now + (wait F i now + q * F i 0)) ≠ 0) → ufind F now i j (f + d) k = ufind F now i j f (k + d)
  | 0, _, _, _ => rfl
  | d + 1, f, k, h => by
    show ufind F now i j ((f + d) + 1) k = _
    rw [ufind_succ, if_neg (h k (Nat.le_refl _) (by omega)), ufind_skip d f (k + 1) (fun q h1 h2 => h q (by omega) (by omega)), show k + 1 + d = k + (d + 1) by omega]
/-- the k-th try is the first that serves -/
theorem ufind_at {F : LR} {now i j k : Nat} (hk : k < F j 0) (h0 : ph F j (now + (wait F i now + k * F i 0)) = 0) (hn : ∀ q, q < k → ph F j (now + (wait F i now + q * F i 0)) ≠ 0) : untilS F now i j = ((wait F i now + k * F i 0 : Nat) : Int) := by
  unfold untilS
  rw [show F j 0 = (F j 0 - k - 1 + 1) + k by omega, ufind_skip k _ 0 (fun q _ h2 => hn q (by omega)), Nat.zero_add]
  show ufind F now i j ((F j 0 - k - 1) + 1) k = _
  unfold ufind
  rw [if_pos h0]
theorem until_bd {F : LR} {now i j : Nat} (h : 2 ≤ F i 0 ∧ F i 0 ≤ 20) (h2 : F j 0 ≤ 20) : -1 ≤ untilS F now i j ∧ untilS F now i j ≤ 1000 := by
  have hw : wait F i now ≤ 20 := by unfold wait; split <;> omega
  have key : ∀ f k, f + k ≤ 20 → -1 ≤ ufind F now i j f k ∧ ufind F now i j f k ≤ 1000 := by
    intro f
    induction f with
    | zero => intro k _; unfold ufind; omega
    | succ f ih =>
      intro k hk
      unfold ufind
      split
      · have h3 : k * F i 0 ≤ 20 * 20 := Nat.mul_le_mul (by omega) h.2
        omega
      · exact ih (k + 1) (by omega)
  exact key (F j 0) 0 (by omega)

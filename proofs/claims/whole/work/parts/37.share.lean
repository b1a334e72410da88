/-! matches and shares: both programs tell the same -/
theorem l_add0 (x : Int64) : x + 0 = x := Int64.add_zero x
theorem accF_congr {f g : Nat → Int64} : ∀ n (z : Int64), (∀ k, k < n → f k = g k) → accF f n z = accF g n z
  | 0, _, _ => rfl
  | n + 1, z, h => by
    show accF f n z + f n = accF g n z + g n
    rw [accF_congr n z (fun k hk => h k (by omega)), h n (by omega)]
theorem triF_congr {f g : Nat → Nat → Int64} : ∀ P, (∀ p r, p < P → r < p → f p r = g p r) → triF f P = triF g P
  | 0, _ => rfl
  | P + 1, h => by
    show accF (f P) P (triF f P) = accF (g P) P (triF g P)
    rw [triF_congr P (fun p r hp hr => h p r (by omega) hr), accF_congr P _ (fun r hr => h P r (by omega) hr)]
theorem mOf_low (g b : Nat → Nat → Int32) (j P : Nat) : mOfF g b j 0 0 P = mLowF g b P j := by
  unfold mOfF mLowF
  rw [if_neg (by decide), l_add0, triF_congr (g := lowF g b j) P (fun p r _ _ => by
    unfold mmF lowF
    rw [if_pos rfl, if_neg (fun z => absurd z.1 (by decide)), l_add0])]
theorem mOf_whole (g b : Nat → Nat → Int32) (j P : Nat) : mOfF g b j 0 1 P = mWholeF g P j := by
  unfold mOfF mWholeF
  rw [if_neg (by decide), l_add0, triF_congr (g := wholeF g j) P (fun p r _ _ => by
    unfold mmF wholeF
    rw [if_neg (by decide), if_neg (fun z => absurd z.1 (by decide)), l_add0])]
theorem mOf_high (g b : Nat → Nat → Int32) (j P : Nat) : mOfF g b j 1 0 P = mHighF g b P j := by
  unfold mOfF mHighF
  have e : triF (mmF g b j 1 0) P = triF (highF g b j) P := triF_congr P (fun p r _ _ => by
    unfold mmF highF rootAF
    rw [if_pos rfl]
    by_cases c : rootF (fineF g p r j) * rootF (fineF g p r j) = fineF g p r j
    · rw [if_neg (fun z => z.2 c), if_pos c, l_add0]
    · rw [if_pos ⟨rfl, c⟩, if_neg c, Int64.mul_add, Int64.mul_one])
  have e2 : ∀ x : Int64, x + 255999 = x + 256000 - 1 := fun x => by
    rw [Int64.sub_eq_add_neg, Int64.add_assoc]
    congr 1
  rw [if_pos rfl, e, e2]
/-- a root is below 2 ^ 29 -/
theorem rt_bd (x : Int64) : ∀ k a : Nat, ∃ a', rtF x k (lN a) = lN a' ∧ a' < a + 2 ^ k
  | 0, a => ⟨a, rfl, by omega⟩
  | k + 1, a => by
    have e : rtF x (k + 1) (lN a) = rtF x k (if x < (lN a + bitL (k + 1)) * (lN a + bitL (k + 1)) then lN a else lN a + bitL (k + 1)) := rfl
    have e2 : lN a + bitL (k + 1) = lN (a + 2 ^ k) := by rw [bitL_s, lN_add]
    rw [e]
    by_cases c : x < (lN a + bitL (k + 1)) * (lN a + bitL (k + 1))
    · rw [if_pos c]
      obtain ⟨a', h1, h2⟩ := rt_bd x k a
      exact ⟨a', h1, by rw [Nat.pow_succ]; omega⟩
    · rw [if_neg c, e2]
      obtain ⟨a', h1, h2⟩ := rt_bd x k (a + 2 ^ k)
      exact ⟨a', h1, by rw [Nat.pow_succ]; omega⟩
theorem root_bd (x : Int64) : ∃ a, rootF x = lN a ∧ a < 2 ^ 29 := by
  obtain ⟨a, h1, h2⟩ := rt_bd x 29 0
  exact ⟨a, h1, by omega⟩
theorem l_of {b : Int32} (h1 : 0 ≤ b.toInt) : b.toInt64 = lN b.toInt.toNat := by
  have hb : b = nI b.toInt.toNat := by
    rw [← Int32.toInt_inj, nI_toInt (by have := Int32.toInt_lt b; omega)]
    omega
  have hlt : b.toInt.toNat < 2 ^ 31 := by have := Int32.toInt_lt b; omega
  exact (congrArg Int32.toInt64 hb).trans (nI_l hlt)
theorem low_bd {g b : Nat → Nat → Int32} {j : Nat} (hb : ∀ p r, p < 12 → r < 12 → 0 ≤ (b p r).toInt ∧ (b p r).toInt ≤ 1000) {p r : Nat} (hp : p < 12) (hr : r < 12) : ∃ a, lowF g b j p r = lN a ∧ a ≤ 1000 * 2 ^ 29 := by
  obtain ⟨a, h1, h2⟩ := root_bd (fineF g p r j)
  have k := hb p r hp hr
  refine ⟨(b p r).toInt.toNat * a, ?_, Nat.mul_le_mul (by omega) (by omega)⟩
  unfold lowF
  rw [h1, l_of k.1, lN_mul]
theorem acc_bd {f : Nat → Int64} {m : Nat} : ∀ n z, (∀ k, k < n → ∃ a, f k = lN a ∧ a ≤ m) → ∃ a, accF f n (lN z) = lN a ∧ a ≤ z + n * m
  | 0, z, _ => ⟨z, rfl, by omega⟩
  | n + 1, z, h => by
    obtain ⟨a, h1, h2⟩ := acc_bd n z (fun k hk => h k (by omega))
    obtain ⟨c, h3, h4⟩ := h n (by omega)
    refine ⟨a + c, ?_, by rw [Nat.succ_mul]; omega⟩
    show accF f n (lN z) + f n = lN (a + c)
    rw [h1, h3, lN_add]
theorem tri_bd {f : Nat → Nat → Int64} {m : Nat} : ∀ P, P ≤ 12 → (∀ p r, p < P → r < p → ∃ a, f p r = lN a ∧ a ≤ m) → ∃ a, triF f P = lN a ∧ a ≤ 12 * P * m
  | 0, _, _ => ⟨0, rfl, by omega⟩
  | P + 1, hP, h => by
    obtain ⟨a, h1, h2⟩ := tri_bd P (by omega) (fun p r hp hr => h p r (by omega) hr)
    obtain ⟨c, h3, h4⟩ := acc_bd (f := f P) (m := m) P a (fun r hr => h P r (by omega) hr)
    refine ⟨c, ?_, ?_⟩
    · show accF (f P) P (triF f P) = lN c
      rw [h1, h3]
    · have e1 : P * m ≤ 12 * m := Nat.mul_le_mul_right m (by omega)
      have e2 : 12 * (P + 1) * m = 12 * P * m + 12 * m := by
        rw [Nat.mul_add, Nat.mul_one, Nat.add_mul]
      omega
theorem mLow_bd {g b : Nat → Nat → Int32} (hb : ∀ p r, p < 12 → r < 12 → 0 ≤ (b p r).toInt ∧ (b p r).toInt ≤ 1000) {P j : Nat} (hP : P ≤ 12) : ∃ a, mLowF g b P j = lN a ∧ a ≤ 1000000000 := by
  obtain ⟨a, h1, h2⟩ := tri_bd (f := lowF g b j) (m := 1000 * 2 ^ 29) P hP (fun p r hp hr => low_bd hb (by omega) (by omega))
  have h3 : a ≤ 12 * 12 * (1000 * 2 ^ 29) := Nat.le_trans h2 (Nat.mul_le_mul_right _ (by omega))
  refine ⟨2 * a / 256000, ?_, ?_⟩
  · unfold mLowF
    rw [h1, show (2 : Int64) = lN 2 from by decide, lN_mul, show (256000 : Int64) = lN 256000 from by decide]
    exact pk_lDiv (by omega) (by omega) (by omega)
  · omega
/-- sums of naturals -/
def nS (f : Nat → Nat) : Nat → Nat
  | 0 => 0
  | n + 1 => nS f n + f n
theorem nS_le {f : Nat → Nat} {m : Nat} : ∀ n, (∀ i, i < n → f i ≤ m) → nS f n ≤ n * m
  | 0, _ => Nat.zero_le _
  | n + 1, h => by
    have a := nS_le n (fun i hi => h i (by omega))
    have b := h n (by omega)
    show nS f n + f n ≤ (n + 1) * m
    rw [Nat.succ_mul]
    omega
theorem nS_l {f : Nat → Nat} {g : Nat → Int64} : ∀ n, (∀ i, i < n → g i = lN (f i)) → sJ g n = lN (nS f n)
  | 0, _ => rfl
  | n + 1, h => by
    show sJ g n + g n = lN (nS f n + f n)
    rw [nS_l n (fun i hi => h i (by omega)), h n (by omega), lN_add]
/-- how many of the first n -/
def cnt (p : Nat → Prop) [DecidablePred p] : Nat → Nat
  | 0 => 0
  | n + 1 => cnt p n + (if p n then 1 else 0)
theorem cnt_eq {p q : Nat → Prop} [DecidablePred p] [DecidablePred q] : ∀ n, (∀ i, i < n → (p i ↔ q i)) → cnt p n = cnt q n
  | 0, _ => rfl
  | n + 1, h => by
    have a := cnt_eq n (fun i hi => h i (by omega))
    have b := h n (by omega)
    show cnt p n + (if p n then 1 else 0) = cnt q n + (if q n then 1 else 0)
    rw [a]
    by_cases c : p n
    · rw [if_pos c, if_pos (b.mp c)]
    · rw [if_neg c, if_neg (fun z => c (b.mpr z))]
theorem cnt_le {p q : Nat → Prop} [DecidablePred p] [DecidablePred q] : ∀ n, (∀ i, i < n → p i → q i) → cnt p n ≤ cnt q n
  | 0, _ => Nat.le_refl _
  | n + 1, h => by
    have a := cnt_le n (fun i hi => h i (by omega))
    have b := h n (by omega)
    show cnt p n + (if p n then 1 else 0) ≤ cnt q n + (if q n then 1 else 0)
    by_cases c : p n
    · rw [if_pos c, if_pos (b c)]
      omega
    · rw [if_neg c]
      omega
theorem cnt_max {p : Nat → Prop} [DecidablePred p] : ∀ n, cnt p n ≤ n
  | 0 => Nat.le_refl _
  | n + 1 => by
    have a := cnt_max (p := p) n
    show cnt p n + (if p n then 1 else 0) ≤ n + 1
    split <;> omega
theorem cnt_all {p : Nat → Prop} [DecidablePred p] : ∀ n, (∀ i, i < n → p i) → cnt p n = n
  | 0, _ => rfl
  | n + 1, h => by
    show cnt p n + (if p n then 1 else 0) = n + 1
    rw [cnt_all n (fun i hi => h i (by omega)), if_pos (h n (by omega))]
theorem cnt_add {p q : Nat → Prop} [DecidablePred p] [DecidablePred q] {b : Nat} (hb : ¬ p b) : ∀ n, b < n → (∀ i, i < n → (q i ↔ (p i ∨ i = b))) → cnt q n = cnt p n + 1
  | n + 1, hn, h => by
    show cnt q n + (if q n then 1 else 0) = cnt p n + (if p n then 1 else 0) + 1
    by_cases e : b = n
    · subst e
      have e1 : cnt q b = cnt p b := cnt_eq b (fun i hi => by
        rw [h i (by omega)]
        exact ⟨fun z => z.elim id (fun y => by omega), Or.inl⟩)
      rw [if_pos ((h b (by omega)).mpr (Or.inr rfl)), if_neg hb, e1]
    · have a := cnt_add (q := q) hb n (by omega) (fun i hi => h i (by omega))
      rw [a]
      by_cases c : p n
      · rw [if_pos c, if_pos ((h n (by omega)).mpr (Or.inl c))]
      · rw [if_neg c, if_neg (fun z => ((h n (by omega)).mp z).elim c (fun y => e y.symm))]
/-- who is served ahead of whom -/
abbrev ahd (r : Nat → Nat) (i j : Nat) : Prop := r j < r i ∨ (r i = r j ∧ i < j)

/-! shares: who is served -/
theorem cnt_lt {p q : Nat → Prop} [DecidablePred p] [DecidablePred q] {b : Nat} (hp : ¬ p b) (hq : q b) : ∀ n, b < n → (∀ i, i < n → p i → q i) → cnt p n < cnt q n
  | n + 1, hn, h => by
    show cnt p n + (if p n then 1 else 0) < cnt q n + (if q n then 1 else 0)
    by_cases e : b = n
    · subst e
      have a := cnt_le (p := p) (q := q) b (fun i hi => h i (by omega))
      rw [if_neg hp, if_pos hq]
      omega
    · have a := cnt_lt (p := p) (q := q) hp hq n (by omega) (fun i hi => h i (by omega))
      by_cases c : p n
      · rw [if_pos c, if_pos (h n (by omega) c)]
        omega
      · rw [if_neg c]
        omega
theorem cnt_ex {p : Nat → Prop} [DecidablePred p] {n : Nat} (h : cnt p n < n) : ∃ i, i < n ∧ ¬ p i := by
  by_cases c : ∃ i, i < n ∧ ¬ p i
  · exact c
  · have e : cnt p n = n := cnt_all n (fun i hi => Classical.byContradiction (fun z => c ⟨i, hi, z⟩))
    omega
def rnk (r : Nat → Nat) (R j : Nat) : Nat := cnt (fun i => ahd r i j) R
theorem rnk_lt {r : Nat → Nat} {R a b : Nat} (ha : a < R) (h : ahd r a b) : rnk r R a < rnk r R b :=
  cnt_lt (p := fun i => ahd r i a) (q := fun i => ahd r i b) (b := a) (fun z => by rcases z with z | z <;> omega) h R ha (fun i _ hi => by
    rcases h with h | h <;> rcases hi with hi | hi
    · exact Or.inl (by omega)
    · exact Or.inl (by omega)
    · exact Or.inl (by omega)
    · exact Or.inr ⟨by omega, by omega⟩)
theorem rnk_ahd {r : Nat → Nat} {R a b : Nat} (hb : b < R) (h : rnk r R a < rnk r R b) : ahd r a b := by
  rcases Nat.lt_trichotomy (r a) (r b) with c | c | c
  · have := rnk_lt (R := R) hb (Or.inl c : ahd r b a)
    omega
  · rcases Nat.lt_trichotomy a b with d | d | d
    · exact Or.inr ⟨c, d⟩
    · rw [d] at h
      omega
    · have := rnk_lt (R := R) hb (Or.inr ⟨c.symm, d⟩ : ahd r b a)
      omega
  · exact Or.inl c
theorem rnk_inj {r : Nat → Nat} {R a b : Nat} (ha : a < R) (hb : b < R) (h : rnk r R a = rnk r R b) : a = b := by
  rcases Nat.lt_trichotomy (r a) (r b) with c | c | c
  · have := rnk_lt (R := R) hb (Or.inl c : ahd r b a)
    omega
  · rcases Nat.lt_trichotomy a b with d | d | d
    · have := rnk_lt (R := R) ha (Or.inr ⟨c, d⟩ : ahd r a b)
      omega
    · exact d
    · have := rnk_lt (R := R) hb (Or.inr ⟨c.symm, d⟩ : ahd r b a)
      omega
  · have := rnk_lt (R := R) ha (Or.inl c : ahd r a b)
    omega
theorem bxF_max (r : Nat → Int64) : ∀ n, (∀ i, i ≤ n → (r i).toInt ≤ (r (bxF r n)).toInt) ∧ (∀ i, i < bxF r n → (r i).toInt < (r (bxF r n)).toInt)
  | 0 => ⟨fun i hi => by
      have : i = 0 := by omega
      rw [this]
      exact Int.le_refl _, fun i hi => absurd hi (Nat.not_lt_zero _)⟩
  | n + 1 => by
    have ih := bxF_max r n
    by_cases c : r (bxF r n) < r (n + 1)
    · have e : bxF r (n + 1) = n + 1 := if_pos c
      rw [Int64.lt_iff_toInt_lt] at c
      rw [e]
      refine ⟨fun i hi => ?_, fun i hi => ?_⟩
      · by_cases d : i = n + 1
        · rw [d]
          exact Int.le_refl _
        · have := ih.1 i (by omega)
          omega
      · have := ih.1 i (by omega)
        omega
    · have e : bxF r (n + 1) = bxF r n := if_neg c
      rw [Int64.lt_iff_toInt_lt] at c
      rw [e]
      refine ⟨fun i hi => ?_, ih.2⟩
      by_cases d : i = n + 1
      · rw [d]
        omega
      · exact ih.1 i (by omega)
/-- after k shares, the k first hold one more -/
def shI (q r : Nat → Nat) (R k : Nat) (s : (Nat → Int64) × (Nat → Int64)) : Prop :=
  ∀ i, i < R → s.1 i = lN (if rnk r R i < k then q i + 1 else q i) ∧ s.2 i = (if rnk r R i < k then -1 else lN (r i))
theorem m1_i : (-1 : Int64).toInt = -1 := by decide
theorem shI_step {q r : Nat → Nat} {R k : Nat} (hk : k < R) (hr : ∀ i, i < R → r i < 2 ^ 63) (hc : cnt (fun i => rnk r R i < k) R = k) {s : (Nat → Int64) × (Nat → Int64)} (h : shI q r R k s) :
    bxF s.2 (R - 1) < R ∧ rnk r R (bxF s.2 (R - 1)) = k := by
  have hb : bxF s.2 (R - 1) < R := by
    have := bxF_le s.2 (R - 1)
    omega
  obtain ⟨m1, m2⟩ := bxF_max s.2 (R - 1)
  obtain ⟨b, e⟩ : ∃ b, b = bxF s.2 (R - 1) := ⟨_, rfl⟩
  rw [← e] at hb m1 m2 ⊢
  obtain ⟨u, hu, hu2⟩ := cnt_ex (p := fun i => rnk r R i < k) (n := R) (by omega)
  have hbn : ¬ rnk r R b < k := fun z => by
    have a1 := (h b hb).2
    have a2 := (h u hu).2
    rw [if_pos z] at a1
    rw [if_neg hu2] at a2
    have a3 := m1 u (by omega)
    rw [a1, a2, pk_lT (hr u hu), m1_i] at a3
    omega
  refine ⟨hb, ?_⟩
  have e2 : rnk r R b = cnt (fun i => rnk r R i < k) R := by
    refine cnt_eq R (fun i hi => ⟨fun z => ?_, fun z => rnk_ahd hb (by omega)⟩)
    refine Classical.byContradiction (fun y => ?_)
    have a1 := (h b hb).2
    have a2 := (h i hi).2
    rw [if_neg hbn] at a1
    rw [if_neg y] at a2
    rcases z with z | z
    · have a3 := m1 i (by omega)
      rw [a1, a2, pk_lT (hr i hi), pk_lT (hr b hb)] at a3
      omega
    · have a3 := m2 i z.2
      rw [a1, a2, pk_lT (hr i hi), pk_lT (hr b hb)] at a3
      omega
  rw [e2, hc]
theorem shI_next {q r : Nat → Nat} {R k : Nat} {s : (Nat → Int64) × (Nat → Int64)} (h : shI q r R k s) {b : Nat} (hb : b < R) (e : rnk r R b = k) :
    shI q r R (k + 1) (vp_updL s.1 b (s.1 b + 1), vp_updL s.2 b (-1)) := fun i hi => by
  have a := h i hi
  by_cases d : i = b
  · subst d
    rw [if_pos (by omega), if_pos (by omega)]
    rw [if_neg (by omega), if_neg (by omega)] at a
    constructor
    · show vp_updL s.1 i (s.1 i + 1) i = lN (q i + 1)
      unfold vp_updL
      rw [if_pos rfl, a.1]
      exact (lN_add _ 1)
    · show vp_updL s.2 i (-1) i = -1
      unfold vp_updL
      rw [if_pos rfl]
  · have n : rnk r R i ≠ k := fun z => d (rnk_inj (r := r) hi hb (z.trans e.symm))
    have e1 : vp_updL s.1 b (s.1 b + 1) i = s.1 i := by
      unfold vp_updL
      rw [if_neg d]
    have e2 : vp_updL s.2 b (-1) i = s.2 i := by
      unfold vp_updL
      rw [if_neg d]
    refine ⟨e1.trans ?_, e2.trans ?_⟩
    · rw [a.1]
      by_cases c : rnk r R i < k
      · rw [if_pos c, if_pos (by omega)]
      · rw [if_neg c, if_neg (by omega)]
    · rw [a.2]
      by_cases c : rnk r R i < k
      · rw [if_pos c, if_pos (by omega)]
      · rw [if_neg c, if_neg (by omega)]
theorem shI_run {q r : Nat → Nat} {R : Nat} (hr : ∀ i, i < R → r i < 2 ^ 63) : ∀ (n k : Nat), k + n ≤ R → cnt (fun i => rnk r R i < k) R = k → ∀ s, shI q r R k s → shI q r R (k + n) (shN R n s)
  | 0, _, _, _, _, h => h
  | n + 1, k, hk, hc, s, h => by
    obtain ⟨hb, e⟩ := shI_step (by omega) hr hc h
    have hn := shI_next h hb e
    have hc2 : cnt (fun i => rnk r R i < k + 1) R = k + 1 := by
      rw [cnt_add (p := fun i => rnk r R i < k) (q := fun i => rnk r R i < k + 1) (b := bxF s.2 (R - 1)) (by omega) R hb (fun i hi => ⟨fun z => by
        by_cases c : rnk r R i < k
        · exact Or.inl c
        · exact Or.inr (rnk_inj (r := r) hi hb (by omega)), fun z => by
        rcases z with z | z
        · omega
        · rw [z]; omega⟩), hc]
    have := shI_run hr n (k + 1) (by omega) hc2 _ hn
    have e9 : k + (n + 1) = k + 1 + n := by omega
    rw [e9]
    exact this
theorem sI_cnt {p : Nat → Prop} [DecidablePred p] : ∀ n, sI (fun i => if p i then 1 else 0) n = nI (cnt p n)
  | 0 => rfl
  | n + 1 => by
    show sI (fun i => if p i then 1 else 0) n + (if p n then 1 else 0) = nI (cnt p n + (if p n then 1 else 0))
    rw [sI_cnt n]
    by_cases c : p n
    · rw [if_pos c, if_pos c, nI_succ]
    · rw [if_neg c, if_neg c]
      exact i_add0 _
theorem lackF_eq {m : Nat → Int64} {s pot : Int64} {N : Nat} {q : Nat → Nat} (hp : pot = lN N) : ∀ n, (∀ i, i < n → pot * m i / s = lN (q i)) → lackF m s pot n = lN N - lN (nS q n)
  | 0, _ => by
    show pot = lN N - lN 0
    rw [hp]
    exact (Int64.sub_zero _).symm
  | n + 1, h => by
    show lackF m s pot n - pot * m n / s = lN N - lN (nS q n + q n)
    rw [lackF_eq hp n (fun i hi => h i (by omega)), h n (by omega), ← lN_add, Int64.sub_eq_add_neg, Int64.sub_eq_add_neg, Int64.sub_eq_add_neg, Int64.neg_add, Int64.add_assoc, Int64.sub_eq_add_neg]
theorem nS_dm (N S : Nat) (M : Nat → Nat) : ∀ n, S * nS (fun i => N * M i / S) n + nS (fun i => N * M i % S) n = N * nS M n
  | 0 => rfl
  | n + 1 => by
    have ih := nS_dm N S M n
    have e := Nat.div_add_mod (N * M n) S
    show S * (nS (fun i => N * M i / S) n + N * M n / S) + (nS (fun i => N * M i % S) n + N * M n % S) = N * (nS M n + M n)
    rw [Nat.mul_add, Nat.mul_add]
    omega
theorem nS_lt {f : Nat → Nat} {S : Nat} (hS : 0 < S) (n : Nat) (h : ∀ i, i < n → f i < S) : nS f n ≤ n * (S - 1) := nS_le n (fun i hi => by have := h i hi; omega)
/-- the class's share and the reference's are one number -/
theorem share_eq {m : Nat → Int64} {R j N : Nat} {J : MJ} {M : Nat → Nat} (hm : ∀ i, i < R → m i = lN (M i) ∧ M i ≤ 1000000000) (hR : R ≤ 6) (hj : j < R) (hN : N ≤ 1000000000) :
    shareF m R j (lN N) = mshR J m R j (lN N) := by
  have hS : sJ m R = lN (nS M R) := nS_l R (fun i hi => (hm i hi).1)
  have hSb : nS M R ≤ R * 1000000000 := nS_le R (fun i hi => (hm i hi).2)
  have z0 : (0 : Int64) = lN 0 := rfl
  by_cases c : nS M R = 0
  · unfold shareF mshR
    rw [hS, c, if_neg (by decide), if_pos (show lN 0 = 0 from rfl)]
  · have cp : 0 < sJ m R := by
      rw [hS, z0]
      exact (pk_lLT (by decide) (by omega)).mpr (by omega)
    have cn : ¬ sJ m R = 0 := fun e => by
      rw [hS, z0] at e
      exact c ((pk_lEQ (by omega) (by decide)).mp e)
    have hNM : ∀ i, i < R → N * M i ≤ 1000000000 * 1000000000 := fun i hi => Nat.mul_le_mul hN (hm i hi).2
    have hq : ∀ i, i < R → lN N * m i / sJ m R = lN (N * M i / nS M R) := fun i hi => by
      have := hNM i hi
      have h63 : N * M i < 2 ^ 63 := by omega
      rw [(hm i hi).1, hS, lN_mul]
      exact pk_lDiv (by omega) (by omega) (by omega)
    have hr : ∀ i, i < R → remF (lN N * m i) (sJ m R) = lN (N * M i % nS M R) := fun i hi => by
      have := hNM i hi
      unfold remF
      rw [(hm i hi).1, hS, lN_mul]
      exact pk_lRem (by omega) (by omega) (by omega)
    obtain ⟨S, eS⟩ : ∃ S, S = nS M R := ⟨_, rfl⟩
    rw [← eS] at c hSb
    have hmod : ∀ i, i < R → N * M i % S < S := fun i _ => Nat.mod_lt _ (by omega)
    have hdm := nS_dm N S M R
    rw [← eS] at hdm
    have hrs : nS (fun i => N * M i % S) R ≤ R * (S - 1) := nS_lt (by omega) R hmod
    have hqN : nS (fun i => N * M i / S) R ≤ N := by
      refine Nat.le_of_mul_le_mul_left (show S * _ ≤ S * _ from ?_) (by omega)
      rw [Nat.mul_comm S N]
      omega
    have hL : lackF m (sJ m R) (lN N) R = lN (N - nS (fun i => N * M i / S) R) := by
      rw [lackF_eq (q := fun i => N * M i / S) rfl R (fun i hi => by rw [eS]; exact hq i hi)]
      exact lN_sub hqN
    obtain ⟨L, eL⟩ : ∃ L, L = N - nS (fun i => N * M i / S) R := ⟨_, rfl⟩
    rw [← eL] at hL
    have hLR : L ≤ R := by
      refine Nat.le_of_mul_le_mul_left (show S * _ ≤ S * _ from ?_) (by omega)
      have e1 : S * L = S * N - S * nS (fun i => N * M i / S) R := by rw [eL, Nat.mul_sub]
      have e2 : R * (S - 1) ≤ R * S := Nat.mul_le_mul_left _ (by omega)
      rw [Nat.mul_comm S N] at e1
      rw [Nat.mul_comm S R]
      omega
    have hs0 : servF m (sJ m R) (lN N) j R = nI (rnk (fun i => N * M i % S) R j) := by
      unfold servF rnk
      rw [← sI_cnt]
      refine sI_congr R (fun i hi => ?_)
      rw [hr i hi, hr j hj, ← eS]
      have b1 : N * M i % S < 2 ^ 63 := Nat.lt_of_lt_of_le (hmod i hi) (by omega)
      have b2 : N * M j % S < 2 ^ 63 := Nat.lt_of_lt_of_le (hmod j hj) (by omega)
      by_cases d : ahd (fun i => N * M i % S) i j
      · rw [if_pos d, if_pos (d.elim (fun z => Or.inl ((pk_lLT b2 b1).mpr z)) (fun z => Or.inr ⟨congrArg lN z.1, z.2⟩))]
      · rw [if_neg d, if_neg (fun z => d (z.elim (fun z => Or.inl ((pk_lLT b2 b1).mp z)) (fun z => Or.inr ⟨(pk_lEQ b1 b2).mp z.1, z.2⟩)))]
    have hrk : rnk (fun i => N * M i % S) R j ≤ R := cnt_max R
    have hlk : lkN (lN L) = L := by
      unfold lkN
      by_cases d : 0 < L
      · rw [if_pos (show (0 : Int64) < lN L from (pk_lLT (a := 0) (by decide) (by omega)).mpr d), pk_lT (by omega)]
        omega
      · have : L = 0 := by omega
        rw [this]
        decide
    have hI : shI (fun i => N * M i / S) (fun i => N * M i % S) R 0 (rwF (rwF (J 31) m R) (mshP m (lN N) (sJ m R)) R, rwF (J 32) (mshQ m (lN N) (sJ m R)) R) := fun i hi => by
      rw [if_neg (by omega), if_neg (by omega)]
      constructor
      · show rwF (rwF (J 31) m R) (mshP m (lN N) (sJ m R)) R i = lN (N * M i / S)
        rw [rwF_lo _ _ R i hi, eS]
        exact hq i hi
      · show rwF (J 32) (mshQ m (lN N) (sJ m R)) R i = lN (N * M i % S)
        rw [rwF_lo _ _ R i hi, eS]
        exact hr i hi
    have hc0 : cnt (fun i => rnk (fun i => N * M i % S) R i < 0) R = 0 := by
      have : ∀ n, cnt (fun i => rnk (fun i => N * M i % S) R i < 0) n = 0 := fun n => by
        induction n with
        | zero => rfl
        | succ n ih =>
          show cnt (fun i => rnk (fun i => N * M i % S) R i < 0) n + (if rnk (fun i => N * M i % S) R n < 0 then 1 else 0) = 0
          rw [ih, if_neg (by omega)]
      exact this R
    have hfin := shI_run (q := fun i => N * M i / S) (r := fun i => N * M i % S) (R := R) (fun i hi => Nat.lt_of_lt_of_le (hmod i hi) (by omega)) L 0 (by omega) hc0 _ hI j hj
    have hl := hfin.1
    rw [Nat.zero_add] at hl
    unfold shareF mshR mshS
    rw [if_pos cp, if_neg cn, hL, hs0, nI_l (by omega), hlk, hl, hq j hj, ← eS]
    by_cases d : rnk (fun i => N * M i % S) R j < L
    · rw [if_pos d, if_pos ((pk_lLT (by omega) (by omega)).mpr d)]
      exact lN_add _ 1
    · rw [if_neg d, if_neg (fun z => d ((pk_lLT (by omega) (by omega)).mp z))]

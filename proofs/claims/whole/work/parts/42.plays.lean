/-! a play on both sides -/
/-- within a round: k have changed their voices -/
def turR (P Q R : Nat) (b30 : Nat → Int32) (k : Nat) (s t : MI × Int32) : Prop :=
  RelC s.1 t.1 P Q R ∧ s.2 = nI k ∧ (t.2 = 0 ↔ k = 0) ∧ (s.1 3 3 + 1 = t.1 5 10 ∧ s.1 3 4 + nI k = t.1 5 11 ∧ s.1 3 5 = t.1 5 12 ∧ s.1 3 6 = t.1 5 13) ∧ t.1 30 = b30
theorem i_addA (a b c : Int32) : a + b + c = a + (b + c) := Int32.add_assoc a b c
theorem turR_step {P Q R p k : Nat} {b30 : Nat → Int32} {s t : MI × Int32} (h : turR P Q R b30 k s t) (hp : p < P) : ∃ k', k' ≤ k + 1 ∧ turR P Q R b30 k' (tuF P Q p s) (mtF P Q p t) := by
  obtain ⟨hC, hk, hm, ⟨h1, h2, h3, h4⟩, h30⟩ := h
  have hP := hC.1.2.2
  have hQ := hC.2.1.2.2
  unfold tuF mtF
  rw [rd_7 hC p hp]
  by_cases c : t.1 21 p = 0
  · rw [if_pos c, if_pos c]
    exact ⟨k, by omega, hC, hk, hm, ⟨h1, h2, h3, h4⟩, h30⟩
  · rw [if_neg c, if_neg c]
    have hf := hC.find (p := p) (p' := p)
    have eg : gainF (ffM s.1 P Q p 7) (vC (ffM s.1 P Q p)) (wC (ffM s.1 P Q p)) P Q p = gainF (fmM t.1 P Q p 21) (vM (fmM t.1 P Q p)) (wM (fmM t.1 P Q p)) P Q p :=
      gainF_cg (rd_7 hf) (fun q hq p hp => rd_v hf p q hp hq) (fun q hq => rd_w hf p q hp hq)
    have eb := (find_eq hC hp).2.1
    rw [eg, eb]
    have f3 : ffM s.1 P Q p 3 = s.1 3 := ffM_fr hQ (Or.inr (Or.inl rfl))
    have f5 : ∀ j, 10 ≤ j → j < 14 → fmM t.1 P Q p 5 j = t.1 5 j := fun j k1 k2 => fmM_5 (by omega) (by omega) (by omega)
    have f30 : fmM t.1 P Q p 30 = t.1 30 := fmM_ne (by decide) (by decide) (by decide) (by decide) (by decide)
    by_cases c2 : gainF (fmM t.1 P Q p 21) (vM (fmM t.1 P Q p)) (wM (fmM t.1 P Q p)) P Q p < fmM t.1 P Q p 5 18
    · rw [if_pos c2, if_pos c2]
      refine ⟨k + 1, Nat.le_refl _, ?_, ?_, ?_, ⟨?_, ?_, ?_, ?_⟩, ?_⟩
      · exact (hC.take hp).fr (fun _ _ => rfl) (fun a _ _ => hx_u_ne _ _ _ (by omega)) (fun j hj => by
          show hx_u (adM (fmM t.1 P Q p) p Q) 5 11 (fmM t.1 P Q p 5 11 + 1) 5 j = _
          exact hx_u_at2 _ _ (by omega))
      · show s.2 + 1 = nI (k + 1)
        rw [hk, nI_succ]
      · exact ⟨fun z => absurd (show (1 : Int32) = 0 from z) (by decide), fun z => absurd z (by omega)⟩
      · show hx_cp (ffM s.1 P Q p) 15 (33 + p) Q 3 3 + 1 = hx_u (adM (fmM t.1 P Q p) p Q) 5 11 (fmM t.1 P Q p 5 11 + 1) 5 10
        rw [hx_cp_ne (by omega), f3, hx_u_at2 _ _ (by decide), adM_ne (by decide), f5 10 (by decide) (by decide)]
        exact h1
      · show hx_cp (ffM s.1 P Q p) 15 (33 + p) Q 3 4 + nI (k + 1) = hx_u (adM (fmM t.1 P Q p) p Q) 5 11 (fmM t.1 P Q p 5 11 + 1) 5 11
        rw [hx_cp_ne (by omega), f3, hx_u_at1, f5 11 (by decide) (by decide), ← h2, i_addA, nI_succ]
      · show hx_cp (ffM s.1 P Q p) 15 (33 + p) Q 3 5 = hx_u (adM (fmM t.1 P Q p) p Q) 5 11 (fmM t.1 P Q p 5 11 + 1) 5 12
        rw [hx_cp_ne (by omega), f3, hx_u_at2 _ _ (by decide), adM_ne (by decide), f5 12 (by decide) (by decide)]
        exact h3
      · show hx_cp (ffM s.1 P Q p) 15 (33 + p) Q 3 6 = hx_u (adM (fmM t.1 P Q p) p Q) 5 11 (fmM t.1 P Q p 5 11 + 1) 5 13
        rw [hx_cp_ne (by omega), f3, hx_u_at2 _ _ (by decide), adM_ne (by decide), f5 13 (by decide) (by decide)]
        exact h4
      · show hx_u (adM (fmM t.1 P Q p) p Q) 5 11 (fmM t.1 P Q p 5 11 + 1) 30 = b30
        rw [hx_u_ne _ _ _ (by decide), adM_ne (by decide), f30]
        exact h30
    · rw [if_neg c2, if_neg c2]
      refine ⟨k, by omega, hf, hk, hm, ⟨?_, ?_, ?_, ?_⟩, ?_⟩
      · show ffM _ P Q p 3 3 + 1 = fmM _ P Q p 5 10
        rw [f3, f5 10 (by decide) (by decide)]
        exact h1
      · show ffM _ P Q p 3 4 + nI k = fmM _ P Q p 5 11
        rw [f3, f5 11 (by decide) (by decide)]
        exact h2
      · show ffM _ P Q p 3 5 = fmM _ P Q p 5 12
        rw [f3, f5 12 (by decide) (by decide)]
        exact h3
      · show ffM _ P Q p 3 6 = fmM _ P Q p 5 13
        rw [f3, f5 13 (by decide) (by decide)]
        exact h4
      · exact f30.trans h30
theorem turR_all {P Q R : Nat} {A B : MI} (h : turR P Q R (B 30) 0 (A, 0) (B, 0)) : ∀ p, p ≤ P → ∃ k, k ≤ p ∧ turR P Q R (B 30) k (drF P Q A p) (mrF P Q B p)
  | 0, _ => ⟨0, Nat.le_refl _, h⟩
  | p + 1, hp => by
    obtain ⟨k, hk, hr⟩ := turR_all h p (by omega)
    obtain ⟨k', hk', hr'⟩ := turR_step hr (p := p) (by omega)
    exact ⟨k', by omega, hr'⟩
/-! the trail -/
def v30 (B : MI) (k p q : Nat) : Int32 := B 30 (72 * k + (6 * p + q))
def traR (J : MJ) (B : MI) (P Q d : Nat) : Prop := ∀ k, k ≤ d → (∀ p, p < P → J (69 + k) p = codeF (v30 B k) p Q) ∧ (∀ p q, p < 12 → q < 6 → -40 ≤ (v30 B k p q).toInt ∧ (v30 B k p q).toInt ≤ 40 ∧ (P ≤ p ∨ Q ≤ q → v30 B k p q = 0))
theorem codeF_cg {v v' : Nat → Nat → Int32} {p : Nat} : ∀ n, (∀ q, q < n → v p q = v' p q) → codeF v p n = codeF v' p n
  | 0, _ => rfl
  | n + 1, h => by
    show codeF v p n * 81 + (v p n).toInt64 + 40 = codeF v' p n * 81 + (v' p n).toInt64 + 40
    rw [codeF_cg n (fun q hq => h q (by omega)), h n (by omega)]
theorem v40_l {x : Int32} (h1 : -40 ≤ x.toInt) (h2 : x.toInt ≤ 40) : x.toInt64 + 40 = lN (x.toInt + 40).toNat := by
  apply Int64.toInt_inj.mp
  have e40 : (40 : Int64).toInt = 40 := by decide
  rw [pk_lT (by omega), Int64.toInt_add, Int32.toInt_toInt64, e40, Int.bmod_eq_of_le (by omega) (by omega)]
  omega
def codeN (v : Nat → Nat → Int32) (p : Nat) : Nat → Nat
  | 0 => 0
  | n + 1 => codeN v p n * 81 + ((v p n).toInt + 40).toNat
theorem codeN_eq {v : Nat → Nat → Int32} {p : Nat} : ∀ n, n ≤ 6 → (∀ q, q < n → -40 ≤ (v p q).toInt ∧ (v p q).toInt ≤ 40) → codeF v p n = lN (codeN v p n) ∧ codeN v p n < 81 ^ n
  | 0, _, _ => ⟨rfl, Nat.one_pos⟩
  | n + 1, hn, h => by
    obtain ⟨i1, i2⟩ := codeN_eq n (by omega) (fun q hq => h q (by omega))
    have b := h n (by omega)
    have e : codeN v p (n + 1) = codeN v p n * 81 + ((v p n).toInt + 40).toNat := rfl
    constructor
    · show codeF v p n * 81 + (v p n).toInt64 + 40 = lN (codeN v p (n + 1))
      rw [Int64.add_assoc, v40_l b.1 b.2, i1, show (81 : Int64) = lN 81 from by decide, lN_mul, lN_add, e]
    · rw [e, Nat.pow_succ]
      omega
theorem codeN_inj {v v' : Nat → Nat → Int32} {p : Nat} : ∀ n, n ≤ 6 → (∀ q, q < n → -40 ≤ (v p q).toInt ∧ (v p q).toInt ≤ 40) → (∀ q, q < n → -40 ≤ (v' p q).toInt ∧ (v' p q).toInt ≤ 40) → codeN v p n = codeN v' p n → ∀ q, q < n → v p q = v' p q
  | 0, _, _, _, _, q, hq => absurd hq (Nat.not_lt_zero _)
  | n + 1, hn, h, h', e, q, hq => by
    have b := h n (by omega)
    have b' := h' n (by omega)
    have e1 : codeN v p n * 81 + ((v p n).toInt + 40).toNat = codeN v' p n * 81 + ((v' p n).toInt + 40).toNat := e
    by_cases c : q = n
    · subst c
      apply Int32.toInt_inj.mp
      omega
    · exact codeN_inj n (by omega) (fun q hq => h q (by omega)) (fun q hq => h' q (by omega)) (by omega) q (by omega)
theorem codeF_inj {v v' : Nat → Nat → Int32} {p n : Nat} (hn : n ≤ 6) (h : ∀ q, q < n → -40 ≤ (v p q).toInt ∧ (v p q).toInt ≤ 40) (h' : ∀ q, q < n → -40 ≤ (v' p q).toInt ∧ (v' p q).toInt ≤ 40) (e : codeF v p n = codeF v' p n) : ∀ q, q < n → v p q = v' p q := by
  obtain ⟨a1, a2⟩ := codeN_eq n hn h
  obtain ⟨b1, b2⟩ := codeN_eq n hn h'
  rw [a1, b1] at e
  have hb : 81 ^ n ≤ 81 ^ 6 := Nat.pow_le_pow_right (by decide) hn
  have hc : (81 : Nat) ^ 6 < 2 ^ 63 := by decide
  exact codeN_inj n hn h h' ((pk_lEQ (by omega) (by omega)).mp e)
theorem smF_iff {J : MJ} {a b : Nat} : ∀ n p, smF J a b n p = 0 ↔ ¬ ∀ i, p ≤ i → i < p + n → J (69 + a) i = J (69 + b) i
  | 0, p => by
    show (1 : Int32) = 0 ↔ _
    exact ⟨fun z => absurd z (by decide), fun z => absurd (fun i h1 h2 => absurd h2 (by omega)) z⟩
  | n + 1, p => by
    show (if J (69 + a) p = J (69 + b) p then smF J a b n (p + 1) else 0) = 0 ↔ _
    by_cases c : J (69 + a) p = J (69 + b) p
    · rw [if_pos c, smF_iff n (p + 1)]
      refine not_congr ⟨fun z i h1 h2 => ?_, fun z i h1 h2 => z i (by omega) (by omega)⟩
      by_cases d : i = p
      · rw [d]
        exact c
      · exact z i (by omega) (by omega)
    · rw [if_neg c]
      exact ⟨fun _ z => c (z p (Nat.le_refl _) (by omega)), fun _ => rfl⟩
theorem asF_iff {I : MI} {r : Nat} : ∀ n, asF I r n = 0 ↔ ¬ ∀ i, i < n → I 30 (72 * r + i) = I 22 i
  | 0 => by
    show (1 : Int32) = 0 ↔ _
    exact ⟨fun z => absurd z (by decide), fun z => absurd (fun i h2 => absurd h2 (by omega)) z⟩
  | n + 1 => by
    show (if asF I r n = 0 ∨ ¬ I 30 (72 * r + n) = I 22 n then (0 : Int32) else 1) = 0 ↔ _
    by_cases c : asF I r n = 0 ∨ ¬ I 30 (72 * r + n) = I 22 n
    · rw [if_pos c]
      refine ⟨fun _ z => ?_, fun _ => rfl⟩
      rcases c with c | c
      · exact (asF_iff n).mp c (fun i hi => z i (by omega))
      · exact c (z n (by omega))
    · rw [if_neg c]
      refine ⟨fun z => absurd z (by decide), fun z => absurd (fun i hi => ?_) z⟩
      by_cases d : i = n
      · rw [d]
        exact Classical.byContradiction (fun y => c (Or.inr y))
      · exact Classical.byContradiction (fun y => c (Or.inl ((asF_iff n).mpr (fun w => y (w i (by omega))))))
/-- the ring's search on both sides -/
theorem mkF_stop {done : Nat} {M : MI} (h : ¬ M 5 12 = 0) : ∀ k, mkF done k M = M
  | 0 => rfl
  | _ + 1 => if_neg h
theorem jd_mk {J : MJ} {P done : Nat} {A B : MI} (h1 : B 5 12 = 0) (h2 : A 3 5 = B 5 12) (h3 : A 3 6 = B 5 13) : ∀ n, (∀ k, k < n → (smF J k done P 0 = 0 ↔ asF B k 72 = 0)) →
    jdF J P done A n 3 5 = mkF done n B 5 12 ∧ jdF J P done A n 3 6 = mkF done n B 5 13 ∧ jdF J P done A n 3 3 = A 3 3 ∧ jdF J P done A n 3 4 = A 3 4 ∧ (∀ a, a ≠ 5 → mkF done n B a = B a)
  | 0, _ => ⟨h2, h3, rfl, rfl, fun _ _ => rfl⟩
  | n + 1, h => by
    have ih := jd_mk h1 h2 h3 n (fun k hk => h k (by omega))
    have e1 : jdF J P done A (n + 1) = if smF J n done P 0 = 0 then jdF J P done A n else hx_u (hx_u (jdF J P done A n) 3 5 2) 3 6 (nI done - nI n) := rfl
    have e2 : mkF done (n + 1) B = if B 5 12 = 0 then (if asF B n 72 = 0 then mkF done n B else mkF done n (hx_u (hx_u B 5 12 2) 5 13 (nI done - nI n))) else B := rfl
    rw [e1, e2, if_pos h1]
    by_cases c : asF B n 72 = 0
    · rw [if_pos c, if_pos ((h n (by omega)).mpr c)]
      exact ih
    · rw [if_neg c, if_neg (fun z => c ((h n (by omega)).mp z)), mkF_stop (by rw [hx_u_at2 _ _ (by decide), hx_u_at1]; decide)]
      refine ⟨?_, ?_, ?_, ?_, ?_⟩
      · rw [hx_u_at2 _ _ (by decide), hx_u_at1, hx_u_at2 _ _ (by decide), hx_u_at1]
      · rw [hx_u_at1, hx_u_at1]
      · rw [hx_u_at2 _ _ (by decide), hx_u_at2 _ _ (by decide)]
        exact ih.2.2.1
      · rw [hx_u_at2 _ _ (by decide), hx_u_at2 _ _ (by decide)]
        exact ih.2.2.2.1
      · intro a ha
        rw [hx_u_ne _ _ _ ha, hx_u_ne _ _ _ ha]
theorem kpM_at {I : MI} {r : Nat} : ∀ n i, kpM I r n 30 i = if 72 * r ≤ i ∧ i < 72 * r + n then I 22 (i - 72 * r) else I 30 i
  | 0, i => by
    rw [if_neg (by omega)]
    rfl
  | n + 1, i => by
    show hx_u (kpM I r n) 30 (72 * r + n) (I 22 n) 30 i = _
    by_cases c : i = 72 * r + n
    · rw [c, hx_u_at1, if_pos (by omega)]
      congr 1
      omega
    · rw [hx_u_at2 _ _ c, kpM_at n i]
      by_cases d : 72 * r ≤ i ∧ i < 72 * r + n
      · rw [if_pos d, if_pos (by omega)]
      · rw [if_neg d, if_neg (by omega)]
theorem lwJ_row {J : MJ} {k n a i : Nat} {m : Nat → Int64} : lwJ J k m n a i = if a = k ∧ i < n then m i else J a i := by
  by_cases c : a = k
  · subst c
    by_cases d : i < n
    · rw [if_pos ⟨rfl, d⟩]
      exact lwJ_at J a m n i d
    · rw [if_neg (fun w => d w.2)]
      induction n with
      | zero => rfl
      | succ n ih =>
        show hx_uJ (lwJ J a m n) a n (m n) a i = J a i
        rw [hx_uJ_same]
        unfold vp_updL
        rw [if_neg (by omega)]
        exact ih (by omega)
  · rw [if_neg (fun w => c w.1), lwJ_ne J m c n]
theorem ended_lem {x y : Int32} (h : x = y) (hx : x = 0) : y = 0 := h ▸ hx
theorem ntF_row {I : MI} {P Q row : Nat} {J : MJ} {k p : Nat} : ntF I P Q row J (69 + k) p = if k = row ∧ p < P then codeF (vC I) p Q else J (69 + k) p := by
  unfold ntF
  rw [lwJ_row]
  by_cases c : k = row ∧ p < P
  · rw [if_pos c, if_pos ⟨by omega, c.2⟩]
  · rw [if_neg c, if_neg (by omega)]
theorem tra_next {A B B' : MI} {P Q R d : Nat} {J : MJ} (h : traR J B P Q d) (hC : RelC A B' P Q R) (h30 : B' 30 = B 30) (B2 : MI) (h2 : B2 30 = kpM B' (d + 1) 72 30) : traR (ntF A P Q (d + 1) J) B2 P Q (d + 1) := by
  intro k hk
  have hP := hC.1.2.2
  have hQ := hC.2.1.2.2
  by_cases c : k = d + 1
  · subst c
    have ev : ∀ p q, p < 12 → q < 6 → v30 B2 (d + 1) p q = vC A p q := fun p q hp hq => by
      unfold v30
      rw [h2, kpM_at, if_pos (by omega), (hC.2.2.2.2.2.1 p q hp hq).1]
      show B' 22 (72 * (d + 1) + (6 * p + q) - 72 * (d + 1)) = B' 22 (6 * p + q)
      congr 1
      omega
    refine ⟨fun p hp => ?_, fun p q hp hq => ?_⟩
    · rw [ntF_row, if_pos ⟨rfl, hp⟩]
      exact codeF_cg Q (fun q hq => (ev p q (by omega) (by omega)).symm)
    · rw [ev p q hp hq]
      have b := hC.2.2.2.2.2.2.2.1 p q hp hq
      exact ⟨b.1, b.2.1, hC.2.2.2.2.2.2.2.2.2 p q hp hq⟩
  · have ev : ∀ p q, p < 12 → q < 6 → v30 B2 k p q = v30 B k p q := fun p q hp hq => by
      unfold v30
      rw [h2, kpM_at, if_neg (by omega), h30]
    have o := h k (by omega)
    refine ⟨fun p hp => ?_, fun p q hp hq => ?_⟩
    · rw [ntF_row, if_neg (fun w => c w.1), o.1 p hp]
      exact codeF_cg Q (fun q hq => (ev p q (by omega) (by omega)).symm)
    · rw [ev p q hp hq]
      exact o.2 p q hp hq
/-- the same row on both sides -/
theorem same_row {A B B' : MI} {P Q R d k : Nat} {J : MJ} (h : traR J B P Q d) (hC : RelC A B' P Q R) (h30 : B' 30 = B 30) (hk : k < d + 1) : smF (ntF A P Q (d + 1) J) k (d + 1) P 0 = 0 ↔ asF B' k 72 = 0 := by
  have hP := hC.1.2.2
  have hQ := hC.2.1.2.2
  have o := h k (by omega)
  rw [smF_iff, asF_iff]
  refine not_congr ⟨fun z i hi => ?_, fun z p _ hp => ?_⟩
  · have hb : i = 6 * (i / 6) + i % 6 := by omega
    obtain ⟨p, hp⟩ : ∃ p, p = i / 6 := ⟨_, rfl⟩
    obtain ⟨q, hq⟩ : ∃ q, q = i % 6 := ⟨_, rfl⟩
    have hp12 : p < 12 := by omega
    have hq6 : q < 6 := by omega
    have hi2 : i = 6 * p + q := by omega
    have e1 : B' 30 (72 * k + i) = v30 B k p q := by
      rw [h30, hi2]
      rfl
    have e2 : B' 22 i = vC A p q := by
      rw [(hC.2.2.2.2.2.1 p q hp12 hq6).1, hi2]
      rfl
    rw [e1, e2]
    by_cases c : p < P ∧ q < Q
    · have e3 := z p (Nat.zero_le _) (by omega)
      rw [ntF_row, if_neg (by omega), ntF_row, if_pos ⟨rfl, c.1⟩, o.1 p c.1] at e3
      exact codeF_inj hQ (fun q hq => ⟨(o.2 p q hp12 (by omega)).1, (o.2 p q hp12 (by omega)).2.1⟩) (fun q hq => ⟨(hC.2.2.2.2.2.2.2.1 p q hp12 (by omega)).1, (hC.2.2.2.2.2.2.2.1 p q hp12 (by omega)).2.1⟩) e3 q c.2
    · have c2 : P ≤ p ∨ Q ≤ q := by omega
      rw [(o.2 p q hp12 hq6).2.2 c2, hC.2.2.2.2.2.2.2.2.2 p q hp12 hq6 c2]
  · rw [ntF_row, if_neg (by omega), ntF_row, if_pos ⟨rfl, by omega⟩, o.1 p (by omega)]
    refine codeF_cg Q (fun q hq => ?_)
    have e := z (6 * p + q) (by omega)
    rw [h30] at e
    have e1 : v30 B k p q = B' 22 (6 * p + q) := e
    rw [e1, (hC.2.2.2.2.2.1 p q (by omega) (by omega)).1]
    rfl
/-- a round on both sides -/
theorem round_eq {A B : MI} {J : MJ} {P Q R d : Nat} (h : Rel2 A B P Q R) (h0 : B 5 12 = 0) (ht : traR J B P Q d) : Rel2 (prF P Q d (A, J)).1 (mpR P Q d B) P Q R ∧ traR (prF P Q d (A, J)).2 (mpR P Q d B) P Q (d + 1) := by
  have hC := h.1
  have hH : A 3 3 = B 5 10 ∧ A 3 4 = B 5 11 ∧ A 3 5 = B 5 12 ∧ A 3 6 = B 5 13 := h.2
  have hP := hC.1.2.2
  have hQ := hC.2.1.2.2
  have s0 : turR P Q R (m1F B 30) 0 (A, 0) (m1F B, 0) := by
    refine ⟨hC.fr (fun _ _ => rfl) (fun a _ _ => hx_u_ne _ _ _ (by omega)) (fun j hj => by
      show hx_u B 5 10 (B 5 10 + 1) 5 j = B 5 j
      exact hx_u_at2 _ _ (by omega)), rfl, ⟨fun _ => rfl, fun _ => rfl⟩, ⟨?_, ?_, ?_, ?_⟩, rfl⟩
    · show A 3 3 + 1 = hx_u B 5 10 (B 5 10 + 1) 5 10
      rw [hx_u_at1, hH.1]
    · show A 3 4 + 0 = hx_u B 5 10 (B 5 10 + 1) 5 11
      rw [hx_u_at2 _ _ (by decide), i_add0]
      exact hH.2.1
    · show A 3 5 = hx_u B 5 10 (B 5 10 + 1) 5 12
      rw [hx_u_at2 _ _ (by decide)]
      exact hH.2.2.1
    · show A 3 6 = hx_u B 5 10 (B 5 10 + 1) 5 13
      rw [hx_u_at2 _ _ (by decide)]
      exact hH.2.2.2
  obtain ⟨k, hk, hr⟩ := turR_all s0 P (Nat.le_refl _)
  obtain ⟨s, hs⟩ : ∃ s, s = drF P Q A P := ⟨_, rfl⟩
  obtain ⟨t, ht2⟩ : ∃ t, t = mrF P Q (m1F B) P := ⟨_, rfl⟩
  have b12 : (mrF P Q (m1F B) P).1 5 12 = 0 := by
    rw [mrF_5 (by decide) (by decide) (by decide) (by decide) P, m1F_5 (by decide)]
    exact h0
  rw [← hs, ← ht2] at hr
  rw [← ht2] at b12
  obtain ⟨rC, rk, rm, ⟨r1, r2, r3, r4⟩, r30⟩ := hr
  have r30b : t.1 30 = B 30 := r30.trans (hx_u_ne _ _ _ (by decide))
  have tl3 : ∀ a, a ≠ 3 → tlM s.1 s.2 a = s.1 a := fun a ha => by
    unfold tlM
    rw [hx_u_ne _ _ _ ha, hx_u_ne _ _ _ ha]
  have tC : RelC (tlM s.1 s.2) t.1 P Q R := rC.fr (fun a ha => tl3 a (by unfold clsC at ha; omega)) (fun _ _ _ => rfl) (fun _ _ => rfl)
  have t33 : tlM s.1 s.2 3 3 = t.1 5 10 := by
    unfold tlM
    rw [hx_u_at2 _ _ (by decide), hx_u_at1]
    exact r1
  have t34 : tlM s.1 s.2 3 4 = t.1 5 11 := by
    unfold tlM
    rw [hx_u_at1, rk]
    exact r2
  have t35 : tlM s.1 s.2 3 5 = t.1 5 12 := by
    unfold tlM
    rw [hx_u_at2 _ _ (by decide), hx_u_at2 _ _ (by decide)]
    exact r3
  have t36 : tlM s.1 s.2 3 6 = t.1 5 13 := by
    unfold tlM
    rw [hx_u_at2 _ _ (by decide), hx_u_at2 _ _ (by decide)]
    exact r4
  have e1 : prF P Q d (A, J) = (juF (ntF (tlM s.1 s.2) P Q (d + 1) J) P (d + 1) s.2 (tlM s.1 s.2), ntF (tlM s.1 s.2) P Q (d + 1) J) := by
    rw [hs]
    rfl
  have e2 : mpR P Q d B = kpM (mkF (d + 1) (d + 1) (meF t)) (d + 1) 72 := by
    rw [ht2]
    rfl
  rw [e1, e2]
  by_cases c : k = 0
  · have c1 : s.2 = 0 := by rw [rk, c]; rfl
    have c2 : t.2 = 0 := rm.mpr c
    have e3 : juF (ntF (tlM s.1 s.2) P Q (d + 1) J) P (d + 1) s.2 (tlM s.1 s.2) = hx_u (tlM s.1 s.2) 3 5 1 := if_pos c1
    have e4 : meF t = hx_u t.1 5 12 1 := if_pos c2
    have e5 : mkF (d + 1) (d + 1) (hx_u t.1 5 12 1) = hx_u t.1 5 12 1 := mkF_stop (by rw [hx_u_at1]; decide) _
    rw [e3, e4, e5]
    refine ⟨⟨tC.fr (fun a ha => hx_u_ne _ _ _ (by unfold clsC at ha; omega)) (fun a k1 k2 => by rw [kpM_ne (by omega), hx_u_ne _ _ _ (by omega)]) (fun j hj => by rw [kpM_ne (by decide), hx_u_at2 _ _ (by omega)]), ?_⟩, ?_⟩
    · show hisR (hx_u (tlM s.1 s.2) 3 5 1) (kpM (hx_u t.1 5 12 1) (d + 1) 72)
      unfold hisR
      rw [kpM_ne (by decide), hx_u_at2 _ _ (show 3 ≠ 5 by decide), hx_u_at2 _ _ (show 4 ≠ 5 by decide), hx_u_at1 _ 3, hx_u_at2 _ _ (show 6 ≠ 5 by decide), hx_u_at2 _ _ (show 10 ≠ 12 by decide), hx_u_at2 _ _ (show 11 ≠ 12 by decide), hx_u_at1 _ 5, hx_u_at2 _ _ (show 13 ≠ 12 by decide)]
      exact ⟨t33, t34, rfl, t36⟩
    · exact tra_next (B' := hx_u t.1 5 12 1) ht (tC.fr (fun _ _ => rfl) (fun a _ _ => hx_u_ne _ _ _ (by omega)) (fun j hj => hx_u_at2 _ _ (show j ≠ 12 by omega))) (by rw [hx_u_ne _ _ _ (by decide)]; exact r30b) _ rfl
  · have c1 : ¬ s.2 = 0 := fun z => by
      rw [rk] at z
      exact c ((nI_z (by omega)).mp z)
    have c2 : ¬ t.2 = 0 := fun z => c (rm.mp z)
    have e3 : juF (ntF (tlM s.1 s.2) P Q (d + 1) J) P (d + 1) s.2 (tlM s.1 s.2) = jdF (ntF (tlM s.1 s.2) P Q (d + 1) J) P (d + 1) (tlM s.1 s.2) (d + 1) := if_neg c1
    have e4 : meF t = t.1 := if_neg c2
    rw [e3, e4]
    obtain ⟨q1, q2, q3, q4, q5⟩ := jd_mk (J := ntF (tlM s.1 s.2) P Q (d + 1) J) (P := P) (done := d + 1) (A := tlM s.1 s.2) (B := t.1) b12 t35 t36 (d + 1) (fun k hk => same_row ht tC r30b hk)
    have mC : RelC (tlM s.1 s.2) (mkF (d + 1) (d + 1) t.1) P Q R := tC.fr (fun _ _ => rfl) (fun a k1 k2 => q5 a (by omega)) (fun j hj => mkF_5 (by omega) (by omega) _ _)
    refine ⟨⟨mC.fr (fun a ha => jdF_ne (by unfold clsC at ha; omega) _) (fun a k1 k2 => kpM_ne (by omega) _) (fun j hj => by rw [kpM_ne (by decide)]), ?_⟩, ?_⟩
    · show hisR (jdF (ntF (tlM s.1 s.2) P Q (d + 1) J) P (d + 1) (tlM s.1 s.2) (d + 1)) (kpM (mkF (d + 1) (d + 1) t.1) (d + 1) 72)
      unfold hisR
      rw [kpM_ne (by decide), q1, q2, q3, q4, mkF_5 (by decide) (by decide), mkF_5 (by decide) (by decide)]
      exact ⟨t33, t34, rfl, rfl⟩
    · exact tra_next ht mC (by rw [q5 30 (by decide)]; exact r30b) _ rfl
/-- the whole play -/
theorem play_go {P Q R : Nat} : ∀ (f d : Nat) (A B : MI) (J : MJ), Rel2 A B P Q R → traR J B P Q d → (plF P Q f d (A, J)).1 = (mpF P Q f d B).1 ∧ Rel2 (plF P Q f d (A, J)).2.1 (mpF P Q f d B).2 P Q R
  | 0, _, _, _, _, h, _ => ⟨rfl, h⟩
  | f + 1, d, A, B, J, h, ht => by
    have e1 : plF P Q (f + 1) d (A, J) = if A 3 5 = 0 then plF P Q f (d + 1) (prF P Q d (A, J)) else (d, (A, J)) := rfl
    have e2 : mpF P Q (f + 1) d B = if B 5 12 = 0 then mpF P Q f (d + 1) (mpR P Q d B) else (d, B) := rfl
    rw [e1, e2, h.2.2.2.1]
    by_cases c : B 5 12 = 0
    · rw [if_pos c, if_pos c]
      have k := round_eq h c ht
      exact play_go f (d + 1) _ _ _ k.1 k.2
    · rw [if_neg c, if_neg c]
      exact ⟨rfl, h⟩
theorem play_start {A B : MI} {P Q R : Nat} (J : MJ) (h : Rel2 A B P Q R) : Rel2 (pl0 A) (mp0 B) P Q R ∧ traR (ntF (pl0 A) P Q 0 J) (mp0 B) P Q 0 := by
  have p3 : ∀ a, a ≠ 3 → pl0 A a = A a := fun a ha => by
    unfold pl0
    rw [hx_u_ne _ _ _ ha, hx_u_ne _ _ _ ha]
  have m5 : ∀ a, a ≠ 5 → a ≠ 30 → mp0 B a = B a := fun a ha hb => by
    unfold mp0
    rw [kpM_ne hb, hx_u_ne _ _ _ ha, hx_u_ne _ _ _ ha]
  have m5j : ∀ j, j ≠ 12 → j ≠ 13 → mp0 B 5 j = B 5 j := fun j ha hb => by
    unfold mp0
    rw [kpM_ne (by decide), hx_u_at2 _ _ hb, hx_u_at2 _ _ ha]
  have hC : RelC (pl0 A) (mp0 B) P Q R := h.1.fr (fun a ha => p3 a (by unfold clsC at ha; omega)) (fun a k1 k2 => m5 a (by omega) (by omega)) (fun j hj => m5j j (by omega) (by omega))
  refine ⟨⟨hC, ?_⟩, ?_⟩
  · have hH : A 3 3 = B 5 10 ∧ A 3 4 = B 5 11 ∧ A 3 5 = B 5 12 ∧ A 3 6 = B 5 13 := h.2
    refine ⟨?_, ?_, ?_, ?_⟩
    · rw [m5j 10 (by decide) (by decide), ← hH.1]
      unfold pl0
      rw [hx_u_at2 _ _ (by decide), hx_u_at2 _ _ (by decide)]
    · rw [m5j 11 (by decide) (by decide), ← hH.2.1]
      unfold pl0
      rw [hx_u_at2 _ _ (by decide), hx_u_at2 _ _ (by decide)]
    · unfold pl0 mp0
      rw [kpM_ne (by decide), hx_u_at2 _ _ (by decide), hx_u_at1, hx_u_at2 _ _ (by decide), hx_u_at1]
    · unfold pl0 mp0
      rw [kpM_ne (by decide), hx_u_at1, hx_u_at1]
  · intro k hk
    have hk0 : k = 0 := by omega
    subst hk0
    have hP := hC.1.2.2
    have hQ := hC.2.1.2.2
    have ev : ∀ p q, p < 12 → q < 6 → v30 (mp0 B) 0 p q = vC (pl0 A) p q := fun p q hp hq => by
      rw [(hC.2.2.2.2.2.1 p q hp hq).1]
      unfold v30 vM
      have e1 : mp0 B 30 = kpM (hx_u (hx_u B 5 12 0) 5 13 0) 0 72 30 := rfl
      rw [e1, kpM_at, if_pos (by omega), m5 22 (by decide) (by decide), hx_u_ne _ _ _ (by decide), hx_u_ne _ _ _ (by decide)]
      congr 1
      omega
    refine ⟨fun p hp => ?_, fun p q hp hq => ?_⟩
    · rw [ntF_row, if_pos ⟨rfl, hp⟩]
      exact codeF_cg Q (fun q hq => (ev p q (by omega) (by omega)).symm)
    · rw [ev p q hp hq]
      have b := hC.2.2.2.2.2.2.2.1 p q hp hq
      exact ⟨b.1, b.2.1, hC.2.2.2.2.2.2.2.2.2 p q hp hq⟩
theorem prF_fr {P Q d a : Nat} {s : MI × MJ} (hP : P ≤ 12) (hQ : Q ≤ 6) (h : ¬ scrR a) (h3 : a ≠ 3) : (prF P Q d s).1 a = s.1 a := by
  show juF _ P (d + 1) _ (tlM _ _) a = s.1 a
  rw [juF_ne h3]
  unfold tlM
  rw [hx_u_ne _ _ _ h3, hx_u_ne _ _ _ h3, drF_ne hQ h P hP]
theorem plF_fr {P Q a : Nat} (hP : P ≤ 12) (hQ : Q ≤ 6) (h : ¬ scrR a) (h3 : a ≠ 3) : ∀ (f d : Nat) (s : MI × MJ), (plF P Q f d s).2.1 a = s.1 a
  | 0, _, _ => rfl
  | f + 1, d, s => by
    have e1 : plF P Q (f + 1) d s = if s.1 3 5 = 0 then plF P Q f (d + 1) (prF P Q d s) else (d, s) := rfl
    rw [e1]
    by_cases c : s.1 3 5 = 0
    · rw [if_pos c, plF_fr hP hQ h h3 f (d + 1), prF_fr hP hQ h h3]
    · rw [if_neg c]
theorem mtF_fr {P Q p a : Nat} {s : MI × Int32} (h : clsC a ∨ a = 3) : (mtF P Q p s).1 a = s.1 a := by
  unfold clsC at h
  unfold mtF
  split
  · rfl
  · split
    · show hx_u _ 5 11 _ a = s.1 a
      rw [hx_u_ne _ _ _ (by omega), adM_ne (by omega), fmM_ne (by omega) (by omega) (by omega) (by omega) (by omega)]
    · exact fmM_ne (by omega) (by omega) (by omega) (by omega) (by omega)
theorem mrF_fr {P Q a : Nat} {I : MI} (h : clsC a ∨ a = 3) : ∀ p, (mrF P Q I p).1 a = I a
  | 0 => rfl
  | p + 1 => by
    show (mtF P Q p (mrF P Q I p)).1 a = I a
    rw [mtF_fr h, mrF_fr h p]
theorem mkF_fr {done a : Nat} (h : a ≠ 5) : ∀ (k : Nat) (M : MI), mkF done k M a = M a
  | 0, _ => rfl
  | k + 1, M => by
    show (if M 5 12 = 0 then (if asF M k 72 = 0 then mkF done k M else mkF done k (hx_u (hx_u M 5 12 2) 5 13 (nI done - nI k))) else M) a = M a
    by_cases c : M 5 12 = 0
    · rw [if_pos c]
      by_cases c2 : asF M k 72 = 0
      · rw [if_pos c2, mkF_fr h k]
      · rw [if_neg c2, mkF_fr h k, hx_u_ne _ _ _ h, hx_u_ne _ _ _ h]
    · rw [if_neg c]
theorem mpR_fr {P Q d a : Nat} {M : MI} (h : clsC a ∨ a = 3) : mpR P Q d M a = M a := by
  have h2 := h
  unfold clsC at h2
  unfold mpR
  rw [kpM_ne (by omega), mkF_fr (by omega)]
  unfold meF
  have e : (mrF P Q (m1F M) P).1 a = M a := by
    rw [mrF_fr h]
    exact hx_u_ne _ _ _ (by omega)
  split
  · rw [hx_u_ne _ _ _ (by omega)]
    exact e
  · exact e
theorem mpF_fr {P Q a : Nat} (h : clsC a ∨ a = 3) : ∀ (f d : Nat) (M : MI), (mpF P Q f d M).2 a = M a
  | 0, _, _ => rfl
  | f + 1, d, M => by
    have e1 : mpF P Q (f + 1) d M = if M 5 12 = 0 then mpF P Q f (d + 1) (mpR P Q d M) else (d, M) := rfl
    rw [e1]
    by_cases c : M 5 12 = 0
    · rw [if_pos c, mpF_fr h f (d + 1), mpR_fr h]
    · rw [if_neg c]
theorem op_play {I I1 I2 : MI} {J : MJ} {P Q R : Nat} {x : Int32} (h : Rel2 I I P Q R) (e1 : I1 = hx_if (¬ withinF x 1 30 = 0) (plF P Q (xN x) 0 (pl0 I, ntF (pl0 I) P Q 0 J)).2.1 I) (e2 : I2 = hx_if (¬ withinF x 1 30 = 0) (mpF P Q (xN x) 0 (mp0 I1)).2 I1) :
    Rel2 I2 I2 P Q R ∧ playR (fun N => nI (plF P Q N 0 (pl0 I, ntF (pl0 I) P Q 0 J)).1) x = playR (fun N => nI (mpF P Q N 0 (mp0 I1)).1) x ∧ (I1 5 0 = nI P ∧ I1 5 1 = nI Q) := by
  have hP := h.1.1.2.2
  have hQ := h.1.2.1.2.2
  by_cases c : ¬ withinF x 1 30 = 0
  · rw [hx_ifp c] at e1 e2
    have m : ∀ a, (a = 5 ∨ (20 ≤ a ∧ a < 26)) → I1 a = I a := fun a ha => by
      rw [e1, plF_fr hP hQ (by unfold scrR scrC; omega) (by omega)]
      show pl0 I a = I a
      unfold pl0
      rw [hx_u_ne _ _ _ (by omega), hx_u_ne _ _ _ (by omega)]
    have r : Rel2 I I1 P Q R := ⟨h.1.fr (fun _ _ => rfl) (fun a k1 k2 => m a (Or.inr ⟨k1, k2⟩)) (fun j _ => congrFun (m 5 (Or.inl rfl)) j), h.2.fr rfl (fun j _ _ => congrFun (m 5 (Or.inl rfl)) j)⟩
    have st := play_start (A := I) (B := I1) J r
    have g := play_go (xN x) 0 _ _ _ st.1 st.2
    rw [← e1, ← e2] at g
    have fr2 : ∀ a, (clsC a ∨ a = 3) → I2 a = I1 a := fun a ha => by
      have ha2 := ha
      unfold clsC at ha2
      rw [e2, mpF_fr ha]
      unfold mp0
      rw [kpM_ne (by omega), hx_u_ne _ _ _ (by omega), hx_u_ne _ _ _ (by omega)]
    refine ⟨⟨g.2.1.fr (fun a ha => fr2 a (Or.inl ha)) (fun _ _ _ => rfl) (fun _ _ => rfl), g.2.2.fr (fr2 3 (Or.inr rfl)) (fun _ _ _ => rfl)⟩, ?_, r.1.1.2.1, r.1.2.1.2.1⟩
    unfold playR
    rw [if_neg c, if_neg c]
    exact congrArg nI g.1
  · rw [hx_ifn c] at e1 e2
    rw [e2, e1]
    refine ⟨h, ?_, h.1.1.2.1, h.1.2.1.2.1⟩
    unfold playR
    have c2 : withinF x 1 30 = 0 := Classical.byContradiction c
    rw [if_pos c2, if_pos c2]

/-! what is better: gain, cost, then the voices in order; in whole numbers -/
abbrev Kz : Type := Int × Int × (Nat → Int)
def lexZ (Q : Nat) (a b : Nat → Int) : Prop := ∃ k, k < Q ∧ (∀ j, j < k → a j = b j) ∧ a k < b k
def btr (Q : Nat) (a b : Kz) : Prop := b.1 < a.1 ∨ (a.1 = b.1 ∧ (a.2.1 < b.2.1 ∨ (a.2.1 = b.2.1 ∧ lexZ Q a.2.2 b.2.2)))
theorem lexZ_irr {Q : Nat} {a : Nat → Int} : ¬ lexZ Q a a := fun ⟨_, _, _, h⟩ => absurd h (Int.lt_irrefl _)
theorem lexZ_trans {Q : Nat} {a b c : Nat → Int} (h1 : lexZ Q a b) (h2 : lexZ Q b c) : lexZ Q a c := by
  obtain ⟨k, hk, e1, l1⟩ := h1
  obtain ⟨m, hm, e2, l2⟩ := h2
  rcases Nat.lt_trichotomy k m with h | h | h
  · exact ⟨k, hk, fun j hj => (e1 j hj).trans (e2 j (by omega)), by rw [← e2 k h]; exact l1⟩
  · subst h
    exact ⟨k, hk, fun j hj => (e1 j hj).trans (e2 j hj), by omega⟩
  · exact ⟨m, hm, fun j hj => (e1 j (by omega)).trans (e2 j hj), by rw [e1 m h]; exact l2⟩
theorem lexZ_tot {a b : Nat → Int} : ∀ Q : Nat, ¬ lexZ Q a b → ¬ lexZ Q b a → ∀ j, j < Q → a j = b j
  | 0, _, _, _, hj => absurd hj (Nat.not_lt_zero _)
  | Q + 1, h1, h2, j, hj => by
    have ih := lexZ_tot Q (fun ⟨k, hk, e, l⟩ => h1 ⟨k, by omega, e, l⟩) (fun ⟨k, hk, e, l⟩ => h2 ⟨k, by omega, e, l⟩)
    by_cases c : j < Q
    · exact ih j c
    · have e : j = Q := by omega
      subst e
      have n1 : ¬ a j < b j := fun l => h1 ⟨j, by omega, ih, l⟩
      have n2 : ¬ b j < a j := fun l => h2 ⟨j, by omega, fun i hi => (ih i hi).symm, l⟩
      omega
theorem lexZ_congr {Q : Nat} {a a' b b' : Nat → Int} (h1 : ∀ j, j < Q → a j = a' j) (h2 : ∀ j, j < Q → b j = b' j) (h : lexZ Q a b) : lexZ Q a' b' := by
  obtain ⟨k, hk, e, l⟩ := h
  exact ⟨k, hk, fun j hj => by rw [← h1 j (by omega), ← h2 j (by omega)]; exact e j hj, by rw [← h1 k hk, ← h2 k hk]; exact l⟩
theorem btr_trans {Q : Nat} {a b c : Kz} (h1 : btr Q a b) (h2 : btr Q b c) : btr Q a c := by
  rcases h1 with h1 | ⟨h1, h1'⟩
  · rcases h2 with h2 | ⟨h2, h2'⟩
    · exact Or.inl (by omega)
    · exact Or.inl (by omega)
  · rcases h2 with h2 | ⟨h2, h2'⟩
    · exact Or.inl (by omega)
    · refine Or.inr ⟨by omega, ?_⟩
      rcases h1' with h1' | ⟨h1', l1⟩
      · rcases h2' with h2' | ⟨h2', l2⟩
        · exact Or.inl (by omega)
        · exact Or.inl (by omega)
      · rcases h2' with h2' | ⟨h2', l2⟩
        · exact Or.inl (by omega)
        · exact Or.inr ⟨by omega, lexZ_trans l1 l2⟩
theorem btr_irr {Q : Nat} {a : Kz} : ¬ btr Q a a := fun h => h.elim (fun h => absurd h (Int.lt_irrefl _)) (fun h => h.2.elim (fun h => absurd h (Int.lt_irrefl _)) (fun h => lexZ_irr h.2))
/-- the same key, as far as the questions go -/
def samK (Q : Nat) (a b : Kz) : Prop := a.1 = b.1 ∧ a.2.1 = b.2.1 ∧ ∀ j, j < Q → a.2.2 j = b.2.2 j
theorem btr_tot {Q : Nat} {a b : Kz} (h1 : ¬ btr Q a b) (h2 : ¬ btr Q b a) : samK Q a b := by
  have e1 : a.1 = b.1 := by
    have n1 : ¬ b.1 < a.1 := fun h => h1 (Or.inl h)
    have n2 : ¬ a.1 < b.1 := fun h => h2 (Or.inl h)
    omega
  have e2 : a.2.1 = b.2.1 := by
    have n1 : ¬ a.2.1 < b.2.1 := fun h => h1 (Or.inr ⟨e1, Or.inl h⟩)
    have n2 : ¬ b.2.1 < a.2.1 := fun h => h2 (Or.inr ⟨e1.symm, Or.inl h⟩)
    omega
  exact ⟨e1, e2, lexZ_tot Q (fun h => h1 (Or.inr ⟨e1, Or.inr ⟨e2, h⟩⟩)) (fun h => h2 (Or.inr ⟨e1.symm, Or.inr ⟨e2.symm, h⟩⟩))⟩
theorem samK.symm {Q : Nat} {a b : Kz} (h : samK Q a b) : samK Q b a := ⟨h.1.symm, h.2.1.symm, fun j hj => (h.2.2 j hj).symm⟩
theorem btr_l {Q : Nat} {a a' b : Kz} (h : samK Q a a') (hb : btr Q a b) : btr Q a' b := by
  obtain ⟨e1, e2, e3⟩ := h
  rcases hb with hb | ⟨h1, h2⟩
  · exact Or.inl (by omega)
  · refine Or.inr ⟨by omega, ?_⟩
    rcases h2 with h2 | ⟨h2, l⟩
    · exact Or.inl (by omega)
    · exact Or.inr ⟨by omega, lexZ_congr e3 (fun _ _ => rfl) l⟩
theorem btr_r {Q : Nat} {a b b' : Kz} (h : samK Q b b') (hb : btr Q a b) : btr Q a b' := by
  obtain ⟨e1, e2, e3⟩ := h
  rcases hb with hb | ⟨h1, h2⟩
  · exact Or.inl (by omega)
  · refine Or.inr ⟨by omega, ?_⟩
    rcases h2 with h2 | ⟨h2, l⟩
    · exact Or.inl (by omega)
    · exact Or.inr ⟨by omega, lexZ_congr (fun _ _ => rfl) e3 l⟩
/-- not worse -/
def geK (Q : Nat) (a b : Kz) : Prop := ¬ btr Q b a
theorem geK_trans {Q : Nat} {a b c : Kz} (h1 : geK Q a b) (h2 : geK Q b c) : geK Q a c := fun h => by
  by_cases k : btr Q c b
  · exact h2 k
  · have k2 : ¬ btr Q b c := fun q => h1 (btr_trans q h)
    have s := btr_tot k k2
    exact h1 (btr_l s h)
theorem geK_rf {Q : Nat} {a : Kz} : geK Q a a := btr_irr
theorem geK_of {Q : Nat} {a b : Kz} (h : btr Q a b) : geK Q a b := fun k => btr_irr (btr_trans h k)
theorem geK_same {Q : Nat} {a b : Kz} (h : samK Q a b) : geK Q a b := fun k => btr_irr (btr_l h.symm k)
/-- the lexicographic test of both programs -/
theorem lxF_lex {t f : Nat → Int32} {Q : Nat} : ∀ (n q : Nat), q + n = Q → (∀ j, j < q → t j = f j) → (¬ lxF t f n q = 0 ↔ lexZ Q (fun j => (t j).toInt) (fun j => (f j).toInt))
  | 0, q, hq, h => by
    constructor
    · intro h1
      exact absurd rfl h1
    · rintro ⟨k, hk, _, l⟩
      have e := h k (by omega)
      have l2 : (t k).toInt < (f k).toInt := l
      rw [e] at l2
      exact absurd l2 (Int.lt_irrefl _)
  | n + 1, q, hq, h => by
    show (¬ (if t q = f q then lxF t f n (q + 1) else if t q < f q then 1 else 0) = 0 ↔ _)
    by_cases c : t q = f q
    · rw [if_pos c]
      exact lxF_lex n (q + 1) (by omega) (fun j hj => by
        by_cases e : j = q
        · rw [e]; exact c
        · exact h j (by omega))
    · rw [if_neg c]
      have c2 : (t q).toInt ≠ (f q).toInt := fun e => c (Int32.toInt_inj.mp e)
      by_cases d : t q < f q
      · rw [if_pos d]
        refine ⟨fun _ => ⟨q, by omega, fun j hj => by show (t j).toInt = (f j).toInt; rw [h j hj], Int32.lt_iff_toInt_lt.mp d⟩, fun _ => by decide⟩
      · rw [if_neg d]
        refine ⟨fun k => absurd rfl k, ?_⟩
        rintro ⟨k, hk, e, l⟩
        rcases Nat.lt_trichotomy k q with g | g | g
        · have l2 : (t k).toInt < (f k).toInt := l
          rw [h k g] at l2
          exact absurd l2 (Int.lt_irrefl _)
        · subst g
          exact absurd (Int32.lt_iff_toInt_lt.mpr l) d
        · exact absurd (e q g) c2

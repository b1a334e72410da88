/-! the class's search finds the best of its leaves -/
theorem ti_add {a b : Int32} (h1 : -2147483648 ≤ a.toInt + b.toInt) (h2 : a.toInt + b.toInt < 2147483648) : (a + b).toInt = a.toInt + b.toInt := by
  rw [Int32.toInt_add]
  exact Int.bmod_eq_of_le (by omega) (by omega)
theorem ti_sub {a b : Int32} (h1 : -2147483648 ≤ a.toInt - b.toInt) (h2 : a.toInt - b.toInt < 2147483648) : (a - b).toInt = a.toInt - b.toInt := by
  rw [Int32.toInt_sub]
  exact Int.bmod_eq_of_le (by omega) (by omega)
theorem ti_mul {a b : Int32} (h1 : -2147483648 ≤ a.toInt * b.toInt) (h2 : a.toInt * b.toInt < 2147483648) : (a * b).toInt = a.toInt * b.toInt := by
  rw [Int32.toInt_mul]
  exact Int.bmod_eq_of_le (by omega) (by omega)
theorem ti_neg {a : Int32} (h1 : -2147483647 ≤ a.toInt) (h2 : a.toInt ≤ 2147483647) : (-a).toInt = -a.toInt := by
  rw [Int32.toInt_neg]
  exact Int.bmod_eq_of_le (by omega) (by omega)
theorem sqz {z m : Int} (h1 : -m ≤ z) (h2 : z ≤ m) : 0 ≤ z * z ∧ z * z ≤ m * m := by
  rcases Int.le_total 0 z with h | h
  · exact ⟨Int.mul_nonneg h h, Int.mul_le_mul h2 h2 h (by omega)⟩
  · have e : z * z = (-z) * (-z) := (Int.neg_mul_neg z z).symm
    rw [e]
    exact ⟨Int.mul_nonneg (by omega) (by omega), Int.mul_le_mul (by omega) (by omega) (by omega) (by omega)⟩
theorem ti_sq {v : Int32} (h1 : -40 ≤ v.toInt) (h2 : v.toInt ≤ 40) : (v * v).toInt = v.toInt * v.toInt ∧ 0 ≤ v.toInt * v.toInt ∧ v.toInt * v.toInt ≤ 1600 := by
  have h := sqz (m := 40) (by omega) h2
  exact ⟨ti_mul (by omega) (by omega), h.1, by omega⟩
/-- the key of what is found -/
def sK (s : SS) : Kz := (s.2.2.1.toInt, s.2.2.2.toInt, fun j => (s.2.1 j).toInt)
def tK (t : Nat → Int32) (g c : Int) : Kz := (g, c, fun j => (t j).toInt)
theorem samK_mk {Q : Nat} {X : Kz} {t : Nat → Int32} {g c : Int} (h1 : X.1 = g) (h2 : X.2.1 = c) (h3 : ∀ j, j < Q → X.2.2 j = (t j).toInt) : samK Q X (tK t g c) := ⟨h1, h2, h3⟩
theorem samK_el {Q : Nat} {X : Kz} {t : Nat → Int32} {g c : Int} (h : samK Q X (tK t g c)) : X.1 = g ∧ X.2.1 = c ∧ ∀ j, j < Q → X.2.2 j = (t j).toInt := h
theorem sK_1 (s : SS) : (sK s).1 = s.2.2.1.toInt := rfl
theorem sK_2 (s : SS) : (sK s).2.1 = s.2.2.2.toInt := rfl
theorem sK_3 (s : SS) (j : Nat) : (sK s).2.2 j = (s.2.1 j).toInt := rfl
/-- the leaves from question q on, d questions are left -/
def Lf (Q : Nat) (n : Nat → Nat) (ov og : Nat → Nat → Int32) (bud : Int) : Nat → Nat → (Nat → Int32) → Int → Int → Kz → Prop
  | 0, _, t, g, c, X => samK Q X (tK t g c)
  | d + 1, q, t, g, c, X => ∃ i, i < n q ∧ c + (ov q i).toInt * (ov q i).toInt ≤ bud ∧ Lf Q n ov og bud d (q + 1) (upd t q (ov q i)) (g + (og q i).toInt) (c + (ov q i).toInt * (ov q i).toInt) X
theorem Lf_congr {Q : Nat} {n : Nat → Nat} {ov og : Nat → Nat → Int32} {bud : Int} : ∀ (d q : Nat) (t t' : Nat → Int32) (g c : Int) (X : Kz), q + d = Q → (∀ j, j < q → t j = t' j) → Lf Q n ov og bud d q t g c X → Lf Q n ov og bud d q t' g c X := by
  intro d
  induction d with
  | zero =>
    intro q t t' g c X hq h hl
    obtain ⟨e1, e2, e3⟩ := samK_el hl
    exact samK_mk e1 e2 (fun j hj => (e3 j hj).trans (by rw [h j (by omega)]))
  | succ d ih =>
    intro q t t' g c X hq h hl
    obtain ⟨i, h1, h2, h3⟩ := hl
    refine ⟨i, h1, h2, ih (q + 1) _ _ _ _ X (by omega) (fun j hj => ?_) h3⟩
    unfold upd
    by_cases e : j = q
    · rw [if_pos e, if_pos e]
    · rw [if_neg e, if_neg e]
      exact h j (by omega)
/-- keeping the better -/
theorem kb_b {Q : Nat} {t : Nat → Int32} {g c : Int} {s : SS} : btr Q (tK t g c) (sK s) ↔ (s.2.2.1.toInt < g ∨ (g = s.2.2.1.toInt ∧ (c < s.2.2.2.toInt ∨ (c = s.2.2.2.toInt ∧ lexZ Q (fun j => (t j).toInt) (fun j => (s.2.1 j).toInt))))) := Iff.rfl
theorem kb_ok {Q : Nat} {s : SS} {g c : Int32} : (btr Q (tK s.1 g.toInt c.toInt) (sK s) → samK Q (sK (kbF Q s g c)) (tK s.1 g.toInt c.toInt)) ∧ (¬ btr Q (tK s.1 g.toInt c.toInt) (sK s) → kbF Q s g c = s) ∧ (kbF Q s g c).1 = s.1 := by
  have hl := lxF_lex (t := s.1) (f := s.2.1) (Q := Q) Q 0 (Nat.zero_add Q) (fun j hj => absurd hj (Nat.not_lt_zero _))
  have hb : btr Q (tK s.1 g.toInt c.toInt) (sK s) ↔ (s.2.2.1.toInt < g.toInt ∨ (g.toInt = s.2.2.1.toInt ∧ (c.toInt < s.2.2.2.toInt ∨ (c.toInt = s.2.2.2.toInt ∧ ¬ lxF s.1 s.2.1 Q 0 = 0)))) := by
    rw [hl]
    exact kb_b
  have hk : kbF Q s g c = (if g < s.2.2.1 then s else if g = s.2.2.1 ∧ (s.2.2.2 < c ∨ (c = s.2.2.2 ∧ lxF s.1 s.2.1 Q 0 = 0)) then s else (s.1, va_cpy s.1 s.2.1 0 0 Q, g, c)) := rfl
  have e1 : g < s.2.2.1 ↔ g.toInt < s.2.2.1.toInt := Int32.lt_iff_toInt_lt
  have e2 : g = s.2.2.1 ↔ g.toInt = s.2.2.1.toInt := Int32.toInt_inj.symm
  have e3 : s.2.2.2 < c ↔ s.2.2.2.toInt < c.toInt := Int32.lt_iff_toInt_lt
  have e4 : c = s.2.2.2 ↔ c.toInt = s.2.2.2.toInt := Int32.toInt_inj.symm
  refine ⟨fun h => ?_, fun h => ?_, ?_⟩
  · rw [hb] at h
    have k1 : ¬ g < s.2.2.1 := fun z => by
      have z1 := e1.mp z
      rcases h with h | ⟨h, _⟩ <;> omega
    have k2 : ¬ (g = s.2.2.1 ∧ (s.2.2.2 < c ∨ (c = s.2.2.2 ∧ lxF s.1 s.2.1 Q 0 = 0))) := by
      rintro ⟨h1, h2⟩
      have h1 := e2.mp h1
      rcases h with h | ⟨_, h | ⟨h, h4⟩⟩
      · omega
      · rcases h2 with h2 | ⟨h2, h3⟩
        · have h2 := e3.mp h2
          omega
        · have h2 := e4.mp h2
          omega
      · rcases h2 with h2 | ⟨h2, h3⟩
        · have h2 := e3.mp h2
          omega
        · exact h4 h3
    rw [hk, if_neg k1, if_neg k2]
    refine samK_mk (sK_1 _) (sK_2 _) (fun j hj => (sK_3 _ j).trans ?_)
    show (if 0 ≤ j ∧ j < 0 + Q then s.1 (0 + (j - 0)) else s.2.1 j).toInt = (s.1 j).toInt
    rw [if_pos ⟨Nat.zero_le _, by omega⟩, Nat.sub_zero, Nat.zero_add]
  · rw [hb] at h
    rw [hk]
    by_cases a : g < s.2.2.1
    · rw [if_pos a]
    · rw [if_neg a, if_pos ?_]
      have n1 : ¬ s.2.2.1.toInt < g.toInt := fun z => h (Or.inl z)
      have n0 : ¬ g.toInt < s.2.2.1.toInt := fun z => a (e1.mpr z)
      have n2 : g.toInt = s.2.2.1.toInt := by omega
      refine ⟨e2.mpr n2, ?_⟩
      have n3 : ¬ c.toInt < s.2.2.2.toInt := fun z => h (Or.inr ⟨n2, Or.inl z⟩)
      by_cases b : s.2.2.2 < c
      · exact Or.inl b
      · have n5 : ¬ s.2.2.2.toInt < c.toInt := fun z => b (e3.mpr z)
        have n4 : c.toInt = s.2.2.2.toInt := by omega
        refine Or.inr ⟨e4.mpr n4, ?_⟩
        exact Classical.byContradiction (fun z => h (Or.inr ⟨n2, Or.inr ⟨n4, z⟩⟩))
  · rw [hk]
    split
    · rfl
    · split <;> rfl
/-- what the search is given -/
def Sok (Q : Nat) (n : Nat → Nat) (ov og : Nat → Nat → Int32) (ga : Nat → Int32) (bud : Int32) : Prop :=
  (Q ≤ 6 ∧ 0 ≤ bud.toInt ∧ bud.toInt ≤ 2000) ∧ (∀ q i, q < Q → i < n q → -40 ≤ (ov q i).toInt ∧ (ov q i).toInt ≤ 40 ∧ -2000 ≤ (og q i).toInt ∧ (og q i).toInt ≤ 2000 ∧ (og q i).toInt ≤ (og q 0).toInt) ∧ (∀ q, q < Q → 0 < n q) ∧ (ga Q).toInt = 0 ∧ (∀ q, q < Q → (ga q).toInt = (ga (q + 1)).toInt + (og q 0).toInt)
theorem ga_bd {Q : Nat} {n : Nat → Nat} {ov og : Nat → Nat → Int32} {ga : Nat → Int32} {bud : Int32} (h : Sok Q n ov og ga bud) : ∀ d q, q + d = Q → -(2000 * (d : Int)) ≤ (ga q).toInt ∧ (ga q).toInt ≤ 2000 * d
  | 0, q, hq => by
    have e : q = Q := by omega
    rw [e, h.2.2.2.1]
    omega
  | d + 1, q, hq => by
    have ih := ga_bd h d (q + 1) (by omega)
    have e := h.2.2.2.2 q (by omega)
    have b := h.2.1 q 0 (by omega) (h.2.2.1 q (by omega))
    rw [e]
    omega
/-- no leaf's gain is above what is ahead; its cost isn't below the cost so far -/
theorem Lf_reach {Q : Nat} {n : Nat → Nat} {ov og : Nat → Nat → Int32} {ga : Nat → Int32} {bud : Int32} (h : Sok Q n ov og ga bud) : ∀ (d q : Nat) (t : Nat → Int32) (g c : Int) (X : Kz), q + d = Q → Lf Q n ov og bud.toInt d q t g c X → X.1 ≤ g + (ga q).toInt ∧ c ≤ X.2.1
  | 0, q, t, g, c, X, hq, hl => by
    obtain ⟨e1, e2, _⟩ := hl
    have e : q = Q := by omega
    rw [e, h.2.2.2.1]
    have e1' : X.1 = g := e1
    have e2' : X.2.1 = c := e2
    omega
  | d + 1, q, t, g, c, X, hq, hl => by
    obtain ⟨i, h1, h2, h3⟩ := hl
    have ih := Lf_reach h d (q + 1) _ _ _ X (by omega) h3
    have e := h.2.2.2.2 q (by omega)
    have b := h.2.1 q i (by omega) h1
    have sq := sqz (m := 40) (z := (ov q i).toInt) (by omega) (by omega)
    omega
theorem try_ok {Q : Nat} {n : Nat → Nat} {ov og : Nat → Nat → Int32} {ga : Nat → Int32} {bud : Int32} (h : Sok Q n ov og ga bud) : ∀ (d q : Nat) (s : SS) (g c : Int32), q + d = Q → -(2000 * (q : Int)) ≤ g.toInt → g.toInt ≤ 2000 * q → 0 ≤ c.toInt → c.toInt ≤ bud.toInt →
    (∀ j, j < q → (tryF Q n ov og ga bud d q s g c).1 j = s.1 j) ∧ ((tryF Q n ov og ga bud d q s g c).2 = s.2 ∨ ∃ X, Lf Q n ov og bud.toInt d q s.1 g.toInt c.toInt X ∧ samK Q (sK (tryF Q n ov og ga bud d q s g c)) X) ∧ geK Q (sK (tryF Q n ov og ga bud d q s g c)) (sK s) ∧ ∀ X, Lf Q n ov og bud.toInt d q s.1 g.toInt c.toInt X → geK Q (sK (tryF Q n ov og ga bud d q s g c)) X
  | 0, q, s, g, c, hq, g1, g2, c1, c2 => by
    have e : tryF Q n ov og ga bud 0 q s g c = kbF Q s g c := rfl
    rw [e]
    obtain ⟨k1, k2, k3⟩ := kb_ok (Q := Q) (s := s) (g := g) (c := c)
    refine ⟨fun j _ => by rw [k3], ?_, ?_, ?_⟩
    · by_cases b : btr Q (tK s.1 g.toInt c.toInt) (sK s)
      · exact Or.inr ⟨tK s.1 g.toInt c.toInt, ⟨rfl, rfl, fun _ _ => rfl⟩, k1 b⟩
      · rw [k2 b]
        exact Or.inl rfl
    · by_cases b : btr Q (tK s.1 g.toInt c.toInt) (sK s)
      · exact geK_trans (geK_same (k1 b)) (geK_of b)
      · rw [k2 b]
        exact geK_rf
    · intro X hX
      have hX2 : samK Q X (tK s.1 g.toInt c.toInt) := hX
      by_cases b : btr Q (tK s.1 g.toInt c.toInt) (sK s)
      · exact geK_trans (geK_same (k1 b)) (geK_same hX2.symm)
      · rw [k2 b]
        exact fun z => b (btr_l hX2 z)
  | d + 1, q, s, g, c, hq, g1, g2, c1, c2 => by
    have e : tryF Q n ov og ga bud (d + 1) q s g c = if g + ga q < s.2.2.1 ∨ (g + ga q = s.2.2.1 ∧ s.2.2.2 < c) then s else foF (stF (tryF Q n ov og ga bud d (q + 1)) (ov q) (og q) bud g c q) (n q) s := rfl
    have gb := ga_bd h (d + 1) q hq
    have hQ6 := h.1.1
    have er : (g + ga q).toInt = g.toInt + (ga q).toInt := ti_add (by omega) (by omega)
    by_cases p : g + ga q < s.2.2.1 ∨ (g + ga q = s.2.2.1 ∧ s.2.2.2 < c)
    · rw [e, if_pos p]
      refine ⟨fun _ _ => rfl, Or.inl rfl, geK_rf, fun X hX => ?_⟩
      have r := Lf_reach h (d + 1) q _ _ _ X hq hX
      intro z
      have z2 : (s.2.2.1.toInt < X.1) ∨ (X.1 = s.2.2.1.toInt ∧ (X.2.1 < s.2.2.2.toInt ∨ (X.2.1 = s.2.2.2.toInt ∧ lexZ Q X.2.2 (fun j => (s.2.1 j).toInt)))) := z
      rcases p with p | ⟨p1, p2⟩
      · rw [Int32.lt_iff_toInt_lt, er] at p
        rcases z2 with z2 | ⟨z2, _⟩ <;> omega
      · rw [← Int32.toInt_inj, er] at p1
        rw [Int32.lt_iff_toInt_lt] at p2
        rcases z2 with z2 | ⟨z2, z3 | ⟨z3, _⟩⟩ <;> omega
    · rw [e, if_neg p]
      have F : ∀ m, m ≤ n q → (∀ j, j < q → (foF (stF (tryF Q n ov og ga bud d (q + 1)) (ov q) (og q) bud g c q) m s).1 j = s.1 j) ∧ ((foF (stF (tryF Q n ov og ga bud d (q + 1)) (ov q) (og q) bud g c q) m s).2 = s.2 ∨ ∃ X, Lf Q n ov og bud.toInt (d + 1) q s.1 g.toInt c.toInt X ∧ samK Q (sK (foF (stF (tryF Q n ov og ga bud d (q + 1)) (ov q) (og q) bud g c q) m s)) X) ∧ geK Q (sK (foF (stF (tryF Q n ov og ga bud d (q + 1)) (ov q) (og q) bud g c q) m s)) (sK s) ∧ ∀ i, i < m → c.toInt + (ov q i).toInt * (ov q i).toInt ≤ bud.toInt → ∀ X, Lf Q n ov og bud.toInt d (q + 1) (upd s.1 q (ov q i)) (g.toInt + (og q i).toInt) (c.toInt + (ov q i).toInt * (ov q i).toInt) X → geK Q (sK (foF (stF (tryF Q n ov og ga bud d (q + 1)) (ov q) (og q) bud g c q) m s)) X := by
        intro m
        induction m with
        | zero =>
          intro _
          exact ⟨fun _ _ => rfl, Or.inl rfl, geK_rf, fun i hi => absurd hi (Nat.not_lt_zero _)⟩
        | succ m ih =>
          intro hm
          obtain ⟨f1, f2, f3, f4⟩ := ih (by omega)
          have em : foF (stF (tryF Q n ov og ga bud d (q + 1)) (ov q) (og q) bud g c q) (m + 1) s = stF (tryF Q n ov og ga bud d (q + 1)) (ov q) (og q) bud g c q m (foF (stF (tryF Q n ov og ga bud d (q + 1)) (ov q) (og q) bud g c q) m s) := rfl
          rw [em]
          generalize foF (stF (tryF Q n ov og ga bud d (q + 1)) (ov q) (og q) bud g c q) m s = u at f1 f2 f3 f4 ⊢
          have b := h.2.1 q m (by omega) (by omega)
          have sq := ti_sq b.1 b.2.1
          have bb := h.1.2
          have ec : (c + ov q m * ov q m).toInt = c.toInt + (ov q m).toInt * (ov q m).toInt := by
            rw [ti_add (by rw [sq.1]; omega) (by rw [sq.1]; omega), sq.1]
          have eg : (g + og q m).toInt = g.toInt + (og q m).toInt := ti_add (by omega) (by omega)
          have es : stF (tryF Q n ov og ga bud d (q + 1)) (ov q) (og q) bud g c q m u = if bud < c + ov q m * ov q m then u else tryF Q n ov og ga bud d (q + 1) (upd u.1 q (ov q m), u.2) (g + og q m) (c + ov q m * ov q m) := rfl
          by_cases p2 : bud < c + ov q m * ov q m
          · rw [es, if_pos p2]
            rw [Int32.lt_iff_toInt_lt, ec] at p2
            refine ⟨f1, f2, f3, fun i hi hb X hX => ?_⟩
            by_cases ei : i = m
            · subst ei
              omega
            · exact f4 i (by omega) hb X hX
          · rw [es, if_neg p2]
            rw [Int32.lt_iff_toInt_lt, ec] at p2
            obtain ⟨t1, t2, t3, t4⟩ := try_ok h d (q + 1) (upd u.1 q (ov q m), u.2) (g + og q m) (c + ov q m * ov q m) (by omega) (by rw [eg]; omega) (by rw [eg]; omega) (by rw [ec]; omega) (by rw [ec]; omega)
            rw [eg, ec] at t2 t4
            generalize tryF Q n ov og ga bud d (q + 1) (upd u.1 q (ov q m), u.2) (g + og q m) (c + ov q m * ov q m) = w at t1 t2 t3 t4 ⊢
            have eu : ∀ X, Lf Q n ov og bud.toInt d (q + 1) (upd s.1 q (ov q m)) (g.toInt + (og q m).toInt) (c.toInt + (ov q m).toInt * (ov q m).toInt) X → Lf Q n ov og bud.toInt d (q + 1) (upd u.1 q (ov q m)) (g.toInt + (og q m).toInt) (c.toInt + (ov q m).toInt * (ov q m).toInt) X := fun X hX => Lf_congr d (q + 1) _ _ _ _ X (by omega) (fun j hj => by
              unfold upd
              by_cases e9 : j = q
              · rw [if_pos e9, if_pos e9]
              · rw [if_neg e9, if_neg e9, f1 j (by omega)]) hX
            have eu2 : ∀ X, Lf Q n ov og bud.toInt d (q + 1) (upd u.1 q (ov q m)) (g.toInt + (og q m).toInt) (c.toInt + (ov q m).toInt * (ov q m).toInt) X → Lf Q n ov og bud.toInt d (q + 1) (upd s.1 q (ov q m)) (g.toInt + (og q m).toInt) (c.toInt + (ov q m).toInt * (ov q m).toInt) X := fun X hX => Lf_congr d (q + 1) _ _ _ _ X (by omega) (fun j hj => by
              unfold upd
              by_cases e9 : j = q
              · rw [if_pos e9, if_pos e9]
              · rw [if_neg e9, if_neg e9, f1 j (by omega)]) hX
            have k0 : sK (upd u.1 q (ov q m), u.2) = sK u := rfl
            rw [k0] at t3
            refine ⟨fun j hj => ?_, ?_, geK_trans t3 f3, fun i hi hb X hX => ?_⟩
            · rw [t1 j (by omega)]
              show upd u.1 q (ov q m) j = s.1 j
              unfold upd
              rw [if_neg (by omega), f1 j hj]
            · rcases t2 with t2 | ⟨X, hX, hs⟩
              · have t2' : w.2 = u.2 := t2
                rcases f2 with f2 | ⟨X, hX, hs⟩
                · exact Or.inl (t2'.trans f2)
                · refine Or.inr ⟨X, hX, ?_⟩
                  have k1 : sK w = sK u := by unfold sK; rw [t2']
                  rw [k1]
                  exact hs
              · exact Or.inr ⟨X, ⟨m, by omega, by omega, eu2 X hX⟩, hs⟩
            · by_cases ei : i = m
              · subst ei
                exact t4 X (eu X hX)
              · exact geK_trans t3 (f4 i (by omega) hb X hX)
      obtain ⟨f1, f2, f3, f4⟩ := F (n q) (Nat.le_refl _)
      refine ⟨f1, f2, f3, fun X hX => ?_⟩
      obtain ⟨i, i1, i2, i3⟩ := hX
      exact f4 i i1 i2 X i3

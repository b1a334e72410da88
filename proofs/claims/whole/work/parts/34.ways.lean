/-! the reference's find tells the best of its ways -/
def zS (f : Nat → Int) : Nat → Int
  | 0 => 0
  | n + 1 => zS f n + f n
theorem zS_bd {f : Nat → Int} {m : Int} : ∀ n, (∀ q, q < n → -m ≤ f q ∧ f q ≤ m) → -(m * n) ≤ zS f n ∧ zS f n ≤ m * n
  | 0, _ => by
    show -(m * ((0 : Nat) : Int)) ≤ 0 ∧ 0 ≤ m * ((0 : Nat) : Int)
    simp
  | n + 1, h => by
    have ih := zS_bd n (fun q hq => h q (by omega))
    have b := h n (by omega)
    have e : m * ((n + 1 : Nat) : Int) = m * n + m := by
      rw [show ((n + 1 : Nat) : Int) = (n : Int) + 1 by omega, Int.mul_add, Int.mul_one]
    show -(m * ((n + 1 : Nat) : Int)) ≤ zS f n + f n ∧ zS f n + f n ≤ m * ((n + 1 : Nat) : Int)
    rw [e]
    omega
theorem zS_mono {f g : Nat → Int} : ∀ n, (∀ q, q < n → f q ≤ g q) → zS f n ≤ zS g n
  | 0, _ => Int.le_refl _
  | n + 1, h => by
    have ih := zS_mono n (fun q hq => h q (by omega))
    have b := h n (by omega)
    show zS f n + f n ≤ zS g n + g n
    omega
theorem zS_congr {f g : Nat → Int} : ∀ n, (∀ q, q < n → f q = g q) → zS f n = zS g n
  | 0, _ => rfl
  | n + 1, h => by
    show zS f n + f n = zS g n + g n
    rw [zS_congr n (fun q hq => h q (by omega)), h n (by omega)]
theorem zS_nn {f : Nat → Int} : ∀ n, (∀ q, q < n → 0 ≤ f q) → 0 ≤ zS f n
  | 0, _ => Int.le_refl _
  | n + 1, h => by
    have ih := zS_nn n (fun q hq => h q (by omega))
    have b := h n (by omega)
    show 0 ≤ zS f n + f n
    omega
/-- what find is given: others' counts o, worths w, a budget; its rows in B -/
def Wok (B : MI) (Q p : Nat) (o w : Nat → Int32) : Prop :=
  (Q ≤ 6 ∧ 0 ≤ (B 20 p).toInt ∧ (B 20 p).toInt ≤ 2000) ∧ (∀ q, q < Q → -1000 ≤ (o q).toInt ∧ (o q).toInt ≤ 1000 ∧ -1000 ≤ (w q).toInt ∧ (w q).toInt ≤ 1000) ∧ (∀ q e, q < Q → e < 3 → B 26 (3 * q + e) = cvF (o q) e ∧ B 27 (3 * q + e) = withinF (cvF (o q) e) (-40) 40) ∧ (∀ q, q < Q → B 23 (6 * p + q) = w q)
def vW (o : Nat → Int32) (w q : Nat) : Int := cZ (o q).toInt (dgW w q)
def gW (u : Nat → Int32) (w q : Nat) : Int := eZ (u q).toInt (dgW w q)
def inW (o : Nat → Int32) (w n : Nat) : Prop := ∀ q, q < n → -40 ≤ vW o w q ∧ vW o w q ≤ 40
def wK (o u : Nat → Int32) (Q w : Nat) : Kz := (zS (gW u w) Q, zS (fun q => vW o w q * vW o w q) Q, fun j => vW o w j)
theorem wK_1 (o u : Nat → Int32) (Q w : Nat) : (wK o u Q w).1 = zS (gW u w) Q := rfl
theorem wK_2 (o u : Nat → Int32) (Q w : Nat) : (wK o u Q w).2.1 = zS (fun q => vW o w q * vW o w q) Q := rfl
theorem wK_3 (o u : Nat → Int32) (Q w j : Nat) : (wK o u Q w).2.2 j = vW o w j := rfl
def feW (o : Nat → Int32) (bud : Int) (Q w : Nat) : Prop := inW o w Q ∧ zS (fun q => vW o w q * vW o w q) Q ≤ bud
theorem eZ_bd {w : Int} {e : Nat} (h1 : -1000 ≤ w) (h2 : w ≤ 1000) : -2000 ≤ eZ w e ∧ eZ w e ≤ 2000 := by
  unfold eZ
  split
  · omega
  · split <;> omega
theorem within_z {x : Int32} : ¬ withinF x (-40) 40 = 0 ↔ (-40 ≤ x.toInt ∧ x.toInt ≤ 40) := by
  constructor
  · intro h
    have k := within_of h
    have k1 := Int32.le_iff_toInt_le.mp k.1
    have k2 := Int32.le_iff_toInt_le.mp k.2
    rw [em40] at k1
    rw [e40] at k2
    exact ⟨k1, k2⟩
  · intro h
    unfold withinF
    rw [if_pos ⟨by rw [Int32.le_iff_toInt_le, em40]; exact h.1, by rw [Int32.le_iff_toInt_le, e40]; exact h.2⟩]
    decide
theorem wy_ok {B : MI} {Q p : Nat} {o u : Nat → Int32} (h : Wok B Q p o u) (w : Nat) : ∀ n, n ≤ Q → (¬ wyG B w n = 0 ↔ inW o w n) ∧ (inW o w n → (wyC B w n).toInt = zS (fun q => vW o w q * vW o w q) n) ∧ (wyA B p w n).toInt = zS (gW u w) n ∧ ∀ t j, j < n → (wyT B w t n j).toInt = vW o w j := by
  intro n
  induction n with
  | zero =>
    intro _
    exact ⟨⟨fun _ q hq => absurd hq (Nat.not_lt_zero _), fun _ => by show ¬ (1 : Int32) = 0; decide⟩, fun _ => e0, e0, fun t j hj => absurd hj (Nat.not_lt_zero _)⟩
  | succ n ih =>
    intro hn
    obtain ⟨i1, i2, i3, i4⟩ := ih (by omega)
    have hd := dgW_lt w n
    have hb := h.2.1 n (by omega)
    have hB := h.2.2.1 n (dgW w n) (by omega) hd
    have hv : (B 26 (3 * n + dgW w n)).toInt = vW o w n := by
      rw [hB.1]
      exact cv_z hb.1 hb.2.1
    have hm : ¬ B 27 (3 * n + dgW w n) = 0 ↔ (-40 ≤ vW o w n ∧ vW o w n ≤ 40) := by
      rw [hB.2, within_z, ← hB.1, hv]
    have eG : wyG B w (n + 1) = if wyG B w n = 0 ∨ B 27 (3 * n + dgW w n) = 0 then 0 else 1 := rfl
    have hG : ¬ wyG B w (n + 1) = 0 ↔ inW o w (n + 1) := by
      rw [eG]
      by_cases c : wyG B w n = 0 ∨ B 27 (3 * n + dgW w n) = 0
      · rw [if_pos c]
        refine ⟨fun k => absurd rfl k, fun k => ?_⟩
        rcases c with c | c
        · exact absurd c (i1.mpr (fun q hq => k q (by omega)))
        · exact absurd c (hm.mpr (k n (by omega)))
      · rw [if_neg c]
        refine ⟨fun _ q hq => ?_, fun _ => by decide⟩
        have c1 : ¬ wyG B w n = 0 := fun k => c (Or.inl k)
        have c2 : ¬ B 27 (3 * n + dgW w n) = 0 := fun k => c (Or.inr k)
        by_cases e : q = n
        · rw [e]
          exact hm.mp c2
        · exact i1.mp c1 q (by omega)
    refine ⟨hG, fun k => ?_, ?_, fun t j hj => ?_⟩
    · have k2 : inW o w n := fun q hq => k q (by omega)
      have kn := k n (by omega)
      have e : wyC B w (n + 1) = wyC B w n + (if wyG B w (n + 1) = 0 then 0 else B 26 (3 * n + dgW w n) * B 26 (3 * n + dgW w n)) := rfl
      have sq := ti_sq (v := B 26 (3 * n + dgW w n)) (by rw [hv]; exact kn.1) (by rw [hv]; exact kn.2)
      have bd := zS_bd (f := fun q => vW o w q * vW o w q) (m := 1600) n (fun q hq => by
        have b := k2 q hq
        have s := sqz (m := 40) (by omega) b.2
        exact ⟨by show (-1600 : Int) ≤ vW o w q * vW o w q; omega, by show vW o w q * vW o w q ≤ (1600 : Int); omega⟩)
      have hn6 : (n : Int) ≤ 6 := by have := h.1.1; omega
      rw [e, if_neg (hG.mpr k), ti_add (by rw [i2 k2, sq.1]; omega) (by rw [i2 k2, sq.1]; omega), i2 k2, sq.1, hv]
      rfl
    · have e : wyA B p w (n + 1) = wyA B p w n + (if dgW w n = 0 then 2 * B 23 (6 * p + n) else if dgW w n = 1 then B 23 (6 * p + n) else 0) := rfl
      have hw := h.2.2.2 n (by omega)
      have eg : (if dgW w n = 0 then 2 * B 23 (6 * p + n) else if dgW w n = 1 then B 23 (6 * p + n) else (0 : Int32)).toInt = gW u w n := by
        rw [hw]
        unfold gW eZ
        by_cases c : dgW w n = 0
        · rw [if_pos c, if_pos c, ti_2w hb.2.2.1 hb.2.2.2]
        · rw [if_neg c, if_neg c]
          by_cases c2 : dgW w n = 1
          · rw [if_pos c2, if_pos c2]
          · rw [if_neg c2, if_neg c2, e0]
      have bd := zS_bd (f := gW u w) (m := 2000) n (fun q hq => by
        have b := h.2.1 q (by omega)
        exact eZ_bd b.2.2.1 b.2.2.2)
      have bg := eZ_bd (w := (u n).toInt) (e := dgW w n) hb.2.2.1 hb.2.2.2
      have bg2 : gW u w n = eZ (u n).toInt (dgW w n) := rfl
      have hn6 : (n : Int) ≤ 6 := by have := h.1.1; omega
      rw [e, ti_add (by rw [i3, eg, bg2]; omega) (by rw [i3, eg, bg2]; omega), i3, eg]
      rfl
    · have e : wyT B w t (n + 1) j = upd (wyT B w t n) n (B 26 (3 * n + dgW w n)) j := rfl
      rw [e]
      unfold upd
      by_cases c : j = n
      · rw [if_pos c, hv, c]
      · rw [if_neg c]
        exact i4 t j (by omega)
theorem cpF_at (t f : Nat → Int32) : ∀ n j, j < n → cpF t f n j = t j
  | n + 1, j, h => by
    show upd (cpF t f n) n (t n) j = t j
    unfold upd
    by_cases c : j = n
    · rw [if_pos c, c]
    · rw [if_neg c]
      exact cpF_at t f n j (by omega)
def mK (s : MS) : Kz := (s.2.2.1.toInt, s.2.2.2.1.toInt, fun j => (s.2.1 j).toInt)
theorem mK_1 (s : MS) : (mK s).1 = s.2.2.1.toInt := rfl
theorem mK_2 (s : MS) : (mK s).2.1 = s.2.2.2.1.toInt := rfl
theorem mK_3 (s : MS) (j : Nat) : (mK s).2.2 j = (s.2.1 j).toInt := rfl
theorem mK_b {Q : Nat} {t : Nat → Int32} {g c : Int} {s : MS} : btr Q (tK t g c) (mK s) ↔ (s.2.2.1.toInt < g ∨ (g = s.2.2.1.toInt ∧ (c < s.2.2.2.1.toInt ∨ (c = s.2.2.2.1.toInt ∧ lexZ Q (fun j => (t j).toInt) (fun j => (s.2.1 j).toInt))))) := Iff.rfl
theorem bt_ok {Q : Nat} {s : MS} {t : Nat → Int32} {g c : Int32} (hb : ¬ s.2.2.2.2 = 0) : ¬ btF Q (t, s.2) g c = 0 ↔ btr Q (tK t g.toInt c.toInt) (mK s) := by
  have hl := lxF_lex (t := t) (f := s.2.1) (Q := Q) Q 0 (Nat.zero_add Q) (fun j hj => absurd hj (Nat.not_lt_zero _))
  have hk : btF Q (t, s.2) g c = if s.2.2.2.2 = 0 ∨ ¬ g = s.2.2.1 then (if s.2.2.2.2 = 0 ∨ s.2.2.1 < g then 1 else 0) else if c = s.2.2.2.1 then lxF t s.2.1 Q 0 else if c < s.2.2.2.1 then 1 else 0 := rfl
  have x1 : g = s.2.2.1 ↔ g.toInt = s.2.2.1.toInt := Int32.toInt_inj.symm
  have x2 : s.2.2.1 < g ↔ s.2.2.1.toInt < g.toInt := Int32.lt_iff_toInt_lt
  have x3 : c = s.2.2.2.1 ↔ c.toInt = s.2.2.2.1.toInt := Int32.toInt_inj.symm
  have x4 : c < s.2.2.2.1 ↔ c.toInt < s.2.2.2.1.toInt := Int32.lt_iff_toInt_lt
  rw [mK_b, hk, ← hl]
  by_cases a : g = s.2.2.1
  · rw [if_neg (fun z => z.elim hb (fun y => y a))]
    have a2 := x1.mp a
    by_cases b : c = s.2.2.2.1
    · rw [if_pos b]
      have b2 := x3.mp b
      constructor
      · intro z
        exact Or.inr ⟨a2, Or.inr ⟨b2, z⟩⟩
      · rintro (z | ⟨_, z | ⟨_, z⟩⟩)
        · omega
        · omega
        · exact z
    · rw [if_neg b]
      have b2 : ¬ c.toInt = s.2.2.2.1.toInt := fun z => b (x3.mpr z)
      by_cases d : c < s.2.2.2.1
      · rw [if_pos d]
        exact ⟨fun _ => Or.inr ⟨a2, Or.inl (x4.mp d)⟩, fun _ => by decide⟩
      · rw [if_neg d]
        refine ⟨fun z => absurd rfl z, ?_⟩
        rintro (z | ⟨_, z | ⟨z, _⟩⟩)
        · omega
        · exact absurd (x4.mpr z) d
        · exact absurd z b2
  · rw [if_pos (Or.inr a)]
    have a2 : ¬ g.toInt = s.2.2.1.toInt := fun z => a (x1.mpr z)
    by_cases d : s.2.2.1 < g
    · rw [if_pos (Or.inr d)]
      exact ⟨fun _ => Or.inl (x2.mp d), fun _ => by decide⟩
    · rw [if_neg (fun z => z.elim hb d)]
      refine ⟨fun z => absurd rfl z, ?_⟩
      rintro (z | ⟨z, _⟩)
      · exact absurd (x2.mpr z) d
      · exact absurd z a2
theorem bt_no {Q : Nat} {s : MS} {t : Nat → Int32} {g c : Int32} (hb : s.2.2.2.2 = 0) : ¬ btF Q (t, s.2) g c = 0 := by
  have hk : btF Q (t, s.2) g c = if s.2.2.2.2 = 0 ∨ ¬ g = s.2.2.1 then (if s.2.2.2.2 = 0 ∨ s.2.2.1 < g then 1 else 0) else if c = s.2.2.2.1 then lxF t s.2.1 Q 0 else if c < s.2.2.2.1 then 1 else 0 := rfl
  rw [hk, if_pos (Or.inl hb), if_pos (Or.inl hb)]
  decide
/-- behind m ways: the best of the ways that go -/
def Inv (o u : Nat → Int32) (bud : Int) (Q m : Nat) (s : MS) : Prop := (s.2.2.2.2 = 0 ∧ ∀ w, w < m → ¬ feW o bud Q w) ∨ (¬ s.2.2.2.2 = 0 ∧ (∃ w, w < m ∧ feW o bud Q w ∧ samK Q (mK s) (wK o u Q w)) ∧ ∀ w, w < m → feW o bud Q w → geK Q (mK s) (wK o u Q w))
theorem way_ok {B : MI} {Q p : Nat} {o u : Nat → Int32} (h : Wok B Q p o u) (s0 : MS) (h0 : s0.2.2.2.2 = 0) : ∀ m, Inv o u (B 20 p).toInt Q m (foF (wayF B Q p) m s0) := by
  intro m
  induction m with
  | zero => exact Or.inl ⟨h0, fun w hw => absurd hw (Nat.not_lt_zero _)⟩
  | succ m ih =>
    have es : foF (wayF B Q p) (m + 1) s0 = wayF B Q p m (foF (wayF B Q p) m s0) := rfl
    rw [es]
    generalize foF (wayF B Q p) m s0 = s at ih ⊢
    obtain ⟨y1, y2, y3, y4⟩ := wy_ok h m Q (Nat.le_refl _)
    have ew : wayF B Q p m s = if wyG B m Q = 0 ∨ B 20 p < wyC B m Q ∨ btF Q (wyT B m s.1 Q, s.2) (wyA B p m Q) (wyC B m Q) = 0 then (wyT B m s.1 Q, s.2) else (wyT B m s.1 Q, cpF (wyT B m s.1 Q) s.2.1 Q, wyA B p m Q, wyC B m Q, 1) := rfl
    have hf : feW o (B 20 p).toInt Q m ↔ (¬ wyG B m Q = 0 ∧ ¬ B 20 p < wyC B m Q) := by
      constructor
      · rintro ⟨f1, f2⟩
        refine ⟨y1.mpr f1, fun z => ?_⟩
        rw [Int32.lt_iff_toInt_lt, y2 f1] at z
        omega
      · rintro ⟨f1, f2⟩
        have g1 := y1.mp f1
        refine ⟨g1, ?_⟩
        rw [Int32.lt_iff_toInt_lt, y2 g1] at f2
        omega
    have keep : Inv o u (B 20 p).toInt Q m (wyT B m s.1 Q, s.2) := ih
    by_cases c : feW o (B 20 p).toInt Q m
    · have c2 := hf.mp c
      have hsame : samK Q (tK (wyT B m s.1 Q) (wyA B p m Q).toInt (wyC B m Q).toInt) (wK o u Q m) := by
        refine ⟨?_, ?_, fun j hj => ?_⟩
        · rw [wK_1]; exact y3
        · rw [wK_2]; exact y2 c.1
        · rw [wK_3]; exact y4 s.1 j hj
      by_cases d : btF Q (wyT B m s.1 Q, s.2) (wyA B p m Q) (wyC B m Q) = 0
      · -- it stays
        rw [ew, if_pos (Or.inr (Or.inr d))]
        rcases ih with ⟨i1, _⟩ | ⟨i1, i2, i3⟩
        · exact absurd d (bt_no i1)
        · refine Or.inr ⟨i1, ?_, fun w hw hfw => ?_⟩
          · obtain ⟨w, w1, w2, w3⟩ := i2
            exact ⟨w, by omega, w2, w3⟩
          · by_cases e : w = m
            · subst e
              intro z
              exact absurd d ((bt_ok i1).mpr (btr_l hsame.symm z))
            · exact i3 w (by omega) hfw
      · rw [ew, if_neg (fun z => z.elim c2.1 (fun y => y.elim c2.2 d))]
        have hn : samK Q (mK (wyT B m s.1 Q, cpF (wyT B m s.1 Q) s.2.1 Q, wyA B p m Q, wyC B m Q, 1)) (wK o u Q m) := by
          refine ⟨?_, ?_, fun j hj => ?_⟩
          · rw [wK_1]; exact y3
          · rw [wK_2]; exact y2 c.1
          · rw [wK_3, mK_3]
            show (cpF (wyT B m s.1 Q) s.2.1 Q j).toInt = _
            rw [cpF_at _ _ Q j hj]
            exact y4 s.1 j hj
        refine Or.inr ⟨by show ¬ (1 : Int32) = 0; decide, ⟨m, by omega, c, hn⟩, fun w hw hfw => ?_⟩
        by_cases e : w = m
        · subst e
          exact geK_same hn
        · rcases ih with ⟨_, i2⟩ | ⟨i1, _, i3⟩
          · exact absurd hfw (i2 w (by omega))
          · have k := i3 w (by omega) hfw
            have k2 := (bt_ok i1).mp d
            exact geK_trans (geK_trans (geK_same hn) (geK_trans (geK_same hsame.symm) (geK_of k2))) k
    · have n1 : wyG B m Q = 0 ∨ B 20 p < wyC B m Q := Classical.byContradiction (fun z => c (hf.mpr ⟨fun y => z (Or.inl y), fun y => z (Or.inr y)⟩))
      rw [ew, if_pos (n1.elim Or.inl (fun y => Or.inr (Or.inl y)))]
      rcases ih with ⟨i1, i2⟩ | ⟨i1, i2, i3⟩
      · refine Or.inl ⟨i1, fun w hw => ?_⟩
        by_cases e : w = m
        · rw [e]; exact c
        · exact i2 w (by omega)
      · refine Or.inr ⟨i1, ?_, fun w hw hfw => ?_⟩
        · obtain ⟨w, w1, w2, w3⟩ := i2
          exact ⟨w, by omega, w2, w3⟩
        · by_cases e : w = m
          · rw [e] at hfw; exact absurd hfw c
          · exact i3 w (by omega) hfw
/-- every row of digits is a way -/
theorem digits {e : Nat → Nat} (he : ∀ q, e q < 3) : ∀ Q, ∃ w, w < 3 ^ Q ∧ ∀ q, q < Q → dgW w q = e q := by
  intro Q
  induction Q with
  | zero => exact ⟨0, by decide, fun q hq => absurd hq (Nat.not_lt_zero _)⟩
  | succ Q ih =>
    obtain ⟨w, hw, hd⟩ := ih
    have h3 := he Q
    refine ⟨w + e Q * 3 ^ Q, ?_, fun q hq => ?_⟩
    · rw [Nat.pow_succ]
      have : e Q * 3 ^ Q ≤ 2 * 3 ^ Q := Nat.mul_le_mul_right _ (by omega)
      omega
    · unfold dgW
      by_cases c : q = Q
      · subst c
        rw [Nat.add_mul_div_right _ _ (Nat.pow_pos (by decide)), Nat.div_eq_of_lt hw, Nat.zero_add]
        exact Nat.mod_eq_of_lt h3
      · have e1 : 3 ^ Q = 3 ^ q * (3 * 3 ^ (Q - q - 1)) := by
          rw [← Nat.pow_succ', ← Nat.pow_add]
          congr 1
          omega
        have e2 : e Q * 3 ^ Q = (e Q * 3 ^ (Q - q - 1) * 3) * 3 ^ q := by
          rw [e1]
          ac_rfl
        rw [e2, Nat.add_mul_div_right _ _ (Nat.pow_pos (by decide)), Nat.add_mul_mod_self_right]
        exact hd q (by omega)

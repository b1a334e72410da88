/-! leaves and ways: both programs find the same -/
def sF (f : Nat → Int) : Nat → Nat → Int
  | _, 0 => 0
  | q, d + 1 => f q + sF f (q + 1) d
theorem sF_z (f : Nat → Int) : ∀ d q, zS f q + sF f q d = zS f (q + d)
  | 0, q => by
    show zS f q + 0 = zS f q
    omega
  | d + 1, q => by
    have ih := sF_z f d (q + 1)
    have e : zS f (q + 1) = zS f q + f q := rfl
    have e2 : sF f q (d + 1) = f q + sF f (q + 1) d := rfl
    rw [e2, show q + (d + 1) = q + 1 + d by omega, ← ih, e]
    omega
theorem sF_0 (f : Nat → Int) (Q : Nat) : sF f 0 Q = zS f Q := by
  have h := sF_z f Q 0
  have e : zS f 0 = 0 := rfl
  rw [Nat.zero_add] at h
  omega
theorem sF_congr {f g : Nat → Int} : ∀ d q, (∀ j, q ≤ j → j < q + d → f j = g j) → sF f q d = sF g q d
  | 0, _, _ => rfl
  | d + 1, q, h => by
    show f q + sF f (q + 1) d = g q + sF g (q + 1) d
    rw [h q (Nat.le_refl _) (by omega), sF_congr d (q + 1) (fun j h1 h2 => h j (by omega) (by omega))]
theorem sF_nn {f : Nat → Int} : ∀ d q, (∀ j, q ≤ j → j < q + d → 0 ≤ f j) → 0 ≤ sF f q d
  | 0, _, _ => Int.le_refl _
  | d + 1, q, h => by
    have a := h q (Nat.le_refl _) (by omega)
    have b := sF_nn d (q + 1) (fun j h1 h2 => h j (by omega) (by omega))
    show 0 ≤ f q + sF f (q + 1) d
    omega
/-- the class's rows hold the choices -/
def Opt (Q : Nat) (n : Nat → Nat) (ov og : Nat → Nat → Int32) (o u : Nat → Int32) : Prop := ∀ q, q < Q → n q = (opC (o q) (u q)).length ∧ ∀ i, i < n q → (opC (o q) (u q))[i]? = some (ov q i, og q i)
def obd (Q : Nat) (o u : Nat → Int32) : Prop := ∀ q, q < Q → -1000 ≤ (o q).toInt ∧ (o q).toInt ≤ 1000 ∧ -1000 ≤ (u q).toInt ∧ (u q).toInt ≤ 1000
theorem leaf_way {Q : Nat} {n : Nat → Nat} {ov og : Nat → Nat → Int32} {o u : Nat → Int32} {bud : Int} (hO : Opt Q n ov og o u) (hb : obd Q o u) : ∀ (d q : Nat) (t : Nat → Int32) (g c : Int) (X : Kz), q + d = Q → c ≤ bud → Lf Q n ov og bud d q t g c X → ∃ e : Nat → Nat, (∀ j, e j < 3) ∧ (∀ j, q ≤ j → j < Q → -40 ≤ cZ (o j).toInt (e j) ∧ cZ (o j).toInt (e j) ≤ 40 ∧ X.2.2 j = cZ (o j).toInt (e j)) ∧ (∀ j, j < q → X.2.2 j = (t j).toInt) ∧ X.1 = g + sF (fun j => eZ (u j).toInt (e j)) q d ∧ X.2.1 = c + sF (fun j => cZ (o j).toInt (e j) * cZ (o j).toInt (e j)) q d ∧ X.2.1 ≤ bud := by
  intro d
  induction d with
  | zero =>
    intro q t g c X hq hc hl
    obtain ⟨x1, x2, x3⟩ := samK_el hl
    refine ⟨fun _ => 0, fun _ => Nat.zero_lt_succ 2, fun j h1 h2 => by omega, fun j hj => x3 j (by omega), ?_, ?_, by omega⟩
    · rw [x1]; show g = g + 0; omega
    · rw [x2]; show c = c + 0; omega
  | succ d ih =>
    intro q t g c X hq hc hl
    obtain ⟨i, h1, h2, h3⟩ := hl
    obtain ⟨e, a1, a2, a3, a4, a5, a6⟩ := ih (q + 1) _ _ _ X (by omega) h2 h3
    have hO2 := hO q (by omega)
    have hb2 := hb q (by omega)
    have hm : (ov q i, og q i) ∈ opC (o q) (u q) := List.mem_of_getElem? (hO2.2 i h1)
    obtain ⟨k, k1, k2, k3, k4, k5⟩ := opt_way ((opC_z hb2.1 hb2.2.1 hb2.2.2.1 hb2.2.2.2).1 _ hm)
    have k2' : cZ (o q).toInt k = (ov q i).toInt := k2
    have k3' : eZ (u q).toInt k = (og q i).toInt := k3
    have k4' : -40 ≤ (ov q i).toInt := k4
    have k5' : (ov q i).toInt ≤ 40 := k5
    have eq1 : ∀ j, j ≠ q → (if j = q then k else e j) = e j := fun j hj => if_neg hj
    refine ⟨fun j => if j = q then k else e j, fun j => ?_, fun j h4 h5 => ?_, fun j hj => ?_, ?_, ?_, a6⟩
    · show (if j = q then k else e j) < 3
      split
      · exact k1
      · exact a1 j
    · show -40 ≤ cZ (o j).toInt (if j = q then k else e j) ∧ cZ (o j).toInt (if j = q then k else e j) ≤ 40 ∧ X.2.2 j = cZ (o j).toInt (if j = q then k else e j)
      by_cases c9 : j = q
      · subst c9
        rw [if_pos rfl, k2']
        refine ⟨k4', k5', ?_⟩
        rw [a3 j (by omega)]
        show (upd t j (ov j i) j).toInt = _
        unfold upd
        rw [if_pos rfl]
      · rw [if_neg c9]
        exact a2 j (by omega) h5
    · rw [a3 j (by omega)]
      unfold upd
      rw [if_neg (by omega)]
    · rw [a4]
      have z : sF (fun j => eZ (u j).toInt (if j = q then k else e j)) q (d + 1) = eZ (u q).toInt k + sF (fun j => eZ (u j).toInt (e j)) (q + 1) d := by
        show eZ (u q).toInt (if q = q then k else e q) + sF (fun j => eZ (u j).toInt (if j = q then k else e j)) (q + 1) d = _
        rw [if_pos rfl, sF_congr d (q + 1) (fun j h6 _ => by show eZ (u j).toInt (if j = q then k else e j) = _; rw [eq1 j (by omega)])]
      rw [z, k3']
      omega
    · rw [a5]
      have z : sF (fun j => cZ (o j).toInt (if j = q then k else e j) * cZ (o j).toInt (if j = q then k else e j)) q (d + 1) = cZ (o q).toInt k * cZ (o q).toInt k + sF (fun j => cZ (o j).toInt (e j) * cZ (o j).toInt (e j)) (q + 1) d := by
        show cZ (o q).toInt (if q = q then k else e q) * cZ (o q).toInt (if q = q then k else e q) + sF (fun j => cZ (o j).toInt (if j = q then k else e j) * cZ (o j).toInt (if j = q then k else e j)) (q + 1) d = _
        rw [if_pos rfl, sF_congr d (q + 1) (fun j h6 _ => by show cZ (o j).toInt (if j = q then k else e j) * cZ (o j).toInt (if j = q then k else e j) = _; rw [eq1 j (by omega)])]
      rw [z, k2']
      omega
theorem way_leaf {Q : Nat} {n : Nat → Nat} {ov og : Nat → Nat → Int32} {o u : Nat → Int32} {bud : Int} (hO : Opt Q n ov og o u) (hb : obd Q o u) (e : Nat → Nat) (he : ∀ j, e j < 3) (hi : ∀ j, j < Q → -40 ≤ cZ (o j).toInt (e j) ∧ cZ (o j).toInt (e j) ≤ 40) : ∀ (d q : Nat) (t : Nat → Int32) (g c : Int), q + d = Q → c + sF (fun j => cZ (o j).toInt (e j) * cZ (o j).toInt (e j)) q d ≤ bud → ∃ X, Lf Q n ov og bud d q t g c X ∧ (∀ j, j < q → X.2.2 j = (t j).toInt) ∧ g + sF (fun j => eZ (u j).toInt (e j)) q d ≤ X.1 ∧ X.2.1 ≤ c + sF (fun j => cZ (o j).toInt (e j) * cZ (o j).toInt (e j)) q d ∧ (X.2.1 = c + sF (fun j => cZ (o j).toInt (e j) * cZ (o j).toInt (e j)) q d → ∀ j, q ≤ j → j < Q → X.2.2 j = cZ (o j).toInt (e j)) := by
  intro d
  induction d with
  | zero =>
    intro q t g c hq hc
    refine ⟨tK t g c, samK_mk rfl rfl (fun _ _ => rfl), fun _ _ => rfl, ?_, ?_, fun _ j h1 h2 => by omega⟩
    · show g + 0 ≤ g; omega
    · show c ≤ c + 0; omega
  | succ d ih =>
    intro q t g c hq hc
    have hO2 := hO q (by omega)
    have hb2 := hb q (by omega)
    have hz := opC_z hb2.1 hb2.2.1 hb2.2.2.1 hb2.2.2.2
    have e1 : sF (fun j => cZ (o j).toInt (e j) * cZ (o j).toInt (e j)) q (d + 1) = cZ (o q).toInt (e q) * cZ (o q).toInt (e q) + sF (fun j => cZ (o j).toInt (e j) * cZ (o j).toInt (e j)) (q + 1) d := rfl
    have e2 : sF (fun j => eZ (u j).toInt (e j)) q (d + 1) = eZ (u q).toInt (e q) + sF (fun j => eZ (u j).toInt (e j)) (q + 1) d := rfl
    have nn := sF_nn (f := fun j => cZ (o j).toInt (e j) * cZ (o j).toInt (e j)) d (q + 1) (fun j h1 h2 => (sqz (m := 40) (by have := hi j (by omega); omega) (hi j (by omega)).2).1)
    have pick : ∀ v g' : Int, (∃ x ∈ opC (o q) (u q), x.1.toInt = v ∧ x.2.toInt = g') → ∃ i, i < n q ∧ (ov q i).toInt = v ∧ (og q i).toInt = g' := by
      rintro v g' ⟨x, hx, h1, h2⟩
      obtain ⟨i, hi9⟩ := List.getElem?_of_mem hx
      have hlt : i < n q := by
        rw [hO2.1]
        exact (List.getElem?_eq_some_iff.mp hi9).1
      have h3 := hO2.2 i hlt
      rw [hi9] at h3
      have h4 := Option.some.inj h3
      refine ⟨i, hlt, ?_, ?_⟩
      · rw [← h1, h4]
      · rw [← h2, h4]
    rcases opt_dom (w := (u q).toInt) (he q) (hi q (by omega)).1 (hi q (by omega)).2 with hd | ⟨hd1, hd2⟩
    · obtain ⟨i, i1, i2, i3⟩ := pick _ _ (hz.2 _ _ hd)
      obtain ⟨X, x1, x2, x3, x4, x5⟩ := ih (q + 1) (upd t q (ov q i)) (g + (og q i).toInt) (c + (ov q i).toInt * (ov q i).toInt) (by omega) (by rw [i2]; omega)
      rw [i2] at x4 x5
      rw [i3] at x3
      refine ⟨X, ⟨i, i1, by rw [i2]; omega, x1⟩, fun j hj => ?_, by omega, by omega, fun hx j h1 h2 => ?_⟩
      · rw [x2 j (by omega)]
        unfold upd
        rw [if_neg (by omega)]
      · by_cases c9 : j = q
        · subst c9
          rw [x2 j (by omega)]
          unfold upd
          rw [if_pos rfl, i2]
        · exact x5 (by omega) j (by omega) h2
    · obtain ⟨i, i1, i2, i3⟩ := pick _ _ (hz.2 0 (gZ (o q).toInt (u q).toInt) (Or.inr (Or.inr ⟨rfl, rfl⟩)))
      have pos : 0 < cZ (o q).toInt (e q) * cZ (o q).toInt (e q) := by
        have s := sqz (m := 40) (z := cZ (o q).toInt (e q)) (by have := hi q (by omega); omega) (hi q (by omega)).2
        have : cZ (o q).toInt (e q) * cZ (o q).toInt (e q) ≠ 0 := fun z => by
          rcases Int.mul_eq_zero.mp z with y | y <;> exact hd1 y
        omega
      obtain ⟨X, x1, x2, x3, x4, x5⟩ := ih (q + 1) (upd t q (ov q i)) (g + (og q i).toInt) (c + (ov q i).toInt * (ov q i).toInt) (by omega) (by rw [i2, Int.zero_mul]; omega)
      have z0 : (ov q i).toInt * (ov q i).toInt = 0 := by rw [i2, Int.zero_mul]
      rw [z0] at x4 x5
      rw [i3] at x3
      refine ⟨X, ⟨i, i1, by rw [z0]; omega, x1⟩, fun j hj => ?_, by omega, by omega, fun hx => by omega⟩
      rw [x2 j (by omega)]
      unfold upd
      rw [if_neg (by omega)]
def dzF (x : Int) : Nat := if 0 < x then 0 else if x = 0 then 1 else 2
theorem dzF_lt (x : Int) : dzF x < 3 := by
  unfold dzF
  by_cases c : 0 < x
  · rw [if_pos c]; omega
  · rw [if_neg c]
    by_cases d : x = 0
    · rw [if_pos d]; omega
    · rw [if_neg d]; omega
theorem ze_feas (B : MI) {Q p : Nat} {o u : Nat → Int32} (hW : Wok B Q p o u) (w0 : Nat) (w0b : ∀ q, q < Q → dgW w0 q = dzF (o q).toInt) : feW o (B 20 p).toInt Q w0 := by
  have v0 : ∀ q, q < Q → vW o w0 q = 0 := by
    intro q hq
    unfold vW
    rw [w0b q hq]
    unfold dzF
    by_cases c : 0 < (o q).toInt
    · rw [if_pos c]
      show (if (o q).toInt ≤ 0 then 1 - (o q).toInt else 0) = 0
      rw [if_neg (by omega)]
    · rw [if_neg c]
      by_cases d : (o q).toInt = 0
      · rw [if_pos d]
        show -(o q).toInt = 0
        omega
      · rw [if_neg d]
        show (if 0 ≤ (o q).toInt then -1 - (o q).toInt else 0) = 0
        rw [if_neg (by omega)]
  refine ⟨fun q hq => by rw [v0 q hq]; omega, ?_⟩
  have : zS (fun q => vW o w0 q * vW o w0 q) Q = zS (fun _ => 0) Q := zS_congr Q (fun q hq => by rw [v0 q hq]; rfl)
  rw [this]
  have : ∀ k, zS (fun _ => 0) k = 0 := by
    intro k
    induction k with
    | zero => rfl
    | succ k ih =>
      show zS (fun _ => 0) k + 0 = 0
      omega
  rw [this]
  exact hW.1.2.1
/-- the class's and the reference's searches tell the same -/
theorem best_eq {Q : Nat} {n : Nat → Nat} {ov og : Nat → Nat → Int32} {ga : Nat → Int32} {bud : Int32} {o u : Nat → Int32} {B : MI} {p : Nat} (hS : Sok Q n ov og ga bud) (hO : Opt Q n ov og o u) (hW : Wok B Q p o u) (hbud : bud = B 20 p) (s : SS) (hs : s.2.2.1 = -1000000) (m : MS) (hm : m.2.2.2.2 = 0) :
    samK Q (sK (tryF Q n ov og ga bud Q 0 s 0 0)) (mK (foF (wayF B Q p) (3 ^ Q) m)) := by
  have hb : obd Q o u := hW.2.1
  obtain ⟨t1, t2, t3, t4⟩ := try_ok hS Q 0 s 0 0 (Nat.zero_add Q) (by rw [e0]; decide) (by rw [e0]; decide) (by rw [e0]; omega) (by rw [e0]; exact hS.1.2.1)
  rw [e0] at t2 t4
  have W := way_ok hW m hm (3 ^ Q)
  generalize tryF Q n ov og ga bud Q 0 s 0 0 = s' at t1 t2 t3 t4 ⊢
  generalize foF (wayF B Q p) (3 ^ Q) m = m' at W ⊢
  have hb0 : (0 : Int) ≤ bud.toInt := hS.1.2.1
  -- a way has a leaf that is not worse
  have BB : ∀ w, feW o bud.toInt Q w → ∃ X, Lf Q n ov og bud.toInt Q 0 s.1 0 0 X ∧ geK Q X (wK o u Q w) ∧ zS (gW u w) Q ≤ X.1 := by
    rintro w ⟨f1, f2⟩
    have f3 : (0 : Int) + sF (fun j => cZ (o j).toInt (dgW w j) * cZ (o j).toInt (dgW w j)) 0 Q ≤ bud.toInt := by
      rw [sF_0, Int.zero_add]
      exact f2
    obtain ⟨X, x1, x2, x3, x4, x5⟩ := way_leaf hO hb (dgW w) (dgW_lt w) f1 Q 0 s.1 0 0 (Nat.zero_add Q) f3
    rw [sF_0, Int.zero_add] at x3 x4 x5
    have g1 : zS (gW u w) Q = zS (fun j => eZ (u j).toInt (dgW w j)) Q := rfl
    have c1 : zS (fun q => vW o w q * vW o w q) Q = zS (fun j => cZ (o j).toInt (dgW w j) * cZ (o j).toInt (dgW w j)) Q := rfl
    refine ⟨X, x1, fun z => ?_, by rw [g1]; exact x3⟩
    have z2 : X.1 < (wK o u Q w).1 ∨ ((wK o u Q w).1 = X.1 ∧ ((wK o u Q w).2.1 < X.2.1 ∨ ((wK o u Q w).2.1 = X.2.1 ∧ lexZ Q (wK o u Q w).2.2 X.2.2))) := z
    rw [wK_1, wK_2, g1, c1] at z2
    rcases z2 with z2 | ⟨_, z2 | ⟨z2, l⟩⟩
    · omega
    · omega
    · have y := x5 z2.symm
      exact lexZ_irr (lexZ_congr (fun j hj => rfl) (fun j hj => y j (Nat.zero_le _) hj) l)
  -- no voices at all: a way that goes
  obtain ⟨w0, w0a, w0b⟩ := digits (e := fun q => dzF (o q).toInt) (fun q => dzF_lt _) Q
  have hf0 : feW o bud.toInt Q w0 := by
    rw [hbud]
    exact ze_feas B hW w0 w0b
  rw [← hbud] at W
  rcases W with ⟨_, W⟩ | ⟨_, ⟨wm, wm1, wm2, wm3⟩, W⟩
  · exact absurd hf0 (W w0 w0a)
  · -- what the class found is a leaf
    have hX : ∃ X, Lf Q n ov og bud.toInt Q 0 s.1 0 0 X ∧ samK Q (sK s') X := by
      rcases t2 with t2 | t2
      · exfalso
        obtain ⟨X, x1, _, x3⟩ := BB w0 hf0
        have k := t4 X x1
        have bd := zS_bd (f := gW u w0) (m := 2000) Q (fun q hq => by
          have b := hb q hq
          exact eZ_bd b.2.2.1 b.2.2.2)
        have hQ6 : (Q : Int) ≤ 6 := by have := hS.1.1; omega
        apply k
        refine Or.inl ?_
        rw [sK_1, t2, hs]
        have : (-1000000 : Int32).toInt = -1000000 := by decide
        rw [this]
        omega
      · exact t2
    obtain ⟨X, x1, x2⟩ := hX
    obtain ⟨e, a1, a2, a3, a4, a5, a6⟩ := leaf_way hO hb Q 0 s.1 0 0 X (Nat.zero_add Q) hb0 x1
    obtain ⟨w, w1, w2⟩ := digits a1 Q
    have vw : ∀ q, q < Q → vW o w q = cZ (o q).toInt (e q) := fun q hq => by unfold vW; rw [w2 q hq]
    have gw : ∀ q, q < Q → gW u w q = eZ (u q).toInt (e q) := fun q hq => by unfold gW; rw [w2 q hq]
    rw [sF_0, Int.zero_add] at a4 a5
    have cw : zS (fun q => vW o w q * vW o w q) Q = zS (fun j => cZ (o j).toInt (e j) * cZ (o j).toInt (e j)) Q := zS_congr Q (fun q hq => by rw [vw q hq])
    have hfw : feW o bud.toInt Q w := by
      refine ⟨fun q hq => ?_, ?_⟩
      · rw [vw q hq]
        have := a2 q (Nat.zero_le _) hq
        exact ⟨this.1, this.2.1⟩
      · rw [cw]
        omega
    have sXw : samK Q X (wK o u Q w) := by
      refine ⟨?_, ?_, fun j hj => ?_⟩
      · rw [wK_1, a4]
        exact (zS_congr Q gw).symm
      · rw [wK_2, a5, cw]
      · rw [wK_3, vw j hj]
        exact (a2 j (Nat.zero_le _) hj).2.2
    have k1 : geK Q (mK m') (sK s') := geK_trans (geK_trans (W w w1 hfw) (geK_same sXw.symm)) (geK_same x2.symm)
    obtain ⟨Y, y1, y2, _⟩ := BB wm wm2
    have k2 : geK Q (sK s') (mK m') := geK_trans (geK_trans (t4 Y y1) y2) (geK_same wm3.symm)
    exact btr_tot k1 k2

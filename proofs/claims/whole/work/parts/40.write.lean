/-! what a call writes keeps both sides alike -/
theorem e2000 : (2000 : Int32).toInt = 2000 := by decide
theorem RelC.person {A B : MI} {P Q R : Nat} {b : Int32} (h : RelC A B P Q R) (hb1 : 0 ≤ b.toInt) (hb2 : b.toInt ≤ 2000) (hP : P < 12) : RelC (hx_u (hx_u (hx_u A 6 P b) 7 P 1) 1 0 (nI (P + 1))) (hx_u (hx_u (hx_u B 20 P b) 21 P 1) 5 0 (nI (P + 1))) (P + 1) Q R := by
  obtain ⟨h1, h2, h3, h4, h5, h6, h7, h8, h9, h10⟩ := h
  have ea : ∀ a, 33 ≤ a → hx_u (hx_u (hx_u A 6 P b) 7 P 1) 1 0 (nI (P + 1)) a = A a := fun a ha => by
    rw [hx_u_ne _ _ _ (by omega), hx_u_ne _ _ _ (by omega), hx_u_ne _ _ _ (by omega)]
  have eb : ∀ a, 22 ≤ a → hx_u (hx_u (hx_u B 20 P b) 21 P 1) 5 0 (nI (P + 1)) a = B a := fun a ha => by
    rw [hx_u_ne _ _ _ (by omega), hx_u_ne _ _ _ (by omega), hx_u_ne _ _ _ (by omega)]
  have a1 : ∀ j, j ≠ 0 → hx_u (hx_u (hx_u A 6 P b) 7 P 1) 1 0 (nI (P + 1)) 1 j = A 1 j := fun j hj => by
    rw [hx_u_same, upd_ne hj, hx_u_ne _ _ _ (by decide), hx_u_ne _ _ _ (by decide)]
  have b5 : ∀ j, j ≠ 0 → hx_u (hx_u (hx_u B 20 P b) 21 P 1) 5 0 (nI (P + 1)) 5 j = B 5 j := fun j hj => by
    rw [hx_u_same, upd_ne hj, hx_u_ne _ _ _ (by decide), hx_u_ne _ _ _ (by decide)]
  have ev : ∀ p q, vC (hx_u (hx_u (hx_u A 6 P b) 7 P 1) 1 0 (nI (P + 1))) p q = vC A p q := fun p q => congrFun (ea (33 + p) (by omega)) q
  have ew : ∀ p q, wC (hx_u (hx_u (hx_u A 6 P b) 7 P 1) 1 0 (nI (P + 1))) p q = wC A p q := fun p q => congrFun (ea (45 + p) (by omega)) q
  have eg : ∀ p q, gC (hx_u (hx_u (hx_u A 6 P b) 7 P 1) 1 0 (nI (P + 1))) p q = gC A p q := fun p q => congrFun (ea (100 + p) (by omega)) q
  have ebd : ∀ p q, bC (hx_u (hx_u (hx_u A 6 P b) 7 P 1) 1 0 (nI (P + 1))) p q = bC A p q := fun p q => congrFun (ea (112 + p) (by omega)) q
  have fv : ∀ p q, vM (hx_u (hx_u (hx_u B 20 P b) 21 P 1) 5 0 (nI (P + 1))) p q = vM B p q := fun p q => congrFun (eb 22 (by decide)) _
  have fw : ∀ p q, wM (hx_u (hx_u (hx_u B 20 P b) 21 P 1) 5 0 (nI (P + 1))) p q = wM B p q := fun p q => congrFun (eb 23 (by decide)) _
  have fg : ∀ p q, gM (hx_u (hx_u (hx_u B 20 P b) 21 P 1) 5 0 (nI (P + 1))) p q = gM B p q := fun p q => congrFun (eb 24 (by decide)) _
  have fb : ∀ p q, bM (hx_u (hx_u (hx_u B 20 P b) 21 P 1) 5 0 (nI (P + 1))) p q = bM B p q := fun p q => congrFun (eb 25 (by decide)) _
  refine ⟨⟨?_, ?_, by omega⟩, ?_, ?_, ?_, ?_, ?_, ?_, ?_, ?_, ?_⟩
  · rw [hx_u_same, upd_at]
  · rw [hx_u_same, upd_at]
  · rw [a1 1 (by decide), b5 1 (by decide)]
    exact h2
  · rw [hx_u_ne _ _ _ (by decide), hx_u_ne _ _ _ (by decide), hx_u_ne _ _ _ (by decide), b5 2 (by decide)]
    exact h3
  · rw [a1 2 (by decide), b5 3 (by decide)]
    exact h4
  · intro p hp
    rw [hx_u_ne _ _ _ (show 6 ≠ 1 by decide), hx_u_ne _ _ _ (show 6 ≠ 7 by decide), hx_u_ne _ _ _ (show 7 ≠ 1 by decide), hx_u_same _ 7, hx_u_ne _ _ _ (show 7 ≠ 6 by decide), hx_u_same _ 6,
      hx_u_ne _ _ _ (show 20 ≠ 5 by decide), hx_u_ne _ _ _ (show 20 ≠ 21 by decide), hx_u_ne _ _ _ (show 21 ≠ 5 by decide), hx_u_same _ 21, hx_u_ne _ _ _ (show 21 ≠ 20 by decide), hx_u_same _ 20]
    by_cases c : p = P
    · subst c
      rw [upd_at, upd_at, upd_at, upd_at]
      exact ⟨rfl, rfl, hb1, hb2⟩
    · rw [upd_ne c, upd_ne c, upd_ne c, upd_ne c]
      exact h5 p hp
  · intro p q hp hq
    rw [ev, ew, eg, fv, fw, fg]
    exact h6 p q hp hq
  · intro p r hp hr
    rw [ebd, fb]
    exact h7 p r hp hr
  · intro p q hp hq
    rw [ev, ew, eg]
    exact h8 p q hp hq
  · intro p r hp hr
    rw [ebd]
    exact h9 p r hp hr
  · intro p q hp hq c
    rw [ev]
    exact h10 p q hp hq (c.elim (fun z => Or.inl (by omega)) Or.inr)
theorem RelC.hd {A B A' B' : MI} {P Q R P' Q' R' : Nat} (h : RelC A B P Q R) (ha : ∀ a, 6 ≤ a → A' a = A a) (hb : ∀ a, 20 ≤ a → B' a = B a) (hP : P ≤ P') (hQ : Q ≤ Q') (c1 : A' 1 0 = nI P' ∧ B' 5 0 = nI P' ∧ P' ≤ 12) (c2 : A' 1 1 = nI Q' ∧ B' 5 1 = nI Q' ∧ Q' ≤ 6) (c3 : A' 4 1 = nI R' ∧ B' 5 2 = nI R' ∧ R' ≤ 6) (c4 : A' 1 2 = B' 5 3) : RelC A' B' P' Q' R' := by
  obtain ⟨-, -, -, -, h5, h6, h7, h8, h9, h10⟩ := h
  have ev : ∀ p q, vC A' p q = vC A p q := fun p q => congrFun (ha (33 + p) (by omega)) q
  have ew : ∀ p q, wC A' p q = wC A p q := fun p q => congrFun (ha (45 + p) (by omega)) q
  have eg : ∀ p q, gC A' p q = gC A p q := fun p q => congrFun (ha (100 + p) (by omega)) q
  have ebd : ∀ p q, bC A' p q = bC A p q := fun p q => congrFun (ha (112 + p) (by omega)) q
  have fv : ∀ p q, vM B' p q = vM B p q := fun p q => congrFun (hb 22 (by decide)) _
  have fw : ∀ p q, wM B' p q = wM B p q := fun p q => congrFun (hb 23 (by decide)) _
  have fg : ∀ p q, gM B' p q = gM B p q := fun p q => congrFun (hb 24 (by decide)) _
  have fb : ∀ p q, bM B' p q = bM B p q := fun p q => congrFun (hb 25 (by decide)) _
  refine ⟨c1, c2, c3, c4, ?_, ?_, ?_, ?_, ?_, ?_⟩
  · rw [ha 6 (by decide), ha 7 (by decide), hb 20 (by decide), hb 21 (by decide)]
    exact h5
  · intro p q hp hq
    rw [ev, ew, eg, fv, fw, fg]
    exact h6 p q hp hq
  · intro p r hp hr
    rw [ebd, fb]
    exact h7 p r hp hr
  · intro p q hp hq
    rw [ev, ew, eg]
    exact h8 p q hp hq
  · intro p r hp hr
    rw [ebd]
    exact h9 p r hp hr
  · intro p q hp hq c
    rw [ev]
    exact h10 p q hp hq (by omega)
theorem hx_u_at1 (I : MI) (k i : Nat) (x : Int32) : hx_u I k i x k i = x := by rw [hx_u_same, upd_at]
theorem hx_u_at2 (I : MI) {k i j : Nat} (x : Int32) (h : j ≠ i) : hx_u I k i x k j = I k j := by rw [hx_u_same, upd_ne h]
theorem RelC.question {A B : MI} {P Q R : Nat} (h : RelC A B P Q R) (hQ : Q < 6) : RelC (hx_u A 1 1 (nI (Q + 1))) (hx_u B 5 1 (nI (Q + 1))) P (Q + 1) R := by
  refine h.hd (fun a ha => hx_u_ne _ _ _ (by omega)) (fun a ha => hx_u_ne _ _ _ (by omega)) (Nat.le_refl _) (by omega) ?_ ⟨hx_u_at1 _ _ _ _, hx_u_at1 _ _ _ _, by omega⟩ ?_ ?_
  · rw [hx_u_at2 _ _ (by decide), hx_u_at2 _ _ (by decide)]
    exact h.1
  · rw [hx_u_ne _ _ _ (by decide), hx_u_at2 _ _ (by decide)]
    exact h.2.2.1
  · rw [hx_u_at2 _ _ (by decide), hx_u_at2 _ _ (by decide)]
    exact h.2.2.2.1
theorem RelC.project {A B : MI} {P Q R : Nat} (h : RelC A B P Q R) (hR : R < 6) : RelC (hx_u A 4 1 (nI (R + 1))) (hx_u B 5 2 (nI (R + 1))) P Q (R + 1) := by
  refine h.hd (fun a ha => hx_u_ne _ _ _ (by omega)) (fun a ha => hx_u_ne _ _ _ (by omega)) (Nat.le_refl _) (Nat.le_refl _) ?_ ?_ ⟨hx_u_at1 _ _ _ _, hx_u_at1 _ _ _ _, by omega⟩ ?_
  · rw [hx_u_ne _ _ _ (by decide), hx_u_at2 _ _ (by decide)]
    exact h.1
  · rw [hx_u_ne _ _ _ (by decide), hx_u_at2 _ _ (by decide)]
    exact h.2.1
  · rw [hx_u_ne _ _ _ (by decide), hx_u_at2 _ _ (by decide)]
    exact h.2.2.2.1
theorem RelC.seed {A B : MI} {P Q R : Nat} (x : Int32) (h : RelC A B P Q R) : RelC (hx_u A 1 2 x) (hx_u B 5 3 x) P Q R := by
  refine h.hd (fun a ha => hx_u_ne _ _ _ (by omega)) (fun a ha => hx_u_ne _ _ _ (by omega)) (Nat.le_refl _) (Nat.le_refl _) ?_ ?_ ?_ ?_
  · rw [hx_u_at2 _ _ (by decide), hx_u_at2 _ _ (by decide)]
    exact h.1
  · rw [hx_u_at2 _ _ (by decide), hx_u_at2 _ _ (by decide)]
    exact h.2.1
  · rw [hx_u_ne _ _ _ (by decide), hx_u_at2 _ _ (by decide)]
    exact h.2.2.1
  · rw [hx_u_at1, hx_u_at1]
/-- one place of the rows -/
theorem row_at {I : MI} {k p q a b : Nat} {z : Int32} : hx_u I (k + p) q z (k + a) b = if a = p ∧ b = q then z else I (k + a) b := by
  by_cases c : a = p
  · subst c
    by_cases d : b = q
    · subst d
      rw [hx_u_at1, if_pos ⟨rfl, rfl⟩]
    · rw [hx_u_at2 _ _ d, if_neg (fun w => d w.2)]
  · rw [hx_u_ne _ _ _ (by omega), if_neg (fun w => c w.1)]
theorem flat_at {I : MI} {k n p q a b : Nat} {z : Int32} (hb : b < n) (hq : q < n) : hx_u I k (n * p + q) z k (n * a + b) = if a = p ∧ b = q then z else I k (n * a + b) := by
  by_cases c : a = p ∧ b = q
  · obtain ⟨rfl, rfl⟩ := c
    rw [hx_u_at1, if_pos ⟨rfl, rfl⟩]
  · rw [hx_u_at2, if_neg c]
    intro e
    apply c
    have e1 : (n * a + b) / n = (n * p + q) / n := by rw [e]
    rw [Nat.mul_add_div (by omega), Nat.mul_add_div (by omega), Nat.div_eq_of_lt hb, Nat.div_eq_of_lt hq] at e1
    have e2 : a = p := by omega
    subst e2
    exact ⟨rfl, by omega⟩
theorem ite_two {α : Type} {c : Prop} [Decidable c] {x y : α} {p : α → Prop} (h1 : p x) (h2 : p y) : p (if c then x else y) := by
  split
  · exact h1
  · exact h2
theorem ite_eq2 {α : Type} {c : Prop} [Decidable c] {x y y' : α} (h : y = y') : (if c then x else y) = (if c then x else y') := by rw [h]
theorem RelC.vote {A B : MI} {P Q R p q : Nat} {z : Int32} (h : RelC A B P Q R) (hp : p < P) (hq : q < Q) (z1 : -40 ≤ z.toInt) (z2 : z.toInt ≤ 40) : RelC (hx_u A (33 + p) q z) (hx_u B 22 (6 * p + q) z) P Q R := by
  obtain ⟨h1, h2, h3, h4, h5, h6, h7, h8, h9, h10⟩ := h
  have l := h1.2.2
  have l2 := h2.2.2
  have ev : ∀ a b, vC (hx_u A (33 + p) q z) a b = if a = p ∧ b = q then z else vC A a b := fun a b => row_at
  have fv : ∀ a b, b < 6 → vM (hx_u B 22 (6 * p + q) z) a b = if a = p ∧ b = q then z else vM B a b := fun a b hb => flat_at hb (by omega)
  have ew : ∀ a b, wC (hx_u A (33 + p) q z) a b = wC A a b := fun a b => congrFun (hx_u_ne _ _ _ (by omega)) b
  have eg : ∀ a b, gC (hx_u A (33 + p) q z) a b = gC A a b := fun a b => congrFun (hx_u_ne _ _ _ (by omega)) b
  have eb : ∀ a b, bC (hx_u A (33 + p) q z) a b = bC A a b := fun a b => congrFun (hx_u_ne _ _ _ (by omega)) b
  have o : ∀ a, a < 33 → hx_u A (33 + p) q z a = A a := fun a ha => hx_u_ne _ _ _ (by omega)
  have ob : ∀ a, a ≠ 22 → hx_u B 22 (6 * p + q) z a = B a := fun a ha => hx_u_ne _ _ _ ha
  have fw : ∀ a b, wM (hx_u B 22 (6 * p + q) z) a b = wM B a b := fun a b => congrFun (ob 23 (by decide)) _
  have fg : ∀ a b, gM (hx_u B 22 (6 * p + q) z) a b = gM B a b := fun a b => congrFun (ob 24 (by decide)) _
  have fb : ∀ a b, bM (hx_u B 22 (6 * p + q) z) a b = bM B a b := fun a b => congrFun (ob 25 (by decide)) _
  refine ⟨?_, ?_, ?_, ?_, ?_, ?_, ?_, ?_, ?_, ?_⟩
  · rw [o 1 (by decide), ob 5 (by decide)]
    exact h1
  · rw [o 1 (by decide), ob 5 (by decide)]
    exact h2
  · rw [o 4 (by decide), ob 5 (by decide)]
    exact h3
  · rw [o 1 (by decide), ob 5 (by decide)]
    exact h4
  · rw [o 6 (by decide), o 7 (by decide), ob 20 (by decide), ob 21 (by decide)]
    exact h5
  · intro a b ha hb
    rw [ev, fv _ _ hb, ew, fw, eg, fg]
    exact ⟨ite_eq2 (h6 a b ha hb).1, (h6 a b ha hb).2⟩
  · intro a b ha hb
    rw [eb, fb]
    exact h7 a b ha hb
  · intro a b ha hb
    rw [ev, ew, eg]
    refine ⟨ite_two (p := fun v : Int32 => -40 ≤ v.toInt) z1 (h8 a b ha hb).1, ite_two (p := fun v : Int32 => v.toInt ≤ 40) z2 (h8 a b ha hb).2.1, (h8 a b ha hb).2.2⟩
  · intro a b ha hb
    rw [eb]
    exact h9 a b ha hb
  · intro a b ha hb c
    rw [ev, if_neg (by omega)]
    exact h10 a b ha hb c
theorem RelC.worth {A B : MI} {P Q R p q : Nat} {z : Int32} (h : RelC A B P Q R) (hp : p < P) (hq : q < Q) (z1 : -1000 ≤ z.toInt) (z2 : z.toInt ≤ 1000) : RelC (hx_u A (45 + p) q z) (hx_u B 23 (6 * p + q) z) P Q R := by
  obtain ⟨h1, h2, h3, h4, h5, h6, h7, h8, h9, h10⟩ := h
  have l := h1.2.2
  have l2 := h2.2.2
  have ew : ∀ a b, wC (hx_u A (45 + p) q z) a b = if a = p ∧ b = q then z else wC A a b := fun a b => row_at
  have fw : ∀ a b, b < 6 → wM (hx_u B 23 (6 * p + q) z) a b = if a = p ∧ b = q then z else wM B a b := fun a b hb => flat_at hb (by omega)
  have ev : ∀ a b, a < 12 → vC (hx_u A (45 + p) q z) a b = vC A a b := fun a b ha => congrFun (hx_u_ne _ _ _ (by omega)) b
  have eg : ∀ a b, gC (hx_u A (45 + p) q z) a b = gC A a b := fun a b => congrFun (hx_u_ne _ _ _ (by omega)) b
  have eb : ∀ a b, bC (hx_u A (45 + p) q z) a b = bC A a b := fun a b => congrFun (hx_u_ne _ _ _ (by omega)) b
  have o : ∀ a, a < 33 → hx_u A (45 + p) q z a = A a := fun a ha => hx_u_ne _ _ _ (by omega)
  have ob : ∀ a, a ≠ 23 → hx_u B 23 (6 * p + q) z a = B a := fun a ha => hx_u_ne _ _ _ ha
  have fv : ∀ a b, vM (hx_u B 23 (6 * p + q) z) a b = vM B a b := fun a b => congrFun (ob 22 (by decide)) _
  have fg : ∀ a b, gM (hx_u B 23 (6 * p + q) z) a b = gM B a b := fun a b => congrFun (ob 24 (by decide)) _
  have fb : ∀ a b, bM (hx_u B 23 (6 * p + q) z) a b = bM B a b := fun a b => congrFun (ob 25 (by decide)) _
  refine ⟨?_, ?_, ?_, ?_, ?_, ?_, ?_, ?_, ?_, ?_⟩
  · rw [o 1 (by decide), ob 5 (by decide)]
    exact h1
  · rw [o 1 (by decide), ob 5 (by decide)]
    exact h2
  · rw [o 4 (by decide), ob 5 (by decide)]
    exact h3
  · rw [o 1 (by decide), ob 5 (by decide)]
    exact h4
  · rw [o 6 (by decide), o 7 (by decide), ob 20 (by decide), ob 21 (by decide)]
    exact h5
  · intro a b ha hb
    rw [ev _ _ ha, fv, ew, fw _ _ hb, eg, fg]
    exact ⟨(h6 a b ha hb).1, ite_eq2 (h6 a b ha hb).2.1, (h6 a b ha hb).2.2⟩
  · intro a b ha hb
    rw [eb, fb]
    exact h7 a b ha hb
  · intro a b ha hb
    rw [ev _ _ ha, ew, eg]
    refine ⟨(h8 a b ha hb).1, (h8 a b ha hb).2.1, ite_two (p := fun v : Int32 => -1000 ≤ v.toInt) z1 (h8 a b ha hb).2.2.1, ite_two (p := fun v : Int32 => v.toInt ≤ 1000) z2 (h8 a b ha hb).2.2.2.1, (h8 a b ha hb).2.2.2.2⟩
  · intro a b ha hb
    rw [eb]
    exact h9 a b ha hb
  · intro a b ha hb c
    rw [ev _ _ ha]
    exact h10 a b ha hb c
theorem RelC.gift {A B : MI} {P Q R p q : Nat} {z : Int32} (h : RelC A B P Q R) (hp : p < P) (hq : q < R) (z1 : 0 ≤ z.toInt) (z2 : z.toInt ≤ 1000000) : RelC (hx_u A (100 + p) q z) (hx_u B 24 (6 * p + q) z) P Q R := by
  obtain ⟨h1, h2, h3, h4, h5, h6, h7, h8, h9, h10⟩ := h
  have l := h1.2.2
  have l2 := h3.2.2
  have eg : ∀ a b, gC (hx_u A (100 + p) q z) a b = if a = p ∧ b = q then z else gC A a b := fun a b => row_at
  have fg : ∀ a b, b < 6 → gM (hx_u B 24 (6 * p + q) z) a b = if a = p ∧ b = q then z else gM B a b := fun a b hb => flat_at hb (by omega)
  have ev : ∀ a b, a < 12 → vC (hx_u A (100 + p) q z) a b = vC A a b := fun a b ha => congrFun (hx_u_ne _ _ _ (by omega)) b
  have ew : ∀ a b, a < 12 → wC (hx_u A (100 + p) q z) a b = wC A a b := fun a b ha => congrFun (hx_u_ne _ _ _ (by omega)) b
  have eb : ∀ a b, bC (hx_u A (100 + p) q z) a b = bC A a b := fun a b => congrFun (hx_u_ne _ _ _ (by omega)) b
  have o : ∀ a, a < 33 → hx_u A (100 + p) q z a = A a := fun a ha => hx_u_ne _ _ _ (by omega)
  have ob : ∀ a, a ≠ 24 → hx_u B 24 (6 * p + q) z a = B a := fun a ha => hx_u_ne _ _ _ ha
  have fv : ∀ a b, vM (hx_u B 24 (6 * p + q) z) a b = vM B a b := fun a b => congrFun (ob 22 (by decide)) _
  have fw : ∀ a b, wM (hx_u B 24 (6 * p + q) z) a b = wM B a b := fun a b => congrFun (ob 23 (by decide)) _
  have fb : ∀ a b, bM (hx_u B 24 (6 * p + q) z) a b = bM B a b := fun a b => congrFun (ob 25 (by decide)) _
  refine ⟨?_, ?_, ?_, ?_, ?_, ?_, ?_, ?_, ?_, ?_⟩
  · rw [o 1 (by decide), ob 5 (by decide)]
    exact h1
  · rw [o 1 (by decide), ob 5 (by decide)]
    exact h2
  · rw [o 4 (by decide), ob 5 (by decide)]
    exact h3
  · rw [o 1 (by decide), ob 5 (by decide)]
    exact h4
  · rw [o 6 (by decide), o 7 (by decide), ob 20 (by decide), ob 21 (by decide)]
    exact h5
  · intro a b ha hb
    rw [ev _ _ ha, fv, ew _ _ ha, fw, eg, fg _ _ hb]
    exact ⟨(h6 a b ha hb).1, (h6 a b ha hb).2.1, ite_eq2 (h6 a b ha hb).2.2⟩
  · intro a b ha hb
    rw [eb, fb]
    exact h7 a b ha hb
  · intro a b ha hb
    rw [ev _ _ ha, ew _ _ ha, eg]
    refine ⟨(h8 a b ha hb).1, (h8 a b ha hb).2.1, (h8 a b ha hb).2.2.1, (h8 a b ha hb).2.2.2.1, ite_two (p := fun v : Int32 => 0 ≤ v.toInt) z1 (h8 a b ha hb).2.2.2.2.1, ite_two (p := fun v : Int32 => v.toInt ≤ 1000000) z2 (h8 a b ha hb).2.2.2.2.2⟩
  · intro a b ha hb
    rw [eb]
    exact h9 a b ha hb
  · intro a b ha hb c
    rw [ev _ _ ha]
    exact h10 a b ha hb c
theorem RelC.bond1 {A B : MI} {P Q R p q : Nat} {z : Int32} (h : RelC A B P Q R) (hp : p < P) (hq : q < P) (z1 : 0 ≤ z.toInt) (z2 : z.toInt ≤ 1000) : RelC (hx_u A (112 + p) q z) (hx_u B 25 (12 * p + q) z) P Q R := by
  obtain ⟨h1, h2, h3, h4, h5, h6, h7, h8, h9, h10⟩ := h
  have l := h1.2.2
  have eb : ∀ a b, bC (hx_u A (112 + p) q z) a b = if a = p ∧ b = q then z else bC A a b := fun a b => row_at
  have fb : ∀ a b, b < 12 → bM (hx_u B 25 (12 * p + q) z) a b = if a = p ∧ b = q then z else bM B a b := fun a b hb => flat_at hb (by omega)
  have ev : ∀ a b, a < 12 → vC (hx_u A (112 + p) q z) a b = vC A a b := fun a b ha => congrFun (hx_u_ne _ _ _ (by omega)) b
  have ew : ∀ a b, a < 12 → wC (hx_u A (112 + p) q z) a b = wC A a b := fun a b ha => congrFun (hx_u_ne _ _ _ (by omega)) b
  have eg : ∀ a b, a < 12 → gC (hx_u A (112 + p) q z) a b = gC A a b := fun a b ha => congrFun (hx_u_ne _ _ _ (by omega)) b
  have o : ∀ a, a < 33 → hx_u A (112 + p) q z a = A a := fun a ha => hx_u_ne _ _ _ (by omega)
  have ob : ∀ a, a ≠ 25 → hx_u B 25 (12 * p + q) z a = B a := fun a ha => hx_u_ne _ _ _ ha
  have fv : ∀ a b, vM (hx_u B 25 (12 * p + q) z) a b = vM B a b := fun a b => congrFun (ob 22 (by decide)) _
  have fw : ∀ a b, wM (hx_u B 25 (12 * p + q) z) a b = wM B a b := fun a b => congrFun (ob 23 (by decide)) _
  have fg : ∀ a b, gM (hx_u B 25 (12 * p + q) z) a b = gM B a b := fun a b => congrFun (ob 24 (by decide)) _
  refine ⟨?_, ?_, ?_, ?_, ?_, ?_, ?_, ?_, ?_, ?_⟩
  · rw [o 1 (by decide), ob 5 (by decide)]
    exact h1
  · rw [o 1 (by decide), ob 5 (by decide)]
    exact h2
  · rw [o 4 (by decide), ob 5 (by decide)]
    exact h3
  · rw [o 1 (by decide), ob 5 (by decide)]
    exact h4
  · rw [o 6 (by decide), o 7 (by decide), ob 20 (by decide), ob 21 (by decide)]
    exact h5
  · intro a b ha hb
    rw [ev _ _ ha, fv, ew _ _ ha, fw, eg _ _ ha, fg]
    exact h6 a b ha hb
  · intro a b ha hb
    rw [eb, fb _ _ hb]
    exact ite_eq2 (h7 a b ha hb)
  · intro a b ha hb
    rw [ev _ _ ha, ew _ _ ha, eg _ _ ha]
    exact h8 a b ha hb
  · intro a b ha hb
    rw [eb]
    exact ⟨ite_two (p := fun v : Int32 => 0 ≤ v.toInt) z1 (h9 a b ha hb).1, ite_two (p := fun v : Int32 => v.toInt ≤ 1000) z2 (h9 a b ha hb).2⟩
  · intro a b ha hb c
    rw [ev _ _ ha]
    exact h10 a b ha hb c
theorem RelC.here {A B : MI} {P Q R p : Nat} {z : Int32} (h : RelC A B P Q R) : RelC (hx_u A 7 p z) (hx_u B 21 p z) P Q R := by
  obtain ⟨h1, h2, h3, h4, h5, h6, h7, h8, h9, h10⟩ := h
  have oa : ∀ a, a ≠ 7 → hx_u A 7 p z a = A a := fun a ha => hx_u_ne _ _ _ ha
  have ob : ∀ a, a ≠ 21 → hx_u B 21 p z a = B a := fun a ha => hx_u_ne _ _ _ ha
  have ev : ∀ a b, vC (hx_u A 7 p z) a b = vC A a b := fun a b => congrFun (oa _ (by omega)) b
  have ew : ∀ a b, wC (hx_u A 7 p z) a b = wC A a b := fun a b => congrFun (oa _ (by omega)) b
  have eg : ∀ a b, gC (hx_u A 7 p z) a b = gC A a b := fun a b => congrFun (oa _ (by omega)) b
  have eb : ∀ a b, bC (hx_u A 7 p z) a b = bC A a b := fun a b => congrFun (oa _ (by omega)) b
  have fv : ∀ a b, vM (hx_u B 21 p z) a b = vM B a b := fun a b => congrFun (ob 22 (by decide)) _
  have fw : ∀ a b, wM (hx_u B 21 p z) a b = wM B a b := fun a b => congrFun (ob 23 (by decide)) _
  have fg : ∀ a b, gM (hx_u B 21 p z) a b = gM B a b := fun a b => congrFun (ob 24 (by decide)) _
  have fb : ∀ a b, bM (hx_u B 21 p z) a b = bM B a b := fun a b => congrFun (ob 25 (by decide)) _
  refine ⟨?_, ?_, ?_, ?_, ?_, ?_, ?_, ?_, ?_, ?_⟩
  · rw [oa 1 (by decide), ob 5 (by decide)]
    exact h1
  · rw [oa 1 (by decide), ob 5 (by decide)]
    exact h2
  · rw [oa 4 (by decide), ob 5 (by decide)]
    exact h3
  · rw [oa 1 (by decide), ob 5 (by decide)]
    exact h4
  · intro a ha
    rw [oa 6 (by decide), ob 20 (by decide), hx_u_same, hx_u_same]
    refine ⟨(h5 a ha).1, ?_, (h5 a ha).2.2⟩
    by_cases c : a = p
    · subst c
      rw [upd_at, upd_at]
    · rw [upd_ne c, upd_ne c]
      exact (h5 a ha).2.1
  · intro a b ha hb
    rw [ev, fv, ew, fw, eg, fg]
    exact h6 a b ha hb
  · intro a b ha hb
    rw [eb, fb]
    exact h7 a b ha hb
  · intro a b ha hb
    rw [ev, ew, eg]
    exact h8 a b ha hb
  · intro a b ha hb
    rw [eb]
    exact h9 a b ha hb
  · intro a b ha hb c
    rw [ev]
    exact h10 a b ha hb c

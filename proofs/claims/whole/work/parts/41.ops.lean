/-! each call on both sides: like answers, and alike after -/
theorem opW {I I1 I2 : MI} {P Q R P' Q' R' : Nat} (h : Rel2 I I P Q R) (m : ∀ a, (a = 5 ∨ (20 ≤ a ∧ a < 26)) → I1 a = I a) (m3 : I1 3 = I 3) (w : RelC I I1 P Q R → RelC I1 I2 P' Q' R') (c : ∀ a, (clsC a ∨ a = 3) → I2 a = I1 a) (c5 : ∀ j, 10 ≤ j → j < 14 → I2 5 j = I1 5 j) : Rel2 I I1 P Q R ∧ Rel2 I2 I2 P' Q' R' :=
  h.step m (fun k => ⟨w k.1, k.2.fr m3 c5⟩) c
theorem opN {I I1 I2 : MI} {P Q R : Nat} (h : Rel2 I I P Q R) (h1 : I1 = I) (h2 : I2 = I1) : Rel2 I I1 P Q R ∧ Rel2 I2 I2 P Q R := by
  subst h2 h1
  exact ⟨h, h⟩
theorem withinI {x a b : Int32} (h : ¬ withinF x a b = 0) : a.toInt ≤ x.toInt ∧ x.toInt ≤ b.toInt := ⟨Int32.le_iff_toInt_le.mp (within_of h).1, Int32.le_iff_toInt_le.mp (within_of h).2⟩
theorem op_person {I I1 I2 : MI} {P Q R : Nat} {b : Int32} (h : Rel2 I I P Q R) (e1 : I1 = hx_if (¬ withinF b 0 2000 = 0 ∧ P < 12) (hx_u (hx_u (hx_u I 6 P b) 7 P 1) 1 0 (nI (P + 1))) I) (e2 : I2 = hx_if (¬ withinF b 0 2000 = 0 ∧ P < 12) (hx_u (hx_u (hx_u I1 20 P b) 21 P 1) 5 0 (nI (P + 1))) I1) : Rel2 I I1 P Q R ∧ ∃ P', Rel2 I2 I2 P' Q R := by
  by_cases c : ¬ withinF b 0 2000 = 0 ∧ P < 12
  · rw [hx_ifp c] at e1 e2
    have z := withinI c.1
    have z0 : (0 : Int32).toInt = 0 := by decide
    rw [z0, e2000] at z
    have k := opW (P' := P + 1) (Q' := Q) (R' := R) h (I1 := I1) (I2 := I2) (fun a ha => by rw [e1, hx_u_ne _ _ _ (by omega), hx_u_ne _ _ _ (by omega), hx_u_ne _ _ _ (by omega)]) (by rw [e1, hx_u_ne _ _ _ (by decide), hx_u_ne _ _ _ (by decide), hx_u_ne _ _ _ (by decide)])
      (fun w => by
        have v := w.person z.1 z.2 c.2
        rw [← e2, ← e1] at v
        exact v)
      (fun a ha => by rw [e2, hx_u_ne _ _ _ (by unfold clsC at ha; omega), hx_u_ne _ _ _ (by unfold clsC at ha; omega), hx_u_ne _ _ _ (by unfold clsC at ha; omega)]) (fun j hj _ => by rw [e2, hx_u_at2 _ _ (by omega), hx_u_ne _ _ _ (by omega), hx_u_ne _ _ _ (by omega)])
    exact ⟨k.1, _, k.2⟩
  · rw [hx_ifn c] at e1 e2
    have k := opN h e1 e2
    exact ⟨k.1, _, k.2⟩
theorem op_question {I I1 I2 : MI} {P Q R : Nat} (h : Rel2 I I P Q R) (e1 : I1 = hx_if (Q < 6) (hx_u I 1 1 (nI (Q + 1))) I) (e2 : I2 = hx_if (Q < 6) (hx_u I1 5 1 (nI (Q + 1))) I1) : Rel2 I I1 P Q R ∧ ∃ Q', Rel2 I2 I2 P Q' R := by
  by_cases c : Q < 6
  · rw [hx_ifp c] at e1 e2
    have k := opW (P' := P) (Q' := Q + 1) (R' := R) h (I1 := I1) (I2 := I2) (fun a ha => by rw [e1, hx_u_ne _ _ _ (by omega)]) (by rw [e1, hx_u_ne _ _ _ (by decide)])
      (fun w => by
        have v := w.question c
        rw [← e2, ← e1] at v
        exact v)
      (fun a ha => by rw [e2, hx_u_ne _ _ _ (by unfold clsC at ha; omega)]) (fun j hj _ => by rw [e2, hx_u_at2 _ _ (by omega)])
    exact ⟨k.1, _, k.2⟩
  · rw [hx_ifn c] at e1 e2
    have k := opN h e1 e2
    exact ⟨k.1, _, k.2⟩
theorem op_project {I I1 I2 : MI} {P Q R : Nat} (h : Rel2 I I P Q R) (e1 : I1 = hx_if (R < 6) (hx_u I 4 1 (nI (R + 1))) I) (e2 : I2 = hx_if (R < 6) (hx_u I1 5 2 (nI (R + 1))) I1) : Rel2 I I1 P Q R ∧ ∃ R', Rel2 I2 I2 P Q R' := by
  by_cases c : R < 6
  · rw [hx_ifp c] at e1 e2
    have k := opW (P' := P) (Q' := Q) (R' := R + 1) h (I1 := I1) (I2 := I2) (fun a ha => by rw [e1, hx_u_ne _ _ _ (by omega)]) (by rw [e1, hx_u_ne _ _ _ (by decide)])
      (fun w => by
        have v := w.project c
        rw [← e2, ← e1] at v
        exact v)
      (fun a ha => by rw [e2, hx_u_ne _ _ _ (by unfold clsC at ha; omega)]) (fun j hj _ => by rw [e2, hx_u_at2 _ _ (by omega)])
    exact ⟨k.1, _, k.2⟩
  · rw [hx_ifn c] at e1 e2
    have k := opN h e1 e2
    exact ⟨k.1, _, k.2⟩
theorem op_seed {I I1 I2 : MI} {P Q R : Nat} {x : Int32} (h : Rel2 I I P Q R) (e1 : I1 = hx_u I 1 2 x) (e2 : I2 = hx_u I1 5 3 x) : Rel2 I I1 P Q R ∧ Rel2 I2 I2 P Q R ∧ I 1 2 = I1 5 3 := by
  have k := opW (P' := P) (Q' := Q) (R' := R) h (I1 := I1) (I2 := I2) (fun a ha => by rw [e1, hx_u_ne _ _ _ (by omega)]) (by rw [e1, hx_u_ne _ _ _ (by decide)])
    (fun w => by
      have v := w.seed x
      rw [← e2, ← e1] at v
      exact v)
    (fun a ha => by rw [e2, hx_u_ne _ _ _ (by unfold clsC at ha; omega)]) (fun j hj _ => by rw [e2, hx_u_at2 _ _ (by omega)])
  exact ⟨k.1, k.2, k.1.1.2.2.2.1⟩
theorem named2 {P Q : Nat} {x y : Int32} (hP : P ≤ 12) (hQ : Q ≤ 12) (c : ¬ (inF x (nI P) = 0 ∨ inF y (nI Q) = 0)) : xN x < P ∧ xN y < Q := by
  obtain ⟨p, hp, rfl⟩ := inF_of (by omega) (fun z => c (Or.inl z))
  obtain ⟨q, hq, rfl⟩ := inF_of (by omega) (fun z => c (Or.inr z))
  rw [xN_nI (by omega), xN_nI (by omega)]
  exact ⟨hp, hq⟩
theorem named1 {P : Nat} {x : Int32} (hP : P ≤ 12) (c : ¬ inF x (nI P) = 0) : xN x < P := by
  obtain ⟨p, hp, rfl⟩ := inF_of (by omega) c
  rw [xN_nI (by omega)]
  exact hp
theorem op_vote {I I1 I2 : MI} {P Q R : Nat} {x y z : Int32} (h : Rel2 I I P Q R) (e1 : I1 = hx_if (voteW P Q (vC I) (I 6) x y z) (hx_u I (33 + xN x) (xN y) z) I) (e2 : I2 = hx_if (voteW P Q (vM I1) (I1 20) x y z) (hx_u I1 22 (6 * xN x + xN y) z) I1) : Rel2 I I1 P Q R ∧ Rel2 I2 I2 P Q R := by
  by_cases c : voteW P Q (vC I) (I 6) x y z
  · rw [hx_ifp c] at e1
    obtain ⟨np, nq⟩ := named2 h.1.1.2.2 (by have := h.1.2.1.2.2; omega) c.1
    have hP := h.1.1.2.2
    have hQ := h.1.2.1.2.2
    have zb := withinI c.2.1
    have z1 : (-40 : Int32).toInt = -40 := by decide
    have z2 : (40 : Int32).toInt = 40 := by decide
    rw [z1, z2] at zb
    have m : ∀ a, (a = 5 ∨ (20 ≤ a ∧ a < 26)) → I1 a = I a := fun a ha => by rw [e1, hx_u_ne _ _ _ (by omega)]
    have r : RelC I I1 P Q R := h.1.fr (fun _ _ => rfl) (fun a k1 k2 => m a (Or.inr ⟨k1, k2⟩)) (fun j _ => congrFun (m 5 (Or.inl rfl)) j)
    have c2 : voteW P Q (vM I1) (I1 20) x y z := (re_vote r x y z).2.mp c
    rw [hx_ifp c2] at e2
    exact opW h m (by rw [e1, hx_u_ne _ _ _ (by omega)])
      (fun w => by
        have v := w.vote np nq zb.1 zb.2
        rw [← e2, ← e1] at v
        exact v)
      (fun a ha => by rw [e2, hx_u_ne _ _ _ (by unfold clsC at ha; omega)]) (fun j hj _ => by rw [e2, hx_u_ne _ _ _ (by decide)])
  · rw [hx_ifn c] at e1
    have c2 : ¬ voteW P Q (vM I1) (I1 20) x y z := by
      rw [e1]
      exact fun w => c ((re_vote h.1 x y z).2.mpr w)
    rw [hx_ifn c2] at e2
    exact opN h e1 e2
theorem op_worth {I I1 I2 : MI} {P Q R : Nat} {x y z : Int32} (h : Rel2 I I P Q R) (e1 : I1 = hx_if (wasW P Q (-1000) 1000 x y z) (hx_u I (45 + xN x) (xN y) z) I) (e2 : I2 = hx_if (wasW P Q (-1000) 1000 x y z) (hx_u I1 23 (6 * xN x + xN y) z) I1) : Rel2 I I1 P Q R ∧ Rel2 I2 I2 P Q R := by
  by_cases c : wasW P Q (-1000) 1000 x y z
  · rw [hx_ifp c] at e1 e2
    obtain ⟨np, nq⟩ := named2 h.1.1.2.2 (by have := h.1.2.1.2.2; omega) c.1
    have hP := h.1.1.2.2
    have zb := withinI c.2
    have z1 : (-1000 : Int32).toInt = -1000 := by decide
    have z2 : (1000 : Int32).toInt = 1000 := by decide
    rw [z1, z2] at zb
    exact opW h (fun a ha => by rw [e1, hx_u_ne _ _ _ (by omega)]) (by rw [e1, hx_u_ne _ _ _ (by omega)])
      (fun w => by
        have v := w.worth np nq zb.1 zb.2
        rw [← e2, ← e1] at v
        exact v)
      (fun a ha => by rw [e2, hx_u_ne _ _ _ (by unfold clsC at ha; omega)]) (fun j hj _ => by rw [e2, hx_u_ne _ _ _ (by decide)])
  · rw [hx_ifn c] at e1 e2
    exact opN h e1 e2
theorem op_gift {I I1 I2 : MI} {P Q R : Nat} {x y z : Int32} (h : Rel2 I I P Q R) (e1 : I1 = hx_if (wasW P R 0 1000000 x y z) (hx_u I (100 + xN x) (xN y) z) I) (e2 : I2 = hx_if (wasW P R 0 1000000 x y z) (hx_u I1 24 (6 * xN x + xN y) z) I1) : Rel2 I I1 P Q R ∧ Rel2 I2 I2 P Q R := by
  by_cases c : wasW P R 0 1000000 x y z
  · rw [hx_ifp c] at e1 e2
    obtain ⟨np, nq⟩ := named2 h.1.1.2.2 (by have := h.1.2.2.1.2.2; omega) c.1
    have hP := h.1.1.2.2
    have zb := withinI c.2
    have z1 : (0 : Int32).toInt = 0 := by decide
    have z2 : (1000000 : Int32).toInt = 1000000 := by decide
    rw [z1, z2] at zb
    exact opW h (fun a ha => by rw [e1, hx_u_ne _ _ _ (by omega)]) (by rw [e1, hx_u_ne _ _ _ (by omega)])
      (fun w => by
        have v := w.gift np nq zb.1 zb.2
        rw [← e2, ← e1] at v
        exact v)
      (fun a ha => by rw [e2, hx_u_ne _ _ _ (by unfold clsC at ha; omega)]) (fun j hj _ => by rw [e2, hx_u_ne _ _ _ (by decide)])
  · rw [hx_ifn c] at e1 e2
    exact opN h e1 e2
theorem op_bond {I I1 I2 : MI} {P Q R : Nat} {x y z : Int32} (h : Rel2 I I P Q R) (e1 : I1 = hx_if (bondW P x y z) (hx_u (hx_u I (112 + xN x) (xN y) z) (112 + xN y) (xN x) z) I) (e2 : I2 = hx_if (bondW P x y z) (hx_u (hx_u I1 25 (12 * xN x + xN y) z) 25 (12 * xN y + xN x) z) I1) : Rel2 I I1 P Q R ∧ Rel2 I2 I2 P Q R := by
  by_cases c : bondW P x y z
  · rw [hx_ifp c] at e1 e2
    obtain ⟨np, nq⟩ := named2 h.1.1.2.2 h.1.1.2.2 c.1
    have hP := h.1.1.2.2
    have zb := withinI (fun w => c.2 (Or.inr w))
    have z1 : (0 : Int32).toInt = 0 := by decide
    have z2 : (1000 : Int32).toInt = 1000 := by decide
    rw [z1, z2] at zb
    exact opW h (fun a ha => by rw [e1, hx_u_ne _ _ _ (by omega), hx_u_ne _ _ _ (by omega)]) (by rw [e1, hx_u_ne _ _ _ (by omega), hx_u_ne _ _ _ (by omega)])
      (fun w => by
        have v := (w.bond1 np nq zb.1 zb.2).bond1 nq np zb.1 zb.2
        rw [← e2, ← e1] at v
        exact v)
      (fun a ha => by rw [e2, hx_u_ne _ _ _ (by unfold clsC at ha; omega), hx_u_ne _ _ _ (by unfold clsC at ha; omega)]) (fun j hj _ => by rw [e2, hx_u_ne _ _ _ (by decide), hx_u_ne _ _ _ (by decide)])
  · rw [hx_ifn c] at e1 e2
    exact opN h e1 e2
theorem op_here {I I1 I2 : MI} {P Q R : Nat} {x z : Int32} (h : Rel2 I I P Q R) (e1 : I1 = hx_if (¬ inF x (nI P) = 0) (hx_u I 7 (xN x) z) I) (e2 : I2 = hx_if (¬ inF x (nI P) = 0) (hx_u I1 21 (xN x) z) I1) : Rel2 I I1 P Q R ∧ Rel2 I2 I2 P Q R := by
  by_cases c : ¬ inF x (nI P) = 0
  · rw [hx_ifp c] at e1 e2
    exact opW h (fun a ha => by rw [e1, hx_u_ne _ _ _ (by omega)]) (by rw [e1, hx_u_ne _ _ _ (by omega)])
      (fun w => by
        have v := w.here (p := xN x) (z := z)
        rw [← e2, ← e1] at v
        exact v)
      (fun a ha => by rw [e2, hx_u_ne _ _ _ (by unfold clsC at ha; omega)]) (fun j hj _ => by rw [e2, hx_u_ne _ _ _ (by decide)])
  · rw [hx_ifn c] at e1 e2
    exact opN h e1 e2
theorem ffM_fr {I : MI} {P Q p : Nat} (hQ : Q ≤ 6) {a : Nat} (ha : clsC a ∨ a = 3 ∨ a = 5 ∨ (20 ≤ a ∧ a < 26)) : ffM I P Q p a = I a := ffM_ne hQ (by unfold clsC at ha; unfold scrC; omega)
theorem fmM_fr {I : MI} {P Q p : Nat} {a : Nat} (ha : clsC a ∨ a = 3 ∨ (20 ≤ a ∧ a < 26)) : fmM I P Q p a = I a := fmM_ne (by unfold clsC at ha; omega) (by unfold clsC at ha; omega) (by unfold clsC at ha; omega) (by unfold clsC at ha; omega) (by unfold clsC at ha; omega)
theorem RelC.find {A B : MI} {P Q R p p' : Nat} (h : RelC A B P Q R) : RelC (ffM A P Q p) (fmM B P Q p') P Q R :=
  h.fr (fun a ha => ffM_fr h.2.1.2.2 (Or.inl ha)) (fun a h1 h2 => fmM_fr (Or.inr (Or.inr ⟨h1, h2⟩))) (fun j hj => fmM_5 (by omega) (by omega) (by omega))
theorem op_find {I I1 I2 : MI} {P Q R p : Nat} {C : Prop} (h : Rel2 I I P Q R) (e1 : I1 = hx_if C (ffM I P Q p) I) (e2 : I2 = hx_if C (fmM I1 P Q p) I1) : Rel2 I I1 P Q R ∧ Rel2 I2 I2 P Q R := by
  have hQ := h.1.2.1.2.2
  by_cases c : C
  · rw [hx_ifp c] at e1 e2
    exact opW h (fun a ha => by rw [e1, ffM_fr hQ (by omega)]) (by rw [e1, ffM_fr hQ (by omega)])
      (fun w => by
        rw [e2]
        exact w.fr (fun a ha => by rw [e1]; exact ffM_fr hQ (Or.inl ha)) (fun a h1 h2 => fmM_fr (Or.inr (Or.inr ⟨h1, h2⟩))) (fun j hj => fmM_5 (by omega) (by omega) (by omega)))
      (fun a ha => by rw [e2, fmM_fr (ha.elim Or.inl (fun z => Or.inr (Or.inl z)))]) (fun j hj h14 => by rw [e2, fmM_5 (by omega) (by omega) (by omega)])
  · rw [hx_ifn c] at e1 e2
    exact opN h e1 e2
theorem cp_at {M : MI} {p Q a b : Nat} : hx_cp M 15 (33 + p) Q (33 + a) b = if a = p ∧ b < Q then M 15 b else M (33 + a) b := by
  by_cases c : a = p
  · subst c
    unfold hx_cp va_cpy
    rw [if_pos rfl]
    by_cases d : b < Q
    · rw [if_pos ⟨Nat.zero_le _, by omega⟩, if_pos ⟨rfl, d⟩]
      congr 1
      omega
    · rw [if_neg (by omega), if_neg (fun w => d w.2)]
  · rw [hx_cp_ne (by omega), if_neg (fun w => c w.1)]
theorem ad_at {M : MI} {p a b : Nat} (hb : b < 6) : ∀ Q, Q ≤ 6 → adM M p Q 22 (6 * a + b) = if a = p ∧ b < Q then M 28 b else M 22 (6 * a + b)
  | 0, _ => by rw [if_neg (fun w => absurd w.2 (Nat.not_lt_zero _))]; rfl
  | Q + 1, hQ => by
    show hx_u (adM M p Q) 22 (6 * p + Q) (M 28 Q) 22 (6 * a + b) = _
    rw [flat_at hb (by omega), ad_at hb Q (by omega)]
    by_cases c : a = p ∧ b = Q
    · rw [if_pos c, if_pos ⟨c.1, by omega⟩, c.2]
    · rw [if_neg c]
      by_cases d : a = p ∧ b < Q
      · rw [if_pos d, if_pos ⟨d.1, by omega⟩]
      · rw [if_neg d, if_neg (by omega)]
theorem RelC.rows {A B : MI} {P Q R p : Nat} {f : Nat → Int32} (h : RelC A B P Q R) (hp : p < P) (h1 : ∀ q, q < Q → A 15 q = B 28 q) (h2 : ∀ q, q < Q → -40 ≤ (A 15 q).toInt ∧ (A 15 q).toInt ≤ 40) : RelC (hx_cp A 15 (33 + p) Q) (adM B p Q) P Q R := by
  obtain ⟨k1, k2, k3, k4, k5, k6, k7, k8, k9, k10⟩ := h
  have hP := k1.2.2
  have hQ := k2.2.2
  have ev : ∀ a b, vC (hx_cp A 15 (33 + p) Q) a b = if a = p ∧ b < Q then A 15 b else vC A a b := fun a b => cp_at
  have fv : ∀ a b, b < 6 → vM (adM B p Q) a b = if a = p ∧ b < Q then B 28 b else vM B a b := fun a b hb => ad_at hb Q hQ
  have ew : ∀ a b, wC (hx_cp A 15 (33 + p) Q) a b = wC A a b := fun a b => congrFun (hx_cp_ne (by omega)) b
  have eg : ∀ a b, gC (hx_cp A 15 (33 + p) Q) a b = gC A a b := fun a b => congrFun (hx_cp_ne (by omega)) b
  have eb : ∀ a b, bC (hx_cp A 15 (33 + p) Q) a b = bC A a b := fun a b => congrFun (hx_cp_ne (by omega)) b
  have o : ∀ a, a < 33 → hx_cp A 15 (33 + p) Q a = A a := fun a ha => hx_cp_ne (by omega)
  have ob : ∀ a, a ≠ 22 → adM B p Q a = B a := fun a ha => adM_ne ha Q
  have fw : ∀ a b, wM (adM B p Q) a b = wM B a b := fun a b => congrFun (ob 23 (by decide)) _
  have fg : ∀ a b, gM (adM B p Q) a b = gM B a b := fun a b => congrFun (ob 24 (by decide)) _
  have fb : ∀ a b, bM (adM B p Q) a b = bM B a b := fun a b => congrFun (ob 25 (by decide)) _
  refine ⟨?_, ?_, ?_, ?_, ?_, ?_, ?_, ?_, ?_, ?_⟩
  · rw [o 1 (by decide), ob 5 (by decide)]
    exact k1
  · rw [o 1 (by decide), ob 5 (by decide)]
    exact k2
  · rw [o 4 (by decide), ob 5 (by decide)]
    exact k3
  · rw [o 1 (by decide), ob 5 (by decide)]
    exact k4
  · rw [o 6 (by decide), o 7 (by decide), ob 20 (by decide), ob 21 (by decide)]
    exact k5
  · intro a b ha hb
    rw [ev, fv _ _ hb, ew, fw, eg, fg]
    refine ⟨?_, (k6 a b ha hb).2⟩
    by_cases c : a = p ∧ b < Q
    · rw [if_pos c, if_pos c]
      exact h1 b c.2
    · rw [if_neg c, if_neg c]
      exact (k6 a b ha hb).1
  · intro a b ha hb
    rw [eb, fb]
    exact k7 a b ha hb
  · intro a b ha hb
    rw [ev, ew, eg]
    by_cases c : a = p ∧ b < Q
    · rw [if_pos c]
      exact ⟨(h2 b c.2).1, (h2 b c.2).2, (k8 a b ha hb).2.2⟩
    · rw [if_neg c]
      exact k8 a b ha hb
  · intro a b ha hb
    rw [eb]
    exact k9 a b ha hb
  · intro a b ha hb c
    rw [ev, if_neg (by omega)]
    exact k10 a b ha hb c
theorem RelC.take {A B : MI} {P Q R p : Nat} (h : RelC A B P Q R) (hp : p < P) : RelC (hx_cp (ffM A P Q p) 15 (33 + p) Q) (adM (fmM B P Q p) p Q) P Q R :=
  RelC.rows (f := fun _ => 0) h.find hp (find_eq h hp).1 (find_eq h hp).2.2
theorem op_take {I I1 I2 : MI} {P Q R : Nat} {x : Int32} (h : Rel2 I I P Q R) (e1 : I1 = hx_if (takeW P (I 7) x) (hx_cp (ffM I P Q (xN x)) 15 (33 + xN x) Q) I) (e2 : I2 = hx_if (takeW P (I1 21) x) (adM (fmM I1 P Q (xN x)) (xN x) Q) I1) :
    Rel2 I I1 P Q R ∧ Rel2 I2 I2 P Q R ∧ takeR P (I 7) (fun p => costF (vC (hx_cp (ffM I P Q p) 15 (33 + p) Q)) Q p) x = takeR P (I1 21) (fun p => costF (vM (adM (fmM I1 P Q p) p Q)) Q p) x := by
  have hP := h.1.1.2.2
  have hQ := h.1.2.1.2.2
  have k : Rel2 I I1 P Q R ∧ (takeW P (I 7) x ↔ takeW P (I1 21) x) ∧ Rel2 I2 I2 P Q R := by
    by_cases c : takeW P (I 7) x
    · rw [hx_ifp c] at e1
      have np := named1 hP c.1
      have m : ∀ a, (a = 5 ∨ (20 ≤ a ∧ a < 26)) → I1 a = I a := fun a ha => by rw [e1, hx_cp_ne (by omega), ffM_fr hQ (by omega)]
      have c2 : takeW P (I1 21) x := by
        rw [m 21 (by omega)]
        refine ⟨c.1, ?_⟩
        rw [← rd_7 h.1 _ np]
        exact c.2
      rw [hx_ifp c2] at e2
      have k := opW (P' := P) (Q' := Q) (R' := R) h m (by rw [e1, hx_cp_ne (by omega), ffM_fr hQ (by omega)])
        (fun w => by
          have v := w.take np
          rw [← e2, ← e1] at v
          exact v)
        (fun a ha => by rw [e2, adM_ne (by unfold clsC at ha; omega), fmM_fr (ha.elim Or.inl (fun z => Or.inr (Or.inl z)))]) (fun j hj h14 => by rw [e2, adM_ne (by decide), fmM_5 (by omega) (by omega) (by omega)])
      exact ⟨k.1, ⟨fun _ => c2, fun _ => c⟩, k.2⟩
    · rw [hx_ifn c] at e1
      have c2 : ¬ takeW P (I1 21) x := fun w => c ⟨w.1, by
        have np := named1 hP w.1
        rw [rd_7 h.1 _ np, ← e1]
        exact w.2⟩
      rw [hx_ifn c2] at e2
      have k := opN h e1 e2
      exact ⟨k.1, ⟨fun w => absurd w c, fun w => absurd w c2⟩, k.2⟩
  refine ⟨k.1, k.2.2, ?_⟩
  unfold takeR
  by_cases c : inF x (nI P) = 0
  · rw [if_pos c, if_pos c]
  · rw [if_neg c, if_neg c]
    have np := named1 hP c
    rw [rd_7 k.1.1 _ np]
    by_cases c2 : I1 21 (xN x) = 0
    · rw [if_pos c2, if_pos c2]
    · rw [if_neg c2, if_neg c2]
      exact costF_cg (fun q hq => rd_v (k.1.1.take np) _ q np hq)

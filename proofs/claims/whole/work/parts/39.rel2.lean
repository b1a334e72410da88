/-! what changes one side and what both sides read -/
def clsC (a : Nat) : Prop := a = 1 ∨ a = 4 ∨ a = 6 ∨ a = 7 ∨ (33 ≤ a ∧ a < 57) ∨ (100 ≤ a ∧ a < 124)
theorem RelC.fr {A B A' B' : MI} {P Q R : Nat} (h : RelC A B P Q R) (ha : ∀ a, clsC a → A' a = A a) (hb : ∀ a, 20 ≤ a → a < 26 → B' a = B a) (hb5 : ∀ j, j < 4 → B' 5 j = B 5 j) : RelC A' B' P Q R := by
  have c1 := ha 1 (Or.inl rfl)
  have c4 := ha 4 (Or.inr (Or.inl rfl))
  have c6 := ha 6 (Or.inr (Or.inr (Or.inl rfl)))
  have c7 := ha 7 (Or.inr (Or.inr (Or.inr (Or.inl rfl))))
  have ev : ∀ p q, p < 12 → vC A' p q = vC A p q := fun p q hp => congrFun (ha (33 + p) (by unfold clsC; omega)) q
  have ew : ∀ p q, p < 12 → wC A' p q = wC A p q := fun p q hp => congrFun (ha (45 + p) (by unfold clsC; omega)) q
  have eg : ∀ p q, p < 12 → gC A' p q = gC A p q := fun p q hp => congrFun (ha (100 + p) (by unfold clsC; omega)) q
  have eb : ∀ p q, p < 12 → bC A' p q = bC A p q := fun p q hp => congrFun (ha (112 + p) (by unfold clsC; omega)) q
  have fv : ∀ p q, vM B' p q = vM B p q := fun p q => congrFun (hb 22 (by decide) (by decide)) _
  have fw : ∀ p q, wM B' p q = wM B p q := fun p q => congrFun (hb 23 (by decide) (by decide)) _
  have fg : ∀ p q, gM B' p q = gM B p q := fun p q => congrFun (hb 24 (by decide) (by decide)) _
  have fb : ∀ p q, bM B' p q = bM B p q := fun p q => congrFun (hb 25 (by decide) (by decide)) _
  obtain ⟨h1, h2, h3, h4, h5, h6, h7, h8, h9, h10⟩ := h
  refine ⟨?_, ?_, ?_, ?_, ?_, ?_, ?_, ?_, ?_, ?_⟩
  · rw [c1, hb5 0 (by decide)]
    exact h1
  · rw [c1, hb5 1 (by decide)]
    exact h2
  · rw [c4, hb5 2 (by decide)]
    exact h3
  · rw [c1, hb5 3 (by decide)]
    exact h4
  · rw [c6, c7, hb 20 (by decide) (by decide), hb 21 (by decide) (by decide)]
    exact h5
  · intro p q hp hq
    rw [ev p q hp, ew p q hp, eg p q hp, fv, fw, fg]
    exact h6 p q hp hq
  · intro p r hp hr
    rw [eb p r hp, fb]
    exact h7 p r hp hr
  · intro p q hp hq
    rw [ev p q hp, ew p q hp, eg p q hp]
    exact h8 p q hp hq
  · intro p r hp hr
    rw [eb p r hp]
    exact h9 p r hp hr
  · intro p q hp hq
    rw [ev p q hp]
    exact h10 p q hp hq
theorem hisR.fr {A B A' B' : MI} (h : hisR A B) (ha : A' 3 = A 3) (hb : ∀ j, 10 ≤ j → j < 14 → B' 5 j = B 5 j) : hisR A' B' := by
  unfold hisR at h ⊢
  rw [ha, hb 10 (by decide) (by decide), hb 11 (by decide) (by decide), hb 12 (by decide) (by decide), hb 13 (by decide) (by decide)]
  exact h
/-- a call on each side in turn -/
theorem Rel2.step {I I1 I2 : MI} {P Q R P' Q' R' : Nat} (h : Rel2 I I P Q R) (m : ∀ a, (a = 5 ∨ (20 ≤ a ∧ a < 26)) → I1 a = I a) (w : Rel2 I I1 P Q R → Rel2 I1 I2 P' Q' R') (c : ∀ a, (clsC a ∨ a = 3) → I2 a = I1 a) : Rel2 I I1 P Q R ∧ Rel2 I2 I2 P' Q' R' := by
  have k : Rel2 I I1 P Q R := ⟨h.1.fr (fun _ _ => rfl) (fun a h1 h2 => m a (Or.inr ⟨h1, h2⟩)) (fun j _ => congrFun (m 5 (Or.inl rfl)) j), h.2.fr rfl (fun j _ _ => congrFun (m 5 (Or.inl rfl)) j)⟩
  have z := w k
  exact ⟨k, z.1.fr (fun a ha => c a (Or.inl ha)) (fun _ _ _ => rfl) (fun _ _ => rfl), z.2.fr (c 3 (Or.inr rfl)) (fun _ _ _ => rfl)⟩
theorem upd_at (f : Nat → Int32) (i : Nat) (x : Int32) : upd f i x i = x := if_pos rfl
theorem upd_ne {f : Nat → Int32} {i j : Nat} {x : Int32} (h : j ≠ i) : upd f i x j = f j := if_neg h
/-- sums of like terms -/
theorem costF_cg {v v' : Nat → Nat → Int32} {Q p : Nat} (h : ∀ q, q < Q → v p q = v' p q) : costF v Q p = costF v' Q p :=
  sI_congr Q (fun q hq => by rw [h q hq])
theorem presF_cg {h h' : Nat → Int32} {P : Nat} (e : ∀ p, p < P → h p = h' p) : presF h P = presF h' P :=
  sI_congr P (fun p hp => by rw [e p hp])
theorem countF_cg {h h' : Nat → Int32} {v v' : Nat → Nat → Int32} {P q : Nat} (e : ∀ p, p < P → h p = h' p) (e2 : ∀ p, p < P → v p q = v' p q) : countF h v P q = countF h' v' P q :=
  sI_congr P (fun p hp => by rw [e p hp, e2 p hp])
theorem gainF_cg {h h' : Nat → Int32} {v v' w w' : Nat → Nat → Int32} {P Q p : Nat} (e : ∀ p, p < P → h p = h' p) (e2 : ∀ q, q < Q → ∀ p, p < P → v p q = v' p q) (e3 : ∀ q, q < Q → w p q = w' p q) : gainF h v w P Q p = gainF h' v' w' P Q p :=
  sI_congr Q (fun q hq => by rw [countF_cg e (e2 q hq), e3 q hq])
theorem swF_cg {s : Int32} {h h' : Nat → Int32} {v v' : Nat → Nat → Int32} {P Q p : Nat} (hp : p < P) (e : ∀ p, p < P → h p = h' p) (e2 : ∀ q, q < Q → ∀ p, p < P → v p q = v' p q) : swF s h v P Q p = swF s h' v' P Q p :=
  sO_congr Q (fun q hq => by rw [lessF_congr hp e (e2 q hq), e2 q hq p hp])
theorem dotF_cg {v v' : Nat → Nat → Int32} {Q p r : Nat} (h : ∀ q, q < Q → v p q = v' p q) (h2 : ∀ q, q < Q → v r q = v' r q) : dotF v Q p r = dotF v' Q p r :=
  sJ_congr Q (fun q hq => by rw [h q hq, h2 q hq])
theorem likeF_cg {v v' : Nat → Nat → Int32} {Q p r : Nat} (h : ∀ q, q < Q → v p q = v' p q) (h2 : ∀ q, q < Q → v r q = v' r q) : likeF v Q p r = likeF v' Q p r := by
  unfold likeF
  rw [costF_cg h, costF_cg h2, dotF_cg h h2]
theorem alF_cg {v v' : Nat → Nat → Int32} {Q P p : Nat} {t : Int32} (hp : p < P) (h : ∀ p q, p < P → q < Q → v p q = v' p q) : alF v Q P t p = alF v' Q P t p :=
  sO_congr P (fun r hr => by rw [likeF_cg (fun q hq => h p q hp hq) (fun q hq => h r q hr hq)])
theorem passF_cg {al al' : Nat → Int32} (x : Int32) : ∀ n, (∀ a, a < n → al a = al' a) → passF al n x = passF al' n x
  | 0, _ => rfl
  | n + 1, h => by
    show (if (passF al n x >>> (nI n &&& 31)) &&& 1 = 1 then passF al n x ||| al n else passF al n x) = (if (passF al' n x >>> (nI n &&& 31)) &&& 1 = 1 then passF al' n x ||| al' n else passF al' n x)
    rw [passF_cg x n (fun a ha => h a (by omega)), h n (by omega)]
theorem grF_cg {al al' : Nat → Int32} {P : Nat} (h : ∀ a, a < P → al a = al' a) : ∀ n x b, grF al P n x b = grF al' P n x b
  | 0, _, _ => rfl
  | n + 1, x, b => by
    show (if x = b then x else grF al P n (passF al P x) x) = (if x = b then x else grF al' P n (passF al' P x) x)
    rw [passF_cg x P h, grF_cg h n]
theorem chF_cg {f g : Nat → Int32} (z : Int64) : ∀ n, (∀ k, k < n → f k = g k) → chF f n z = chF g n z
  | 0, _ => rfl
  | n + 1, h => by
    show 31 * chF f n z + (f n).toInt64 = 31 * chF g n z + (g n).toInt64
    rw [chF_cg z n (fun k hk => h k (by omega)), h n (by omega)]
theorem dgF_cg {f g : Nat → Int64 → Int64} : ∀ n z, (∀ k, k < n → ∀ y, f k y = g k y) → dgF f n z = dgF g n z
  | 0, _, _ => rfl
  | n + 1, z, h => by
    show f n (dgF f n z) = g n (dgF g n z)
    rw [dgF_cg n z (fun k hk => h k (by omega)), h n (by omega)]
theorem oneR_cg {P : Nat} {bad x : Int32} {f g : Nat → Int32} (hP : P ≤ 12) (h : ∀ p, p < P → f p = g p) : oneR P bad f x = oneR P bad g x := by
  unfold oneR
  by_cases c : inF x (nI P) = 0
  · rw [if_pos c, if_pos c]
  · rw [if_neg c, if_neg c]
    obtain ⟨p, hp, rfl⟩ := inF_of (by omega) c
    rw [xN_nI (by omega)]
    exact h p hp
theorem twoR_cg {P Q : Nat} {bad x y : Int32} {f g : Nat → Nat → Int32} (hP : P ≤ 12) (hQ : Q ≤ 12) (h : ∀ p q, p < P → q < Q → f p q = g p q) : twoR P Q bad f x y = twoR P Q bad g x y := by
  unfold twoR
  by_cases c : inF x (nI P) = 0 ∨ inF y (nI Q) = 0
  · rw [if_pos c, if_pos c]
  · rw [if_neg c, if_neg c]
    obtain ⟨p, hp, rfl⟩ := inF_of (by omega) (fun z => c (Or.inl z))
    obtain ⟨q, hq, rfl⟩ := inF_of (by omega) (fun z => c (Or.inr z))
    rw [xN_nI (by omega), xN_nI (by omega)]
    exact h p q hp hq
/-- the plain reads -/
theorem rd_v {A B : MI} {P Q R : Nat} (h : RelC A B P Q R) : ∀ p q, p < P → q < Q → vC A p q = vM B p q := fun p q hp hq => (h.2.2.2.2.2.1 p q (by have := h.1.2.2; omega) (by have := h.2.1.2.2; omega)).1
theorem rd_w {A B : MI} {P Q R : Nat} (h : RelC A B P Q R) : ∀ p q, p < P → q < Q → wC A p q = wM B p q := fun p q hp hq => (h.2.2.2.2.2.1 p q (by have := h.1.2.2; omega) (by have := h.2.1.2.2; omega)).2.1
theorem rd_g {A B : MI} {P Q R : Nat} (h : RelC A B P Q R) : ∀ p j, p < P → j < 6 → gC A p j = gM B p j := fun p q hp hq => (h.2.2.2.2.2.1 p q (by have := h.1.2.2; omega) (by omega)).2.2
theorem rd_b {A B : MI} {P Q R : Nat} (h : RelC A B P Q R) : ∀ p r, p < P → r < P → bC A p r = bM B p r := fun p q hp hq => h.2.2.2.2.2.2.1 p q (by have := h.1.2.2; omega) (by have := h.1.2.2; omega)
theorem rd_6 {A B : MI} {P Q R : Nat} (h : RelC A B P Q R) : ∀ p, p < P → A 6 p = B 20 p := fun p hp => (h.2.2.2.2.1 p (by have := h.1.2.2; omega)).1
theorem rd_7 {A B : MI} {P Q R : Nat} (h : RelC A B P Q R) : ∀ p, p < P → A 7 p = B 21 p := fun p hp => (h.2.2.2.2.1 p (by have := h.1.2.2; omega)).2.1
theorem re_cost {A B : MI} {P Q R : Nat} (h : RelC A B P Q R) (x : Int32) : oneR P (-101) (costF (vC A) Q) x = oneR P (-101) (costF (vM B) Q) x :=
  oneR_cg h.1.2.2 (fun p hp => costF_cg (fun q hq => rd_v h p q hp hq))
theorem re_voices {A B : MI} {P Q R : Nat} (h : RelC A B P Q R) (x y : Int32) : twoR P Q (-2000) (vC A) x y = twoR P Q (-2000) (vM B) x y :=
  twoR_cg h.1.2.2 (by have := h.2.1.2.2; omega) (rd_v h)
theorem re_total {A B : MI} {P Q R : Nat} (h : RelC A B P Q R) (x : Int32) : oneR Q (-2000) (countF (A 7) (vC A) P) x = oneR Q (-2000) (fun q => countF (B 21) (vM B) P q) x :=
  oneR_cg (by have := h.2.1.2.2; omega) (fun q hq => countF_cg (rd_7 h) (fun p hp => rd_v h p q hp hq))
theorem re_gain {A B : MI} {P Q R : Nat} (h : RelC A B P Q R) (x : Int32) : oneR P (-2000000) (gainF (A 7) (vC A) (wC A) P Q) x = oneR P (-2000000) (gainF (B 21) (vM B) (wM B) P Q) x :=
  oneR_cg h.1.2.2 (fun p hp => gainF_cg (rd_7 h) (fun q hq p hp => rd_v h p q hp hq) (fun q hq => rd_w h p q hp hq))
theorem re_swings {A B : MI} {P Q R : Nat} (h : RelC A B P Q R) (x : Int32) : oneR P (-101) (swF (A 1 2) (A 7) (vC A) P Q) x = oneR P (-101) (swF (B 5 3) (B 21) (vM B) P Q) x :=
  oneR_cg h.1.2.2 (fun p hp => by
    rw [h.2.2.2.1]
    exact swF_cg hp (rd_7 h) (fun q hq p hp => rd_v h p q hp hq))
theorem re_result {A B : MI} {P Q R : Nat} (h : RelC A B P Q R) (x : Int32) : oneR Q (-101) (fun q => resF (A 1 2) q (countF (A 7) (vC A) P q)) x = oneR Q (-101) (fun q => resF (B 5 3) q (countF (B 21) (vM B) P q)) x :=
  oneR_cg (by have := h.2.1.2.2; omega) (fun q hq => by
    show resF (A 1 2) q (countF (A 7) (vC A) P q) = resF (B 5 3) q (countF (B 21) (vM B) P q)
    rw [h.2.2.2.1, countF_cg (rd_7 h) (fun p hp => rd_v h p q hp hq)])
theorem re_best {A B : MI} {P Q R : Nat} (h : RelC A B P Q R) (x : Int32) : oneR P (-2000000) (fun p => ffM A P Q p 2 7) x = oneR P (-2000000) (fun p => fmM B P Q p 5 18) x :=
  oneR_cg h.1.2.2 (fun p hp => (find_eq h hp).2.1)
theorem re_answer {A B : MI} {P Q R : Nat} (h : RelC A B P Q R) (x y : Int32) : twoR P Q (-2000) (fun p q => ffM A P Q p 15 q) x y = twoR P Q (-2000) (fun p q => fmM B P Q p 28 q) x y :=
  twoR_cg h.1.2.2 (by have := h.2.1.2.2; omega) (fun p q hp hq => (find_eq h hp).1 q hq)
theorem re_likeness {A B : MI} {P Q R : Nat} (h : RelC A B P Q R) (x y : Int32) : twoR P P (-2001) (likeF (vC A) Q) x y = twoR P P (-2001) (likeF (vM B) Q) x y :=
  twoR_cg h.1.2.2 h.1.2.2 (fun p r hp hr => likeF_cg (fun q hq => rd_v h p q hp hq) (fun q hq => rd_v h r q hr hq))
theorem re_group {A B : MI} {P Q R : Nat} (h : RelC A B P Q R) (x t : Int32) : groupR P (fun p => grF (alF (vC A) Q P t) P P (1 <<< (nI p &&& 31)) 0) x t = groupR P (fun p => grF (alF (vM B) Q P t) P P (1 <<< (nI p &&& 31)) 0) x t := by
  have e : (fun p => grF (alF (vC A) Q P t) P P (1 <<< (nI p &&& 31)) 0) = (fun p => grF (alF (vM B) Q P t) P P (1 <<< (nI p &&& 31)) 0) := funext (fun p => grF_cg (fun a ha => alF_cg ha (rd_v h)) P _ 0)
  rw [e]
theorem re_here {A B : MI} {P Q R : Nat} (h : RelC A B P Q R) (x : Int32) : hereR P (A 7) x = hereR P (B 21) x := by
  have e := oneR_cg (bad := -101) (x := x) (f := fun p => onF (A 7 p)) (g := fun p => onF (B 21 p)) h.1.2.2 (fun p hp => by
    show onF (A 7 p) = onF (B 21 p)
    rw [rd_7 h p hp])
  exact e
theorem re_vote {A B : MI} {P Q R : Nat} (h : RelC A B P Q R) (x y z : Int32) : voteR P Q (vC A) (A 6) x y z = voteR P Q (vM B) (B 20) x y z ∧ (voteW P Q (vC A) (A 6) x y z ↔ voteW P Q (vM B) (B 20) x y z) := by
  unfold voteR voteW
  by_cases c : inF x (nI P) = 0 ∨ inF y (nI Q) = 0
  · rw [if_pos c, if_pos c]
    exact ⟨rfl, ⟨fun w => absurd c w.1, fun w => absurd c w.1⟩⟩
  · rw [if_neg c, if_neg c]
    have hP := h.1.2.2
    have hQ := h.2.1.2.2
    obtain ⟨p, hp, rfl⟩ := inF_of (by omega) (fun z => c (Or.inl z))
    obtain ⟨q, hq, rfl⟩ := inF_of (by omega) (fun z => c (Or.inr z))
    rw [xN_nI (by omega), xN_nI (by omega), costF_cg (fun q hq => rd_v h p q hp hq), rd_v h p q hp hq, rd_6 h p hp]
    exact ⟨rfl, Iff.rfl⟩
theorem wasR_cg {P Q : Nat} {w w' : Nat → Nat → Int32} {lo hi x y z : Int32} (hP : P ≤ 12) (hQ : Q ≤ 6) (h : ∀ p q, p < P → q < Q → w p q = w' p q) : wasR P Q w lo hi x y z = wasR P Q w' lo hi x y z := by
  unfold wasR
  by_cases c : inF x (nI P) = 0 ∨ inF y (nI Q) = 0
  · rw [if_pos c, if_pos c]
  · rw [if_neg c, if_neg c]
    obtain ⟨p, hp, rfl⟩ := inF_of (by omega) (fun z => c (Or.inl z))
    obtain ⟨q, hq, rfl⟩ := inF_of (by omega) (fun z => c (Or.inr z))
    rw [xN_nI (by omega), xN_nI (by omega), h p q hp hq]
theorem re_worth {A B : MI} {P Q R : Nat} (h : RelC A B P Q R) (x y z : Int32) : wasR P Q (wC A) (-1000) 1000 x y z = wasR P Q (wM B) (-1000) 1000 x y z :=
  wasR_cg h.1.2.2 h.2.1.2.2 (rd_w h)
theorem re_gift {A B : MI} {P Q R : Nat} (h : RelC A B P Q R) (x y z : Int32) : wasR P R (gC A) 0 1000000 x y z = wasR P R (gM B) 0 1000000 x y z :=
  wasR_cg h.1.2.2 h.2.2.1.2.2 (fun p j hp hj => rd_g h p j hp (by have := h.2.2.1.2.2; omega))
theorem re_bond {A B : MI} {P Q R : Nat} (h : RelC A B P Q R) (x y z : Int32) : bondR P (bC A) x y z = bondR P (bM B) x y z := by
  unfold bondR
  by_cases c : inF x (nI P) = 0 ∨ inF y (nI P) = 0
  · rw [if_pos c, if_pos c]
  · rw [if_neg c, if_neg c]
    have hP := h.1.2.2
    obtain ⟨p, hp, rfl⟩ := inF_of (by omega) (fun z => c (Or.inl z))
    obtain ⟨q, hq, rfl⟩ := inF_of (by omega) (fun z => c (Or.inr z))
    rw [xN_nI (by omega), xN_nI (by omega), rd_b h p q hp hq]
theorem lowF_cg {g g' b b' : Nat → Nat → Int32} {j p r : Nat} (e1 : g p j = g' p j) (e2 : g r j = g' r j) (e3 : b p r = b' p r) : lowF g b j p r = lowF g' b' j p r := by
  unfold lowF fineF
  rw [e1, e2, e3]
theorem mLow_cg {A B : MI} {P Q R : Nat} (h : RelC A B P Q R) {j : Nat} (hj : j < 6) : mLowF (gC A) (bC A) P j = mLowF (gM B) (bM B) P j := by
  unfold mLowF
  rw [triF_congr (g := lowF (gM B) (bM B) j) P (fun p r hp hr => lowF_cg (rd_g h p j hp hj) (rd_g h r j (by omega) hj) (rd_b h p r hp (by omega)))]
theorem mHigh_cg {A B : MI} {P Q R : Nat} (h : RelC A B P Q R) {j : Nat} (hj : j < 6) : mHighF (gC A) (bC A) P j = mHighF (gM B) (bM B) P j := by
  unfold mHighF
  rw [triF_congr (g := highF (gM B) (bM B) j) P (fun p r hp hr => by
    unfold highF fineF
    rw [rd_g h p j hp hj, rd_g h r j (by omega) hj, rd_b h p r hp (by omega)])]
theorem mWhole_cg {A B : MI} {P Q R : Nat} (h : RelC A B P Q R) {j : Nat} (hj : j < 6) : mWholeF (gC A) P j = mWholeF (gM B) P j := by
  unfold mWholeF
  rw [triF_congr (g := wholeF (gM B) j) P (fun p r hp hr => by
    unfold wholeF fineF
    rw [rd_g h p j hp hj, rd_g h r j (by omega) hj])]
theorem re_matched {A B : MI} {P Q R : Nat} (h : RelC A B P Q R) (x z : Int32) : matchedR R (mLowF (gC A) (bC A) P) (mHighF (gC A) (bC A) P) x z = if inF x (nI R) = 0 then (-101) else if withinF z 0 1 = 0 then (-102) else mOfF (gM B) (bM B) (xN x) z 0 P := by
  unfold matchedR
  by_cases c : inF x (nI R) = 0
  · rw [if_pos c, if_pos c]
  · rw [if_neg c, if_neg c]
    by_cases c2 : withinF z 0 1 = 0
    · rw [if_pos c2, if_pos c2]
    · rw [if_neg c2, if_neg c2]
      have hR := h.2.2.1.2.2
      obtain ⟨j, hj, rfl⟩ := inF_of (by omega) c
      rw [xN_nI (by omega)]
      have w := within_of c2
      have w1 := Int32.le_iff_toInt_le.mp w.1
      have w2 := Int32.le_iff_toInt_le.mp w.2
      have k0 : (0 : Int32).toInt = 0 := by decide
      have k1 : (1 : Int32).toInt = 1 := by decide
      by_cases c3 : z = 0
      · subst c3
        rw [if_pos rfl, mOf_low]
        exact mLow_cg h (by omega)
      · have c4 : z = 1 := Int32.toInt_inj.mp (by
          have : z.toInt ≠ 0 := fun e => c3 (Int32.toInt_inj.mp (e.trans k0.symm))
          omega)
        subst c4
        rw [if_neg c3, mOf_high]
        exact mHigh_cg h (by omega)
theorem re_damped {A B : MI} {P Q R : Nat} (h : RelC A B P Q R) (x : Int32) : dampedR R (fun j => mWholeF (gC A) P j - mLowF (gC A) (bC A) P j) x = dampedR R (fun j => mOfF (gM B) (bM B) j 0 1 P - mOfF (gM B) (bM B) j 0 0 P) x := by
  unfold dampedR
  by_cases c : inF x (nI R) = 0
  · rw [if_pos c, if_pos c]
  · rw [if_neg c, if_neg c]
    have hR := h.2.2.1.2.2
    obtain ⟨j, hj, rfl⟩ := inF_of (by omega) c
    rw [xN_nI (by omega)]
    show mWholeF (gC A) P j - mLowF (gC A) (bC A) P j = mOfF (gM B) (bM B) j 0 1 P - mOfF (gM B) (bM B) j 0 0 P
    rw [mOf_low, mOf_whole, mLow_cg h (by omega), mWhole_cg h (by omega)]
theorem sJ_cgF {f g : Nat → Int64} {n : Nat} (h : ∀ k, k < n → f k = g k) : sJ f n = sJ g n := sJ_congr n h
theorem lackF_cg {f g : Nat → Int64} {s pot : Int64} : ∀ n, (∀ k, k < n → f k = g k) → lackF f s pot n = lackF g s pot n
  | 0, _ => rfl
  | n + 1, h => by
    show lackF f s pot n - pot * f n / s = lackF g s pot n - pot * g n / s
    rw [lackF_cg n (fun k hk => h k (by omega)), h n (by omega)]
theorem shareF_cg {f g : Nat → Int64} {R j : Nat} {pot : Int64} (hj : j < R) (h : ∀ k, k < R → f k = g k) : shareF f R j pot = shareF g R j pot := by
  unfold shareF servF
  rw [sJ_congr R h, lackF_cg R h, h j hj, sI_congr (g := fun i => if remF (pot * g j) (sJ g R) < remF (pot * g i) (sJ g R) ∨ (remF (pot * g i) (sJ g R) = remF (pot * g j) (sJ g R) ∧ i < j) then 1 else 0) R (fun i hi => by rw [h i hi])]
theorem re_share {A B : MI} {P Q R : Nat} (h : RelC A B P Q R) (J : MJ) (x : Int32) (pot : Int64) : shareR R (fun j z => shareF (mLowF (gC A) (bC A) P) R j z) x pot = shareR R (mshR J (msF B P) R) x pot := by
  unfold shareR
  by_cases c : inF x (nI R) = 0
  · rw [if_pos c, if_pos c]
  · rw [if_neg c, if_neg c]
    by_cases c2 : pot < 0 ∨ 1000000000 < pot
    · rw [if_pos c2, if_pos c2]
    · rw [if_neg c2, if_neg c2]
      have hR := h.2.2.1.2.2
      obtain ⟨j, hj, rfl⟩ := inF_of (by omega) c
      rw [xN_nI (by omega)]
      obtain ⟨N, hN1, rfl⟩ := pk_lOf (fun z => c2 (Or.inl z))
      have hN : N ≤ 1000000000 := by
        refine Nat.le_of_not_lt (fun z => c2 (Or.inr ?_))
        exact (pk_lLT (a := 1000000000) (by decide) hN1).mpr z
      have e : ∀ i, i < R → mLowF (gC A) (bC A) P i = msF B P i := fun i hi => by
        unfold msF
        rw [mOf_low]
        exact mLow_cg h (by omega)
      obtain ⟨M, hM⟩ : ∃ M : Nat → Nat, ∀ i, msF B P i = lN (M i) ∨ True := ⟨fun _ => 0, fun _ => Or.inr trivial⟩
      have hb : ∀ i, i < R → ∃ a, msF B P i = lN a ∧ a ≤ 1000000000 := fun i hi => by
        obtain ⟨a, h1, h2⟩ := mLow_bd (g := gC A) (b := bC A) (fun p r hp hr => h.2.2.2.2.2.2.2.2.1 p r hp hr) (P := P) (j := i) h.1.2.2
        exact ⟨a, (e i hi).symm.trans h1, h2⟩
      show shareF (mLowF (gC A) (bC A) P) R j (lN N) = mshR J (msF B P) R j (lN N)
      rw [shareF_cg hj e]
      exact share_eq (M := fun i => (msF B P i).toInt.toNat) (fun i hi => by
        obtain ⟨a, h1, h2⟩ := hb i hi
        have h3 : (msF B P i).toInt.toNat = a := by
          rw [h1, pk_lT (by omega)]
          omega
        show msF B P i = lN ((msF B P i).toInt.toNat) ∧ (msF B P i).toInt.toNat ≤ 1000000000
        rw [h3]
        exact ⟨h1, h2⟩) hR hj hN
theorem re_count {A B : MI} {P Q R : Nat} (h : Rel2 A B P Q R) (x : Int32) : countR (nI P) (nI Q) (nI R) (presF (A 7) P) (A 3 3) (A 3 4) x = countR (nI P) (nI Q) (nI R) (presF (B 21) P) (B 5 10) (B 5 11) x := by
  rw [presF_cg (rd_7 h.1), h.2.1, h.2.2.1]
theorem re_digest {A B : MI} {P Q R : Nat} (h : Rel2 A B P Q R) : digestR (fun p z => dgFF (gC A p) (bC A p) R p (dgHF (A 6 p) (A 7 p) (vC A p) (wC A p) Q z)) P (A 1 2) (A 3 3) (A 3 4) = digestR (fun p z => dgFF (gM B p) (bM B p) R p (dgHF (B 20 p) (B 21 p) (vM B p) (wM B p) Q z)) P (B 5 3) (B 5 10) (B 5 11) := by
  have h1 := h.1
  have hR := h1.2.2.1.2.2
  unfold digestR
  rw [h1.2.2.2.1, h.2.1, h.2.2.1, dgF_cg (g := fun p z => dgFF (gM B p) (bM B p) R p (dgHF (B 20 p) (B 21 p) (vM B p) (wM B p) Q z)) P 103 (fun p hp z => by
    show chF (bC A p) p (chF (gC A p) R (chF (wC A p) Q (chF (vC A p) Q (31 * (31 * z + (A 6 p).toInt64) + (onF (A 7 p)).toInt64)))) = chF (bM B p) p (chF (gM B p) R (chF (wM B p) Q (chF (vM B p) Q (31 * (31 * z + (B 20 p).toInt64) + (onF (B 21 p)).toInt64))))
    rw [rd_6 h1 p hp, rd_7 h1 p hp, chF_cg _ Q (fun q hq => rd_v h1 p q hp hq), chF_cg _ Q (fun q hq => rd_w h1 p q hp hq), chF_cg _ R (fun j hj => rd_g h1 p j hp (by omega)), chF_cg _ p (fun r hr => rd_b h1 p r hp (by omega))])]

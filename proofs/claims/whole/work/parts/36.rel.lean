/-! the class's memory and the reference's tell the same house -/
/-- the class's part of A, the reference's of B -/
def RelC (A B : MI) (P Q R : Nat) : Prop :=
  (A 1 0 = nI P ∧ B 5 0 = nI P ∧ P ≤ 12) ∧ (A 1 1 = nI Q ∧ B 5 1 = nI Q ∧ Q ≤ 6) ∧ (A 4 1 = nI R ∧ B 5 2 = nI R ∧ R ≤ 6) ∧
  A 1 2 = B 5 3 ∧
  (∀ p, p < 12 → A 6 p = B 20 p ∧ A 7 p = B 21 p ∧ 0 ≤ (A 6 p).toInt ∧ (A 6 p).toInt ≤ 2000) ∧
  (∀ p q, p < 12 → q < 6 → vC A p q = vM B p q ∧ wC A p q = wM B p q ∧ gC A p q = gM B p q) ∧
  (∀ p r, p < 12 → r < 12 → bC A p r = bM B p r) ∧
  (∀ p q, p < 12 → q < 6 → -40 ≤ (vC A p q).toInt ∧ (vC A p q).toInt ≤ 40 ∧ -1000 ≤ (wC A p q).toInt ∧ (wC A p q).toInt ≤ 1000 ∧ 0 ≤ (gC A p q).toInt ∧ (gC A p q).toInt ≤ 1000000) ∧
  (∀ p r, p < 12 → r < 12 → 0 ≤ (bC A p r).toInt ∧ (bC A p r).toInt ≤ 1000) ∧
  (∀ p q, p < 12 → q < 6 → (P ≤ p ∨ Q ≤ q) → vC A p q = 0)
/-- counted rounds and changes, ending, ring -/
def hisR (A B : MI) : Prop := A 3 3 = B 5 10 ∧ A 3 4 = B 5 11 ∧ A 3 5 = B 5 12 ∧ A 3 6 = B 5 13
def Rel2 (A B : MI) (P Q R : Nat) : Prop := RelC A B P Q R ∧ hisR A B
theorem sI_bd {f : Nat → Int32} {m : Int} (hm : 0 ≤ m) (hm2 : m ≤ 100000) : ∀ n, n ≤ 12 → (∀ k, k < n → -m ≤ (f k).toInt ∧ (f k).toInt ≤ m) → -(m * n) ≤ (sI f n).toInt ∧ (sI f n).toInt ≤ m * n
  | 0, _, _ => by
    show -(m * ((0 : Nat) : Int)) ≤ (0 : Int32).toInt ∧ (0 : Int32).toInt ≤ m * ((0 : Nat) : Int)
    rw [e0]
    simp
  | n + 1, hn, h => by
    have ih := sI_bd hm hm2 n (by omega) (fun k hk => h k (by omega))
    have b := h n (by omega)
    have e : m * ((n + 1 : Nat) : Int) = m * n + m := by
      rw [show ((n + 1 : Nat) : Int) = (n : Int) + 1 by omega, Int.mul_add, Int.mul_one]
    have e3 : m * (n : Int) ≤ 100000 * 12 := Int.mul_le_mul hm2 (by omega) (by omega) (by omega)
    have e4 : (sI f n + f n).toInt = (sI f n).toInt + (f n).toInt := ti_add (by omega) (by omega)
    show -(m * ((n + 1 : Nat) : Int)) ≤ (sI f n + f n).toInt ∧ (sI f n + f n).toInt ≤ m * ((n + 1 : Nat) : Int)
    rw [e, e4]
    omega
theorem less_bd {h : Nat → Int32} {v : Nat → Nat → Int32} {P p q : Nat} (hP : P ≤ 12) (hp : p < P) (hv : ∀ a, a < P → -40 ≤ (v a q).toInt ∧ (v a q).toInt ≤ 40) : -1000 ≤ (lessF h v P p q).toInt ∧ (lessF h v P p q).toInt ≤ 1000 := by
  rw [← oth_less h v p q P hp]
  have b := sI_bd (f := fun a => if h a = 0 ∨ a = p then 0 else v a q) (m := 40) (by omega) (by omega) P hP (fun k hk => by
    show -40 ≤ (if h k = 0 ∨ k = p then 0 else v k q).toInt ∧ (if h k = 0 ∨ k = p then 0 else v k q).toInt ≤ 40
    by_cases c : h k = 0 ∨ k = p
    · rw [if_pos c, e0]
      omega
    · rw [if_neg c]
      exact hv k hk)
  have e : othF h v p q P = sI (fun a => if h a = 0 ∨ a = p then 0 else v a q) P := rfl
  rw [e]
  have : (P : Int) ≤ 12 := by omega
  omega
/-- the rows of choices hold what was put -/
theorem plM_lo (q : Nat) {b : Nat} : ∀ (l : List (Int32 × Int32)) (I : MI) (a : Nat), b < a → plM I q a l (57 + q) b = I (57 + q) b ∧ plM I q a l (63 + q) b = I (63 + q) b
  | [], _, _, _ => ⟨rfl, rfl⟩
  | x :: l, I, a, h => by
    have ih := plM_lo q (b := b) l (hx_u (hx_u (hx_u I (57 + q) a x.1) (63 + q) a x.2) 10 q (nI (a + 1))) (a + 1) (by omega)
    have e : plM I q a (x :: l) = plM (hx_u (hx_u (hx_u I (57 + q) a x.1) (63 + q) a x.2) 10 q (nI (a + 1))) q (a + 1) l := rfl
    rw [e, ih.1, ih.2]
    constructor
    · rw [hx_u_ne _ _ _ (by omega), hx_u_ne _ _ _ (by omega), hx_u_same]
      unfold upd
      rw [if_neg (by omega)]
    · rw [hx_u_ne _ _ _ (by omega), hx_u_same]
      unfold upd
      rw [if_neg (by omega), hx_u_ne _ _ _ (by omega)]
theorem plM_at (q : Nat) : ∀ (l : List (Int32 × Int32)) (I : MI) (a i : Nat) (x : Int32 × Int32), l[i]? = some x → plM I q a l (57 + q) (a + i) = x.1 ∧ plM I q a l (63 + q) (a + i) = x.2
  | [], _, _, i, x, h => by simp at h
  | y :: l, I, a, 0, x, h => by
    have hx : y = x := Option.some.inj h
    subst hx
    have e : plM I q a (y :: l) = plM (hx_u (hx_u (hx_u I (57 + q) a y.1) (63 + q) a y.2) 10 q (nI (a + 1))) q (a + 1) l := rfl
    have k := plM_lo q (b := a) l (hx_u (hx_u (hx_u I (57 + q) a y.1) (63 + q) a y.2) 10 q (nI (a + 1))) (a + 1) (by omega)
    rw [e]
    refine ⟨Eq.trans k.1 ?_, Eq.trans k.2 ?_⟩
    · rw [hx_u_ne _ _ _ (by omega), hx_u_ne _ _ _ (by omega), hx_u_same]
      unfold upd
      rw [if_pos rfl]
    · rw [hx_u_ne _ _ _ (by omega), hx_u_same]
      unfold upd
      rw [if_pos rfl]
  | y :: l, I, a, i + 1, x, h => by
    have e : plM I q a (y :: l) = plM (hx_u (hx_u (hx_u I (57 + q) a y.1) (63 + q) a y.2) 10 q (nI (a + 1))) q (a + 1) l := rfl
    have k := plM_at q l (hx_u (hx_u (hx_u I (57 + q) a y.1) (63 + q) a y.2) 10 q (nI (a + 1))) (a + 1) i x h
    rw [e, show a + (i + 1) = a + 1 + i by omega]
    exact k
theorem fs1_cell {M : MI} {r : Nat} {o w : Int32} {a : Nat} (h1 : a ≠ 10) (h2 : a ≠ 13) (h3 : a ≠ 57 + r) (h4 : a ≠ 63 + r) : fs1 M r o w a = M a := by
  unfold fs1
  rw [hx_u_ne _ _ _ h2, plM_ne r h1 h3 h4, hx_u_ne _ _ _ h1]
theorem fs1_row {M : MI} {r : Nat} {o w : Int32} {i : Nat} {x : Int32 × Int32} (hr : r < 6) (h : (opC o w)[i]? = some x) : fs1 M r o w (57 + r) i = x.1 ∧ fs1 M r o w (63 + r) i = x.2 := by
  have k := plM_at r (opC o w) (hx_u M 10 r 0) 0 i x h
  rw [Nat.zero_add] at k
  unfold fs1
  rw [hx_u_ne _ _ _ (by omega), hx_u_ne _ _ _ (by omega)]
  exact k
theorem fs1_13 {M : MI} {r j : Nat} {o w : Int32} (hr : r < 6) : fs1 M r o w 13 j = if j = r then M 13 (r + 1) + fs1 M r o w (63 + r) 0 else M 13 j := by
  have e : plM (hx_u M 10 r 0) r 0 (opC o w) 13 = M 13 := by
    rw [plM_ne r (by decide) (by omega) (by omega), hx_u_ne _ _ _ (by decide)]
  have e2 : fs1 M r o w (63 + r) 0 = plM (hx_u M 10 r 0) r 0 (opC o w) (63 + r) 0 := by
    unfold fs1
    rw [hx_u_ne _ _ _ (by omega)]
  rw [e2]
  unfold fs1
  rw [hx_u_same]
  unfold upd
  rw [e]
theorem fsF_row {o w : Nat → Int32} {q : Nat} (hq : q < 6) : ∀ (r : Nat) (M : MI), r ≤ 6 →
    (q < r → (∀ i x, (opC (o q) (w q))[i]? = some x → fsF o w r M (57 + q) i = x.1 ∧ fsF o w r M (63 + q) i = x.2) ∧ fsF o w r M 13 q = fsF o w r M 13 (q + 1) + fsF o w r M (63 + q) 0) ∧
    (r ≤ q → fsF o w r M (57 + q) = M (57 + q) ∧ fsF o w r M (63 + q) = M (63 + q)) ∧ (∀ j, r ≤ j → fsF o w r M 13 j = M 13 j)
  | 0, _, _ => ⟨fun h => absurd h (Nat.not_lt_zero _), fun _ => ⟨rfl, rfl⟩, fun _ _ => rfl⟩
  | r + 1, M, hr => by
    obtain ⟨i1, i2, i3⟩ := fsF_row (o := o) (w := w) hq r (fs1 M r (o r) (w r)) (by omega)
    have e : fsF o w (r + 1) M = fsF o w r (fs1 M r (o r) (w r)) := rfl
    rw [e]
    refine ⟨fun h => ?_, fun h => ?_, fun j hj => ?_⟩
    · by_cases c : q < r
      · exact i1 c
      · have hqr : q = r := by omega
        subst hqr
        obtain ⟨k1, k2⟩ := i2 (Nat.le_refl _)
        refine ⟨fun i x hx => ?_, ?_⟩
        · rw [k1, k2]
          exact fs1_row hq hx
        · rw [i3 q (Nat.le_refl _), i3 (q + 1) (by omega), k2, fs1_13 hq, if_pos rfl, fs1_13 hq, if_neg (by omega)]
    · obtain ⟨k1, k2⟩ := i2 (by omega)
      rw [k1, k2, fs1_cell (by omega) (by omega) (by omega) (by omega), fs1_cell (by omega) (by omega) (by omega) (by omega)]
      exact ⟨rfl, rfl⟩
    · rw [i3 j (by omega), fs1_13 (by omega), if_neg (by omega)]
theorem fsF_2 {o w : Nat → Int32} : ∀ (r : Nat) (M : MI), r ≤ 6 → fsF o w r M 2 = M 2
  | 0, _, _ => rfl
  | r + 1, M, hr => by
    show fsF o w r (fs1 M r (o r) (w r)) 2 = M 2
    rw [fsF_2 r _ (by omega), fs1_cell (by decide) (by decide) (by omega) (by omega)]
theorem opC_bd {o u : Int32} (h1 : -1000 ≤ o.toInt) (h2 : o.toInt ≤ 1000) (w1 : -1000 ≤ u.toInt) (w2 : u.toInt ≤ 1000) : ∀ x ∈ opC o u, -40 ≤ x.1.toInt ∧ x.1.toInt ≤ 40 ∧ -2000 ≤ x.2.toInt ∧ x.2.toInt ≤ 2000 := by
  intro x hx
  obtain ⟨e, _, k2, k3, k4, k5⟩ := opt_way ((opC_z h1 h2 w1 w2).1 x hx)
  have b := eZ_bd (e := e) w1 w2
  omega
/-- the class's best voices are the reference's -/
theorem find_eq {A B : MI} {P Q R p : Nat} (h : RelC A B P Q R) (hp : p < P) : (∀ q, q < Q → ffM A P Q p 15 q = fmM B P Q p 28 q) ∧ ffM A P Q p 2 7 = fmM B P Q p 5 18 ∧ (∀ q, q < Q → -40 ≤ (ffM A P Q p 15 q).toInt ∧ (ffM A P Q p 15 q).toInt ≤ 40) := by
  obtain ⟨⟨-, -, hP⟩, ⟨-, -, hQ⟩, -, -, hbud, hvw, -, hbd, -, -⟩ := h
  have ho : ∀ q, q < Q → ffO A P p q = fmO B P p q := fun q hq => lessF_congr hp (fun a ha => (hbud a (by omega)).2.1) (fun a ha => (hvw a q (by omega) (by omega)).1)
  have hu : ∀ q, q < Q → wC A p q = wM B p q := fun q hq => (hvw p q (by omega) (by omega)).2.1
  have hob : ∀ q, q < Q → -1000 ≤ (ffO A P p q).toInt ∧ (ffO A P p q).toInt ≤ 1000 ∧ -1000 ≤ (wC A p q).toInt ∧ (wC A p q).toInt ≤ 1000 := fun q hq => by
    have b := less_bd (h := A 7) (v := vC A) (q := q) hP hp (fun a ha => ⟨(hbd a q (by omega) (by omega)).1, (hbd a q (by omega) (by omega)).2.1⟩)
    have c := hbd p q (by omega) (by omega)
    exact ⟨b.1, b.2, c.2.2.1, c.2.2.2.1⟩
  have hrow : ∀ q, q < Q → (∀ i x, (opC (ffO A P p q) (wC A p q))[i]? = some x → ffB A P Q p (57 + q) i = x.1 ∧ ffB A P Q p (63 + q) i = x.2) ∧ ffB A P Q p 13 q = ffB A P Q p 13 (q + 1) + ffB A P Q p (63 + q) 0 := fun q hq => (fsF_row (by omega) Q (ff0 A Q p) hQ).1 hq
  have hn : ∀ q, ffN A P p q = (opC (ffO A P p q) (wC A p q)).length := fun q => rfl
  have hO : Opt Q (ffN A P p) (oV (ffB A P Q p)) (oG (ffB A P Q p)) (ffO A P p) (wC A p) := fun q hq => ⟨rfl, fun i hi => by
    rw [hn] at hi
    have e : (opC (ffO A P p q) (wC A p q))[i]? = some ((opC (ffO A P p q) (wC A p q))[i]) := List.getElem?_eq_getElem hi
    have k := (hrow q hq).1 i _ e
    rw [e]
    show some _ = some (ffB A P Q p (57 + q) i, ffB A P Q p (63 + q) i)
    rw [k.1, k.2]⟩
  have hel : ∀ q i, q < Q → i < ffN A P p q → (oV (ffB A P Q p) q i, oG (ffB A P Q p) q i) ∈ opC (ffO A P p q) (wC A p q) := fun q i hq hi => List.mem_of_getElem? ((hO q hq).2 i hi)
  have hg0 : ∀ q, q < Q → ((opC (ffO A P p q) (wC A p q)).getD 0 (0, 0)).2 = oG (ffB A P Q p) q 0 := fun q hq => by
    have k := (hO q hq).2 0 (by rw [hn]; have := opC_len (ffO A P p q) (wC A p q); omega)
    rw [List.getD_eq_getElem?_getD, k]
    rfl
  have b2 : ffB A P Q p 2 = ff0 A Q p 2 := fsF_2 Q _ hQ
  have hb9 : ffB A P Q p 2 9 = A 6 p := by rw [b2]; rfl
  have hb7 : ffB A P Q p 2 7 = -1000000 := by rw [b2]; rfl
  have h13Q : (ffB A P Q p 13 Q).toInt = 0 := by
    have e : ffB A P Q p 13 Q = ff0 A Q p 13 Q := (fsF_row (q := 0) (by omega) Q (ff0 A Q p) hQ).2.2 Q (Nat.le_refl _)
    rw [e]
    unfold ff0
    rw [hx_u_same]
    unfold upd
    rw [if_pos rfl, e0]
  have hga : ∀ d q, q + d = Q → -(2000 * (d : Int)) ≤ (ffB A P Q p 13 q).toInt ∧ (ffB A P Q p 13 q).toInt ≤ 2000 * d ∧ (0 < d → (ffB A P Q p 13 q).toInt = (ffB A P Q p 13 (q + 1)).toInt + (oG (ffB A P Q p) q 0).toInt) := by
    intro d
    induction d with
    | zero =>
      intro q hq
      have e : q = Q := by omega
      rw [e, h13Q]
      omega
    | succ d ih =>
      intro q hq
      have k := ih (q + 1) (by omega)
      have hb := hob q (by omega)
      have m := opC_bd hb.1 hb.2.1 hb.2.2.1 hb.2.2.2 _ (hel q 0 (by omega) (by rw [hn]; have := opC_len (ffO A P p q) (wC A p q); omega))
      have m3 : -2000 ≤ (oG (ffB A P Q p) q 0).toInt := m.2.2.1
      have m4 : (oG (ffB A P Q p) q 0).toInt ≤ 2000 := m.2.2.2
      have e : (ffB A P Q p 13 q).toInt = (ffB A P Q p 13 (q + 1)).toInt + (oG (ffB A P Q p) q 0).toInt := by
        rw [(hrow q (by omega)).2]
        exact ti_add (by show _ ≤ (ffB A P Q p 13 (q + 1)).toInt + (oG (ffB A P Q p) q 0).toInt; omega) (by show (ffB A P Q p 13 (q + 1)).toInt + (oG (ffB A P Q p) q 0).toInt < _; omega)
      exact ⟨by omega, by omega, fun _ => e⟩
  have hbp := hbud p (by omega)
  have hS : Sok Q (ffN A P p) (oV (ffB A P Q p)) (oG (ffB A P Q p)) (ffB A P Q p 13) (ffB A P Q p 2 9) := by
    refine ⟨⟨hQ, by rw [hb9]; exact hbp.2.2.1, by rw [hb9]; exact hbp.2.2.2⟩, fun q i hq hi => ?_, fun q hq => by rw [hn]; have := opC_len (ffO A P p q) (wC A p q); omega, h13Q, fun q hq => (hga (Q - q) q (by omega)).2.2 (by omega)⟩
    have hb := hob q hq
    have m := opC_bd hb.1 hb.2.1 hb.2.2.1 hb.2.2.2 _ (hel q i hq hi)
    have m0 := opC_0 hb.1 hb.2.1 hb.2.2.1 hb.2.2.2 _ (hel q i hq hi)
    rw [hg0 q hq] at m0
    exact ⟨m.1, m.2.1, m.2.2.1, m.2.2.2, m0⟩
  have hm20 : fmB B P Q p 20 = B 20 := f1R_ne (by decide) (by decide) Q
  have hm23 : fmB B P Q p 23 = B 23 := f1R_ne (by decide) (by decide) Q
  have hW : Wok (fmB B P Q p) Q p (ffO A P p) (wC A p) := by
    refine ⟨⟨hQ, by rw [hm20, ← hbp.1]; exact hbp.2.2.1, by rw [hm20, ← hbp.1]; exact hbp.2.2.2⟩, hob, fun q e hq he => ?_, fun q hq => ?_⟩
    · rw [ho q hq]
      exact f1R_at Q q e hq he
    · rw [hm23, hu q hq]
      rfl
  have K := best_eq hS hO hW (by rw [hb9, hm20]; exact hbp.1) (ffB A P Q p 14, ffB A P Q p 15, ffB A P Q p 2 7, ffB A P Q p 2 8) hb7 (B 29, B 28, B 5 18, B 5 19, 0) rfl
  have K1 : samK Q (sK (ffT A P Q p)) (mK (fmT B P Q p)) := K
  have T := try_ok hS Q 0 (ffB A P Q p 14, ffB A P Q p 15, ffB A P Q p 2 7, ffB A P Q p 2 8) 0 0 (Nat.zero_add Q) (by rw [e0]; decide) (by rw [e0]; decide) (by rw [e0]; omega) (by rw [e0]; exact hS.1.2.1)
  have WI := way_ok hW (B 29, B 28, B 5 18, B 5 19, 0) rfl (3 ^ Q)
  refine ⟨fun q hq => ?_, ?_, fun q hq => ?_⟩
  · have k := K1.2.2 q hq
    rw [sK_3, mK_3] at k
    exact Int32.toInt_inj.mp k
  · have k := K1.1
    rw [sK_1, mK_1] at k
    exact Int32.toInt_inj.mp k
  · have k := K1.2.2 q hq
    rw [sK_3, mK_3] at k
    have e : (ffM A P Q p 15 q).toInt = ((ffT A P Q p).2.1 q).toInt := rfl
    rw [e, k]
    have WI2 : Inv (ffO A P p) (wC A p) (fmB B P Q p 20 p).toInt Q (3 ^ Q) (fmT B P Q p) := WI
    rcases WI2 with ⟨_, W⟩ | ⟨_, ⟨wm, _, wm2, wm3⟩, _⟩
    · exfalso
      obtain ⟨w0, w0a, w0b⟩ := digits (e := fun q => dzF (ffO A P p q).toInt) (fun q => dzF_lt _) Q
      exact W w0 w0a (ze_feas (fmB B P Q p) hW w0 w0b)
    · have k3 := wm3.2.2 q hq
      rw [mK_3, wK_3] at k3
      rw [k3]
      exact wm2.1 q hq

/-! the reference's root, search, rows of the past, in plain words -/
theorem lN_or (a b : Nat) : lN a ||| lN b = lN (a ||| b) := by
  apply Int64.toBitVec_inj.mp
  show BitVec.ofNat 64 a ||| BitVec.ofNat 64 b = BitVec.ofNat 64 (a ||| b)
  exact BitVec.ofNat_or.symm
theorem bitL_s (k : Nat) : bitL (k + 1) = lN (2 ^ k) := by
  unfold bitL
  rw [Nat.pow_succ, Nat.mul_div_cancel _ (by decide)]
theorem bitL_shl : ∀ k, k < 29 → (1 : Int64) <<< ((nI k).toInt64 &&& 63) = bitL (k + 1) := by decide +kernel
theorem bitL_or {a k : Nat} (h : a % 2 ^ (k + 1) = 0) : lN a ||| bitL (k + 1) = lN a + bitL (k + 1) := by
  rw [bitL_s, lN_or, lN_add]
  have e : a = 2 ^ (k + 1) * (a / 2 ^ (k + 1)) := by
    have := Nat.div_add_mod a (2 ^ (k + 1))
    omega
  have h2 : 2 ^ k < 2 ^ (k + 1) := Nat.pow_lt_pow_right (by decide) (by omega)
  have h3 := Nat.two_pow_add_eq_or_of_lt h2 (a / 2 ^ (k + 1))
  rw [← e] at h3
  rw [h3]
theorem bitL_half {a k : Nat} (h : a % 2 ^ (k + 1) = 0) : a % 2 ^ k = 0 ∧ (a + 2 ^ k) % 2 ^ k = 0 := by
  have h1 : 2 ^ k ∣ 2 ^ (k + 1) := Nat.pow_dvd_pow 2 (by omega)
  have h2 : 2 ^ k ∣ a := Nat.dvd_trans h1 (Nat.dvd_of_mod_eq_zero h)
  refine ⟨Nat.mod_eq_zero_of_dvd h2, ?_⟩
  rw [Nat.add_mod_right]
  exact Nat.mod_eq_zero_of_dvd h2
/-- the reference's search: its cells -/
def enM (I : MI) (k : Nat) (v : Int32) : MI := hx_u (hx_u I 26 k v) 27 k (withinF v (-40) 40)
def cvF (o : Int32) (e : Nat) : Int32 := if e = 0 then (if o ≤ 0 then 1 - o else 0) else if e = 1 then -o else (if 0 ≤ o then (-1) - o else 0)
def f1M (I : MI) (o : Int32) (q : Nat) : MI := enM (enM (enM I (3 * q) (cvF o 0)) (3 * q + 1) (cvF o 1)) (3 * q + 2) (cvF o 2)
def f1R (I : MI) (o : Nat → Int32) : Nat → MI
  | 0 => I
  | q + 1 => f1M (f1R I o q) (o q) q
theorem enM_ne {I : MI} {k a : Nat} {v : Int32} (h1 : a ≠ 26) (h2 : a ≠ 27) : enM I k v a = I a := by
  unfold enM
  rw [hx_u_ne _ _ _ h2, hx_u_ne _ _ _ h1]
theorem f1R_ne {I : MI} {o : Nat → Int32} {a : Nat} (h1 : a ≠ 26) (h2 : a ≠ 27) : ∀ q, f1R I o q a = I a
  | 0 => rfl
  | q + 1 => by
    show f1M (f1R I o q) (o q) q a = I a
    unfold f1M
    rw [enM_ne h1 h2, enM_ne h1 h2, enM_ne h1 h2, f1R_ne h1 h2 q]
theorem enM_26 {I : MI} {k i : Nat} {v : Int32} : enM I k v 26 i = if i = k then v else I 26 i := by
  unfold enM
  rw [hx_u_ne _ _ _ (by decide), hx_u_same]
  rfl
theorem enM_27 {I : MI} {k i : Nat} {v : Int32} : enM I k v 27 i = if i = k then withinF v (-40) 40 else I 27 i := by
  unfold enM
  rw [hx_u_same, hx_u_ne _ _ _ (by decide)]
  rfl
theorem f1R_at {I : MI} {o : Nat → Int32} : ∀ (n q e : Nat), q < n → e < 3 → f1R I o n 26 (3 * q + e) = cvF (o q) e ∧ f1R I o n 27 (3 * q + e) = withinF (cvF (o q) e) (-40) 40
  | n + 1, q, e, hq, he => by
    have e26 : ∀ i, f1R I o (n + 1) 26 i = if i = 3 * n + 2 then cvF (o n) 2 else if i = 3 * n + 1 then cvF (o n) 1 else if i = 3 * n then cvF (o n) 0 else f1R I o n 26 i := fun i => by
      show f1M (f1R I o n) (o n) n 26 i = _
      unfold f1M
      rw [enM_26, enM_26, enM_26]
    have e27 : ∀ i, f1R I o (n + 1) 27 i = if i = 3 * n + 2 then withinF (cvF (o n) 2) (-40) 40 else if i = 3 * n + 1 then withinF (cvF (o n) 1) (-40) 40 else if i = 3 * n then withinF (cvF (o n) 0) (-40) 40 else f1R I o n 27 i := fun i => by
      show f1M (f1R I o n) (o n) n 27 i = _
      unfold f1M
      rw [enM_27, enM_27, enM_27]
    rw [e26, e27]
    by_cases c : q = n
    · subst c
      match e, he with
      | 0, _ => rw [if_neg (by omega), if_neg (by omega), if_pos (by omega), if_neg (by omega), if_neg (by omega), if_pos (by omega)]; exact ⟨rfl, rfl⟩
      | 1, _ => rw [if_neg (by omega), if_pos (by omega), if_neg (by omega), if_pos (by omega)]; exact ⟨rfl, rfl⟩
      | 2, _ => rw [if_pos (by omega), if_pos (by omega)]; exact ⟨rfl, rfl⟩
    · rw [if_neg (by omega), if_neg (by omega), if_neg (by omega), if_neg (by omega), if_neg (by omega), if_neg (by omega)]
      exact f1R_at n q e (by omega) he
/-- its state: tried, best, gain, cost, whether there is a best -/
abbrev MS : Type := (Nat → Int32) × (Nat → Int32) × Int32 × Int32 × Int32
def msM (I : MI) (s : MS) : MI := fun a => if a = 29 then s.1 else if a = 28 then s.2.1 else if a = 5 then upd (upd (upd (I 5) 18 s.2.2.1) 19 s.2.2.2.1) 20 s.2.2.2.2 else I a
theorem msM_ne {I : MI} {s : MS} {a : Nat} (h1 : a ≠ 29) (h2 : a ≠ 28) (h3 : a ≠ 5) : msM I s a = I a := by
  unfold msM
  rw [if_neg h1, if_neg h2, if_neg h3]
theorem msM_t (I : MI) (s : MS) (q : Nat) (v : Int32) : hx_u (msM I s) 29 q v = msM I (upd s.1 q v, s.2) := by
  funext a
  unfold hx_u
  by_cases h : a = 29
  · subst h; rfl
  · rw [if_neg h]
    unfold msM
    rw [if_neg h, if_neg h]
theorem msM_b (I : MI) (s : MS) (q : Nat) (v : Int32) : hx_u (msM I s) 28 q v = msM I (s.1, upd s.2.1 q v, s.2.2) := by
  funext a
  unfold hx_u
  by_cases h : a = 28
  · subst h; rfl
  · rw [if_neg h]
    unfold msM
    rw [if_neg h, if_neg h]
theorem upd_c (f : Nat → Int32) {i j : Nat} (h : i ≠ j) (x y : Int32) : upd (upd f i x) j y = upd (upd f j y) i x := by
  funext b
  unfold upd
  by_cases h1 : b = j
  · rw [if_pos h1, if_neg (by omega), if_pos h1]
  · rw [if_neg h1]
    by_cases h2 : b = i
    · rw [if_pos h2, if_pos h2]
    · rw [if_neg h2, if_neg h2, if_neg h1]
theorem upd_s (f : Nat → Int32) (i : Nat) (x y : Int32) : upd (upd f i x) i y = upd f i y := by
  funext b
  unfold upd
  by_cases h1 : b = i
  · rw [if_pos h1, if_pos h1]
  · rw [if_neg h1, if_neg h1, if_neg h1]
theorem upd_id (f : Nat → Int32) (i : Nat) : upd f i (f i) = f := by
  funext b
  unfold upd
  by_cases h1 : b = i
  · rw [if_pos h1, h1]
  · rw [if_neg h1]
theorem msM_g (I : MI) (s : MS) (g : Int32) : hx_u (msM I s) 5 18 g = msM I (s.1, s.2.1, g, s.2.2.2) := by
  funext a
  unfold hx_u
  by_cases h : a = 5
  · subst h
    show upd (upd (upd (upd (I 5) 18 s.2.2.1) 19 s.2.2.2.1) 20 s.2.2.2.2) 18 g = upd (upd (upd (I 5) 18 g) 19 s.2.2.2.1) 20 s.2.2.2.2
    rw [upd_c _ (show 20 ≠ 18 by decide), upd_c _ (show 19 ≠ 18 by decide), upd_s]
  · rw [if_neg h]
    unfold msM
    rw [if_neg h, if_neg h]
theorem msM_c (I : MI) (s : MS) (c : Int32) : hx_u (msM I s) 5 19 c = msM I (s.1, s.2.1, s.2.2.1, c, s.2.2.2.2) := by
  funext a
  unfold hx_u
  by_cases h : a = 5
  · subst h
    show upd (upd (upd (upd (I 5) 18 s.2.2.1) 19 s.2.2.2.1) 20 s.2.2.2.2) 19 c = upd (upd (upd (I 5) 18 s.2.2.1) 19 c) 20 s.2.2.2.2
    rw [upd_c _ (show 20 ≠ 19 by decide), upd_s]
  · rw [if_neg h]
    unfold msM
    rw [if_neg h, if_neg h]
theorem msM_h (I : MI) (s : MS) (b : Int32) : hx_u (msM I s) 5 20 b = msM I (s.1, s.2.1, s.2.2.1, s.2.2.2.1, b) := by
  funext a
  unfold hx_u
  by_cases h : a = 5
  · subst h
    show upd (upd (upd (upd (I 5) 18 s.2.2.1) 19 s.2.2.2.1) 20 s.2.2.2.2) 20 b = upd (upd (upd (I 5) 18 s.2.2.1) 19 s.2.2.2.1) 20 b
    rw [upd_s]
  · rw [if_neg h]
    unfold msM
    rw [if_neg h, if_neg h]
theorem msM_self (I : MI) : msM I (I 29, I 28, I 5 18, I 5 19, I 5 20) = I := by
  funext a
  unfold msM
  by_cases h : a = 29
  · rw [if_pos h, h]
  · rw [if_neg h]
    by_cases h1 : a = 28
    · rw [if_pos h1, h1]
    · rw [if_neg h1]
      by_cases h2 : a = 5
      · rw [if_pos h2, h2]
        show upd (upd (upd (I 5) 18 (I 5 18)) 19 (I 5 19)) 20 (I 5 20) = I 5
        rw [upd_id, upd_id, upd_id]
      · rw [if_neg h2]
def btF (Q : Nat) (s : MS) (g c : Int32) : Int32 := if s.2.2.2.2 = 0 ∨ ¬ g = s.2.2.1 then (if s.2.2.2.2 = 0 ∨ s.2.2.1 < g then 1 else 0) else if c = s.2.2.2.1 then lxF s.1 s.2.1 Q 0 else if c < s.2.2.2.1 then 1 else 0
def dgW (w q : Nat) : Nat := w / 3 ^ q % 3
def wyG (B : MI) (w : Nat) : Nat → Int32
  | 0 => 1
  | q + 1 => if wyG B w q = 0 ∨ B 27 (3 * q + dgW w q) = 0 then 0 else 1
def wyC (B : MI) (w : Nat) : Nat → Int32
  | 0 => 0
  | q + 1 => wyC B w q + (if wyG B w (q + 1) = 0 then 0 else B 26 (3 * q + dgW w q) * B 26 (3 * q + dgW w q))
def wyA (B : MI) (p w : Nat) : Nat → Int32
  | 0 => 0
  | q + 1 => wyA B p w q + (if dgW w q = 0 then 2 * B 23 (6 * p + q) else if dgW w q = 1 then B 23 (6 * p + q) else 0)
def wyT (B : MI) (w : Nat) (t : Nat → Int32) : Nat → Nat → Int32
  | 0 => t
  | q + 1 => upd (wyT B w t q) q (B 26 (3 * q + dgW w q))
def cpF (t f : Nat → Int32) : Nat → Nat → Int32
  | 0 => f
  | q + 1 => upd (cpF t f q) q (t q)
def wayF (B : MI) (Q p : Nat) (w : Nat) (s : MS) : MS := if wyG B w Q = 0 ∨ B 20 p < wyC B w Q ∨ btF Q (wyT B w s.1 Q, s.2) (wyA B p w Q) (wyC B w Q) = 0 then (wyT B w s.1 Q, s.2) else (wyT B w s.1 Q, cpF (wyT B w s.1 Q) s.2.1 Q, wyA B p w Q, wyC B w Q, 1)
def fmO (I : MI) (P p q : Nat) : Int32 := lessF (I 21) (vM I) P p q
def fmB (I : MI) (P Q p : Nat) : MI := f1R I (fmO I P p) Q
def fmT (I : MI) (P Q p : Nat) : MS := foF (wayF (fmB I P Q p) Q p) (3 ^ Q) (I 29, I 28, I 5 18, I 5 19, 0)
def fmM (I : MI) (P Q p : Nat) : MI := msM (fmB I P Q p) (fmT I P Q p)
/-- votes become the best voices -/
def adM (I : MI) (p : Nat) : Nat → MI
  | 0 => I
  | q + 1 => hx_u (adM I p q) 22 (6 * p + q) (I 28 q)
theorem adM_ne {I : MI} {p a : Nat} (h : a ≠ 22) : ∀ q, adM I p q a = I a
  | 0 => rfl
  | q + 1 => by
    show hx_u (adM I p q) 22 (6 * p + q) (I 28 q) a = I a
    rw [hx_u_ne _ _ _ h, adM_ne h q]
def kpM (I : MI) (r : Nat) : Nat → MI
  | 0 => I
  | k + 1 => hx_u (kpM I r k) 30 (72 * r + k) (I 22 k)
theorem kpM_ne {I : MI} {r a : Nat} (h : a ≠ 30) : ∀ q, kpM I r q a = I a
  | 0 => rfl
  | q + 1 => by
    show hx_u (kpM I r q) 30 (72 * r + q) (I 22 q) a = I a
    rw [hx_u_ne _ _ _ h, kpM_ne h q]
def asF (I : MI) (r : Nat) : Nat → Int32
  | 0 => 1
  | k + 1 => if asF I r k = 0 ∨ ¬ I 30 (72 * r + k) = I 22 k then 0 else 1

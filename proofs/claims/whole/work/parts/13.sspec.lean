/-! the search, in plain words -/
/-- the search's own state: tried, found, its gain, its cost -/
abbrev SS : Type := (Nat → Int32) × (Nat → Int32) × Int32 × Int32
def smM (I : MI) (s : SS) : MI := fun a => if a = 14 then s.1 else if a = 15 then s.2.1 else if a = 2 then upd (upd (I 2) 7 s.2.2.1) 8 s.2.2.2 else I a
theorem smM_ne {I : MI} {s : SS} {a : Nat} (h1 : a ≠ 14) (h2 : a ≠ 15) (h3 : a ≠ 2) : smM I s a = I a := by
  unfold smM
  rw [if_neg h1, if_neg h2, if_neg h3]
theorem smM_t (I : MI) (s : SS) (q : Nat) (v : Int32) : hx_u (smM I s) 14 q v = smM I (upd s.1 q v, s.2) := by
  funext a
  unfold hx_u
  by_cases h : a = 14
  · subst h; rfl
  · rw [if_neg h]
    unfold smM
    rw [if_neg h, if_neg h]
theorem smM_f (I : MI) (s : SS) (Q : Nat) : hx_cp (smM I s) 14 15 Q = smM I (s.1, va_cpy s.1 s.2.1 0 0 Q, s.2.2) := by
  funext a
  unfold hx_cp
  by_cases h : a = 15
  · subst h; rfl
  · rw [if_neg h]
    unfold smM
    rw [if_neg h, if_neg h]
theorem smM_g (I : MI) (s : SS) (g : Int32) : hx_u (smM I s) 2 7 g = smM I (s.1, s.2.1, g, s.2.2.2) := by
  funext a
  unfold hx_u
  by_cases h : a = 2
  · subst h
    rw [if_pos rfl]
    show upd (upd (upd (I 2) 7 s.2.2.1) 8 s.2.2.2) 7 g = upd (upd (I 2) 7 g) 8 s.2.2.2
    funext b
    unfold upd
    by_cases h1 : b = 7
    · subst h1; rfl
    · rw [if_neg h1, if_neg h1, if_neg h1]
  · rw [if_neg h]
    unfold smM
    rw [if_neg h, if_neg h]
theorem smM_c (I : MI) (s : SS) (c : Int32) : hx_u (smM I s) 2 8 c = smM I (s.1, s.2.1, s.2.2.1, c) := by
  funext a
  unfold hx_u
  by_cases h : a = 2
  · subst h
    rw [if_pos rfl]
    show upd (upd (upd (I 2) 7 s.2.2.1) 8 s.2.2.2) 8 c = upd (upd (I 2) 7 s.2.2.1) 8 c
    funext b
    unfold upd
    by_cases h1 : b = 8
    · rw [if_pos h1, if_pos h1]
    · rw [if_neg h1, if_neg h1, if_neg h1]
  · rw [if_neg h]
    unfold smM
    rw [if_neg h, if_neg h]
theorem smM_self (I : MI) : smM I (I 14, I 15, I 2 7, I 2 8) = I := by
  funext a
  unfold smM
  by_cases h : a = 14
  · rw [if_pos h, h]
  · rw [if_neg h]
    by_cases h1 : a = 15
    · rw [if_pos h1, h1]
    · rw [if_neg h1]
      by_cases h2 : a = 2
      · rw [if_pos h2, h2]
        funext b
        show upd (upd (I 2) 7 (I 2 7)) 8 (I 2 8) b = I 2 b
        unfold upd
        by_cases h3 : b = 8
        · rw [if_pos h3, h3]
        · rw [if_neg h3]
          by_cases h4 : b = 7
          · rw [if_pos h4, h4]
          · rw [if_neg h4]
      · rw [if_neg h2]
def lxF (t f : Nat → Int32) : Nat → Nat → Int32
  | 0, _ => 0
  | n + 1, q => if t q = f q then lxF t f n (q + 1) else if t q < f q then 1 else 0
def kbF (Q : Nat) (s : SS) (g c : Int32) : SS := if g < s.2.2.1 then s else if g = s.2.2.1 ∧ (s.2.2.2 < c ∨ (c = s.2.2.2 ∧ lxF s.1 s.2.1 Q 0 = 0)) then s else (s.1, va_cpy s.1 s.2.1 0 0 Q, g, c)
def foF {σ : Type} (F : Nat → σ → σ) : Nat → σ → σ
  | 0, s => s
  | n + 1, s => F n (foF F n s)
def stF (T : SS → Int32 → Int32 → SS) (ov og : Nat → Int32) (bud g c : Int32) (q i : Nat) (s : SS) : SS := if bud < c + ov i * ov i then s else T (upd s.1 q (ov i), s.2) (g + og i) (c + ov i * ov i)
/-- n choices, their voices, their gains; what is ahead -/
def tryF (Q : Nat) (n : Nat → Nat) (ov og : Nat → Nat → Int32) (ga : Nat → Int32) (bud : Int32) : Nat → Nat → SS → Int32 → Int32 → SS
  | 0, _, s, g, c => kbF Q s g c
  | d + 1, q, s, g, c => if g + ga q < s.2.2.1 ∨ (g + ga q = s.2.2.1 ∧ s.2.2.2 < c) then s else foF (stF (tryF Q n ov og ga bud d (q + 1)) (ov q) (og q) bud g c q) (n q) s
def oV (I : MI) (q i : Nat) : Int32 := I (57 + q) i
def oG (I : MI) (q i : Nat) : Int32 := I (63 + q) i
/-- the choices of question q from place a on -/
def plM (I : MI) (q : Nat) : Nat → List (Int32 × Int32) → MI
  | _, [] => I
  | a, x :: l => plM (hx_u (hx_u (hx_u I (57 + q) a x.1) (63 + q) a x.2) 10 q (nI (a + 1))) q (a + 1) l
theorem plM_app (q : Nat) (l' : List (Int32 × Int32)) : ∀ (l : List (Int32 × Int32)) (I : MI) (a : Nat), plM I q a (l ++ l') = plM (plM I q a l) q (a + l.length) l'
  | [], _, _ => rfl
  | x :: l, I, a => by
    show plM _ q (a + 1) (l ++ l') = plM (plM _ q (a + 1) l) q (a + (l.length + 1)) l'
    rw [plM_app q l' l, show a + 1 + l.length = a + (l.length + 1) by omega]
theorem plM_n (q : Nat) : ∀ (l : List (Int32 × Int32)) (I : MI) (a : Nat), I 10 q = nI a → plM I q a l 10 q = nI (a + l.length)
  | [], _, _, h => h
  | x :: l, I, a, h => by
    show plM _ q (a + 1) l 10 q = nI (a + (l.length + 1))
    rw [plM_n q l _ (a + 1) (by rw [hx_u_same]; exact if_pos rfl), show a + 1 + l.length = a + (l.length + 1) by omega]
theorem plM_ne (q : Nat) {b : Nat} (h1 : b ≠ 10) (h2 : b ≠ 57 + q) (h3 : b ≠ 63 + q) : ∀ (l : List (Int32 × Int32)) (I : MI) (a : Nat), plM I q a l b = I b
  | [], _, _ => rfl
  | x :: l, I, a => by
    show plM _ q (a + 1) l b = I b
    rw [plM_ne q h1 h2 h3 l, hx_u_ne _ _ _ h1, hx_u_ne _ _ _ h3, hx_u_ne _ _ _ h2]
/-- the choices for others' count o, worth w -/
def beF (w : Int32) : Int32 := if 0 < w then 1 else (-1)
def opA (o w : Int32) : List (Int32 × Int32) := if gByF o w < gByF (beF w) w ∧ ¬ (beF w - o < (-40) ∨ 40 < beF w - o) then [(beF w - o, gByF (beF w) w)] else []
def opB (o w : Int32) : List (Int32 × Int32) := if gByF o w < gByF 0 w ∧ ¬ (-o < (-40) ∨ 40 < -o) then [(-o, gByF 0 w)] else []
def opC (o w : Int32) : List (Int32 × Int32) := (opA o w ++ opB o w) ++ [(0, gByF o w)]
theorem opA_len (o w : Int32) : (opA o w).length ≤ 1 := by
  unfold opA
  split <;> simp
theorem opB_len (o w : Int32) : (opB o w).length ≤ 1 := by
  unfold opB
  split <;> simp
def adF (a : Nat) (v g : Int32) : List (Int32 × Int32) := if 3 ≤ a ∨ v < (-40) ∨ 40 < v then [] else [(v, g)]
theorem adF_len (a : Nat) (v g : Int32) : (adF a v g).length ≤ 1 := by
  unfold adF
  split <;> simp
theorem countF_congr {h h' : Nat → Int32} {v v' : Nat → Nat → Int32} {P q : Nat} (e : ∀ p, p < P → h p = h' p) (e2 : ∀ p, p < P → v p q = v' p q) : countF h v P q = countF h' v' P q :=
  sI_congr P (fun p hp => by rw [e p hp, e2 p hp])
theorem lessF_congr {h h' : Nat → Int32} {v v' : Nat → Nat → Int32} {P p q : Nat} (hp : p < P) (e : ∀ p, p < P → h p = h' p) (e2 : ∀ p, p < P → v p q = v' p q) : lessF h v P p q = lessF h' v' P p q := by
  unfold lessF
  rw [e p hp, e2 p hp, countF_congr e e2]
/-- the cells of the class's search -/
def scrC (a : Nat) : Prop := a = 2 ∨ a = 10 ∨ a = 13 ∨ a = 14 ∨ a = 15 ∨ (57 ≤ a ∧ a < 69)
def fs1 (M : MI) (r : Nat) (o w : Int32) : MI := hx_u (plM (hx_u M 10 r 0) r 0 (opC o w)) 13 r (plM (hx_u M 10 r 0) r 0 (opC o w) 13 (r + 1) + plM (hx_u M 10 r 0) r 0 (opC o w) (63 + r) 0)
def fsF (o w : Nat → Int32) : Nat → MI → MI
  | 0, M => M
  | r + 1, M => fsF o w r (fs1 M r (o r) (w r))
theorem fs1_ne {M : MI} {r : Nat} {o w : Int32} {a : Nat} (hr : r < 6) (h : ¬ scrC a) : fs1 M r o w a = M a := by
  unfold scrC at h
  unfold fs1
  rw [hx_u_ne _ _ _ (by omega), plM_ne r (by omega) (by omega) (by omega), hx_u_ne _ _ _ (by omega)]
def ff0 (I : MI) (Q p : Nat) : MI := hx_u (hx_u (hx_u (hx_u I 2 9 (I 6 p)) 2 7 (-1000000)) 2 8 0) 13 Q 0
def ffO (I : MI) (P p q : Nat) : Int32 := lessF (I 7) (vC I) P p q
def ffB (I : MI) (P Q p : Nat) : MI := fsF (ffO I P p) (wC I p) Q (ff0 I Q p)
def ffN (I : MI) (P p q : Nat) : Nat := (opC (ffO I P p q) (wC I p q)).length
def ffT (I : MI) (P Q p : Nat) : SS := tryF Q (ffN I P p) (oV (ffB I P Q p)) (oG (ffB I P Q p)) (ffB I P Q p 13) (ffB I P Q p 2 9) Q 0 (ffB I P Q p 14, ffB I P Q p 15, ffB I P Q p 2 7, ffB I P Q p 2 8) 0 0
def ffM (I : MI) (P Q p : Nat) : MI := smM (ffB I P Q p) (ffT I P Q p)
theorem opC_len (o w : Int32) : 1 ≤ (opC o w).length ∧ (opC o w).length ≤ 3 := by
  have h1 := opA_len o w
  have h2 := opB_len o w
  unfold opC
  rw [List.length_append, List.length_append]
  simp only [List.length_singleton]
  omega
theorem fsF_ne {o w : Nat → Int32} {a : Nat} (h : ¬ scrC a) : ∀ (r : Nat) (M : MI), r ≤ 6 → fsF o w r M a = M a
  | 0, _, _ => rfl
  | r + 1, M, hr => by
    show fsF o w r (fs1 M r (o r) (w r)) a = M a
    rw [fsF_ne h r _ (by omega), fs1_ne (by omega) h]
/-- behind the loop: the choices' number of each question -/
theorem fsF_10 {o w : Nat → Int32} : ∀ (r : Nat) (M : MI) (q : Nat), r ≤ 6 → (q < r → fsF o w r M 10 q = nI (opC (o q) (w q)).length) ∧ (r ≤ q → fsF o w r M 10 q = M 10 q)
  | 0, _, _, _ => ⟨fun h => absurd h (Nat.not_lt_zero _), fun _ => rfl⟩
  | r + 1, M, q, hr => by
    have ih := fsF_10 (o := o) (w := w) r (fs1 M r (o r) (w r)) q (by omega)
    have e1 : fs1 M r (o r) (w r) 10 = plM (hx_u M 10 r 0) r 0 (opC (o r) (w r)) 10 := hx_u_ne _ _ _ (by omega)
    have e2 : plM (hx_u M 10 r 0) r 0 (opC (o r) (w r)) 10 r = nI (0 + (opC (o r) (w r)).length) := plM_n r _ _ 0 (by rw [hx_u_same]; exact if_pos rfl)
    refine ⟨fun h => ?_, fun h => ?_⟩
    · show fsF o w r (fs1 M r (o r) (w r)) 10 q = _
      rcases Nat.lt_or_ge q r with h1 | h1
      · exact ih.1 h1
      · have hq : q = r := by omega
        rw [ih.2 h1, e1, hq, e2, Nat.zero_add]
    · show fsF o w r (fs1 M r (o r) (w r)) 10 q = _
      rw [ih.2 (by omega), e1]
      have : ∀ (l : List (Int32 × Int32)) (M : MI) (a : Nat), plM M r a l 10 q = M 10 q := by
        intro l
        induction l with
        | nil => exact fun _ _ => rfl
        | cons x l ihl =>
          intro M a
          show plM _ r (a + 1) l 10 q = _
          rw [ihl, hx_u_same]
          unfold upd
          rw [if_neg (by omega), hx_u_ne _ _ _ (by omega), hx_u_ne _ _ _ (by omega)]
      rw [this, hx_u_same]
      unfold upd
      rw [if_neg (by omega)]
theorem ff0_ne {I : MI} {Q p a : Nat} (h : ¬ scrC a) : ff0 I Q p a = I a := by
  unfold scrC at h
  have h2 : a ≠ 2 := by omega
  have h13 : a ≠ 13 := by omega
  exact (hx_u_ne _ Q 0 h13).trans ((hx_u_ne _ 8 0 h2).trans ((hx_u_ne _ 7 (-1000000) h2).trans (hx_u_ne _ 9 (I 6 p) h2)))
theorem hx_m1 (x : Int32) : x + Int32.ofInt (-1) = x - 1 := by
  rw [show Int32.ofInt (-1) = -(1 : Int32) from by decide]
  exact (Int32.sub_eq_add_neg x 1).symm

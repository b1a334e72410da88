/-! the rounds, in plain words -/
theorem ffM_ne {I : MI} {P Q p a : Nat} (hQ : Q ≤ 6) (h : ¬ scrC a) : ffM I P Q p a = I a := by
  have h2 : ¬ scrC a := h
  unfold scrC at h
  unfold ffM
  rw [smM_ne (by omega) (by omega) (by omega)]
  unfold ffB
  rw [fsF_ne h2 Q _ hQ, ff0_ne h2]
theorem hx_cp_ne {I : MI} {k0 k1 n a : Nat} (h : a ≠ k1) : hx_cp I k0 k1 n a = I a := if_neg h
/-- a person's turn in a round -/
def tuF (P Q p : Nat) (s : MI × Int32) : MI × Int32 := if s.1 7 p = 0 then s else if gainF (ffM s.1 P Q p 7) (vC (ffM s.1 P Q p)) (wC (ffM s.1 P Q p)) P Q p < ffM s.1 P Q p 2 7 then (hx_cp (ffM s.1 P Q p) 15 (33 + p) Q, s.2 + 1) else (ffM s.1 P Q p, s.2)
def drF (P Q : Nat) (I : MI) : Nat → MI × Int32
  | 0 => (I, 0)
  | p + 1 => tuF P Q p (drF P Q I p)
def scrR (a : Nat) : Prop := scrC a ∨ (33 ≤ a ∧ a < 45)
theorem tuF_ne {P Q p a : Nat} {s : MI × Int32} (hQ : Q ≤ 6) (hp : p < 12) (h : ¬ scrR a) : (tuF P Q p s).1 a = s.1 a := by
  unfold scrR at h
  unfold tuF
  split
  · rfl
  · split
    · show hx_cp _ _ _ _ a = _
      rw [hx_cp_ne (by omega), ffM_ne hQ (fun z => h (Or.inl z))]
    · exact ffM_ne hQ (fun z => h (Or.inl z))
theorem drF_ne {P Q a : Nat} {I : MI} (hQ : Q ≤ 6) (h : ¬ scrR a) : ∀ p, p ≤ 12 → (drF P Q I p).1 a = I a
  | 0, _ => rfl
  | p + 1, hp => by
    show (tuF P Q p (drF P Q I p)).1 a = I a
    rw [tuF_ne hQ (by omega) h, drF_ne hQ h p (by omega)]
def ntF (I : MI) (P Q row : Nat) (J : MJ) : MJ := lwJ J (69 + row) (fun p => codeF (vC I) p Q) P
/-- 1 if two rows of the trail are the same from p on, n places -/
def smF (J : MJ) (a b : Nat) : Nat → Nat → Int32
  | 0, _ => 1
  | n + 1, p => if J (69 + a) p = J (69 + b) p then smF J a b n (p + 1) else 0
def jdF (J : MJ) (P done : Nat) (I : MI) : Nat → MI
  | 0 => I
  | row + 1 => if smF J row done P 0 = 0 then jdF J P done I row else hx_u (hx_u (jdF J P done I row) 3 5 2) 3 6 (nI done - nI row)
def juF (J : MJ) (P done : Nat) (ch : Int32) (I : MI) : MI := if ch = 0 then hx_u I 3 5 1 else jdF J P done I done
theorem jdF_ne {J : MJ} {P done a : Nat} {I : MI} (h : a ≠ 3) : ∀ row, jdF J P done I row a = I a
  | 0 => rfl
  | row + 1 => by
    show (if smF J row done P 0 = 0 then jdF J P done I row else hx_u (hx_u (jdF J P done I row) 3 5 2) 3 6 (nI done - nI row)) a = I a
    by_cases e : smF J row done P 0 = 0
    · rw [if_pos e]
      exact jdF_ne h row
    · rw [if_neg e, hx_u_ne _ _ _ h, hx_u_ne _ _ _ h]
      exact jdF_ne h row
theorem juF_ne {J : MJ} {P done a : Nat} {ch : Int32} {I : MI} (h : a ≠ 3) : juF J P done ch I a = I a := by
  unfold juF
  split
  · exact hx_u_ne _ _ _ h
  · exact jdF_ne h _
/-- the count of rounds and of changes -/
def tlM (I : MI) (ch : Int32) : MI := hx_u (hx_u I 3 3 (I 3 3 + 1)) 3 4 (I 3 4 + ch)
/-- a round of a play: d rounds are done -/
def prF (P Q d : Nat) (s : MI × MJ) : MI × MJ := (juF (ntF (tlM (drF P Q s.1 P).1 (drF P Q s.1 P).2) P Q (d + 1) s.2) P (d + 1) (drF P Q s.1 P).2 (tlM (drF P Q s.1 P).1 (drF P Q s.1 P).2), ntF (tlM (drF P Q s.1 P).1 (drF P Q s.1 P).2) P Q (d + 1) s.2)
def plF (P Q : Nat) : Nat → Nat → MI × MJ → Nat × MI × MJ
  | 0, d, s => (d, s)
  | f + 1, d, s => if s.1 3 5 = 0 then plF P Q f (d + 1) (prF P Q d s) else (d, s)
def pl0 (I : MI) : MI := hx_u (hx_u I 3 5 0) 3 6 0

/-! what the public calls answer, in words common to the class and the reference -/
def xN (x : Int32) : Nat := x.toNatClampNeg
theorem xN_nI {p : Nat} (h : p < 2 ^ 31) : xN (nI p) = p := nI_clamp h
theorem inF_of {x : Int32} {P : Nat} (h12 : P < 2 ^ 31) (h : ¬ inF x (nI P) = 0) : ∃ p, p < P ∧ x = nI p := by
  unfold inF at h
  by_cases c : 0 ≤ x ∧ x < nI P
  · obtain ⟨c1, c2⟩ := c
    obtain ⟨j, hj, rfl⟩ := nI_of (x := x) (fun z => by rw [Int32.lt_iff_toInt_lt] at z; rw [Int32.le_iff_toInt_le] at c1; omega)
    exact ⟨j, (nI_ltI hj h12).mp c2, rfl⟩
  · exact absurd (if_neg c) h
theorem inF_nI {p P : Nat} (h : p < P) (h12 : P < 2 ^ 31) : inF (nI p) (nI P) = 1 := by
  unfold inF
  exact if_pos ⟨nI_pos' (by omega), (nI_ltI (by omega) h12).mpr h⟩
theorem inF_n0 {p P : Nat} (h : p < P) (h12 : P < 2 ^ 31) : ¬ inF (nI p) (nI P) = 0 := by
  rw [inF_nI h h12]
  decide
def personR (P : Nat) (b : Int32) : Int32 := if withinF b 0 2000 = 0 then (-102) else if 12 ≤ P then (-104) else nI P
def roomR (N Q : Nat) : Int32 := if N ≤ Q then (-104) else nI Q
def voteR (P Q : Nat) (v : Nat → Nat → Int32) (b : Nat → Int32) (x y z : Int32) : Int32 := if inF x (nI P) = 0 ∨ inF y (nI Q) = 0 then (-101) else if withinF z (-40) 40 = 0 then (-102) else if b (xN x) < costF v Q (xN x) - v (xN x) (xN y) * v (xN x) (xN y) + z * z then (-103) else costF v Q (xN x) - v (xN x) (xN y) * v (xN x) (xN y) + z * z
def voteW (P Q : Nat) (v : Nat → Nat → Int32) (b : Nat → Int32) (x y z : Int32) : Prop := ¬ (inF x (nI P) = 0 ∨ inF y (nI Q) = 0) ∧ ¬ withinF z (-40) 40 = 0 ∧ ¬ b (xN x) < costF v Q (xN x) - v (xN x) (xN y) * v (xN x) (xN y) + z * z
/-- what it was, where x, y are named and z is in bounds -/
def wasR (P Q : Nat) (w : Nat → Nat → Int32) (lo hi : Int32) (x y z : Int32) : Int32 := if inF x (nI P) = 0 ∨ inF y (nI Q) = 0 then (-101) else if withinF z lo hi = 0 then (-102) else w (xN x) (xN y)
def wasW (P Q : Nat) (lo hi : Int32) (x y z : Int32) : Prop := ¬ (inF x (nI P) = 0 ∨ inF y (nI Q) = 0) ∧ ¬ withinF z lo hi = 0
def hereR (P : Nat) (h : Nat → Int32) (x : Int32) : Int32 := if inF x (nI P) = 0 then (-101) else onF (h (xN x))
def twoR (P Q : Nat) (bad : Int32) (f : Nat → Nat → Int32) (x y : Int32) : Int32 := if inF x (nI P) = 0 ∨ inF y (nI Q) = 0 then bad else f (xN x) (xN y)
def oneR (P : Nat) (bad : Int32) (f : Nat → Int32) (x : Int32) : Int32 := if inF x (nI P) = 0 then bad else f (xN x)
def bondR (P : Nat) (b : Nat → Nat → Int32) (x y z : Int32) : Int32 := if inF x (nI P) = 0 ∨ inF y (nI P) = 0 then (-101) else if x = y ∨ withinF z 0 1000 = 0 then (-102) else b (xN x) (xN y)
def bondW (P : Nat) (x y z : Int32) : Prop := ¬ (inF x (nI P) = 0 ∨ inF y (nI P) = 0) ∧ ¬ (x = y ∨ withinF z 0 1000 = 0)
def matchedR (R : Nat) (lo hi : Nat → Int64) (x z : Int32) : Int64 := if inF x (nI R) = 0 then (-101) else if withinF z 0 1 = 0 then (-102) else if z = 0 then lo (xN x) else hi (xN x)
def shareR (R : Nat) (f : Nat → Int64 → Int64) (x : Int32) (pot : Int64) : Int64 := if inF x (nI R) = 0 then (-101) else if pot < 0 ∨ 1000000000 < pot then (-102) else f (xN x) pot
def shareW (R : Nat) (x : Int32) (pot : Int64) : Prop := ¬ inF x (nI R) = 0 ∧ ¬ (pot < 0 ∨ 1000000000 < pot)
def dampedR (R : Nat) (f : Nat → Int64) (x : Int32) : Int64 := if inF x (nI R) = 0 then (-101) else f (xN x)
def groupR (P : Nat) (f : Nat → Int32) (x t : Int32) : Int32 := if inF x (nI P) = 0 then (-101) else if withinF t 1 1000 = 0 then (-102) else f (xN x)
def countR (a0 a1 a2 a3 a4 a5 : Int32) (x : Int32) : Int32 := if x = 0 then a0 else if x = 1 then a1 else if x = 2 then a2 else if x = 3 then a3 else if x = 4 then a4 else if x = 5 then a5 else (-102)
def takeR (P : Nat) (h : Nat → Int32) (f : Nat → Int32) (x : Int32) : Int32 := if inF x (nI P) = 0 then (-101) else if h (xN x) = 0 then (-103) else f (xN x)
def takeW (P : Nat) (h : Nat → Int32) (x : Int32) : Prop := ¬ inF x (nI P) = 0 ∧ ¬ h (xN x) = 0
def playR (f : Nat → Int32) (x : Int32) : Int32 := if withinF x 1 30 = 0 then (-102) else f (xN x)
theorem within_of {x a b : Int32} (h : ¬ withinF x a b = 0) : a ≤ x ∧ x ≤ b := by
  unfold withinF at h
  by_cases c : a ≤ x ∧ x ≤ b
  · exact c
  · exact absurd (if_neg c) h
/-- the digest: of each person, then seed, rounds, changes -/
def dgF (f : Nat → Int64 → Int64) : Nat → Int64 → Int64
  | 0, z => z
  | p + 1, z => f p (dgF f p z)
def digestR (f : Nat → Int64 → Int64) (P : Nat) (a b c : Int32) : Int64 := 31 * (31 * (31 * dgF f P 103 + a.toInt64) + b.toInt64) + c.toInt64
noncomputable def hx_if {α : Sort _} (c : Prop) (a b : α) : α := @ite α c (Classical.propDecidable c) a b
theorem hx_ifp {α : Sort _} {c : Prop} {a b : α} (h : c) : hx_if c a b = a := by unfold hx_if; exact if_pos h
theorem hx_ifn {α : Sort _} {c : Prop} {a b : α} (h : ¬ c) : hx_if c a b = b := by unfold hx_if; exact if_neg h
theorem hx_far {x : Int32} (c0 : ¬ x = 0) (c1 : ¬ x = 1) (c2 : ¬ x = 2) (c3 : ¬ x = 3) (c4 : ¬ x = 4) (c5 : ¬ x = 5) : x.toInt < 0 ∨ 5 < x.toInt := by
  have e0 : (0 : Int32).toInt = 0 := by decide
  have e1 : (1 : Int32).toInt = 1 := by decide
  have e2 : (2 : Int32).toInt = 2 := by decide
  have e3 : (3 : Int32).toInt = 3 := by decide
  have e4 : (4 : Int32).toInt = 4 := by decide
  have e5 : (5 : Int32).toInt = 5 := by decide
  rw [← Int32.toInt_inj] at c0 c1 c2 c3 c4 c5
  omega

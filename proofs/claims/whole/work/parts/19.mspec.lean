/-! the reference, in the same words -/
theorem within_in {x : Int32} {P : Nat} (hP : P < 2 ^ 30) : withinF x 0 (nI P - 1) = inF x (nI P) := by
  have e : (nI P - nI 1).toInt = (P : Int) - (1 : Nat) := pk_sub_toInt hP (by omega)
  have e2 : (nI P).toInt = P := nI_toInt (by omega)
  have e3 : nI 1 = (1 : Int32) := by decide
  rw [e3] at e
  unfold withinF inF
  by_cases c : 0 ≤ x ∧ x < nI P
  · rw [if_pos c, if_pos ⟨c.1, by rw [Int32.le_iff_toInt_le, e]; have := Int32.lt_iff_toInt_lt.mp c.2; omega⟩]
  · rw [if_neg c, if_neg (fun z => c ⟨z.1, by rw [Int32.lt_iff_toInt_lt]; have := Int32.le_iff_toInt_le.mp z.2; omega⟩)]
/-- the count of all but one -/
def othF (h : Nat → Int32) (v : Nat → Nat → Int32) (p q : Nat) (n : Nat) : Int32 := sI (fun a => if h a = 0 ∨ a = p then 0 else v a q) n
theorem oth_hi (h : Nat → Int32) (v : Nat → Nat → Int32) (p q : Nat) : ∀ n, n ≤ p → othF h v p q n = countF h v n q
  | 0, _ => rfl
  | n + 1, hn => by
    show othF h v p q n + (if h n = 0 ∨ n = p then 0 else v n q) = countF h v n q + (if h n = 0 then 0 else v n q)
    rw [oth_hi h v p q n (by omega)]
    by_cases c : h n = 0
    · rw [if_pos (Or.inl c), if_pos c]
    · rw [if_neg (fun z => z.elim c (fun y => by omega)), if_neg c]
theorem i_swap (a b c : Int32) : a - b + c = a + c - b := by
  rw [Int32.sub_eq_add_neg, Int32.sub_eq_add_neg, Int32.add_assoc, Int32.add_assoc, Int32.add_comm (-b) c]
theorem i_back (a b : Int32) : a + b - b = a := by
  rw [Int32.sub_eq_add_neg, Int32.add_assoc, Int32.add_right_neg, Int32.add_zero]
theorem oth_less (h : Nat → Int32) (v : Nat → Nat → Int32) (p q : Nat) : ∀ n, p < n → othF h v p q n = lessF h v n p q
  | n + 1, hn => by
    show othF h v p q n + (if h n = 0 ∨ n = p then 0 else v n q) = lessF h v (n + 1) p q
    have e : countF h v (n + 1) q = countF h v n q + (if h n = 0 then 0 else v n q) := rfl
    unfold lessF
    rw [e]
    by_cases c : p = n
    · subst c
      rw [oth_hi h v p q p (Nat.le_refl _), if_pos (Or.inr rfl), Int32.add_zero]
      by_cases c2 : h p = 0
      · rw [if_pos c2, if_pos c2, Int32.add_zero]
      · rw [if_neg c2, if_neg c2, i_back]
    · rw [oth_less h v p q n (by omega)]
      unfold lessF
      have e3 : (if h n = 0 ∨ n = p then (0 : Int32) else v n q) = (if h n = 0 then 0 else v n q) := by
        by_cases c2 : h n = 0
        · rw [if_pos (Or.inl c2), if_pos c2]
        · rw [if_neg (fun z => z.elim c2 (fun y => c y.symm)), if_neg c2]
      rw [e3]
      by_cases c2 : h p = 0
      · rw [if_pos c2, if_pos c2]
      · rw [if_neg c2, if_neg c2, i_swap]
theorem nI_nm1 {a : Nat} (h : a < 2 ^ 31) : ¬ nI a = (-1) := fun e => by
  have h1 : (nI a).toInt = a := nI_toInt h
  rw [e] at h1
  have h2 : (-1 : Int32).toInt = -1 := by decide
  omega
def bitM (x : Int32) : Int32 := (x >>> (20 &&& 31)) &&& 1
theorem bit_sr (b : BitVec 32) : (b.sshiftRight 20) &&& 1#32 = (b >>> 20) &&& 1#32 := by
  apply BitVec.eq_of_getLsbD_eq
  intro i hi
  simp only [BitVec.getLsbD_and]
  by_cases h : i = 0
  · subst h
    simp [BitVec.getLsbD_sshiftRight, BitVec.getElem_sshiftRight]
  · have : (1#32).getLsbD i = false := by
      rw [BitVec.getLsbD_one]
      simp [h]
    rw [this, Bool.and_false, Bool.and_false]
theorem bit_eq (x : Int32) : bitM x = bitC x := by
  apply Int32.toBitVec_inj.mp
  show (x.toBitVec.sshiftRight 20) &&& 1#32 = (x.toBitVec >>> 20) &&& 1#32
  exact bit_sr _
/-- a pair's match, by side and whole -/
def mmF (g b : Nat → Nat → Int32) (j : Nat) (z w : Int32) (p r : Nat) : Int64 := (if w = 0 then (b p r).toInt64 else 1000) * rootF (fineF g p r j) + (if z = 1 ∧ ¬ rootF (fineF g p r j) * rootF (fineF g p r j) = fineF g p r j then (if w = 0 then (b p r).toInt64 else 1000) else 0)
def mOfF (g b : Nat → Nat → Int32) (j : Nat) (z w : Int32) (P : Nat) : Int64 := (2 * triF (mmF g b j z w) P + (if z = 1 then 255999 else 0)) / 256000

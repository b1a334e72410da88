/-! bits of a group -/
def tb (x : Int32) (i : Nat) : Bool := x.toBitVec.getLsbD i
theorem bv_and1 (y : BitVec 32) : y &&& 1#32 = 1#32 ↔ y.getLsbD 0 = true := by
  constructor
  · intro h
    have h2 := congrArg (fun z => BitVec.getLsbD z 0) h
    simpa using h2
  · intro h
    apply BitVec.eq_of_getLsbD_eq
    intro i hi
    rw [BitVec.getLsbD_and, BitVec.getLsbD_one]
    by_cases c : i = 0
    · subst c
      rw [h]
      simp
    · simp [c]
theorem bv_sr (b : BitVec 32) {k : Nat} (hk : k < 32) : (b.sshiftRight k) &&& 1#32 = 1#32 ↔ b.getLsbD k = true := by
  rw [bv_and1, BitVec.getLsbD_sshiftRight]
  simp [hk]
theorem i_and1 (y : Int32) (b : BitVec 32) (h : y.toBitVec = b) : y &&& 1 = 1 ↔ b &&& 1#32 = 1#32 := by
  rw [← Int32.toBitVec_inj, ← h]
  rfl
theorem bAt_tb {x : Int32} {a : Nat} (h : a < 12) : (x >>> (nI a &&& 31)) &&& 1 = 1 ↔ tb x a = true := by
  unfold tb
  rw [← bv_sr x.toBitVec (show a < 32 by omega)]
  apply i_and1
  match a, h with
  | 0, _ => rfl
  | 1, _ => rfl
  | 2, _ => rfl
  | 3, _ => rfl
  | 4, _ => rfl
  | 5, _ => rfl
  | 6, _ => rfl
  | 7, _ => rfl
  | 8, _ => rfl
  | 9, _ => rfl
  | 10, _ => rfl
  | 11, _ => rfl
  | a + 12, h => omega
theorem tb_or (x y : Int32) (i : Nat) : tb (x ||| y) i = (tb x i || tb y i) := by
  unfold tb
  rw [Int32.toBitVec_or, BitVec.getLsbD_or]
theorem tb_one {a i : Nat} (h : a < 12) (hi : tb (1 <<< (nI a &&& 31)) i = true) : i = a := by
  have e : ((1 : Int32) <<< (nI a &&& 31)).toBitVec = 1#32 <<< a := by
    match a, h with
    | 0, _ => rfl
    | 1, _ => rfl
    | 2, _ => rfl
    | 3, _ => rfl
    | 4, _ => rfl
    | 5, _ => rfl
    | 6, _ => rfl
    | 7, _ => rfl
    | 8, _ => rfl
    | 9, _ => rfl
    | 10, _ => rfl
    | 11, _ => rfl
    | a + 12, h => omega
  unfold tb at hi
  rw [e, BitVec.getLsbD_shiftLeft, BitVec.getLsbD_one] at hi
  simp at hi
  omega
theorem tb_ext {x y : Int32} (h : ∀ i, i < 32 → tb x i = tb y i) : x = y :=
  Int32.toBitVec_inj.mp (BitVec.eq_of_getLsbD_eq (fun i hi => h i hi))
theorem tb_zero (i : Nat) : tb 0 i = false := by
  unfold tb
  have e : (0 : Int32).toBitVec = 0#32 := rfl
  rw [e]
  exact BitVec.getLsbD_zero
theorem alike_tb {v : Nat → Nat → Int32} {Q : Nat} {t : Int32} {p i : Nat} : ∀ n, n ≤ 12 → tb (alikeF v Q t p n) i = true → i < n
  | 0, _, h => by
    have h2 : tb 0 i = true := h
    rw [tb_zero] at h2
    cases h2
  | n + 1, hn, h => by
    have h2 : tb (alikeF v Q t p n ||| (if likeF v Q p n < t then (0 : Int32) else 1 <<< (nI n &&& 31))) i = true := h
    rw [tb_or, Bool.or_eq_true] at h2
    rcases h2 with h2 | h2
    · have := alike_tb n (by omega) h2
      omega
    · by_cases c : likeF v Q p n < t
      · rw [if_pos c, tb_zero] at h2
        cases h2
      · rw [if_neg c] at h2
        have := tb_one (by omega) h2
        omega
theorem pass_mono {al : Nat → Int32} {x : Int32} {i : Nat} (h : tb x i = true) : ∀ n, tb (passF al n x) i = true
  | 0 => h
  | n + 1 => by
    show tb (if (passF al n x >>> (nI n &&& 31)) &&& 1 = 1 then passF al n x ||| al n else passF al n x) i = true
    split
    · rw [tb_or, pass_mono h n]
      rfl
    · exact pass_mono h n
theorem pass_new {al : Nat → Int32} {x : Int32} {i P : Nat} (hal : ∀ a, tb (al a) i = true → i < P) : ∀ n, tb (passF al n x) i = true → tb x i = true ∨ i < P
  | 0, h => Or.inl h
  | n + 1, h => by
    have h2 : tb (if (passF al n x >>> (nI n &&& 31)) &&& 1 = 1 then passF al n x ||| al n else passF al n x) i = true := h
    split at h2
    · rw [tb_or, Bool.or_eq_true] at h2
      rcases h2 with h2 | h2
      · exact pass_new hal n h2
      · exact Or.inr (hal n h2)
    · exact pass_new hal n h2
/-- how many of the first n bits are not set -/
def unF (x : Int32) : Nat → Nat
  | 0 => 0
  | n + 1 => unF x n + (if tb x n = true then 0 else 1)
theorem unF_le (x : Int32) : ∀ n, unF x n ≤ n
  | 0 => Nat.le_refl _
  | n + 1 => by
    have := unF_le x n
    show unF x n + (if tb x n = true then 0 else 1) ≤ n + 1
    split <;> omega
theorem unF_mono {x y : Int32} (h : ∀ i, tb x i = true → tb y i = true) : ∀ n, unF y n ≤ unF x n
  | 0 => Nat.le_refl _
  | n + 1 => by
    have ih := unF_mono h n
    show unF y n + (if tb y n = true then 0 else 1) ≤ unF x n + (if tb x n = true then 0 else 1)
    by_cases c : tb x n = true
    · rw [if_pos c, if_pos (h n c)]
      omega
    · rw [if_neg c]
      split <;> omega
theorem unF_lt {x y : Int32} (h : ∀ i, tb x i = true → tb y i = true) {j : Nat} (hy : tb y j = true) (hx : ¬ tb x j = true) : ∀ n, j < n → unF y n < unF x n
  | n + 1, hj => by
    show unF y n + (if tb y n = true then 0 else 1) < unF x n + (if tb x n = true then 0 else 1)
    by_cases e : j = n
    · subst e
      have := unF_mono h j
      rw [if_pos hy, if_neg hx]
      omega
    · have ih := unF_lt h hy hx n (by omega)
      by_cases c : tb x n = true
      · rw [if_pos c, if_pos (h n c)]
        omega
      · rw [if_neg c]
        split <;> omega
theorem pass_lt {al : Nat → Int32} {x : Int32} {P : Nat} (hal : ∀ a i, tb (al a) i = true → i < P) (h : ¬ passF al P x = x) : unF (passF al P x) P < unF x P := by
  by_cases c : ∃ j, j < P ∧ tb (passF al P x) j = true ∧ ¬ tb x j = true
  · obtain ⟨j, h1, h2, h3⟩ := c
    exact unF_lt (fun i hi => pass_mono hi P) h2 h3 P h1
  · exfalso
    apply h
    apply tb_ext
    intro i _
    by_cases c1 : tb x i = true
    · rw [c1, pass_mono c1 P]
    · by_cases c2 : tb (passF al P x) i = true
      · rcases pass_new (fun a => hal a i) P c2 with h1 | h1
        · exact absurd h1 c1
        · exact absurd ⟨i, h1, c2, c1⟩ c
      · rw [Bool.not_eq_true] at c1 c2
        rw [c1, c2]
theorem gr_eq {al : Nat → Int32} {P : Nat} {x b : Int32} (h : x = b) : ∀ n, grF al P n x b = x
  | 0 => rfl
  | _ + 1 => if_pos h
theorem gr_fix {al : Nat → Int32} {P : Nat} {x b : Int32} (h : passF al P x = x) : ∀ n, grF al P n x b = x
  | 0 => rfl
  | n + 1 => by
    show (if x = b then x else grF al P n (passF al P x) x) = x
    by_cases c : x = b
    · rw [if_pos c]
    · rw [if_neg c, h]
      exact gr_eq rfl n
def gxF (v : Nat → Nat → Int32) (Q : Nat) (t : Int32) (y : Int32) (a r : Nat) : Int32 := if (y >>> (nI a &&& 31)) &&& 1 = 1 then y ||| alikeF v Q t a r else y
theorem gx_bit {v : Nat → Nat → Int32} {Q : Nat} {t y : Int32} {a r : Nat} (ha : a < 12) : (gxF v Q t y a r >>> (nI a &&& 31)) &&& 1 = 1 ↔ (y >>> (nI a &&& 31)) &&& 1 = 1 := by
  unfold gxF
  by_cases c : (y >>> (nI a &&& 31)) &&& 1 = 1
  · rw [if_pos c]
    refine ⟨fun _ => c, fun _ => ?_⟩
    rw [bAt_tb ha, tb_or, (bAt_tb ha).mp c]
    rfl
  · rw [if_neg c]
theorem i_orA (a b c : Int32) : a ||| b ||| c = a ||| (b ||| c) := Int32.or_assoc a b c
theorem gx_0 (v : Nat → Nat → Int32) (Q : Nat) (t y : Int32) (a : Nat) : gxF v Q t y a 0 = y := by
  unfold gxF
  split
  · show y ||| 0 = y
    exact i_or0 y
  · rfl

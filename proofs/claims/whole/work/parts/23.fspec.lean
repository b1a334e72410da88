theorem vM_eq {M I : MI} (h : M 22 = I 22) : vM M = vM I := by
  funext p q
  unfold vM
  rw [h]
theorem pow3_le {Q : Nat} (h : Q ≤ 6) : 3 ^ Q ≤ 729 := Nat.pow_le_pow_right (n := 3) (by decide) h
theorem hx_3 (q : Nat) : (3 : Int32) * nI q = nI (3 * q) := by
  rw [show (3 : Int32) = nI 3 from by decide, pk_mul]
theorem hx_x3 (q : Nat) : nI q * (3 : Int32) = nI (q * 3) := by
  rw [show (3 : Int32) = nI 3 from by decide, pk_mul]
theorem hx_rem3 {a : Nat} (h : a < 2 ^ 31) : nI a - nI a / 3 * 3 = nI (a % 3) := by
  rw [show (3 : Int32) = nI 3 from by decide]
  exact pk_rem h (by decide) (by decide)
theorem hx_div3 {w q : Nat} (h : w < 2 ^ 31) : nI (w / 3 ^ q) / 3 = nI (w / 3 ^ (q + 1)) := by
  rw [show (3 : Int32) = nI 3 from by decide, pk_div (Nat.lt_of_le_of_lt (Nat.div_le_self _ _) h) (by decide) (by decide), Nat.div_div_eq_div_mul, Nat.pow_succ]
theorem dgW_lt (w q : Nat) : dgW w q < 3 := Nat.mod_lt _ (by decide)
theorem fmB_start (I : MI) (P Q p : Nat) : hx_u (fmB I P Q p) 5 20 0 = msM (fmB I P Q p) (I 29, I 28, I 5 18, I 5 19, 0) := by
  have e : ∀ a, a ≠ 26 → a ≠ 27 → fmB I P Q p a = I a := fun a h1 h2 => f1R_ne h1 h2 Q
  have h := (congrArg (fun M => hx_u M 5 20 0) (msM_self (fmB I P Q p)).symm).trans (msM_h (fmB I P Q p) _ 0)
  rw [e 29 (by decide) (by decide), e 28 (by decide) (by decide), e 5 (by decide) (by decide)] at h
  exact h
theorem nI_z {a : Nat} (h : a < 2 ^ 31) : nI a = 0 ↔ a = 0 := nI_eq (b := 0) h (by decide)
theorem nI_o {a : Nat} (h : a < 2 ^ 31) : nI a = 1 ↔ a = 1 := nI_eq (b := 1) h (by decide)

/-! the reference's play, share and group, in plain words -/
def mtF (P Q p : Nat) (s : MI × Int32) : MI × Int32 := if s.1 21 p = 0 then s else if gainF (fmM s.1 P Q p 21) (vM (fmM s.1 P Q p)) (wM (fmM s.1 P Q p)) P Q p < fmM s.1 P Q p 5 18 then (hx_u (adM (fmM s.1 P Q p) p Q) 5 11 (fmM s.1 P Q p 5 11 + 1), 1) else (fmM s.1 P Q p, s.2)
def mrF (P Q : Nat) (I : MI) : Nat → MI × Int32
  | 0 => (I, 0)
  | p + 1 => mtF P Q p (mrF P Q I p)
theorem mtF_5 {P Q p j : Nat} {s : MI × Int32} (h1 : j ≠ 18) (h2 : j ≠ 19) (h3 : j ≠ 20) (h4 : j ≠ 11) : (mtF P Q p s).1 5 j = s.1 5 j := by
  unfold mtF
  split
  · rfl
  · split
    · show hx_u _ 5 11 _ 5 j = _
      rw [hx_u_same]
      unfold upd
      rw [if_neg h4, adM_ne (by decide), fmM_5 h1 h2 h3]
    · exact fmM_5 h1 h2 h3
theorem mrF_5 {P Q j : Nat} {I : MI} (h1 : j ≠ 18) (h2 : j ≠ 19) (h3 : j ≠ 20) (h4 : j ≠ 11) : ∀ p, (mrF P Q I p).1 5 j = I 5 j
  | 0 => rfl
  | p + 1 => by
    show (mtF P Q p (mrF P Q I p)).1 5 j = I 5 j
    rw [mtF_5 h1 h2 h3 h4, mrF_5 h1 h2 h3 h4 p]
def meF (s : MI × Int32) : MI := if s.2 = 0 then hx_u s.1 5 12 1 else s.1
/-- the ring's search, from the latest round back -/
def mkF (done : Nat) : Nat → MI → MI
  | 0, M => M
  | k + 1, M => if M 5 12 = 0 then (if asF M k 72 = 0 then mkF done k M else mkF done k (hx_u (hx_u M 5 12 2) 5 13 (nI done - nI k))) else M
def m1F (M : MI) : MI := hx_u M 5 10 (M 5 10 + 1)
def mpR (P Q d : Nat) (M : MI) : MI := kpM (mkF (d + 1) (d + 1) (meF (mrF P Q (m1F M) P))) (d + 1) 72
def mpF (P Q : Nat) : Nat → Nat → MI → Nat × MI
  | 0, d, M => (d, M)
  | f + 1, d, M => if M 5 12 = 0 then mpF P Q f (d + 1) (mpR P Q d M) else (d, M)
def mp0 (I : MI) : MI := kpM (hx_u (hx_u I 5 12 0) 5 13 0) 0 72
theorem mkF_5 {done j : Nat} (h1 : j ≠ 12) (h2 : j ≠ 13) : ∀ (k : Nat) (M : MI), mkF done k M 5 j = M 5 j
  | 0, _ => rfl
  | k + 1, M => by
    show (if M 5 12 = 0 then (if asF M k 72 = 0 then mkF done k M else mkF done k (hx_u (hx_u M 5 12 2) 5 13 (nI done - nI k))) else M) 5 j = M 5 j
    by_cases c : M 5 12 = 0
    · rw [if_pos c]
      by_cases c2 : asF M k 72 = 0
      · rw [if_pos c2, mkF_5 h1 h2 k]
      · rw [if_neg c2, mkF_5 h1 h2 k, hx_u_same]
        unfold upd
        rw [if_neg h2, hx_u_same]
        unfold upd
        rw [if_neg h1]
    · rw [if_neg c]
theorem meF_5 {j : Nat} (h : j ≠ 12) (s : MI × Int32) : meF s 5 j = s.1 5 j := by
  unfold meF
  split
  · rw [hx_u_same]
    unfold upd
    rw [if_neg h]
  · rfl
theorem m1F_5 {M : MI} {j : Nat} (h : j ≠ 10) : m1F M 5 j = M 5 j := by
  unfold m1F
  rw [hx_u_same]
  unfold upd
  rw [if_neg h]
theorem mpR_5 {P Q d j : Nat} {M : MI} (h : j < 10) : mpR P Q d M 5 j = M 5 j := by
  unfold mpR
  rw [kpM_ne (by decide), mkF_5 (by omega) (by omega), meF_5 (by omega), mrF_5 (by omega) (by omega) (by omega) (by omega), m1F_5 (by omega)]
/-- the shares' rows: parts, rests -/
def shJ (J : MJ) (p r : Nat → Int64) : MJ := fun a => if a = 31 then p else if a = 32 then r else J a
theorem shJ_p (J : MJ) (p r : Nat → Int64) (i : Nat) (v : Int64) : hx_uJ (shJ J p r) 31 i v = shJ J (vp_updL p i v) r := by
  funext a
  unfold hx_uJ
  by_cases h : a = 31
  · subst h; rfl
  · rw [if_neg h]
    unfold shJ
    rw [if_neg h, if_neg h]
theorem shJ_r (J : MJ) (p r : Nat → Int64) (i : Nat) (v : Int64) : hx_uJ (shJ J p r) 32 i v = shJ J p (vp_updL r i v) := by
  funext a
  unfold hx_uJ
  by_cases h : a = 32
  · subst h; rfl
  · rw [if_neg h]
    unfold shJ
    rw [if_neg h, if_neg h]
theorem shJ_self (J : MJ) : shJ J (J 31) (J 32) = J := by
  funext a
  unfold shJ
  by_cases h : a = 31
  · rw [if_pos h, h]
  · rw [if_neg h]
    by_cases h2 : a = 32
    · rw [if_pos h2, h2]
    · rw [if_neg h2]
def rwF (f m : Nat → Int64) : Nat → Nat → Int64
  | 0 => f
  | n + 1 => vp_updL (rwF f m n) n (m n)
theorem rwF_lo (f m : Nat → Int64) : ∀ n i, i < n → rwF f m n i = m i
  | n + 1, i, h => by
    show vp_updL (rwF f m n) n (m n) i = m i
    unfold vp_updL
    by_cases e : i = n
    · rw [if_pos e, e]
    · rw [if_neg e]
      exact rwF_lo f m n i (by omega)
theorem rwF_hi (f m : Nat → Int64) : ∀ n i, n ≤ i → rwF f m n i = f i
  | 0, _, _ => rfl
  | n + 1, i, h => by
    show vp_updL (rwF f m n) n (m n) i = f i
    unfold vp_updL
    rw [if_neg (by omega)]
    exact rwF_hi f m n i (by omega)
/-- the place of the greatest, the first of like ones, among 0 .. n -/
def bxF (r : Nat → Int64) : Nat → Nat
  | 0 => 0
  | n + 1 => if r (bxF r n) < r (n + 1) then n + 1 else bxF r n
theorem bxF_le (r : Nat → Int64) : ∀ n, bxF r n ≤ n
  | 0 => Nat.le_refl _
  | n + 1 => by
    have := bxF_le r n
    show (if r (bxF r n) < r (n + 1) then n + 1 else bxF r n) ≤ n + 1
    split <;> omega
def shN (R : Nat) : Nat → (Nat → Int64) × (Nat → Int64) → (Nat → Int64) × (Nat → Int64)
  | 0, s => s
  | n + 1, s => shN R n (vp_updL s.1 (bxF s.2 (R - 1)) (s.1 (bxF s.2 (R - 1)) + 1), vp_updL s.2 (bxF s.2 (R - 1)) (-1))
def lkN (x : Int64) : Nat := if 0 < x then x.toInt.toNat else 0
def mshP (m : Nat → Int64) (pot all : Int64) (i : Nat) : Int64 := pot * m i / all
def mshQ (m : Nat → Int64) (pot all : Int64) (i : Nat) : Int64 := remF (pot * m i) all
def mshS (J : MJ) (m : Nat → Int64) (R : Nat) (pot : Int64) : (Nat → Int64) × (Nat → Int64) := shN R (lkN (lackF m (sJ m R) pot R)) (rwF (rwF (J 31) m R) (mshP m pot (sJ m R)) R, rwF (J 32) (mshQ m pot (sJ m R)) R)
def mshR (J : MJ) (m : Nat → Int64) (R j : Nat) (pot : Int64) : Int64 := if sJ m R = 0 then 0 else (mshS J m R pot).1 j
noncomputable def mshJ (J : MJ) (m : Nat → Int64) (R : Nat) (pot : Int64) : MJ := hx_if (sJ m R = 0) (shJ J (rwF (J 31) m R) (J 32)) (shJ J (mshS J m R pot).1 (mshS J m R pot).2)

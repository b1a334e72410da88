/-! what the methods say, in plain words: sums and choices over functions of person and question -/
def sI (f : Nat → Int32) : Nat → Int32
  | 0 => 0
  | n + 1 => sI f n + f n
def sJ (f : Nat → Int64) : Nat → Int64
  | 0 => 0
  | n + 1 => sJ f n + f n
def sO (f : Nat → Int32) : Nat → Int32
  | 0 => 0
  | n + 1 => sO f n ||| f n
theorem sI_congr {f g : Nat → Int32} : ∀ n : Nat, (∀ k, k < n → f k = g k) → sI f n = sI g n
  | 0, _ => rfl
  | n + 1, h => by
    show sI f n + f n = sI g n + g n
    rw [sI_congr n (fun k hk => h k (by omega)), h n (by omega)]
theorem sJ_congr {f g : Nat → Int64} : ∀ n : Nat, (∀ k, k < n → f k = g k) → sJ f n = sJ g n
  | 0, _ => rfl
  | n + 1, h => by
    show sJ f n + f n = sJ g n + g n
    rw [sJ_congr n (fun k hk => h k (by omega)), h n (by omega)]
theorem sO_congr {f g : Nat → Int32} : ∀ n : Nat, (∀ k, k < n → f k = g k) → sO f n = sO g n
  | 0, _ => rfl
  | n + 1, h => by
    show sO f n ||| f n = sO g n ||| g n
    rw [sO_congr n (fun k hk => h k (by omega)), h n (by omega)]
theorem i_add0 (x : Int32) : x + 0 = x := Int32.add_zero x
theorem i_or0 (x : Int32) : x ||| 0 = x := Int32.or_zero
/-- the class's rows: voices, worths, gifts, bonds; here; budgets -/
def vC (I : MI) (p q : Nat) : Int32 := I (33 + p) q
def wC (I : MI) (p q : Nat) : Int32 := I (45 + p) q
def gC (I : MI) (p j : Nat) : Int32 := I (100 + p) j
def bC (I : MI) (p r : Nat) : Int32 := I (112 + p) r
/-- the reference's -/
def vM (I : MI) (p q : Nat) : Int32 := I 22 (6 * p + q)
def wM (I : MI) (p q : Nat) : Int32 := I 23 (6 * p + q)
def gM (I : MI) (p j : Nat) : Int32 := I 24 (6 * p + j)
def bM (I : MI) (p r : Nat) : Int32 := I 25 (12 * p + r)
/-- is a number one of 0 .. n - 1 -/
def inF (x n : Int32) : Int32 := if 0 ≤ x ∧ x < n then 1 else 0
def withinF (x a b : Int32) : Int32 := if a ≤ x ∧ x ≤ b then 1 else 0
def costF (v : Nat → Nat → Int32) (Q p : Nat) : Int32 := sI (fun q => v p q * v p q) Q
def presF (h : Nat → Int32) (P : Nat) : Int32 := sI (fun p => if h p = 0 then 0 else 1) P
def countF (h : Nat → Int32) (v : Nat → Nat → Int32) (P q : Nat) : Int32 := sI (fun p => if h p = 0 then 0 else v p q) P
def lessF (h : Nat → Int32) (v : Nat → Nat → Int32) (P p q : Nat) : Int32 := if h p = 0 then countF h v P q else countF h v P q - v p q
def lotF (seed : Int32) : Nat → Int32
  | 0 => seed
  | n + 1 => lotF seed n * 1664525 + 1013904223
def bitC (x : Int32) : Int32 := (x.toUInt32 >>> ((20 : Int32).toUInt32 &&& Int32.toUInt32 31)).toInt32 &&& 1
def resF (seed : Int32) (q : Nat) (c : Int32) : Int32 := if c = 0 then (if bitC (lotF seed (q + 1)) = 1 then 1 else (-1)) else if 0 < c then 1 else (-1)
def gByF (c w : Int32) : Int32 := if 0 ≤ c then (if c = 0 then w else 2 * w) else 0
def gainF (h : Nat → Int32) (v w : Nat → Nat → Int32) (P Q p : Nat) : Int32 := sI (fun q => gByF (countF h v P q) (w p q)) Q
def swF (seed : Int32) (h : Nat → Int32) (v : Nat → Nat → Int32) (P Q p : Nat) : Int32 := sO (fun q => if resF seed q (lessF h v P p q) = resF seed q (lessF h v P p q + v p q) then 0 else 1 <<< (nI q &&& 31)) Q
theorem hx_ri {r r' : Int32} {I : MI} {J : MJ} (h : r = r') : hx_is (some (.int r')) I J (some (.int r)) I J := ⟨by rw [h], rfl, rfl⟩
theorem hx_rl {r r' : Int64} {I : MI} {J : MJ} (h : r = r') : hx_is (some (.long r')) I J (some (.long r)) I J := ⟨by rw [h], rfl, rfl⟩
def dotF (v : Nat → Nat → Int32) (Q p r : Nat) : Int64 := sJ (fun q => (v p q * v r q).toInt64) Q
def likeF (v : Nat → Nat → Int32) (Q p r : Nat) : Int32 := if (costF v Q p).toInt64 * (costF v Q r).toInt64 = 0 then (-2000) else if 0 ≤ dotF v Q p r then (dotF v Q p r * dotF v Q p r * 1000 / ((costF v Q p).toInt64 * (costF v Q r).toInt64)).toInt32 else -(dotF v Q p r * dotF v Q p r * 1000 / ((costF v Q p).toInt64 * (costF v Q r).toInt64)).toInt32
def alikeF (v : Nat → Nat → Int32) (Q : Nat) (t : Int32) (p n : Nat) : Int32 := sO (fun r => if likeF v Q p r < t then 0 else 1 <<< (nI r &&& 31)) n
/-- a pass over all people: who is reached reaches all that are alike -/
def passF (al : Nat → Int32) : Nat → Int32 → Int32
  | 0, x => x
  | n + 1, x => if (passF al n x >>> (nI n &&& 31)) &&& 1 = 1 then passF al n x ||| al n else passF al n x
def grF (al : Nat → Int32) (P : Nat) : Nat → Int32 → Int32 → Int32
  | 0, x, _ => x
  | n + 1, x, b => if x = b then x else grF al P n (passF al P x) x
def codeF (v : Nat → Nat → Int32) (p : Nat) : Nat → Int64
  | 0 => 0
  | n + 1 => codeF v p n * 81 + (v p n).toInt64 + 40
/-- 31 times, and it -/
def chF (f : Nat → Int32) : Nat → Int64 → Int64
  | 0, h => h
  | n + 1, h => 31 * chF f n h + (f n).toInt64
def onF (x : Int32) : Int32 := if x = 0 then 0 else 1
def dgHF (b : Int32) (h : Int32) (v w : Nat → Int32) (Q : Nat) (z : Int64) : Int64 := chF w Q (chF v Q (31 * (31 * z + b.toInt64) + (onF h).toInt64))
def alF (v : Nat → Nat → Int32) (Q P : Nat) (t : Int32) (a : Nat) : Int32 := alikeF v Q t a P
/-- roots, bit by bit -/
def bitL (k : Nat) : Int64 := lN (2 ^ k / 2)
def rtF (x : Int64) : Nat → Int64 → Int64
  | 0, r => r
  | k + 1, r => rtF x k (if x < (r + bitL (k + 1)) * (r + bitL (k + 1)) then r else r + bitL (k + 1))
def rootF (x : Int64) : Int64 := rtF x 29 0
def rootAF (x : Int64) : Int64 := if rootF x * rootF x = x then rootF x else rootF x + 1
theorem bitL_shr : ∀ k, k < 29 → bitL (k + 1) >>> ((1 : Int32).toInt64 &&& 63) = bitL k := by decide +kernel
theorem bitL_pos : ∀ k, k < 29 → ¬ bitL (k + 1) ≤ 0 := by decide +kernel
def fineF (g : Nat → Nat → Int32) (p r j : Nat) : Int64 := 65536 * (g p j).toInt64 * (g r j).toInt64
def accF (f : Nat → Int64) : Nat → Int64 → Int64
  | 0, z => z
  | n + 1, z => accF f n z + f n
def triF (f : Nat → Nat → Int64) : Nat → Int64
  | 0 => 0
  | P + 1 => accF (f P) P (triF f P)
def lowF (g b : Nat → Nat → Int32) (j p r : Nat) : Int64 := (b p r).toInt64 * rootF (fineF g p r j)
def wholeF (g : Nat → Nat → Int32) (j p r : Nat) : Int64 := 1000 * rootF (fineF g p r j)
def highF (g b : Nat → Nat → Int32) (j p r : Nat) : Int64 := (b p r).toInt64 * rootAF (fineF g p r j)
def mLowF (g b : Nat → Nat → Int32) (P j : Nat) : Int64 := 2 * triF (lowF g b j) P / 256000
def mWholeF (g : Nat → Nat → Int32) (P j : Nat) : Int64 := 2 * triF (wholeF g j) P / 256000
def mHighF (g b : Nat → Nat → Int32) (P j : Nat) : Int64 := (2 * triF (highF g b j) P + 256000 - 1) / 256000
/-- the row of cell k filled with m -/
def lwJ (J : MJ) (k : Nat) (m : Nat → Int64) : Nat → MJ
  | 0 => J
  | n + 1 => hx_uJ (lwJ J k m n) k n (m n)
theorem lwJ_at (J : MJ) (k : Nat) (m : Nat → Int64) : ∀ n i, i < n → lwJ J k m n k i = m i
  | n + 1, i, h => by
    show hx_uJ (lwJ J k m n) k n (m n) k i = m i
    rw [hx_uJ_same]
    unfold vp_updL
    by_cases e : i = n
    · rw [if_pos e, e]
    · rw [if_neg e]
      exact lwJ_at J k m n i (by omega)
theorem lwJ_ne (J : MJ) {k a : Nat} (m : Nat → Int64) (h : a ≠ k) : ∀ n, lwJ J k m n a = J a
  | 0 => rfl
  | n + 1 => by
    show hx_uJ (lwJ J k m n) k n (m n) a = J a
    rw [hx_uJ_ne _ _ _ h]
    exact lwJ_ne J m h n
def remF (x y : Int64) : Int64 := x - x / y * y
def lackF (m : Nat → Int64) (s pot : Int64) : Nat → Int64
  | 0 => pot
  | n + 1 => lackF m s pot n - pot * m n / s
def servF (m : Nat → Int64) (s pot : Int64) (j n : Nat) : Int32 := sI (fun i => if remF (pot * m j) s < remF (pot * m i) s ∨ (remF (pot * m i) s = remF (pot * m j) s ∧ i < j) then 1 else 0) n
def shareF (m : Nat → Int64) (R j : Nat) (pot : Int64) : Int64 := if 0 < sJ m R then (if (servF m (sJ m R) pot j R).toInt64 < lackF m (sJ m R) pot R then pot * m j / sJ m R + 1 else pot * m j / sJ m R) else 0
def dgFF (g b : Nat → Int32) (R p : Nat) (z : Int64) : Int64 := chF b p (chF g R z)
